set_option maxRecDepth 100000 in
theorem k523 : (Cond.methodLink "PageSkeletonLaw" (204 : Nat) ({ cls := "PageSkeleton", name := "shortest", desc := "()I" } : MethodName)) ∈ wsG := wsG_a3 43 rfl rfl
set_option maxRecDepth 100000 in
theorem k524 : (Cond.instanceMethod ({ cls := "PageSkeleton", name := "shortest", desc := "()I" } : MethodName)) ∈ wsG := wsG_a3 44 rfl rfl
set_option maxRecDepth 100000 in
theorem k525 : (Cond.selects "PageSkeleton" ({ cls := "PageSkeleton", name := "shortest", desc := "()I" } : MethodName) ({ cls := "PageSkeleton", name := "shortest", desc := "()I" } : MethodName)) ∈ wsG := wsG_a3 45 rfl rfl
set_option maxRecDepth 100000 in
theorem k526 : (Cond.code ({ cls := "PageSkeleton", name := "shortest", desc := "()I" } : MethodName) prog_1_method_28_code (1 : Nat) (Option.some FieldType.int)) ∈ wsG := wsG_a3 46 rfl rfl
set_option maxRecDepth 100000 in
theorem k994 : (Cond.methodLink "PageSkeletonLaw" (186 : Nat) ({ cls := "PageSkeletonLaw", name := "taker", desc := "(LPageSkeleton;II[J)I" } : MethodName)) ∈ wsG := wsG_a5 34 rfl rfl
set_option maxRecDepth 100000 in
theorem k995 : (Cond.static ({ cls := "PageSkeletonLaw", name := "taker", desc := "(LPageSkeleton;II[J)I" } : MethodName)) ∈ wsG := wsG_a5 35 rfl rfl
set_option maxRecDepth 100000 in
theorem k996 : (Cond.codeWith ({ cls := "PageSkeletonLaw", name := "taker", desc := "(LPageSkeleton;II[J)I" } : MethodName) method_18_code (5 : Nat) (Option.some FieldType.int) [((0 : Nat), (10 : Nat), (13 : Nat), (20 : Nat))]) ∈ wsG := wsG_a5 36 rfl rfl
set_option maxRecDepth 100000 in
theorem k1001 : (Cond.methodLink "PageSkeletonLaw" (189 : Nat) ({ cls := "PageSkeletonLaw", name := "unlike", desc := "(LPageSkeleton;I[J)I" } : MethodName)) ∈ wsG := wsG_a5 41 rfl rfl
set_option maxRecDepth 100000 in
theorem k1002 : (Cond.static ({ cls := "PageSkeletonLaw", name := "unlike", desc := "(LPageSkeleton;I[J)I" } : MethodName)) ∈ wsG := wsG_a5 42 rfl rfl
set_option maxRecDepth 100000 in
theorem k1003 : (Cond.codeWith ({ cls := "PageSkeletonLaw", name := "unlike", desc := "(LPageSkeleton;I[J)I" } : MethodName) method_19_code (4 : Nat) (Option.some FieldType.int) [((0 : Nat), (9 : Nat), (12 : Nat), (20 : Nat))]) ∈ wsG := wsG_a5 43 rfl rfl
set_option maxRecDepth 100000 in
theorem k1012 : (Cond.methodLink "PageSkeletonLaw" (192 : Nat) ({ cls := "PageSkeletonLaw", name := "would", desc := "(LPageSkeleton;II[J)I" } : MethodName)) ∈ wsG := wsG_a5 52 rfl rfl
set_option maxRecDepth 100000 in
theorem k1013 : (Cond.static ({ cls := "PageSkeletonLaw", name := "would", desc := "(LPageSkeleton;II[J)I" } : MethodName)) ∈ wsG := wsG_a5 53 rfl rfl
set_option maxRecDepth 100000 in
theorem k1014 : (Cond.codeWith ({ cls := "PageSkeletonLaw", name := "would", desc := "(LPageSkeleton;II[J)I" } : MethodName) method_20_code (5 : Nat) (Option.some FieldType.int) [((0 : Nat), (10 : Nat), (13 : Nat), (20 : Nat)), ((0 : Nat), (10 : Nat), (17 : Nat), (13 : Nat))]) ∈ wsG := wsG_a5 54 rfl rfl
set_option maxRecDepth 100000 in
theorem k1019 : (Cond.methodLink "PageSkeletonLaw" (195 : Nat) ({ cls := "PageSkeletonLaw", name := "distance", desc := "(LPageSkeleton;II[J)I" } : MethodName)) ∈ wsG := wsG_a5 59 rfl rfl
set_option maxRecDepth 100000 in
theorem k1020 : (Cond.static ({ cls := "PageSkeletonLaw", name := "distance", desc := "(LPageSkeleton;II[J)I" } : MethodName)) ∈ wsG := wsG_a5 60 rfl rfl
set_option maxRecDepth 100000 in
theorem k1021 : (Cond.codeWith ({ cls := "PageSkeletonLaw", name := "distance", desc := "(LPageSkeleton;II[J)I" } : MethodName) method_21_code (5 : Nat) (Option.some FieldType.int) [((0 : Nat), (10 : Nat), (13 : Nat), (20 : Nat))]) ∈ wsG := wsG_a5 61 rfl rfl
set_option maxRecDepth 100000 in
theorem k1030 : (Cond.methodLink "PageSkeletonLaw" (198 : Nat) ({ cls := "PageSkeletonLaw", name := "nearest", desc := "(LPageSkeleton;I[J)I" } : MethodName)) ∈ wsG := wsG_a5 70 rfl rfl
set_option maxRecDepth 100000 in
theorem k1031 : (Cond.static ({ cls := "PageSkeletonLaw", name := "nearest", desc := "(LPageSkeleton;I[J)I" } : MethodName)) ∈ wsG := wsG_a5 71 rfl rfl
set_option maxRecDepth 100000 in
theorem k1032 : (Cond.codeWith ({ cls := "PageSkeletonLaw", name := "nearest", desc := "(LPageSkeleton;I[J)I" } : MethodName) method_22_code (4 : Nat) (Option.some FieldType.int) [((0 : Nat), (9 : Nat), (12 : Nat), (20 : Nat))]) ∈ wsG := wsG_a5 72 rfl rfl
set_option maxRecDepth 100000 in
theorem k1038 : (Cond.methodLink "PageSkeletonLaw" (201 : Nat) ({ cls := "PageSkeletonLaw", name := "orders", desc := "(LPageSkeleton;I[J)I" } : MethodName)) ∈ wsG := wsG_a5 78 rfl rfl
set_option maxRecDepth 100000 in
theorem k1039 : (Cond.static ({ cls := "PageSkeletonLaw", name := "orders", desc := "(LPageSkeleton;I[J)I" } : MethodName)) ∈ wsG := wsG_a5 79 rfl rfl
set_option maxRecDepth 100000 in
theorem k1040 : (Cond.codeWith ({ cls := "PageSkeletonLaw", name := "orders", desc := "(LPageSkeleton;I[J)I" } : MethodName) method_23_code (4 : Nat) (Option.some FieldType.int) [((0 : Nat), (9 : Nat), (12 : Nat), (13 : Nat)), ((0 : Nat), (9 : Nat), (15 : Nat), (15 : Nat))]) ∈ wsG := wsG_a5 80 rfl rfl
set_option maxRecDepth 100000 in
theorem k1085 : (Cond.methodLink "PageSkeletonLaw" (208 : Nat) ({ cls := "PageSkeletonLaw", name := "firm", desc := "(LPageSkeleton;I[J)I" } : MethodName)) ∈ wsG := wsG_a5 125 rfl rfl
set_option maxRecDepth 100000 in
theorem k1086 : (Cond.static ({ cls := "PageSkeletonLaw", name := "firm", desc := "(LPageSkeleton;I[J)I" } : MethodName)) ∈ wsG := wsG_a5 126 rfl rfl
set_option maxRecDepth 100000 in
theorem k1087 : (Cond.codeWith ({ cls := "PageSkeletonLaw", name := "firm", desc := "(LPageSkeleton;I[J)I" } : MethodName) method_24_code (4 : Nat) (Option.some FieldType.int) [((0 : Nat), (9 : Nat), (12 : Nat), (13 : Nat))]) ∈ wsG := wsG_a5 127 rfl rfl
set_option maxRecDepth 100000 in
theorem k1092 : (Cond.methodLink "PageSkeletonLaw" (211 : Nat) ({ cls := "PageSkeletonLaw", name := "alike", desc := "(LPageSkeleton;II[J)I" } : MethodName)) ∈ wsG := wsG_a5 132 rfl rfl
set_option maxRecDepth 100000 in
theorem k1093 : (Cond.static ({ cls := "PageSkeletonLaw", name := "alike", desc := "(LPageSkeleton;II[J)I" } : MethodName)) ∈ wsG := wsG_a5 133 rfl rfl
set_option maxRecDepth 100000 in
theorem k1094 : (Cond.codeWith ({ cls := "PageSkeletonLaw", name := "alike", desc := "(LPageSkeleton;II[J)I" } : MethodName) method_25_code (5 : Nat) (Option.some FieldType.int) [((0 : Nat), (17 : Nat), (20 : Nat), (20 : Nat))]) ∈ wsG := wsG_a5 134 rfl rfl
set_option maxRecDepth 100000 in
theorem k1679 : (Cond.methodLink "PageSkeletonLaw" (188 : Nat) ({ cls := "PageSkeletonModel", name := "taker", desc := "(II)I" } : MethodName)) ∈ wsG := wsG_a7 239 rfl rfl
set_option maxRecDepth 100000 in
theorem k1680 : (Cond.instanceMethod ({ cls := "PageSkeletonModel", name := "taker", desc := "(II)I" } : MethodName)) ∈ wsG := wsG_a8 0 rfl rfl
set_option maxRecDepth 100000 in
theorem k1681 : (Cond.selects "PageSkeletonModel" ({ cls := "PageSkeletonModel", name := "taker", desc := "(II)I" } : MethodName) ({ cls := "PageSkeletonModel", name := "taker", desc := "(II)I" } : MethodName)) ∈ wsG := wsG_a8 1 rfl rfl
set_option maxRecDepth 100000 in
theorem k1682 : (Cond.code ({ cls := "PageSkeletonModel", name := "taker", desc := "(II)I" } : MethodName) prog_12_method_91_code (4 : Nat) (Option.some FieldType.int)) ∈ wsG := wsG_a8 2 rfl rfl
set_option maxRecDepth 100000 in
theorem k1683 : (Cond.methodLink "PageSkeletonLaw" (191 : Nat) ({ cls := "PageSkeletonModel", name := "unlike", desc := "(I)I" } : MethodName)) ∈ wsG := wsG_a8 3 rfl rfl
set_option maxRecDepth 100000 in
theorem k1684 : (Cond.instanceMethod ({ cls := "PageSkeletonModel", name := "unlike", desc := "(I)I" } : MethodName)) ∈ wsG := wsG_a8 4 rfl rfl
set_option maxRecDepth 100000 in
theorem k1685 : (Cond.selects "PageSkeletonModel" ({ cls := "PageSkeletonModel", name := "unlike", desc := "(I)I" } : MethodName) ({ cls := "PageSkeletonModel", name := "unlike", desc := "(I)I" } : MethodName)) ∈ wsG := wsG_a8 5 rfl rfl
set_option maxRecDepth 100000 in
theorem k1686 : (Cond.code ({ cls := "PageSkeletonModel", name := "unlike", desc := "(I)I" } : MethodName) prog_12_method_92_code (4 : Nat) (Option.some FieldType.int)) ∈ wsG := wsG_a8 6 rfl rfl
set_option maxRecDepth 100000 in
theorem k1695 : (Cond.methodLink "PageSkeletonLaw" (194 : Nat) ({ cls := "PageSkeletonModel", name := "would", desc := "(II)I" } : MethodName)) ∈ wsG := wsG_a8 15 rfl rfl
set_option maxRecDepth 100000 in
theorem k1696 : (Cond.instanceMethod ({ cls := "PageSkeletonModel", name := "would", desc := "(II)I" } : MethodName)) ∈ wsG := wsG_a8 16 rfl rfl
set_option maxRecDepth 100000 in
theorem k1697 : (Cond.selects "PageSkeletonModel" ({ cls := "PageSkeletonModel", name := "would", desc := "(II)I" } : MethodName) ({ cls := "PageSkeletonModel", name := "would", desc := "(II)I" } : MethodName)) ∈ wsG := wsG_a8 17 rfl rfl
set_option maxRecDepth 100000 in
theorem k1698 : (Cond.code ({ cls := "PageSkeletonModel", name := "would", desc := "(II)I" } : MethodName) prog_12_method_95_code (4 : Nat) (Option.some FieldType.int)) ∈ wsG := wsG_a8 18 rfl rfl
set_option maxRecDepth 100000 in
theorem k1699 : (Cond.methodLink "PageSkeletonLaw" (197 : Nat) ({ cls := "PageSkeletonModel", name := "distance", desc := "(II)I" } : MethodName)) ∈ wsG := wsG_a8 19 rfl rfl
set_option maxRecDepth 100000 in
theorem k1700 : (Cond.instanceMethod ({ cls := "PageSkeletonModel", name := "distance", desc := "(II)I" } : MethodName)) ∈ wsG := wsG_a8 20 rfl rfl
set_option maxRecDepth 100000 in
theorem k1701 : (Cond.selects "PageSkeletonModel" ({ cls := "PageSkeletonModel", name := "distance", desc := "(II)I" } : MethodName) ({ cls := "PageSkeletonModel", name := "distance", desc := "(II)I" } : MethodName)) ∈ wsG := wsG_a8 21 rfl rfl
set_option maxRecDepth 100000 in
theorem k1702 : (Cond.code ({ cls := "PageSkeletonModel", name := "distance", desc := "(II)I" } : MethodName) prog_12_method_97_code (3 : Nat) (Option.some FieldType.int)) ∈ wsG := wsG_a8 22 rfl rfl
set_option maxRecDepth 100000 in
theorem k1707 : (Cond.methodLink "PageSkeletonLaw" (200 : Nat) ({ cls := "PageSkeletonModel", name := "nearest", desc := "(I)I" } : MethodName)) ∈ wsG := wsG_a8 27 rfl rfl
set_option maxRecDepth 100000 in
theorem k1708 : (Cond.instanceMethod ({ cls := "PageSkeletonModel", name := "nearest", desc := "(I)I" } : MethodName)) ∈ wsG := wsG_a8 28 rfl rfl
set_option maxRecDepth 100000 in
theorem k1709 : (Cond.selects "PageSkeletonModel" ({ cls := "PageSkeletonModel", name := "nearest", desc := "(I)I" } : MethodName) ({ cls := "PageSkeletonModel", name := "nearest", desc := "(I)I" } : MethodName)) ∈ wsG := wsG_a8 29 rfl rfl
set_option maxRecDepth 100000 in
theorem k1710 : (Cond.code ({ cls := "PageSkeletonModel", name := "nearest", desc := "(I)I" } : MethodName) prog_12_method_98_code (6 : Nat) (Option.some FieldType.int)) ∈ wsG := wsG_a8 30 rfl rfl
set_option maxRecDepth 100000 in
theorem k1711 : (Cond.methodLink "PageSkeletonLaw" (203 : Nat) ({ cls := "PageSkeletonModel", name := "orders", desc := "(I)I" } : MethodName)) ∈ wsG := wsG_a8 31 rfl rfl
set_option maxRecDepth 100000 in
theorem k1712 : (Cond.instanceMethod ({ cls := "PageSkeletonModel", name := "orders", desc := "(I)I" } : MethodName)) ∈ wsG := wsG_a8 32 rfl rfl
set_option maxRecDepth 100000 in
theorem k1713 : (Cond.selects "PageSkeletonModel" ({ cls := "PageSkeletonModel", name := "orders", desc := "(I)I" } : MethodName) ({ cls := "PageSkeletonModel", name := "orders", desc := "(I)I" } : MethodName)) ∈ wsG := wsG_a8 33 rfl rfl
set_option maxRecDepth 100000 in
theorem k1714 : (Cond.code ({ cls := "PageSkeletonModel", name := "orders", desc := "(I)I" } : MethodName) prog_12_method_102_code (9 : Nat) (Option.some FieldType.int)) ∈ wsG := wsG_a8 34 rfl rfl
set_option maxRecDepth 100000 in
theorem k1727 : (Cond.methodLink "PageSkeletonLaw" (207 : Nat) ({ cls := "PageSkeletonModel", name := "shortest", desc := "()I" } : MethodName)) ∈ wsG := wsG_a8 47 rfl rfl
set_option maxRecDepth 100000 in
theorem k1728 : (Cond.instanceMethod ({ cls := "PageSkeletonModel", name := "shortest", desc := "()I" } : MethodName)) ∈ wsG := wsG_a8 48 rfl rfl
set_option maxRecDepth 100000 in
theorem k1729 : (Cond.selects "PageSkeletonModel" ({ cls := "PageSkeletonModel", name := "shortest", desc := "()I" } : MethodName) ({ cls := "PageSkeletonModel", name := "shortest", desc := "()I" } : MethodName)) ∈ wsG := wsG_a8 49 rfl rfl
set_option maxRecDepth 100000 in
theorem k1730 : (Cond.code ({ cls := "PageSkeletonModel", name := "shortest", desc := "()I" } : MethodName) prog_12_method_103_code (3 : Nat) (Option.some FieldType.int)) ∈ wsG := wsG_a8 50 rfl rfl
set_option maxRecDepth 100000 in
theorem k1731 : (Cond.methodLink "PageSkeletonLaw" (210 : Nat) ({ cls := "PageSkeletonModel", name := "firm", desc := "(I)I" } : MethodName)) ∈ wsG := wsG_a8 51 rfl rfl
set_option maxRecDepth 100000 in
theorem k1732 : (Cond.instanceMethod ({ cls := "PageSkeletonModel", name := "firm", desc := "(I)I" } : MethodName)) ∈ wsG := wsG_a8 52 rfl rfl
set_option maxRecDepth 100000 in
theorem k1733 : (Cond.selects "PageSkeletonModel" ({ cls := "PageSkeletonModel", name := "firm", desc := "(I)I" } : MethodName) ({ cls := "PageSkeletonModel", name := "firm", desc := "(I)I" } : MethodName)) ∈ wsG := wsG_a8 53 rfl rfl
set_option maxRecDepth 100000 in
theorem k1734 : (Cond.code ({ cls := "PageSkeletonModel", name := "firm", desc := "(I)I" } : MethodName) prog_12_method_104_code (6 : Nat) (Option.some FieldType.int)) ∈ wsG := wsG_a8 54 rfl rfl
set_option maxRecDepth 100000 in
theorem k1735 : (Cond.methodLink "PageSkeletonLaw" (213 : Nat) ({ cls := "PageSkeletonModel", name := "alike", desc := "(II)Z" } : MethodName)) ∈ wsG := wsG_a8 55 rfl rfl
set_option maxRecDepth 100000 in
theorem k1736 : (Cond.instanceMethod ({ cls := "PageSkeletonModel", name := "alike", desc := "(II)Z" } : MethodName)) ∈ wsG := wsG_a8 56 rfl rfl
set_option maxRecDepth 100000 in
theorem k1737 : (Cond.selects "PageSkeletonModel" ({ cls := "PageSkeletonModel", name := "alike", desc := "(II)Z" } : MethodName) ({ cls := "PageSkeletonModel", name := "alike", desc := "(II)Z" } : MethodName)) ∈ wsG := wsG_a8 57 rfl rfl
set_option maxRecDepth 100000 in
theorem k1738 : (Cond.code ({ cls := "PageSkeletonModel", name := "alike", desc := "(II)Z" } : MethodName) prog_12_method_105_code (3 : Nat) (Option.some FieldType.boolean)) ∈ wsG := wsG_a8 58 rfl rfl
theorem dL_law_873 : decode cL_law 873 = .ok (.aload_n 1, 1) := by decide +kernel
theorem dL_law_874 : decode cL_law 874 = .ok (.aload_n 0, 1) := by decide +kernel
theorem dL_law_875 : decode cL_law 875 = .ok (.iload 4, 2) := by decide +kernel
theorem dL_law_877 : decode cL_law 877 = .ok (.iconst 1, 1) := by decide +kernel
theorem dL_law_878 : decode cL_law 878 = .ok (.iadd, 1) := by decide +kernel
theorem dL_law_879 : decode cL_law 879 = .ok (.iaload, 1) := by decide +kernel
theorem dL_law_880 : decode cL_law 880 = .ok (.aload_n 0, 1) := by decide +kernel
theorem dL_law_881 : decode cL_law 881 = .ok (.iload 4, 2) := by decide +kernel
theorem dL_law_883 : decode cL_law 883 = .ok (.iconst 2, 1) := by decide +kernel
theorem dL_law_884 : decode cL_law 884 = .ok (.iadd, 1) := by decide +kernel
theorem dL_law_885 : decode cL_law 885 = .ok (.iaload, 1) := by decide +kernel
theorem dL_law_886 : decode cL_law 886 = .ok (.aload_n 3, 1) := by decide +kernel
theorem dL_law_887 : decode cL_law 887 = .ok (.invokestatic 186, 3) := by decide +kernel
theorem dL_law_890 : decode cL_law 890 = .ok (.istore 5, 2) := by decide +kernel
theorem dL_law_892 : decode cL_law 892 = .ok (.aload_n 2, 1) := by decide +kernel
theorem dL_law_893 : decode cL_law 893 = .ok (.aload_n 0, 1) := by decide +kernel
theorem dL_law_894 : decode cL_law 894 = .ok (.iload 4, 2) := by decide +kernel
theorem dL_law_896 : decode cL_law 896 = .ok (.iconst 1, 1) := by decide +kernel
theorem dL_law_897 : decode cL_law 897 = .ok (.iadd, 1) := by decide +kernel
theorem dL_law_898 : decode cL_law 898 = .ok (.iaload, 1) := by decide +kernel
theorem dL_law_899 : decode cL_law 899 = .ok (.aload_n 0, 1) := by decide +kernel
theorem dL_law_900 : decode cL_law 900 = .ok (.iload 4, 2) := by decide +kernel
theorem dL_law_902 : decode cL_law 902 = .ok (.iconst 2, 1) := by decide +kernel
theorem dL_law_903 : decode cL_law 903 = .ok (.iadd, 1) := by decide +kernel
theorem dL_law_904 : decode cL_law 904 = .ok (.iaload, 1) := by decide +kernel
theorem dL_law_905 : decode cL_law 905 = .ok (.invokevirtual 188, 3) := by decide +kernel
theorem dL_law_908 : decode cL_law 908 = .ok (.istore 6, 2) := by decide +kernel
theorem dL_law_910 : decode cL_law 910 = .ok (.goto 558, 3) := by decide +kernel
theorem dL_law_913 : decode cL_law 913 = .ok (.aload_n 1, 1) := by decide +kernel
theorem dL_law_914 : decode cL_law 914 = .ok (.aload_n 0, 1) := by decide +kernel
theorem dL_law_915 : decode cL_law 915 = .ok (.iload 4, 2) := by decide +kernel
theorem dL_law_917 : decode cL_law 917 = .ok (.iconst 1, 1) := by decide +kernel
theorem dL_law_918 : decode cL_law 918 = .ok (.iadd, 1) := by decide +kernel
theorem dL_law_919 : decode cL_law 919 = .ok (.iaload, 1) := by decide +kernel
theorem dL_law_920 : decode cL_law 920 = .ok (.aload_n 3, 1) := by decide +kernel
theorem dL_law_921 : decode cL_law 921 = .ok (.invokestatic 189, 3) := by decide +kernel
theorem dL_law_924 : decode cL_law 924 = .ok (.istore 5, 2) := by decide +kernel
theorem dL_law_926 : decode cL_law 926 = .ok (.aload_n 2, 1) := by decide +kernel
theorem dL_law_927 : decode cL_law 927 = .ok (.aload_n 0, 1) := by decide +kernel
theorem dL_law_928 : decode cL_law 928 = .ok (.iload 4, 2) := by decide +kernel
theorem dL_law_930 : decode cL_law 930 = .ok (.iconst 1, 1) := by decide +kernel
theorem dL_law_931 : decode cL_law 931 = .ok (.iadd, 1) := by decide +kernel
theorem dL_law_932 : decode cL_law 932 = .ok (.iaload, 1) := by decide +kernel
theorem dL_law_933 : decode cL_law 933 = .ok (.invokevirtual 191, 3) := by decide +kernel
theorem dL_law_936 : decode cL_law 936 = .ok (.istore 6, 2) := by decide +kernel
theorem dL_law_938 : decode cL_law 938 = .ok (.goto 530, 3) := by decide +kernel
theorem dL_law_941 : decode cL_law 941 = .ok (.aload_n 1, 1) := by decide +kernel
theorem dL_law_942 : decode cL_law 942 = .ok (.aload_n 0, 1) := by decide +kernel
theorem dL_law_943 : decode cL_law 943 = .ok (.iload 4, 2) := by decide +kernel
theorem dL_law_945 : decode cL_law 945 = .ok (.iconst 1, 1) := by decide +kernel
theorem dL_law_946 : decode cL_law 946 = .ok (.iadd, 1) := by decide +kernel
theorem dL_law_947 : decode cL_law 947 = .ok (.iaload, 1) := by decide +kernel
theorem dL_law_948 : decode cL_law 948 = .ok (.aload_n 0, 1) := by decide +kernel
theorem dL_law_949 : decode cL_law 949 = .ok (.iload 4, 2) := by decide +kernel
theorem dL_law_951 : decode cL_law 951 = .ok (.iconst 2, 1) := by decide +kernel
theorem dL_law_952 : decode cL_law 952 = .ok (.iadd, 1) := by decide +kernel
theorem dL_law_953 : decode cL_law 953 = .ok (.iaload, 1) := by decide +kernel
theorem dL_law_954 : decode cL_law 954 = .ok (.aload_n 3, 1) := by decide +kernel
theorem dL_law_955 : decode cL_law 955 = .ok (.invokestatic 192, 3) := by decide +kernel
theorem dL_law_958 : decode cL_law 958 = .ok (.istore 5, 2) := by decide +kernel
theorem dL_law_960 : decode cL_law 960 = .ok (.aload_n 2, 1) := by decide +kernel
theorem dL_law_961 : decode cL_law 961 = .ok (.aload_n 0, 1) := by decide +kernel
theorem dL_law_962 : decode cL_law 962 = .ok (.iload 4, 2) := by decide +kernel
theorem dL_law_964 : decode cL_law 964 = .ok (.iconst 1, 1) := by decide +kernel
theorem dL_law_965 : decode cL_law 965 = .ok (.iadd, 1) := by decide +kernel
theorem dL_law_966 : decode cL_law 966 = .ok (.iaload, 1) := by decide +kernel
theorem dL_law_967 : decode cL_law 967 = .ok (.aload_n 0, 1) := by decide +kernel
theorem dL_law_968 : decode cL_law 968 = .ok (.iload 4, 2) := by decide +kernel
theorem dL_law_970 : decode cL_law 970 = .ok (.iconst 2, 1) := by decide +kernel
theorem dL_law_971 : decode cL_law 971 = .ok (.iadd, 1) := by decide +kernel
theorem dL_law_972 : decode cL_law 972 = .ok (.iaload, 1) := by decide +kernel
theorem dL_law_973 : decode cL_law 973 = .ok (.invokevirtual 194, 3) := by decide +kernel
theorem dL_law_976 : decode cL_law 976 = .ok (.istore 6, 2) := by decide +kernel
theorem dL_law_978 : decode cL_law 978 = .ok (.goto 490, 3) := by decide +kernel
theorem dL_law_981 : decode cL_law 981 = .ok (.aload_n 1, 1) := by decide +kernel
theorem dL_law_982 : decode cL_law 982 = .ok (.aload_n 0, 1) := by decide +kernel
theorem dL_law_983 : decode cL_law 983 = .ok (.iload 4, 2) := by decide +kernel
theorem dL_law_985 : decode cL_law 985 = .ok (.iconst 1, 1) := by decide +kernel
theorem dL_law_986 : decode cL_law 986 = .ok (.iadd, 1) := by decide +kernel
theorem dL_law_987 : decode cL_law 987 = .ok (.iaload, 1) := by decide +kernel
theorem dL_law_988 : decode cL_law 988 = .ok (.aload_n 0, 1) := by decide +kernel
theorem dL_law_989 : decode cL_law 989 = .ok (.iload 4, 2) := by decide +kernel
theorem dL_law_991 : decode cL_law 991 = .ok (.iconst 2, 1) := by decide +kernel
theorem dL_law_992 : decode cL_law 992 = .ok (.iadd, 1) := by decide +kernel
theorem dL_law_993 : decode cL_law 993 = .ok (.iaload, 1) := by decide +kernel
theorem dL_law_994 : decode cL_law 994 = .ok (.aload_n 3, 1) := by decide +kernel
theorem dL_law_995 : decode cL_law 995 = .ok (.invokestatic 195, 3) := by decide +kernel
theorem dL_law_998 : decode cL_law 998 = .ok (.istore 5, 2) := by decide +kernel
theorem dL_law_1000 : decode cL_law 1000 = .ok (.aload_n 2, 1) := by decide +kernel
theorem dL_law_1001 : decode cL_law 1001 = .ok (.aload_n 0, 1) := by decide +kernel
theorem dL_law_1002 : decode cL_law 1002 = .ok (.iload 4, 2) := by decide +kernel
theorem dL_law_1004 : decode cL_law 1004 = .ok (.iconst 1, 1) := by decide +kernel
theorem dL_law_1005 : decode cL_law 1005 = .ok (.iadd, 1) := by decide +kernel
theorem dL_law_1006 : decode cL_law 1006 = .ok (.iaload, 1) := by decide +kernel
theorem dL_law_1007 : decode cL_law 1007 = .ok (.aload_n 0, 1) := by decide +kernel
theorem dL_law_1008 : decode cL_law 1008 = .ok (.iload 4, 2) := by decide +kernel
theorem dL_law_1010 : decode cL_law 1010 = .ok (.iconst 2, 1) := by decide +kernel
theorem dL_law_1011 : decode cL_law 1011 = .ok (.iadd, 1) := by decide +kernel
theorem dL_law_1012 : decode cL_law 1012 = .ok (.iaload, 1) := by decide +kernel
theorem dL_law_1013 : decode cL_law 1013 = .ok (.invokevirtual 197, 3) := by decide +kernel
theorem dL_law_1016 : decode cL_law 1016 = .ok (.istore 6, 2) := by decide +kernel
theorem dL_law_1018 : decode cL_law 1018 = .ok (.goto 450, 3) := by decide +kernel
theorem dL_law_1021 : decode cL_law 1021 = .ok (.aload_n 1, 1) := by decide +kernel
theorem dL_law_1022 : decode cL_law 1022 = .ok (.aload_n 0, 1) := by decide +kernel
theorem dL_law_1023 : decode cL_law 1023 = .ok (.iload 4, 2) := by decide +kernel
theorem dL_law_1025 : decode cL_law 1025 = .ok (.iconst 1, 1) := by decide +kernel
theorem dL_law_1026 : decode cL_law 1026 = .ok (.iadd, 1) := by decide +kernel
theorem dL_law_1027 : decode cL_law 1027 = .ok (.iaload, 1) := by decide +kernel
theorem dL_law_1028 : decode cL_law 1028 = .ok (.aload_n 3, 1) := by decide +kernel
theorem dL_law_1029 : decode cL_law 1029 = .ok (.invokestatic 198, 3) := by decide +kernel
theorem dL_law_1032 : decode cL_law 1032 = .ok (.istore 5, 2) := by decide +kernel
theorem dL_law_1034 : decode cL_law 1034 = .ok (.aload_n 2, 1) := by decide +kernel
theorem dL_law_1035 : decode cL_law 1035 = .ok (.aload_n 0, 1) := by decide +kernel
theorem dL_law_1036 : decode cL_law 1036 = .ok (.iload 4, 2) := by decide +kernel
theorem dL_law_1038 : decode cL_law 1038 = .ok (.iconst 1, 1) := by decide +kernel
theorem dL_law_1039 : decode cL_law 1039 = .ok (.iadd, 1) := by decide +kernel
theorem dL_law_1040 : decode cL_law 1040 = .ok (.iaload, 1) := by decide +kernel
theorem dL_law_1041 : decode cL_law 1041 = .ok (.invokevirtual 200, 3) := by decide +kernel
theorem dL_law_1044 : decode cL_law 1044 = .ok (.istore 6, 2) := by decide +kernel
theorem dL_law_1046 : decode cL_law 1046 = .ok (.goto 422, 3) := by decide +kernel
theorem dL_law_1049 : decode cL_law 1049 = .ok (.aload_n 1, 1) := by decide +kernel
theorem dL_law_1050 : decode cL_law 1050 = .ok (.aload_n 0, 1) := by decide +kernel
theorem dL_law_1051 : decode cL_law 1051 = .ok (.iload 4, 2) := by decide +kernel
theorem dL_law_1053 : decode cL_law 1053 = .ok (.iconst 1, 1) := by decide +kernel
theorem dL_law_1054 : decode cL_law 1054 = .ok (.iadd, 1) := by decide +kernel
theorem dL_law_1055 : decode cL_law 1055 = .ok (.iaload, 1) := by decide +kernel
theorem dL_law_1056 : decode cL_law 1056 = .ok (.aload_n 3, 1) := by decide +kernel
theorem dL_law_1057 : decode cL_law 1057 = .ok (.invokestatic 201, 3) := by decide +kernel
theorem dL_law_1060 : decode cL_law 1060 = .ok (.istore 5, 2) := by decide +kernel
theorem dL_law_1062 : decode cL_law 1062 = .ok (.aload_n 2, 1) := by decide +kernel
theorem dL_law_1063 : decode cL_law 1063 = .ok (.aload_n 0, 1) := by decide +kernel
theorem dL_law_1064 : decode cL_law 1064 = .ok (.iload 4, 2) := by decide +kernel
theorem dL_law_1066 : decode cL_law 1066 = .ok (.iconst 1, 1) := by decide +kernel
theorem dL_law_1067 : decode cL_law 1067 = .ok (.iadd, 1) := by decide +kernel
theorem dL_law_1068 : decode cL_law 1068 = .ok (.iaload, 1) := by decide +kernel
theorem dL_law_1069 : decode cL_law 1069 = .ok (.invokevirtual 203, 3) := by decide +kernel
theorem dL_law_1072 : decode cL_law 1072 = .ok (.istore 6, 2) := by decide +kernel
theorem dL_law_1074 : decode cL_law 1074 = .ok (.goto 394, 3) := by decide +kernel
theorem dL_law_1077 : decode cL_law 1077 = .ok (.aload_n 1, 1) := by decide +kernel
theorem dL_law_1078 : decode cL_law 1078 = .ok (.invokevirtual 204, 3) := by decide +kernel
theorem dL_law_1081 : decode cL_law 1081 = .ok (.pop, 1) := by decide +kernel
theorem dL_law_1082 : decode cL_law 1082 = .ok (.aload_n 2, 1) := by decide +kernel
theorem dL_law_1083 : decode cL_law 1083 = .ok (.invokevirtual 207, 3) := by decide +kernel
theorem dL_law_1086 : decode cL_law 1086 = .ok (.pop, 1) := by decide +kernel
theorem dL_law_1087 : decode cL_law 1087 = .ok (.goto 381, 3) := by decide +kernel
theorem dL_law_1090 : decode cL_law 1090 = .ok (.aload_n 1, 1) := by decide +kernel
theorem dL_law_1091 : decode cL_law 1091 = .ok (.aload_n 0, 1) := by decide +kernel
theorem dL_law_1092 : decode cL_law 1092 = .ok (.iload 4, 2) := by decide +kernel
theorem dL_law_1094 : decode cL_law 1094 = .ok (.iconst 1, 1) := by decide +kernel
theorem dL_law_1095 : decode cL_law 1095 = .ok (.iadd, 1) := by decide +kernel
theorem dL_law_1096 : decode cL_law 1096 = .ok (.iaload, 1) := by decide +kernel
theorem dL_law_1097 : decode cL_law 1097 = .ok (.aload_n 3, 1) := by decide +kernel
theorem dL_law_1098 : decode cL_law 1098 = .ok (.invokestatic 208, 3) := by decide +kernel
theorem dL_law_1101 : decode cL_law 1101 = .ok (.istore 5, 2) := by decide +kernel
theorem dL_law_1103 : decode cL_law 1103 = .ok (.aload_n 2, 1) := by decide +kernel
theorem dL_law_1104 : decode cL_law 1104 = .ok (.aload_n 0, 1) := by decide +kernel
theorem dL_law_1105 : decode cL_law 1105 = .ok (.iload 4, 2) := by decide +kernel
theorem dL_law_1107 : decode cL_law 1107 = .ok (.iconst 1, 1) := by decide +kernel
theorem dL_law_1108 : decode cL_law 1108 = .ok (.iadd, 1) := by decide +kernel
theorem dL_law_1109 : decode cL_law 1109 = .ok (.iaload, 1) := by decide +kernel
theorem dL_law_1110 : decode cL_law 1110 = .ok (.invokevirtual 210, 3) := by decide +kernel
theorem dL_law_1113 : decode cL_law 1113 = .ok (.istore 6, 2) := by decide +kernel
theorem dL_law_1115 : decode cL_law 1115 = .ok (.goto 353, 3) := by decide +kernel
theorem dL_law_1118 : decode cL_law 1118 = .ok (.aload_n 1, 1) := by decide +kernel
theorem dL_law_1119 : decode cL_law 1119 = .ok (.aload_n 0, 1) := by decide +kernel
theorem dL_law_1120 : decode cL_law 1120 = .ok (.iload 4, 2) := by decide +kernel
theorem dL_law_1122 : decode cL_law 1122 = .ok (.iconst 1, 1) := by decide +kernel
theorem dL_law_1123 : decode cL_law 1123 = .ok (.iadd, 1) := by decide +kernel
theorem dL_law_1124 : decode cL_law 1124 = .ok (.iaload, 1) := by decide +kernel
theorem dL_law_1125 : decode cL_law 1125 = .ok (.aload_n 0, 1) := by decide +kernel
theorem dL_law_1126 : decode cL_law 1126 = .ok (.iload 4, 2) := by decide +kernel
theorem dL_law_1128 : decode cL_law 1128 = .ok (.iconst 2, 1) := by decide +kernel
theorem dL_law_1129 : decode cL_law 1129 = .ok (.iadd, 1) := by decide +kernel
theorem dL_law_1130 : decode cL_law 1130 = .ok (.iaload, 1) := by decide +kernel
theorem dL_law_1131 : decode cL_law 1131 = .ok (.aload_n 3, 1) := by decide +kernel
theorem dL_law_1132 : decode cL_law 1132 = .ok (.invokestatic 211, 3) := by decide +kernel
theorem dL_law_1135 : decode cL_law 1135 = .ok (.istore 5, 2) := by decide +kernel
theorem dL_law_1137 : decode cL_law 1137 = .ok (.aload_n 2, 1) := by decide +kernel
theorem dL_law_1138 : decode cL_law 1138 = .ok (.aload_n 0, 1) := by decide +kernel
theorem dL_law_1139 : decode cL_law 1139 = .ok (.iload 4, 2) := by decide +kernel
theorem dL_law_1141 : decode cL_law 1141 = .ok (.iconst 1, 1) := by decide +kernel
theorem dL_law_1142 : decode cL_law 1142 = .ok (.iadd, 1) := by decide +kernel
theorem dL_law_1143 : decode cL_law 1143 = .ok (.iaload, 1) := by decide +kernel
theorem dL_law_1144 : decode cL_law 1144 = .ok (.aload_n 0, 1) := by decide +kernel
theorem dL_law_1145 : decode cL_law 1145 = .ok (.iload 4, 2) := by decide +kernel
theorem dL_law_1147 : decode cL_law 1147 = .ok (.iconst 2, 1) := by decide +kernel
theorem dL_law_1148 : decode cL_law 1148 = .ok (.iadd, 1) := by decide +kernel
theorem dL_law_1149 : decode cL_law 1149 = .ok (.iaload, 1) := by decide +kernel
theorem dL_law_1150 : decode cL_law 1150 = .ok (.invokevirtual 213, 3) := by decide +kernel
theorem dL_law_1153 : decode cL_law 1153 = .ok (.istore 6, 2) := by decide +kernel
theorem dL_law_1155 : decode cL_law 1155 = .ok (.goto 313, 3) := by decide +kernel
/-! cases of the law: taker, unlike, would, distance, nearest, orders, shortest, firm, alike -/
set_option maxHeartbeats 4000000 in
set_option maxRecDepth 100000 in
theorem lc_taker {p : Program} {l : Launch} {e : Env} {s : State} {m : MethodId} {below : List Frame} {meth : Method} {c : Code} {dC : Nat → ClassId} {dI : Nat → Nat → Nat} {cI cL cII cR cZ cIII cO : ClassId} {h0 b L : Nat} {xs : Nat → Int32} (C0 : lx_C p l s m c b L xs dC dI cI cL cII cR cZ cIII cO h0) {i : Int} (hi : 0 ≤ i ∧ i + 6 ≤ L) {μ ν : va_M} {f : Nat → Int64} (hV : LW9 μ ν) {cells slots : Nat} (hroom : cells + 1 ≤ 601024 ∧ slots + 6 ≤ 7293034)
    (hend : ∀ (μ ν : va_M) (f : Nat → Int64) (H : Heap) (locs : List Loc) (ls : Array Slot), LW9 μ ν → LW dC dI cI cL cII cR cZ cIII cO h0 μ ν f H → va_S (lA h0) s.heap H locs → lv_has ls 7 [(4, .int (iZ i)), (0, .ref b), (1, .ref h0), (2, .ref (h0 + 233)), (3, .ref (h0 + 6558))] → W p l e room_1 s m #[Value.ref b] below meth c H locs (cells + 1) (slots + 6) (lw_Z below #[Value.ref b] s) (F0 m 1468 ls []))
    {H : Heap} {locs : List Loc} {ls : Array Slot} (hW : LW dC dI cI cL cII cR cZ cIII cO h0 μ ν f H) (hS : va_S (lA h0) s.heap H locs) (hl : lv_has ls 7 [(4, .int (iZ i)), (0, .ref b), (1, .ref h0), (2, .ref (h0 + 233)), (3, .ref (h0 + 6558))]) : W p l e room_1 s m #[Value.ref b] below meth c H locs cells slots (lw_Z below #[Value.ref b] s) (F0 m 873 ls []) := by
  obtain ⟨hfl, hx, hb, hml, hown, hts, hX, hbl, hsz0, hL9, hK, hKm, hKo, hM, hEx, hNc⟩ := C0
  obtain ⟨T, Ss, Wk, Bs, hT⟩ := hV
  have hT : LWt T Ss Wk Bs μ ν := hT
  have hT0 := hT
  have hbA : ¬ lA h0 b := Nat.not_le.mpr (by (first | ((try clear hbA); (try clear hT0); (try clear hT); (try clear Bs); (try clear Wk); (try clear Ss); (try clear hend); (try clear hroom); (try clear hi); omega) | omega))
  obtain ⟨a1, e1, ha1⟩ := iZ_ex (xs (iZ (i + 1)).toNatClampNeg)
  obtain ⟨a2, e2, ha2⟩ := iZ_ex (xs (iZ (i + 2)).toNatClampNeg)
  refine lv_aload_n hx hb dL_law_873 rfl (lv_at hl 2 rfl) ?_
  refine lv_aload_n hx hb dL_law_874 rfl (lv_at hl 1 rfl) ?_
  refine lv_iload hx hb dL_law_875 (lv_at hl 0 rfl) ?_
  refine lv_iconst (v := iZ 1) hx hb dL_law_877 rfl ?_
  refine lv_iadd hx hb dL_law_878 ?_
  refine lv_topi (fun x9 ex9 => ?_)
  obtain rfl : x9 = iZ (i + 1) := ex9.trans (iZ_add _ _)
  refine va_sld hx hb hX hbl hbA hS (iZ_in (by (first | ((try clear ex9); (try clear ha2); (try clear e2); (try clear ha1); (try clear e1); (try clear hbA); (try clear hT0); (try clear hT); (try clear Bs); (try clear Wk); (try clear Ss); (try clear hsz0); (try clear hend); (try clear hroom); omega) | omega)) (by (first | ((try clear ex9); (try clear ha2); (try clear e2); (try clear ha1); (try clear e1); (try clear hbA); (try clear hT0); (try clear hT); (try clear Bs); (try clear Wk); (try clear Ss); (try clear hsz0); (try clear hend); (try clear hroom); omega) | omega)) (by (first | ((try clear ex9); (try clear ha2); (try clear e2); (try clear ha1); (try clear e1); (try clear hbA); (try clear hT0); (try clear hT); (try clear Bs); (try clear Wk); (try clear Ss); (try clear hsz0); (try clear hend); (try clear hroom); (try clear hi); omega) | omega))) dL_law_879 ?_
  refine lv_topi (fun x9 ex9 => ?_)
  obtain rfl : x9 = iZ a1 := ex9.trans e1
  refine lv_aload_n hx hb dL_law_880 rfl (lv_at hl 1 rfl) ?_
  refine lv_iload hx hb dL_law_881 (lv_at hl 0 rfl) ?_
  refine lv_iconst (v := iZ 2) hx hb dL_law_883 rfl ?_
  refine lv_iadd hx hb dL_law_884 ?_
  refine lv_topi (fun x9 ex9 => ?_)
  obtain rfl : x9 = iZ (i + 2) := ex9.trans (iZ_add _ _)
  refine va_sld hx hb hX hbl hbA hS (iZ_in (by (first | ((try clear ex9); (try clear ha2); (try clear e2); (try clear ha1); (try clear e1); (try clear hbA); (try clear hT0); (try clear hT); (try clear Bs); (try clear Wk); (try clear Ss); (try clear hsz0); (try clear hend); (try clear hroom); omega) | omega)) (by (first | ((try clear ex9); (try clear ha2); (try clear e2); (try clear ha1); (try clear e1); (try clear hbA); (try clear hT0); (try clear hT); (try clear Bs); (try clear Wk); (try clear Ss); (try clear hsz0); (try clear hend); (try clear hroom); omega) | omega)) (by (first | ((try clear ex9); (try clear ha2); (try clear e2); (try clear ha1); (try clear e1); (try clear hbA); (try clear hT0); (try clear hT); (try clear Bs); (try clear Wk); (try clear Ss); (try clear hsz0); (try clear hend); (try clear hroom); (try clear hi); omega) | omega))) dL_law_885 ?_
  refine lv_topi (fun x9 ex9 => ?_)
  obtain rfl : x9 = iZ a2 := ex9.trans e2
  refine lv_aload_n hx hb dL_law_886 rfl (lv_at hl 4 rfl) ?_
  refine va_calli (vx_runSW (hh := [(0, 10, 13, 20)]) (As := [.ref h0, .int (iZ a1), .int (iZ a2), .ref (h0 + 6558)]) (rest := []) ⟨hx, hb, hml, hown, hts⟩ (w_taker l hfl dC dI cI cL cII cR cO h0 (h0 + 6558) H.size μ f a1 a2 T (hT.1.1.1.1.1) ha1 ha2 (by (first | ((try clear ex9); (try clear ha2); (try clear e2); (try clear ha1); (try clear e1); (try clear hbA); (try clear hT0); (try clear hT); (try clear Bs); (try clear Wk); (try clear Ss); (try clear hsz0); (try clear hend); (try clear hroom); (try clear hi); omega) | omega))) (vx_cwSW 4 hts (gW_G k994 k995 k0 k996) rfl rfl rfl (by decide +kernel) ⟨Nat.le_of_ble_eq_true rfl, Nat.le_of_ble_eq_true rfl⟩) ⟨fun a U g mk q => by obtain ⟨q0, q1, qP, qO, qK, qKo, qM, qE, qN⟩ := q; exact ⟨q0, q1, qP, qO, va_K.moved (u := U) (U := U.calling g mk a) (Vm.Alike.refl U.vm) qK, va_K.moved (u := U) (U := U.calling g mk a) (Vm.Alike.refl U.vm) qKo, qM, xX_call qE, qN⟩, fun U hU hW9 => ⟨rfl, by rw [hU], by rw [hU]; exact hW.1, by rw [hU]; exact hW.2.2, va_K.moved hW9.alike hK, va_K.moved hW9.alike hKo, xM_warm hW9 hM, xX_at hEx hS (fun q h => lA_w hS hsz0 (by (first | ((try clear h); (try clear q); (try clear hU); (try clear U); (try clear mk); (try clear g); (try clear ex9); (try clear ha2); (try clear e2); (try clear ha1); (try clear e1); (try clear hbA); (try clear hT0); (try clear hT); (try clear Bs); (try clear Wk); (try clear Ss); (try clear hsz0); (try clear hend); (try clear hroom); (try clear hi); omega) | omega)) q h) hU hW9, xNC_warm hW9 hNc⟩⟩ rfl rfl hl.1 rfl (lv_room (Nat.le_of_ble_eq_true rfl)) dL_law_887 ⟨by show cells + 1 ≤ 601024; (first | ((try clear ex9); (try clear ha2); (try clear e2); (try clear ha1); (try clear e1); (try clear hbA); (try clear hT0); (try clear hT); (try clear Bs); (try clear Wk); (try clear Ss); (try clear hsz0); (try clear hend); (try clear hi); omega) | omega), by show slots + 6 ≤ 7293034; (first | ((try clear ex9); (try clear ha2); (try clear e2); (try clear ha1); (try clear e1); (try clear hbA); (try clear hT0); (try clear hT); (try clear Bs); (try clear Wk); (try clear Ss); (try clear hsz0); (try clear hend); (try clear hi); omega) | omega)⟩) hS (fun q _ h => lA_w hS hsz0 (by (first | ((try clear h); (try clear ex9); (try clear ha2); (try clear e2); (try clear ha1); (try clear e1); (try clear hbA); (try clear hT0); (try clear hT); (try clear Bs); (try clear Wk); (try clear Ss); (try clear hsz0); (try clear hend); (try clear hroom); (try clear hi); omega) | omega)) q h) (lA_w hS hsz0 (by (first | ((try clear ex9); (try clear ha2); (try clear e2); (try clear ha1); (try clear e1); (try clear hbA); (try clear hT0); (try clear hT); (try clear Bs); (try clear Wk); (try clear Ss); (try clear hsz0); (try clear hend); (try clear hroom); (try clear hi); omega) | omega))) (fun r1 u9 t9 H1 locs ht9 hvm9 hw9 hB9 hz9 hk9 hS => ?_)
  obtain ⟨hP9, hO9⟩ := hB9
  rw [ht9] at hP9 hO9
  have hW := LW_w hW hk9 hP9 hO9
  have hT := LWt_c hT hw9
  obtain ⟨u1, f1⟩ := u9
  try dsimp only at hW hT
  clear hk9 hP9 hO9
  generalize H1 = H at hW hS ⊢
  refine lv_istore (lv' := [(5, .int r1), (4, .int (iZ i)), (0, .ref b), (1, .ref h0), (2, .ref (h0 + 233)), (3, .ref (h0 + 6558))]) hx hb dL_law_890 hl (by decide) rfl (fun ls hl => ?_)
  refine lv_aload_n hx hb dL_law_892 rfl (lv_at hl 4 rfl) ?_
  refine lv_aload_n hx hb dL_law_893 rfl (lv_at hl 2 rfl) ?_
  refine lv_iload hx hb dL_law_894 (lv_at hl 1 rfl) ?_
  refine lv_iconst (v := iZ 1) hx hb dL_law_896 rfl ?_
  refine lv_iadd hx hb dL_law_897 ?_
  refine lv_topi (fun x9 ex9 => ?_)
  obtain rfl : x9 = iZ (i + 1) := ex9.trans (iZ_add _ _)
  refine va_sld hx hb hX hbl hbA hS (iZ_in (by (first | ((try clear ex9); (try clear f1); (try clear u1); (try clear hT); (try clear hO9); (try clear hP9); (try clear hz9); (try clear r1); (try clear ha2); (try clear e2); (try clear ha1); (try clear e1); (try clear hbA); (try clear hT0); (try clear Bs); (try clear Wk); (try clear Ss); (try clear hsz0); (try clear hend); (try clear hroom); omega) | omega)) (by (first | ((try clear ex9); (try clear f1); (try clear u1); (try clear hT); (try clear hO9); (try clear hP9); (try clear hz9); (try clear r1); (try clear ha2); (try clear e2); (try clear ha1); (try clear e1); (try clear hbA); (try clear hT0); (try clear Bs); (try clear Wk); (try clear Ss); (try clear hsz0); (try clear hend); (try clear hroom); omega) | omega)) (by (first | ((try clear ex9); (try clear f1); (try clear u1); (try clear hT); (try clear hO9); (try clear hP9); (try clear hz9); (try clear r1); (try clear ha2); (try clear e2); (try clear ha1); (try clear e1); (try clear hbA); (try clear hT0); (try clear Bs); (try clear Wk); (try clear Ss); (try clear hsz0); (try clear hend); (try clear hroom); (try clear hi); omega) | omega))) dL_law_898 ?_
  refine lv_topi (fun x9 ex9 => ?_)
  obtain rfl : x9 = iZ a1 := ex9.trans e1
  refine lv_aload_n hx hb dL_law_899 rfl (lv_at hl 2 rfl) ?_
  refine lv_iload hx hb dL_law_900 (lv_at hl 1 rfl) ?_
  refine lv_iconst (v := iZ 2) hx hb dL_law_902 rfl ?_
  refine lv_iadd hx hb dL_law_903 ?_
  refine lv_topi (fun x9 ex9 => ?_)
  obtain rfl : x9 = iZ (i + 2) := ex9.trans (iZ_add _ _)
  refine va_sld hx hb hX hbl hbA hS (iZ_in (by (first | ((try clear ex9); (try clear f1); (try clear u1); (try clear hT); (try clear hO9); (try clear hP9); (try clear hz9); (try clear r1); (try clear ha2); (try clear e2); (try clear ha1); (try clear e1); (try clear hbA); (try clear hT0); (try clear Bs); (try clear Wk); (try clear Ss); (try clear hsz0); (try clear hend); (try clear hroom); omega) | omega)) (by (first | ((try clear ex9); (try clear f1); (try clear u1); (try clear hT); (try clear hO9); (try clear hP9); (try clear hz9); (try clear r1); (try clear ha2); (try clear e2); (try clear ha1); (try clear e1); (try clear hbA); (try clear hT0); (try clear Bs); (try clear Wk); (try clear Ss); (try clear hsz0); (try clear hend); (try clear hroom); omega) | omega)) (by (first | ((try clear ex9); (try clear f1); (try clear u1); (try clear hT); (try clear hO9); (try clear hP9); (try clear hz9); (try clear r1); (try clear ha2); (try clear e2); (try clear ha1); (try clear e1); (try clear hbA); (try clear hT0); (try clear Bs); (try clear Wk); (try clear Ss); (try clear hsz0); (try clear hend); (try clear hroom); (try clear hi); omega) | omega))) dL_law_904 ?_
  refine lv_topi (fun x9 ex9 => ?_)
  obtain rfl : x9 = iZ a2 := ex9.trans e2
  refine va_calli (va_runV (As := [.int (iZ a1), .int (iZ a2)]) (rest := []) ⟨hx, hb, hml, hown, hts⟩ (m_taker l dC dI cI cZ cII cIII (h0 + 233) H.size ν a1 a2 hT.1.1.1.1.2.1.1 ha1 ha2) (cwV 2 hts (gV_G k1679 k1680 k1681 k13 k1682) rfl rfl rfl (by decide +kernel) ⟨Nat.le_of_ble_eq_true rfl, Nat.le_of_ble_eq_true rfl⟩) ⟨fun a U g mk q => by obtain ⟨q0, q1, qP, qK⟩ := q; exact ⟨q0, q1, qP, va_K.moved (u := U) (U := U.calling g mk a) (Vm.Alike.refl U.vm) qK⟩, va_recv hKm hW.2.1 (ci := 10) (q0 := 0) rfl ((fw_get (by decide)).trans (by rw [mE_obj])), fun U hU hW9 => ⟨rfl, by rw [hU], by rw [hU]; exact hW.2.1, va_K.moved hW9.alike hKm⟩⟩ rfl rfl hl.1 rfl (lv_room (Nat.le_of_ble_eq_true rfl)) dL_law_905 ⟨by show cells + 1 + 0 ≤ 601024; (first | ((try clear ex9); (try clear f1); (try clear u1); (try clear hT); (try clear hO9); (try clear hP9); (try clear hz9); (try clear r1); (try clear ha2); (try clear e2); (try clear ha1); (try clear e1); (try clear hbA); (try clear hT0); (try clear Bs); (try clear Wk); (try clear Ss); (try clear hsz0); (try clear hend); (try clear hi); omega) | omega), by show slots + 6 + 0 ≤ 7293034; (first | ((try clear ex9); (try clear f1); (try clear u1); (try clear hT); (try clear hO9); (try clear hP9); (try clear hz9); (try clear r1); (try clear ha2); (try clear e2); (try clear ha1); (try clear e1); (try clear hbA); (try clear hT0); (try clear Bs); (try clear Wk); (try clear Ss); (try clear hsz0); (try clear hend); (try clear hi); omega) | omega)⟩) hS (fun q _ h => lA_f hS hsz0 (by (first | ((try clear h); (try clear ex9); (try clear f1); (try clear u1); (try clear hT); (try clear hO9); (try clear hP9); (try clear hz9); (try clear r1); (try clear ha2); (try clear e2); (try clear ha1); (try clear e1); (try clear hbA); (try clear hT0); (try clear Bs); (try clear Wk); (try clear Ss); (try clear hsz0); (try clear hend); (try clear hroom); (try clear hi); omega) | omega)) q h) (lA_f hS hsz0 (by (first | ((try clear ex9); (try clear f1); (try clear u1); (try clear hT); (try clear hO9); (try clear hP9); (try clear hz9); (try clear r1); (try clear ha2); (try clear e2); (try clear ha1); (try clear e1); (try clear hbA); (try clear hT0); (try clear Bs); (try clear Wk); (try clear Ss); (try clear hsz0); (try clear hend); (try clear hroom); (try clear hi); omega) | omega))) (fun r2 u9 t9 H1 locs ht9 hvm9 hw9 hB9 hz9 hk9 hS => ?_)
  obtain ⟨hP9, -⟩ := hB9
  rw [ht9] at hP9
  have hW := LW_m hW hk9 hP9
  obtain ⟨v1, q2⟩ := u9
  obtain ⟨er9, hw9⟩ := hw9
  have er2 : r2 = iZ q2 := er9
  subst er2
  have hT := LWt_ps hT hw9
  try dsimp only at hW hT
  clear hk9 hP9
  generalize H1 = H at hW hS ⊢
  refine lv_istore (lv' := [(6, .int (iZ q2)), (5, .int r1), (4, .int (iZ i)), (0, .ref b), (1, .ref h0), (2, .ref (h0 + 233)), (3, .ref (h0 + 6558))]) hx hb dL_law_908 hl (by decide) rfl (fun ls hl => ?_)
  refine lv_goto (tgt := 1468) hx hb dL_law_910 (by decide) ?_
  have hV9 : LW9 u1 v1 := ⟨T, Ss, Wk, Bs, hT⟩
  refine W.widen (k := cells + 1) (n := slots + 6) (by (first | ((try clear hT); (try clear er2); (try clear er9); (try clear q2); (try clear v1); (try clear hP9); (try clear hz9); (try clear r2); (try clear ex9); (try clear f1); (try clear u1); (try clear hO9); (try clear r1); (try clear ha2); (try clear e2); (try clear ha1); (try clear e1); (try clear hbA); (try clear hT0); (try clear Bs); (try clear Wk); (try clear Ss); (try clear hsz0); (try clear hend); (try clear hroom); (try clear hi); omega) | omega)) (by (first | ((try clear hT); (try clear er2); (try clear er9); (try clear q2); (try clear v1); (try clear hP9); (try clear hz9); (try clear r2); (try clear ex9); (try clear f1); (try clear u1); (try clear hO9); (try clear r1); (try clear ha2); (try clear e2); (try clear ha1); (try clear e1); (try clear hbA); (try clear hT0); (try clear Bs); (try clear Wk); (try clear Ss); (try clear hsz0); (try clear hend); (try clear hroom); (try clear hi); omega) | omega)) ?_
  exact hend _ _ _ H locs ls hV9 hW hS (lv_sub hl [2, 3, 4, 5, 6] rfl)
set_option maxHeartbeats 4000000 in
set_option maxRecDepth 100000 in
theorem lc_unlike {p : Program} {l : Launch} {e : Env} {s : State} {m : MethodId} {below : List Frame} {meth : Method} {c : Code} {dC : Nat → ClassId} {dI : Nat → Nat → Nat} {cI cL cII cR cZ cIII cO : ClassId} {h0 b L : Nat} {xs : Nat → Int32} (C0 : lx_C p l s m c b L xs dC dI cI cL cII cR cZ cIII cO h0) {i : Int} (hi : 0 ≤ i ∧ i + 6 ≤ L) {μ ν : va_M} {f : Nat → Int64} (hV : LW9 μ ν) {cells slots : Nat} (hroom : cells + 1 ≤ 601024 ∧ slots + 6 ≤ 7293034)
    (hend : ∀ (μ ν : va_M) (f : Nat → Int64) (H : Heap) (locs : List Loc) (ls : Array Slot), LW9 μ ν → LW dC dI cI cL cII cR cZ cIII cO h0 μ ν f H → va_S (lA h0) s.heap H locs → lv_has ls 7 [(4, .int (iZ i)), (0, .ref b), (1, .ref h0), (2, .ref (h0 + 233)), (3, .ref (h0 + 6558))] → W p l e room_1 s m #[Value.ref b] below meth c H locs (cells + 1) (slots + 6) (lw_Z below #[Value.ref b] s) (F0 m 1468 ls []))
    {H : Heap} {locs : List Loc} {ls : Array Slot} (hW : LW dC dI cI cL cII cR cZ cIII cO h0 μ ν f H) (hS : va_S (lA h0) s.heap H locs) (hl : lv_has ls 7 [(4, .int (iZ i)), (0, .ref b), (1, .ref h0), (2, .ref (h0 + 233)), (3, .ref (h0 + 6558))]) : W p l e room_1 s m #[Value.ref b] below meth c H locs cells slots (lw_Z below #[Value.ref b] s) (F0 m 913 ls []) := by
  obtain ⟨hfl, hx, hb, hml, hown, hts, hX, hbl, hsz0, hL9, hK, hKm, hKo, hM, hEx, hNc⟩ := C0
  obtain ⟨T, Ss, Wk, Bs, hT⟩ := hV
  have hT : LWt T Ss Wk Bs μ ν := hT
  have hT0 := hT
  have hbA : ¬ lA h0 b := Nat.not_le.mpr (by (first | ((try clear hbA); (try clear hT0); (try clear hT); (try clear Bs); (try clear Wk); (try clear Ss); (try clear hend); (try clear hroom); (try clear hi); omega) | omega))
  obtain ⟨a1, e1, ha1⟩ := iZ_ex (xs (iZ (i + 1)).toNatClampNeg)
  refine lv_aload_n hx hb dL_law_913 rfl (lv_at hl 2 rfl) ?_
  refine lv_aload_n hx hb dL_law_914 rfl (lv_at hl 1 rfl) ?_
  refine lv_iload hx hb dL_law_915 (lv_at hl 0 rfl) ?_
  refine lv_iconst (v := iZ 1) hx hb dL_law_917 rfl ?_
  refine lv_iadd hx hb dL_law_918 ?_
  refine lv_topi (fun x9 ex9 => ?_)
  obtain rfl : x9 = iZ (i + 1) := ex9.trans (iZ_add _ _)
  refine va_sld hx hb hX hbl hbA hS (iZ_in (by (first | ((try clear ex9); (try clear ha1); (try clear e1); (try clear hbA); (try clear hT0); (try clear hT); (try clear Bs); (try clear Wk); (try clear Ss); (try clear hsz0); (try clear hend); (try clear hroom); omega) | omega)) (by (first | ((try clear ex9); (try clear ha1); (try clear e1); (try clear hbA); (try clear hT0); (try clear hT); (try clear Bs); (try clear Wk); (try clear Ss); (try clear hsz0); (try clear hend); (try clear hroom); omega) | omega)) (by (first | ((try clear ex9); (try clear ha1); (try clear e1); (try clear hbA); (try clear hT0); (try clear hT); (try clear Bs); (try clear Wk); (try clear Ss); (try clear hsz0); (try clear hend); (try clear hroom); (try clear hi); omega) | omega))) dL_law_919 ?_
  refine lv_topi (fun x9 ex9 => ?_)
  obtain rfl : x9 = iZ a1 := ex9.trans e1
  refine lv_aload_n hx hb dL_law_920 rfl (lv_at hl 4 rfl) ?_
  refine va_calli (vx_runSW (hh := [(0, 9, 12, 20)]) (As := [.ref h0, .int (iZ a1), .ref (h0 + 6558)]) (rest := []) ⟨hx, hb, hml, hown, hts⟩ (w_unlike l hfl dC dI cI cL cII cR cO h0 (h0 + 6558) H.size μ f a1 T (hT.1.1.1.1.1) ha1 (by (first | ((try clear ex9); (try clear ha1); (try clear e1); (try clear hbA); (try clear hT0); (try clear hT); (try clear Bs); (try clear Wk); (try clear Ss); (try clear hsz0); (try clear hend); (try clear hroom); (try clear hi); omega) | omega))) (vx_cwSW 3 hts (gW_G k1001 k1002 k0 k1003) rfl rfl rfl (by decide +kernel) ⟨Nat.le_of_ble_eq_true rfl, Nat.le_of_ble_eq_true rfl⟩) ⟨fun a U g mk q => by obtain ⟨q0, q1, qP, qO, qK, qKo, qM, qE, qN⟩ := q; exact ⟨q0, q1, qP, qO, va_K.moved (u := U) (U := U.calling g mk a) (Vm.Alike.refl U.vm) qK, va_K.moved (u := U) (U := U.calling g mk a) (Vm.Alike.refl U.vm) qKo, qM, xX_call qE, qN⟩, fun U hU hW9 => ⟨rfl, by rw [hU], by rw [hU]; exact hW.1, by rw [hU]; exact hW.2.2, va_K.moved hW9.alike hK, va_K.moved hW9.alike hKo, xM_warm hW9 hM, xX_at hEx hS (fun q h => lA_w hS hsz0 (by (first | ((try clear h); (try clear q); (try clear hU); (try clear U); (try clear mk); (try clear g); (try clear ex9); (try clear ha1); (try clear e1); (try clear hbA); (try clear hT0); (try clear hT); (try clear Bs); (try clear Wk); (try clear Ss); (try clear hsz0); (try clear hend); (try clear hroom); (try clear hi); omega) | omega)) q h) hU hW9, xNC_warm hW9 hNc⟩⟩ rfl rfl hl.1 rfl (lv_room (Nat.le_of_ble_eq_true rfl)) dL_law_921 ⟨by show cells + 1 ≤ 601024; (first | ((try clear ex9); (try clear ha1); (try clear e1); (try clear hbA); (try clear hT0); (try clear hT); (try clear Bs); (try clear Wk); (try clear Ss); (try clear hsz0); (try clear hend); (try clear hi); omega) | omega), by show slots + 6 ≤ 7293034; (first | ((try clear ex9); (try clear ha1); (try clear e1); (try clear hbA); (try clear hT0); (try clear hT); (try clear Bs); (try clear Wk); (try clear Ss); (try clear hsz0); (try clear hend); (try clear hi); omega) | omega)⟩) hS (fun q _ h => lA_w hS hsz0 (by (first | ((try clear h); (try clear ex9); (try clear ha1); (try clear e1); (try clear hbA); (try clear hT0); (try clear hT); (try clear Bs); (try clear Wk); (try clear Ss); (try clear hsz0); (try clear hend); (try clear hroom); (try clear hi); omega) | omega)) q h) (lA_w hS hsz0 (by (first | ((try clear ex9); (try clear ha1); (try clear e1); (try clear hbA); (try clear hT0); (try clear hT); (try clear Bs); (try clear Wk); (try clear Ss); (try clear hsz0); (try clear hend); (try clear hroom); (try clear hi); omega) | omega))) (fun r1 u9 t9 H1 locs ht9 hvm9 hw9 hB9 hz9 hk9 hS => ?_)
  obtain ⟨hP9, hO9⟩ := hB9
  rw [ht9] at hP9 hO9
  have hW := LW_w hW hk9 hP9 hO9
  have hT := LWt_c hT hw9
  obtain ⟨u1, f1⟩ := u9
  try dsimp only at hW hT
  clear hk9 hP9 hO9
  generalize H1 = H at hW hS ⊢
  refine lv_istore (lv' := [(5, .int r1), (4, .int (iZ i)), (0, .ref b), (1, .ref h0), (2, .ref (h0 + 233)), (3, .ref (h0 + 6558))]) hx hb dL_law_924 hl (by decide) rfl (fun ls hl => ?_)
  refine lv_aload_n hx hb dL_law_926 rfl (lv_at hl 4 rfl) ?_
  refine lv_aload_n hx hb dL_law_927 rfl (lv_at hl 2 rfl) ?_
  refine lv_iload hx hb dL_law_928 (lv_at hl 1 rfl) ?_
  refine lv_iconst (v := iZ 1) hx hb dL_law_930 rfl ?_
  refine lv_iadd hx hb dL_law_931 ?_
  refine lv_topi (fun x9 ex9 => ?_)
  obtain rfl : x9 = iZ (i + 1) := ex9.trans (iZ_add _ _)
  refine va_sld hx hb hX hbl hbA hS (iZ_in (by (first | ((try clear ex9); (try clear f1); (try clear u1); (try clear hT); (try clear hO9); (try clear hP9); (try clear hz9); (try clear r1); (try clear ha1); (try clear e1); (try clear hbA); (try clear hT0); (try clear Bs); (try clear Wk); (try clear Ss); (try clear hsz0); (try clear hend); (try clear hroom); omega) | omega)) (by (first | ((try clear ex9); (try clear f1); (try clear u1); (try clear hT); (try clear hO9); (try clear hP9); (try clear hz9); (try clear r1); (try clear ha1); (try clear e1); (try clear hbA); (try clear hT0); (try clear Bs); (try clear Wk); (try clear Ss); (try clear hsz0); (try clear hend); (try clear hroom); omega) | omega)) (by (first | ((try clear ex9); (try clear f1); (try clear u1); (try clear hT); (try clear hO9); (try clear hP9); (try clear hz9); (try clear r1); (try clear ha1); (try clear e1); (try clear hbA); (try clear hT0); (try clear Bs); (try clear Wk); (try clear Ss); (try clear hsz0); (try clear hend); (try clear hroom); (try clear hi); omega) | omega))) dL_law_932 ?_
  refine lv_topi (fun x9 ex9 => ?_)
  obtain rfl : x9 = iZ a1 := ex9.trans e1
  refine va_calli (va_runV (As := [.int (iZ a1)]) (rest := []) ⟨hx, hb, hml, hown, hts⟩ (m_unlike l dC dI cI cZ cII cIII (h0 + 233) H.size ν a1 hT.1.1.1.1.2.1.1 ha1) (cwV 1 hts (gV_G k1683 k1684 k1685 k13 k1686) rfl rfl rfl (by decide +kernel) ⟨Nat.le_of_ble_eq_true rfl, Nat.le_of_ble_eq_true rfl⟩) ⟨fun a U g mk q => by obtain ⟨q0, q1, qP, qK⟩ := q; exact ⟨q0, q1, qP, va_K.moved (u := U) (U := U.calling g mk a) (Vm.Alike.refl U.vm) qK⟩, va_recv hKm hW.2.1 (ci := 10) (q0 := 0) rfl ((fw_get (by decide)).trans (by rw [mE_obj])), fun U hU hW9 => ⟨rfl, by rw [hU], by rw [hU]; exact hW.2.1, va_K.moved hW9.alike hKm⟩⟩ rfl rfl hl.1 rfl (lv_room (Nat.le_of_ble_eq_true rfl)) dL_law_933 ⟨by show cells + 1 + 0 ≤ 601024; (first | ((try clear ex9); (try clear f1); (try clear u1); (try clear hT); (try clear hO9); (try clear hP9); (try clear hz9); (try clear r1); (try clear ha1); (try clear e1); (try clear hbA); (try clear hT0); (try clear Bs); (try clear Wk); (try clear Ss); (try clear hsz0); (try clear hend); (try clear hi); omega) | omega), by show slots + 6 + 0 ≤ 7293034; (first | ((try clear ex9); (try clear f1); (try clear u1); (try clear hT); (try clear hO9); (try clear hP9); (try clear hz9); (try clear r1); (try clear ha1); (try clear e1); (try clear hbA); (try clear hT0); (try clear Bs); (try clear Wk); (try clear Ss); (try clear hsz0); (try clear hend); (try clear hi); omega) | omega)⟩) hS (fun q _ h => lA_f hS hsz0 (by (first | ((try clear h); (try clear ex9); (try clear f1); (try clear u1); (try clear hT); (try clear hO9); (try clear hP9); (try clear hz9); (try clear r1); (try clear ha1); (try clear e1); (try clear hbA); (try clear hT0); (try clear Bs); (try clear Wk); (try clear Ss); (try clear hsz0); (try clear hend); (try clear hroom); (try clear hi); omega) | omega)) q h) (lA_f hS hsz0 (by (first | ((try clear ex9); (try clear f1); (try clear u1); (try clear hT); (try clear hO9); (try clear hP9); (try clear hz9); (try clear r1); (try clear ha1); (try clear e1); (try clear hbA); (try clear hT0); (try clear Bs); (try clear Wk); (try clear Ss); (try clear hsz0); (try clear hend); (try clear hroom); (try clear hi); omega) | omega))) (fun r2 u9 t9 H1 locs ht9 hvm9 hw9 hB9 hz9 hk9 hS => ?_)
  obtain ⟨hP9, -⟩ := hB9
  rw [ht9] at hP9
  have hW := LW_m hW hk9 hP9
  obtain ⟨v1, q2⟩ := u9
  obtain ⟨er9, hw9⟩ := hw9
  have er2 : r2 = iZ q2 := er9
  subst er2
  have hT := LWt_ps hT hw9
  try dsimp only at hW hT
  clear hk9 hP9
  generalize H1 = H at hW hS ⊢
  refine lv_istore (lv' := [(6, .int (iZ q2)), (5, .int r1), (4, .int (iZ i)), (0, .ref b), (1, .ref h0), (2, .ref (h0 + 233)), (3, .ref (h0 + 6558))]) hx hb dL_law_936 hl (by decide) rfl (fun ls hl => ?_)
  refine lv_goto (tgt := 1468) hx hb dL_law_938 (by decide) ?_
  have hV9 : LW9 u1 v1 := ⟨T, Ss, Wk, Bs, hT⟩
  refine W.widen (k := cells + 1) (n := slots + 6) (by (first | ((try clear hT); (try clear er2); (try clear er9); (try clear q2); (try clear v1); (try clear hP9); (try clear hz9); (try clear r2); (try clear ex9); (try clear f1); (try clear u1); (try clear hO9); (try clear r1); (try clear ha1); (try clear e1); (try clear hbA); (try clear hT0); (try clear Bs); (try clear Wk); (try clear Ss); (try clear hsz0); (try clear hend); (try clear hroom); (try clear hi); omega) | omega)) (by (first | ((try clear hT); (try clear er2); (try clear er9); (try clear q2); (try clear v1); (try clear hP9); (try clear hz9); (try clear r2); (try clear ex9); (try clear f1); (try clear u1); (try clear hO9); (try clear r1); (try clear ha1); (try clear e1); (try clear hbA); (try clear hT0); (try clear Bs); (try clear Wk); (try clear Ss); (try clear hsz0); (try clear hend); (try clear hroom); (try clear hi); omega) | omega)) ?_
  exact hend _ _ _ H locs ls hV9 hW hS (lv_sub hl [2, 3, 4, 5, 6] rfl)
set_option maxHeartbeats 4000000 in
set_option maxRecDepth 100000 in
theorem lc_would {p : Program} {l : Launch} {e : Env} {s : State} {m : MethodId} {below : List Frame} {meth : Method} {c : Code} {dC : Nat → ClassId} {dI : Nat → Nat → Nat} {cI cL cII cR cZ cIII cO : ClassId} {h0 b L : Nat} {xs : Nat → Int32} (C0 : lx_C p l s m c b L xs dC dI cI cL cII cR cZ cIII cO h0) {i : Int} (hi : 0 ≤ i ∧ i + 6 ≤ L) {μ ν : va_M} {f : Nat → Int64} (hV : LW9 μ ν) {cells slots : Nat} (hroom : cells + 1 ≤ 601024 ∧ slots + 6 ≤ 7293034)
    (hend : ∀ (μ ν : va_M) (f : Nat → Int64) (H : Heap) (locs : List Loc) (ls : Array Slot), LW9 μ ν → LW dC dI cI cL cII cR cZ cIII cO h0 μ ν f H → va_S (lA h0) s.heap H locs → lv_has ls 7 [(4, .int (iZ i)), (0, .ref b), (1, .ref h0), (2, .ref (h0 + 233)), (3, .ref (h0 + 6558))] → W p l e room_1 s m #[Value.ref b] below meth c H locs (cells + 1) (slots + 6) (lw_Z below #[Value.ref b] s) (F0 m 1468 ls []))
    {H : Heap} {locs : List Loc} {ls : Array Slot} (hW : LW dC dI cI cL cII cR cZ cIII cO h0 μ ν f H) (hS : va_S (lA h0) s.heap H locs) (hl : lv_has ls 7 [(4, .int (iZ i)), (0, .ref b), (1, .ref h0), (2, .ref (h0 + 233)), (3, .ref (h0 + 6558))]) : W p l e room_1 s m #[Value.ref b] below meth c H locs cells slots (lw_Z below #[Value.ref b] s) (F0 m 941 ls []) := by
  obtain ⟨hfl, hx, hb, hml, hown, hts, hX, hbl, hsz0, hL9, hK, hKm, hKo, hM, hEx, hNc⟩ := C0
  obtain ⟨T, Ss, Wk, Bs, hT⟩ := hV
  have hT : LWt T Ss Wk Bs μ ν := hT
  have hT0 := hT
  have hbA : ¬ lA h0 b := Nat.not_le.mpr (by (first | ((try clear hbA); (try clear hT0); (try clear hT); (try clear Bs); (try clear Wk); (try clear Ss); (try clear hend); (try clear hroom); (try clear hi); omega) | omega))
  obtain ⟨a1, e1, ha1⟩ := iZ_ex (xs (iZ (i + 1)).toNatClampNeg)
  obtain ⟨a2, e2, ha2⟩ := iZ_ex (xs (iZ (i + 2)).toNatClampNeg)
  refine lv_aload_n hx hb dL_law_941 rfl (lv_at hl 2 rfl) ?_
  refine lv_aload_n hx hb dL_law_942 rfl (lv_at hl 1 rfl) ?_
  refine lv_iload hx hb dL_law_943 (lv_at hl 0 rfl) ?_
  refine lv_iconst (v := iZ 1) hx hb dL_law_945 rfl ?_
  refine lv_iadd hx hb dL_law_946 ?_
  refine lv_topi (fun x9 ex9 => ?_)
  obtain rfl : x9 = iZ (i + 1) := ex9.trans (iZ_add _ _)
  refine va_sld hx hb hX hbl hbA hS (iZ_in (by (first | ((try clear ex9); (try clear ha2); (try clear e2); (try clear ha1); (try clear e1); (try clear hbA); (try clear hT0); (try clear hT); (try clear Bs); (try clear Wk); (try clear Ss); (try clear hsz0); (try clear hend); (try clear hroom); omega) | omega)) (by (first | ((try clear ex9); (try clear ha2); (try clear e2); (try clear ha1); (try clear e1); (try clear hbA); (try clear hT0); (try clear hT); (try clear Bs); (try clear Wk); (try clear Ss); (try clear hsz0); (try clear hend); (try clear hroom); omega) | omega)) (by (first | ((try clear ex9); (try clear ha2); (try clear e2); (try clear ha1); (try clear e1); (try clear hbA); (try clear hT0); (try clear hT); (try clear Bs); (try clear Wk); (try clear Ss); (try clear hsz0); (try clear hend); (try clear hroom); (try clear hi); omega) | omega))) dL_law_947 ?_
  refine lv_topi (fun x9 ex9 => ?_)
  obtain rfl : x9 = iZ a1 := ex9.trans e1
  refine lv_aload_n hx hb dL_law_948 rfl (lv_at hl 1 rfl) ?_
  refine lv_iload hx hb dL_law_949 (lv_at hl 0 rfl) ?_
  refine lv_iconst (v := iZ 2) hx hb dL_law_951 rfl ?_
  refine lv_iadd hx hb dL_law_952 ?_
  refine lv_topi (fun x9 ex9 => ?_)
  obtain rfl : x9 = iZ (i + 2) := ex9.trans (iZ_add _ _)
  refine va_sld hx hb hX hbl hbA hS (iZ_in (by (first | ((try clear ex9); (try clear ha2); (try clear e2); (try clear ha1); (try clear e1); (try clear hbA); (try clear hT0); (try clear hT); (try clear Bs); (try clear Wk); (try clear Ss); (try clear hsz0); (try clear hend); (try clear hroom); omega) | omega)) (by (first | ((try clear ex9); (try clear ha2); (try clear e2); (try clear ha1); (try clear e1); (try clear hbA); (try clear hT0); (try clear hT); (try clear Bs); (try clear Wk); (try clear Ss); (try clear hsz0); (try clear hend); (try clear hroom); omega) | omega)) (by (first | ((try clear ex9); (try clear ha2); (try clear e2); (try clear ha1); (try clear e1); (try clear hbA); (try clear hT0); (try clear hT); (try clear Bs); (try clear Wk); (try clear Ss); (try clear hsz0); (try clear hend); (try clear hroom); (try clear hi); omega) | omega))) dL_law_953 ?_
  refine lv_topi (fun x9 ex9 => ?_)
  obtain rfl : x9 = iZ a2 := ex9.trans e2
  refine lv_aload_n hx hb dL_law_954 rfl (lv_at hl 4 rfl) ?_
  refine va_calli (vx_runSW (hh := [(0, 10, 13, 20), (0, 10, 17, 13)]) (As := [.ref h0, .int (iZ a1), .int (iZ a2), .ref (h0 + 6558)]) (rest := []) ⟨hx, hb, hml, hown, hts⟩ (w_would l hfl dC dI cI cL cII cR cO h0 (h0 + 6558) H.size μ f a1 a2 T (hT.1.1.1.1.1) ha1 ha2 (by (first | ((try clear ex9); (try clear ha2); (try clear e2); (try clear ha1); (try clear e1); (try clear hbA); (try clear hT0); (try clear hT); (try clear Bs); (try clear Wk); (try clear Ss); (try clear hsz0); (try clear hend); (try clear hroom); (try clear hi); omega) | omega))) (vx_cwSW 4 hts (gW_G k1012 k1013 k0 k1014) rfl rfl rfl (by decide +kernel) ⟨Nat.le_of_ble_eq_true rfl, Nat.le_of_ble_eq_true rfl⟩) ⟨fun a U g mk q => by obtain ⟨q0, q1, qP, qO, qK, qKo, qM, qE, qN⟩ := q; exact ⟨q0, q1, qP, qO, va_K.moved (u := U) (U := U.calling g mk a) (Vm.Alike.refl U.vm) qK, va_K.moved (u := U) (U := U.calling g mk a) (Vm.Alike.refl U.vm) qKo, qM, xX_call qE, qN⟩, fun U hU hW9 => ⟨rfl, by rw [hU], by rw [hU]; exact hW.1, by rw [hU]; exact hW.2.2, va_K.moved hW9.alike hK, va_K.moved hW9.alike hKo, xM_warm hW9 hM, xX_at hEx hS (fun q h => lA_w hS hsz0 (by (first | ((try clear h); (try clear q); (try clear hU); (try clear U); (try clear mk); (try clear g); (try clear ex9); (try clear ha2); (try clear e2); (try clear ha1); (try clear e1); (try clear hbA); (try clear hT0); (try clear hT); (try clear Bs); (try clear Wk); (try clear Ss); (try clear hsz0); (try clear hend); (try clear hroom); (try clear hi); omega) | omega)) q h) hU hW9, xNC_warm hW9 hNc⟩⟩ rfl rfl hl.1 rfl (lv_room (Nat.le_of_ble_eq_true rfl)) dL_law_955 ⟨by show cells + 1 ≤ 601024; (first | ((try clear ex9); (try clear ha2); (try clear e2); (try clear ha1); (try clear e1); (try clear hbA); (try clear hT0); (try clear hT); (try clear Bs); (try clear Wk); (try clear Ss); (try clear hsz0); (try clear hend); (try clear hi); omega) | omega), by show slots + 6 ≤ 7293034; (first | ((try clear ex9); (try clear ha2); (try clear e2); (try clear ha1); (try clear e1); (try clear hbA); (try clear hT0); (try clear hT); (try clear Bs); (try clear Wk); (try clear Ss); (try clear hsz0); (try clear hend); (try clear hi); omega) | omega)⟩) hS (fun q _ h => lA_w hS hsz0 (by (first | ((try clear h); (try clear ex9); (try clear ha2); (try clear e2); (try clear ha1); (try clear e1); (try clear hbA); (try clear hT0); (try clear hT); (try clear Bs); (try clear Wk); (try clear Ss); (try clear hsz0); (try clear hend); (try clear hroom); (try clear hi); omega) | omega)) q h) (lA_w hS hsz0 (by (first | ((try clear ex9); (try clear ha2); (try clear e2); (try clear ha1); (try clear e1); (try clear hbA); (try clear hT0); (try clear hT); (try clear Bs); (try clear Wk); (try clear Ss); (try clear hsz0); (try clear hend); (try clear hroom); (try clear hi); omega) | omega))) (fun r1 u9 t9 H1 locs ht9 hvm9 hw9 hB9 hz9 hk9 hS => ?_)
  obtain ⟨hP9, hO9⟩ := hB9
  rw [ht9] at hP9 hO9
  have hW := LW_w hW hk9 hP9 hO9
  have hT := LWt_c hT hw9
  obtain ⟨u1, f1⟩ := u9
  try dsimp only at hW hT
  clear hk9 hP9 hO9
  generalize H1 = H at hW hS ⊢
  refine lv_istore (lv' := [(5, .int r1), (4, .int (iZ i)), (0, .ref b), (1, .ref h0), (2, .ref (h0 + 233)), (3, .ref (h0 + 6558))]) hx hb dL_law_958 hl (by decide) rfl (fun ls hl => ?_)
  refine lv_aload_n hx hb dL_law_960 rfl (lv_at hl 4 rfl) ?_
  refine lv_aload_n hx hb dL_law_961 rfl (lv_at hl 2 rfl) ?_
  refine lv_iload hx hb dL_law_962 (lv_at hl 1 rfl) ?_
  refine lv_iconst (v := iZ 1) hx hb dL_law_964 rfl ?_
  refine lv_iadd hx hb dL_law_965 ?_
  refine lv_topi (fun x9 ex9 => ?_)
  obtain rfl : x9 = iZ (i + 1) := ex9.trans (iZ_add _ _)
  refine va_sld hx hb hX hbl hbA hS (iZ_in (by (first | ((try clear ex9); (try clear f1); (try clear u1); (try clear hT); (try clear hO9); (try clear hP9); (try clear hz9); (try clear r1); (try clear ha2); (try clear e2); (try clear ha1); (try clear e1); (try clear hbA); (try clear hT0); (try clear Bs); (try clear Wk); (try clear Ss); (try clear hsz0); (try clear hend); (try clear hroom); omega) | omega)) (by (first | ((try clear ex9); (try clear f1); (try clear u1); (try clear hT); (try clear hO9); (try clear hP9); (try clear hz9); (try clear r1); (try clear ha2); (try clear e2); (try clear ha1); (try clear e1); (try clear hbA); (try clear hT0); (try clear Bs); (try clear Wk); (try clear Ss); (try clear hsz0); (try clear hend); (try clear hroom); omega) | omega)) (by (first | ((try clear ex9); (try clear f1); (try clear u1); (try clear hT); (try clear hO9); (try clear hP9); (try clear hz9); (try clear r1); (try clear ha2); (try clear e2); (try clear ha1); (try clear e1); (try clear hbA); (try clear hT0); (try clear Bs); (try clear Wk); (try clear Ss); (try clear hsz0); (try clear hend); (try clear hroom); (try clear hi); omega) | omega))) dL_law_966 ?_
  refine lv_topi (fun x9 ex9 => ?_)
  obtain rfl : x9 = iZ a1 := ex9.trans e1
  refine lv_aload_n hx hb dL_law_967 rfl (lv_at hl 2 rfl) ?_
  refine lv_iload hx hb dL_law_968 (lv_at hl 1 rfl) ?_
  refine lv_iconst (v := iZ 2) hx hb dL_law_970 rfl ?_
  refine lv_iadd hx hb dL_law_971 ?_
  refine lv_topi (fun x9 ex9 => ?_)
  obtain rfl : x9 = iZ (i + 2) := ex9.trans (iZ_add _ _)
  refine va_sld hx hb hX hbl hbA hS (iZ_in (by (first | ((try clear ex9); (try clear f1); (try clear u1); (try clear hT); (try clear hO9); (try clear hP9); (try clear hz9); (try clear r1); (try clear ha2); (try clear e2); (try clear ha1); (try clear e1); (try clear hbA); (try clear hT0); (try clear Bs); (try clear Wk); (try clear Ss); (try clear hsz0); (try clear hend); (try clear hroom); omega) | omega)) (by (first | ((try clear ex9); (try clear f1); (try clear u1); (try clear hT); (try clear hO9); (try clear hP9); (try clear hz9); (try clear r1); (try clear ha2); (try clear e2); (try clear ha1); (try clear e1); (try clear hbA); (try clear hT0); (try clear Bs); (try clear Wk); (try clear Ss); (try clear hsz0); (try clear hend); (try clear hroom); omega) | omega)) (by (first | ((try clear ex9); (try clear f1); (try clear u1); (try clear hT); (try clear hO9); (try clear hP9); (try clear hz9); (try clear r1); (try clear ha2); (try clear e2); (try clear ha1); (try clear e1); (try clear hbA); (try clear hT0); (try clear Bs); (try clear Wk); (try clear Ss); (try clear hsz0); (try clear hend); (try clear hroom); (try clear hi); omega) | omega))) dL_law_972 ?_
  refine lv_topi (fun x9 ex9 => ?_)
  obtain rfl : x9 = iZ a2 := ex9.trans e2
  refine va_calli (va_runV (As := [.int (iZ a1), .int (iZ a2)]) (rest := []) ⟨hx, hb, hml, hown, hts⟩ (m_would l dC dI cI cZ cII cIII (h0 + 233) H.size ν a1 a2 JS hT.1.1.1.1.2.1 JS_ok ha1 ha2) (cwV 2 hts (gV_G k1695 k1696 k1697 k13 k1698) rfl rfl rfl (by decide +kernel) ⟨Nat.le_of_ble_eq_true rfl, Nat.le_of_ble_eq_true rfl⟩) ⟨fun a U g mk q => by obtain ⟨q0, q1, qP, qK⟩ := q; exact ⟨q0, q1, qP, va_K.moved (u := U) (U := U.calling g mk a) (Vm.Alike.refl U.vm) qK⟩, va_recv hKm hW.2.1 (ci := 10) (q0 := 0) rfl ((fw_get (by decide)).trans (by rw [mE_obj])), fun U hU hW9 => ⟨rfl, by rw [hU], by rw [hU]; exact hW.2.1, va_K.moved hW9.alike hKm⟩⟩ rfl rfl hl.1 rfl (lv_room (Nat.le_of_ble_eq_true rfl)) dL_law_973 ⟨by show cells + 1 + 0 ≤ 601024; (first | ((try clear ex9); (try clear f1); (try clear u1); (try clear hT); (try clear hO9); (try clear hP9); (try clear hz9); (try clear r1); (try clear ha2); (try clear e2); (try clear ha1); (try clear e1); (try clear hbA); (try clear hT0); (try clear Bs); (try clear Wk); (try clear Ss); (try clear hsz0); (try clear hend); (try clear hi); omega) | omega), by show slots + 6 + 0 ≤ 7293034; (first | ((try clear ex9); (try clear f1); (try clear u1); (try clear hT); (try clear hO9); (try clear hP9); (try clear hz9); (try clear r1); (try clear ha2); (try clear e2); (try clear ha1); (try clear e1); (try clear hbA); (try clear hT0); (try clear Bs); (try clear Wk); (try clear Ss); (try clear hsz0); (try clear hend); (try clear hi); omega) | omega)⟩) hS (fun q _ h => lA_f hS hsz0 (by (first | ((try clear h); (try clear ex9); (try clear f1); (try clear u1); (try clear hT); (try clear hO9); (try clear hP9); (try clear hz9); (try clear r1); (try clear ha2); (try clear e2); (try clear ha1); (try clear e1); (try clear hbA); (try clear hT0); (try clear Bs); (try clear Wk); (try clear Ss); (try clear hsz0); (try clear hend); (try clear hroom); (try clear hi); omega) | omega)) q h) (lA_f hS hsz0 (by (first | ((try clear ex9); (try clear f1); (try clear u1); (try clear hT); (try clear hO9); (try clear hP9); (try clear hz9); (try clear r1); (try clear ha2); (try clear e2); (try clear ha1); (try clear e1); (try clear hbA); (try clear hT0); (try clear Bs); (try clear Wk); (try clear Ss); (try clear hsz0); (try clear hend); (try clear hroom); (try clear hi); omega) | omega))) (fun r2 u9 t9 H1 locs ht9 hvm9 hw9 hB9 hz9 hk9 hS => ?_)
  obtain ⟨hP9, -⟩ := hB9
  rw [ht9] at hP9
  have hW := LW_m hW hk9 hP9
  obtain ⟨v1, q2⟩ := u9
  obtain ⟨er9, hw9⟩ := hw9
  have er2 : r2 = iZ q2 := er9
  subst er2
  have hT := LWt_ps hT hw9
  try dsimp only at hW hT
  clear hk9 hP9
  generalize H1 = H at hW hS ⊢
  refine lv_istore (lv' := [(6, .int (iZ q2)), (5, .int r1), (4, .int (iZ i)), (0, .ref b), (1, .ref h0), (2, .ref (h0 + 233)), (3, .ref (h0 + 6558))]) hx hb dL_law_976 hl (by decide) rfl (fun ls hl => ?_)
  refine lv_goto (tgt := 1468) hx hb dL_law_978 (by decide) ?_
  have hV9 : LW9 u1 v1 := ⟨T, Ss, Wk, Bs, hT⟩
  refine W.widen (k := cells + 1) (n := slots + 6) (by (first | ((try clear hT); (try clear er2); (try clear er9); (try clear q2); (try clear v1); (try clear hP9); (try clear hz9); (try clear r2); (try clear ex9); (try clear f1); (try clear u1); (try clear hO9); (try clear r1); (try clear ha2); (try clear e2); (try clear ha1); (try clear e1); (try clear hbA); (try clear hT0); (try clear Bs); (try clear Wk); (try clear Ss); (try clear hsz0); (try clear hend); (try clear hroom); (try clear hi); omega) | omega)) (by (first | ((try clear hT); (try clear er2); (try clear er9); (try clear q2); (try clear v1); (try clear hP9); (try clear hz9); (try clear r2); (try clear ex9); (try clear f1); (try clear u1); (try clear hO9); (try clear r1); (try clear ha2); (try clear e2); (try clear ha1); (try clear e1); (try clear hbA); (try clear hT0); (try clear Bs); (try clear Wk); (try clear Ss); (try clear hsz0); (try clear hend); (try clear hroom); (try clear hi); omega) | omega)) ?_
  exact hend _ _ _ H locs ls hV9 hW hS (lv_sub hl [2, 3, 4, 5, 6] rfl)
set_option maxHeartbeats 4000000 in
set_option maxRecDepth 100000 in
theorem lc_distance {p : Program} {l : Launch} {e : Env} {s : State} {m : MethodId} {below : List Frame} {meth : Method} {c : Code} {dC : Nat → ClassId} {dI : Nat → Nat → Nat} {cI cL cII cR cZ cIII cO : ClassId} {h0 b L : Nat} {xs : Nat → Int32} (C0 : lx_C p l s m c b L xs dC dI cI cL cII cR cZ cIII cO h0) {i : Int} (hi : 0 ≤ i ∧ i + 6 ≤ L) {μ ν : va_M} {f : Nat → Int64} (hV : LW9 μ ν) {cells slots : Nat} (hroom : cells + 1 ≤ 601024 ∧ slots + 6 ≤ 7293034)
    (hend : ∀ (μ ν : va_M) (f : Nat → Int64) (H : Heap) (locs : List Loc) (ls : Array Slot), LW9 μ ν → LW dC dI cI cL cII cR cZ cIII cO h0 μ ν f H → va_S (lA h0) s.heap H locs → lv_has ls 7 [(4, .int (iZ i)), (0, .ref b), (1, .ref h0), (2, .ref (h0 + 233)), (3, .ref (h0 + 6558))] → W p l e room_1 s m #[Value.ref b] below meth c H locs (cells + 1) (slots + 6) (lw_Z below #[Value.ref b] s) (F0 m 1468 ls []))
    {H : Heap} {locs : List Loc} {ls : Array Slot} (hW : LW dC dI cI cL cII cR cZ cIII cO h0 μ ν f H) (hS : va_S (lA h0) s.heap H locs) (hl : lv_has ls 7 [(4, .int (iZ i)), (0, .ref b), (1, .ref h0), (2, .ref (h0 + 233)), (3, .ref (h0 + 6558))]) : W p l e room_1 s m #[Value.ref b] below meth c H locs cells slots (lw_Z below #[Value.ref b] s) (F0 m 981 ls []) := by
  obtain ⟨hfl, hx, hb, hml, hown, hts, hX, hbl, hsz0, hL9, hK, hKm, hKo, hM, hEx, hNc⟩ := C0
  obtain ⟨T, Ss, Wk, Bs, hT⟩ := hV
  have hT : LWt T Ss Wk Bs μ ν := hT
  have hT0 := hT
  have hbA : ¬ lA h0 b := Nat.not_le.mpr (by (first | ((try clear hbA); (try clear hT0); (try clear hT); (try clear Bs); (try clear Wk); (try clear Ss); (try clear hend); (try clear hroom); (try clear hi); omega) | omega))
  obtain ⟨a1, e1, ha1⟩ := iZ_ex (xs (iZ (i + 1)).toNatClampNeg)
  obtain ⟨a2, e2, ha2⟩ := iZ_ex (xs (iZ (i + 2)).toNatClampNeg)
  refine lv_aload_n hx hb dL_law_981 rfl (lv_at hl 2 rfl) ?_
  refine lv_aload_n hx hb dL_law_982 rfl (lv_at hl 1 rfl) ?_
  refine lv_iload hx hb dL_law_983 (lv_at hl 0 rfl) ?_
  refine lv_iconst (v := iZ 1) hx hb dL_law_985 rfl ?_
  refine lv_iadd hx hb dL_law_986 ?_
  refine lv_topi (fun x9 ex9 => ?_)
  obtain rfl : x9 = iZ (i + 1) := ex9.trans (iZ_add _ _)
  refine va_sld hx hb hX hbl hbA hS (iZ_in (by (first | ((try clear ex9); (try clear ha2); (try clear e2); (try clear ha1); (try clear e1); (try clear hbA); (try clear hT0); (try clear hT); (try clear Bs); (try clear Wk); (try clear Ss); (try clear hsz0); (try clear hend); (try clear hroom); omega) | omega)) (by (first | ((try clear ex9); (try clear ha2); (try clear e2); (try clear ha1); (try clear e1); (try clear hbA); (try clear hT0); (try clear hT); (try clear Bs); (try clear Wk); (try clear Ss); (try clear hsz0); (try clear hend); (try clear hroom); omega) | omega)) (by (first | ((try clear ex9); (try clear ha2); (try clear e2); (try clear ha1); (try clear e1); (try clear hbA); (try clear hT0); (try clear hT); (try clear Bs); (try clear Wk); (try clear Ss); (try clear hsz0); (try clear hend); (try clear hroom); (try clear hi); omega) | omega))) dL_law_987 ?_
  refine lv_topi (fun x9 ex9 => ?_)
  obtain rfl : x9 = iZ a1 := ex9.trans e1
  refine lv_aload_n hx hb dL_law_988 rfl (lv_at hl 1 rfl) ?_
  refine lv_iload hx hb dL_law_989 (lv_at hl 0 rfl) ?_
  refine lv_iconst (v := iZ 2) hx hb dL_law_991 rfl ?_
  refine lv_iadd hx hb dL_law_992 ?_
  refine lv_topi (fun x9 ex9 => ?_)
  obtain rfl : x9 = iZ (i + 2) := ex9.trans (iZ_add _ _)
  refine va_sld hx hb hX hbl hbA hS (iZ_in (by (first | ((try clear ex9); (try clear ha2); (try clear e2); (try clear ha1); (try clear e1); (try clear hbA); (try clear hT0); (try clear hT); (try clear Bs); (try clear Wk); (try clear Ss); (try clear hsz0); (try clear hend); (try clear hroom); omega) | omega)) (by (first | ((try clear ex9); (try clear ha2); (try clear e2); (try clear ha1); (try clear e1); (try clear hbA); (try clear hT0); (try clear hT); (try clear Bs); (try clear Wk); (try clear Ss); (try clear hsz0); (try clear hend); (try clear hroom); omega) | omega)) (by (first | ((try clear ex9); (try clear ha2); (try clear e2); (try clear ha1); (try clear e1); (try clear hbA); (try clear hT0); (try clear hT); (try clear Bs); (try clear Wk); (try clear Ss); (try clear hsz0); (try clear hend); (try clear hroom); (try clear hi); omega) | omega))) dL_law_993 ?_
  refine lv_topi (fun x9 ex9 => ?_)
  obtain rfl : x9 = iZ a2 := ex9.trans e2
  refine lv_aload_n hx hb dL_law_994 rfl (lv_at hl 4 rfl) ?_
  refine va_calli (vx_runSW (hh := [(0, 10, 13, 20)]) (As := [.ref h0, .int (iZ a1), .int (iZ a2), .ref (h0 + 6558)]) (rest := []) ⟨hx, hb, hml, hown, hts⟩ (w_distance l hfl dC dI cI cL cII cR cO h0 (h0 + 6558) H.size μ f a1 a2 T (hT.1.1.1.1.1) ha1 ha2 (by (first | ((try clear ex9); (try clear ha2); (try clear e2); (try clear ha1); (try clear e1); (try clear hbA); (try clear hT0); (try clear hT); (try clear Bs); (try clear Wk); (try clear Ss); (try clear hsz0); (try clear hend); (try clear hroom); (try clear hi); omega) | omega))) (vx_cwSW 4 hts (gW_G k1019 k1020 k0 k1021) rfl rfl rfl (by decide +kernel) ⟨Nat.le_of_ble_eq_true rfl, Nat.le_of_ble_eq_true rfl⟩) ⟨fun a U g mk q => by obtain ⟨q0, q1, qP, qO, qK, qKo, qM, qE, qN⟩ := q; exact ⟨q0, q1, qP, qO, va_K.moved (u := U) (U := U.calling g mk a) (Vm.Alike.refl U.vm) qK, va_K.moved (u := U) (U := U.calling g mk a) (Vm.Alike.refl U.vm) qKo, qM, xX_call qE, qN⟩, fun U hU hW9 => ⟨rfl, by rw [hU], by rw [hU]; exact hW.1, by rw [hU]; exact hW.2.2, va_K.moved hW9.alike hK, va_K.moved hW9.alike hKo, xM_warm hW9 hM, xX_at hEx hS (fun q h => lA_w hS hsz0 (by (first | ((try clear h); (try clear q); (try clear hU); (try clear U); (try clear mk); (try clear g); (try clear ex9); (try clear ha2); (try clear e2); (try clear ha1); (try clear e1); (try clear hbA); (try clear hT0); (try clear hT); (try clear Bs); (try clear Wk); (try clear Ss); (try clear hsz0); (try clear hend); (try clear hroom); (try clear hi); omega) | omega)) q h) hU hW9, xNC_warm hW9 hNc⟩⟩ rfl rfl hl.1 rfl (lv_room (Nat.le_of_ble_eq_true rfl)) dL_law_995 ⟨by show cells + 1 ≤ 601024; (first | ((try clear ex9); (try clear ha2); (try clear e2); (try clear ha1); (try clear e1); (try clear hbA); (try clear hT0); (try clear hT); (try clear Bs); (try clear Wk); (try clear Ss); (try clear hsz0); (try clear hend); (try clear hi); omega) | omega), by show slots + 6 ≤ 7293034; (first | ((try clear ex9); (try clear ha2); (try clear e2); (try clear ha1); (try clear e1); (try clear hbA); (try clear hT0); (try clear hT); (try clear Bs); (try clear Wk); (try clear Ss); (try clear hsz0); (try clear hend); (try clear hi); omega) | omega)⟩) hS (fun q _ h => lA_w hS hsz0 (by (first | ((try clear h); (try clear ex9); (try clear ha2); (try clear e2); (try clear ha1); (try clear e1); (try clear hbA); (try clear hT0); (try clear hT); (try clear Bs); (try clear Wk); (try clear Ss); (try clear hsz0); (try clear hend); (try clear hroom); (try clear hi); omega) | omega)) q h) (lA_w hS hsz0 (by (first | ((try clear ex9); (try clear ha2); (try clear e2); (try clear ha1); (try clear e1); (try clear hbA); (try clear hT0); (try clear hT); (try clear Bs); (try clear Wk); (try clear Ss); (try clear hsz0); (try clear hend); (try clear hroom); (try clear hi); omega) | omega))) (fun r1 u9 t9 H1 locs ht9 hvm9 hw9 hB9 hz9 hk9 hS => ?_)
  obtain ⟨hP9, hO9⟩ := hB9
  rw [ht9] at hP9 hO9
  have hW := LW_w hW hk9 hP9 hO9
  have hT := LWt_c hT hw9
  obtain ⟨u1, f1⟩ := u9
  try dsimp only at hW hT
  clear hk9 hP9 hO9
  generalize H1 = H at hW hS ⊢
  refine lv_istore (lv' := [(5, .int r1), (4, .int (iZ i)), (0, .ref b), (1, .ref h0), (2, .ref (h0 + 233)), (3, .ref (h0 + 6558))]) hx hb dL_law_998 hl (by decide) rfl (fun ls hl => ?_)
  refine lv_aload_n hx hb dL_law_1000 rfl (lv_at hl 4 rfl) ?_
  refine lv_aload_n hx hb dL_law_1001 rfl (lv_at hl 2 rfl) ?_
  refine lv_iload hx hb dL_law_1002 (lv_at hl 1 rfl) ?_
  refine lv_iconst (v := iZ 1) hx hb dL_law_1004 rfl ?_
  refine lv_iadd hx hb dL_law_1005 ?_
  refine lv_topi (fun x9 ex9 => ?_)
  obtain rfl : x9 = iZ (i + 1) := ex9.trans (iZ_add _ _)
  refine va_sld hx hb hX hbl hbA hS (iZ_in (by (first | ((try clear ex9); (try clear f1); (try clear u1); (try clear hT); (try clear hO9); (try clear hP9); (try clear hz9); (try clear r1); (try clear ha2); (try clear e2); (try clear ha1); (try clear e1); (try clear hbA); (try clear hT0); (try clear Bs); (try clear Wk); (try clear Ss); (try clear hsz0); (try clear hend); (try clear hroom); omega) | omega)) (by (first | ((try clear ex9); (try clear f1); (try clear u1); (try clear hT); (try clear hO9); (try clear hP9); (try clear hz9); (try clear r1); (try clear ha2); (try clear e2); (try clear ha1); (try clear e1); (try clear hbA); (try clear hT0); (try clear Bs); (try clear Wk); (try clear Ss); (try clear hsz0); (try clear hend); (try clear hroom); omega) | omega)) (by (first | ((try clear ex9); (try clear f1); (try clear u1); (try clear hT); (try clear hO9); (try clear hP9); (try clear hz9); (try clear r1); (try clear ha2); (try clear e2); (try clear ha1); (try clear e1); (try clear hbA); (try clear hT0); (try clear Bs); (try clear Wk); (try clear Ss); (try clear hsz0); (try clear hend); (try clear hroom); (try clear hi); omega) | omega))) dL_law_1006 ?_
  refine lv_topi (fun x9 ex9 => ?_)
  obtain rfl : x9 = iZ a1 := ex9.trans e1
  refine lv_aload_n hx hb dL_law_1007 rfl (lv_at hl 2 rfl) ?_
  refine lv_iload hx hb dL_law_1008 (lv_at hl 1 rfl) ?_
  refine lv_iconst (v := iZ 2) hx hb dL_law_1010 rfl ?_
  refine lv_iadd hx hb dL_law_1011 ?_
  refine lv_topi (fun x9 ex9 => ?_)
  obtain rfl : x9 = iZ (i + 2) := ex9.trans (iZ_add _ _)
  refine va_sld hx hb hX hbl hbA hS (iZ_in (by (first | ((try clear ex9); (try clear f1); (try clear u1); (try clear hT); (try clear hO9); (try clear hP9); (try clear hz9); (try clear r1); (try clear ha2); (try clear e2); (try clear ha1); (try clear e1); (try clear hbA); (try clear hT0); (try clear Bs); (try clear Wk); (try clear Ss); (try clear hsz0); (try clear hend); (try clear hroom); omega) | omega)) (by (first | ((try clear ex9); (try clear f1); (try clear u1); (try clear hT); (try clear hO9); (try clear hP9); (try clear hz9); (try clear r1); (try clear ha2); (try clear e2); (try clear ha1); (try clear e1); (try clear hbA); (try clear hT0); (try clear Bs); (try clear Wk); (try clear Ss); (try clear hsz0); (try clear hend); (try clear hroom); omega) | omega)) (by (first | ((try clear ex9); (try clear f1); (try clear u1); (try clear hT); (try clear hO9); (try clear hP9); (try clear hz9); (try clear r1); (try clear ha2); (try clear e2); (try clear ha1); (try clear e1); (try clear hbA); (try clear hT0); (try clear Bs); (try clear Wk); (try clear Ss); (try clear hsz0); (try clear hend); (try clear hroom); (try clear hi); omega) | omega))) dL_law_1012 ?_
  refine lv_topi (fun x9 ex9 => ?_)
  obtain rfl : x9 = iZ a2 := ex9.trans e2
  refine va_calli (va_runV (As := [.int (iZ a1), .int (iZ a2)]) (rest := []) ⟨hx, hb, hml, hown, hts⟩ (m_distance l dC dI cI cZ cII cIII (h0 + 233) H.size ν a1 a2 JS hT.1.1.1.1.2.1 JS_ok ha1 ha2) (cwV 2 hts (gV_G k1699 k1700 k1701 k13 k1702) rfl rfl rfl (by decide +kernel) ⟨Nat.le_of_ble_eq_true rfl, Nat.le_of_ble_eq_true rfl⟩) ⟨fun a U g mk q => by obtain ⟨q0, q1, qP, qK⟩ := q; exact ⟨q0, q1, qP, va_K.moved (u := U) (U := U.calling g mk a) (Vm.Alike.refl U.vm) qK⟩, va_recv hKm hW.2.1 (ci := 10) (q0 := 0) rfl ((fw_get (by decide)).trans (by rw [mE_obj])), fun U hU hW9 => ⟨rfl, by rw [hU], by rw [hU]; exact hW.2.1, va_K.moved hW9.alike hKm⟩⟩ rfl rfl hl.1 rfl (lv_room (Nat.le_of_ble_eq_true rfl)) dL_law_1013 ⟨by show cells + 1 + 0 ≤ 601024; (first | ((try clear ex9); (try clear f1); (try clear u1); (try clear hT); (try clear hO9); (try clear hP9); (try clear hz9); (try clear r1); (try clear ha2); (try clear e2); (try clear ha1); (try clear e1); (try clear hbA); (try clear hT0); (try clear Bs); (try clear Wk); (try clear Ss); (try clear hsz0); (try clear hend); (try clear hi); omega) | omega), by show slots + 6 + 0 ≤ 7293034; (first | ((try clear ex9); (try clear f1); (try clear u1); (try clear hT); (try clear hO9); (try clear hP9); (try clear hz9); (try clear r1); (try clear ha2); (try clear e2); (try clear ha1); (try clear e1); (try clear hbA); (try clear hT0); (try clear Bs); (try clear Wk); (try clear Ss); (try clear hsz0); (try clear hend); (try clear hi); omega) | omega)⟩) hS (fun q _ h => lA_f hS hsz0 (by (first | ((try clear h); (try clear ex9); (try clear f1); (try clear u1); (try clear hT); (try clear hO9); (try clear hP9); (try clear hz9); (try clear r1); (try clear ha2); (try clear e2); (try clear ha1); (try clear e1); (try clear hbA); (try clear hT0); (try clear Bs); (try clear Wk); (try clear Ss); (try clear hsz0); (try clear hend); (try clear hroom); (try clear hi); omega) | omega)) q h) (lA_f hS hsz0 (by (first | ((try clear ex9); (try clear f1); (try clear u1); (try clear hT); (try clear hO9); (try clear hP9); (try clear hz9); (try clear r1); (try clear ha2); (try clear e2); (try clear ha1); (try clear e1); (try clear hbA); (try clear hT0); (try clear Bs); (try clear Wk); (try clear Ss); (try clear hsz0); (try clear hend); (try clear hroom); (try clear hi); omega) | omega))) (fun r2 u9 t9 H1 locs ht9 hvm9 hw9 hB9 hz9 hk9 hS => ?_)
  obtain ⟨hP9, -⟩ := hB9
  rw [ht9] at hP9
  have hW := LW_m hW hk9 hP9
  obtain ⟨v1, q2⟩ := u9
  obtain ⟨er9, hw9⟩ := hw9
  have er2 : r2 = iZ q2 := er9
  subst er2
  have hT := LWt_ps hT hw9
  try dsimp only at hW hT
  clear hk9 hP9
  generalize H1 = H at hW hS ⊢
  refine lv_istore (lv' := [(6, .int (iZ q2)), (5, .int r1), (4, .int (iZ i)), (0, .ref b), (1, .ref h0), (2, .ref (h0 + 233)), (3, .ref (h0 + 6558))]) hx hb dL_law_1016 hl (by decide) rfl (fun ls hl => ?_)
  refine lv_goto (tgt := 1468) hx hb dL_law_1018 (by decide) ?_
  have hV9 : LW9 u1 v1 := ⟨T, Ss, Wk, Bs, hT⟩
  refine W.widen (k := cells + 1) (n := slots + 6) (by (first | ((try clear hT); (try clear er2); (try clear er9); (try clear q2); (try clear v1); (try clear hP9); (try clear hz9); (try clear r2); (try clear ex9); (try clear f1); (try clear u1); (try clear hO9); (try clear r1); (try clear ha2); (try clear e2); (try clear ha1); (try clear e1); (try clear hbA); (try clear hT0); (try clear Bs); (try clear Wk); (try clear Ss); (try clear hsz0); (try clear hend); (try clear hroom); (try clear hi); omega) | omega)) (by (first | ((try clear hT); (try clear er2); (try clear er9); (try clear q2); (try clear v1); (try clear hP9); (try clear hz9); (try clear r2); (try clear ex9); (try clear f1); (try clear u1); (try clear hO9); (try clear r1); (try clear ha2); (try clear e2); (try clear ha1); (try clear e1); (try clear hbA); (try clear hT0); (try clear Bs); (try clear Wk); (try clear Ss); (try clear hsz0); (try clear hend); (try clear hroom); (try clear hi); omega) | omega)) ?_
  exact hend _ _ _ H locs ls hV9 hW hS (lv_sub hl [2, 3, 4, 5, 6] rfl)
set_option maxHeartbeats 4000000 in
set_option maxRecDepth 100000 in
theorem lc_nearest {p : Program} {l : Launch} {e : Env} {s : State} {m : MethodId} {below : List Frame} {meth : Method} {c : Code} {dC : Nat → ClassId} {dI : Nat → Nat → Nat} {cI cL cII cR cZ cIII cO : ClassId} {h0 b L : Nat} {xs : Nat → Int32} (C0 : lx_C p l s m c b L xs dC dI cI cL cII cR cZ cIII cO h0) {i : Int} (hi : 0 ≤ i ∧ i + 6 ≤ L) {μ ν : va_M} {f : Nat → Int64} (hV : LW9 μ ν) {cells slots : Nat} (hroom : cells + 1 ≤ 601024 ∧ slots + 6 ≤ 7293034)
    (hend : ∀ (μ ν : va_M) (f : Nat → Int64) (H : Heap) (locs : List Loc) (ls : Array Slot), LW9 μ ν → LW dC dI cI cL cII cR cZ cIII cO h0 μ ν f H → va_S (lA h0) s.heap H locs → lv_has ls 7 [(4, .int (iZ i)), (0, .ref b), (1, .ref h0), (2, .ref (h0 + 233)), (3, .ref (h0 + 6558))] → W p l e room_1 s m #[Value.ref b] below meth c H locs (cells + 1) (slots + 6) (lw_Z below #[Value.ref b] s) (F0 m 1468 ls []))
    {H : Heap} {locs : List Loc} {ls : Array Slot} (hW : LW dC dI cI cL cII cR cZ cIII cO h0 μ ν f H) (hS : va_S (lA h0) s.heap H locs) (hl : lv_has ls 7 [(4, .int (iZ i)), (0, .ref b), (1, .ref h0), (2, .ref (h0 + 233)), (3, .ref (h0 + 6558))]) : W p l e room_1 s m #[Value.ref b] below meth c H locs cells slots (lw_Z below #[Value.ref b] s) (F0 m 1021 ls []) := by
  obtain ⟨hfl, hx, hb, hml, hown, hts, hX, hbl, hsz0, hL9, hK, hKm, hKo, hM, hEx, hNc⟩ := C0
  obtain ⟨T, Ss, Wk, Bs, hT⟩ := hV
  have hT : LWt T Ss Wk Bs μ ν := hT
  have hT0 := hT
  have hbA : ¬ lA h0 b := Nat.not_le.mpr (by (first | ((try clear hbA); (try clear hT0); (try clear hT); (try clear Bs); (try clear Wk); (try clear Ss); (try clear hend); (try clear hroom); (try clear hi); omega) | omega))
  obtain ⟨a1, e1, ha1⟩ := iZ_ex (xs (iZ (i + 1)).toNatClampNeg)
  refine lv_aload_n hx hb dL_law_1021 rfl (lv_at hl 2 rfl) ?_
  refine lv_aload_n hx hb dL_law_1022 rfl (lv_at hl 1 rfl) ?_
  refine lv_iload hx hb dL_law_1023 (lv_at hl 0 rfl) ?_
  refine lv_iconst (v := iZ 1) hx hb dL_law_1025 rfl ?_
  refine lv_iadd hx hb dL_law_1026 ?_
  refine lv_topi (fun x9 ex9 => ?_)
  obtain rfl : x9 = iZ (i + 1) := ex9.trans (iZ_add _ _)
  refine va_sld hx hb hX hbl hbA hS (iZ_in (by (first | ((try clear ex9); (try clear ha1); (try clear e1); (try clear hbA); (try clear hT0); (try clear hT); (try clear Bs); (try clear Wk); (try clear Ss); (try clear hsz0); (try clear hend); (try clear hroom); omega) | omega)) (by (first | ((try clear ex9); (try clear ha1); (try clear e1); (try clear hbA); (try clear hT0); (try clear hT); (try clear Bs); (try clear Wk); (try clear Ss); (try clear hsz0); (try clear hend); (try clear hroom); omega) | omega)) (by (first | ((try clear ex9); (try clear ha1); (try clear e1); (try clear hbA); (try clear hT0); (try clear hT); (try clear Bs); (try clear Wk); (try clear Ss); (try clear hsz0); (try clear hend); (try clear hroom); (try clear hi); omega) | omega))) dL_law_1027 ?_
  refine lv_topi (fun x9 ex9 => ?_)
  obtain rfl : x9 = iZ a1 := ex9.trans e1
  refine lv_aload_n hx hb dL_law_1028 rfl (lv_at hl 4 rfl) ?_
  refine va_calli (vx_runSW (hh := [(0, 9, 12, 20)]) (As := [.ref h0, .int (iZ a1), .ref (h0 + 6558)]) (rest := []) ⟨hx, hb, hml, hown, hts⟩ (w_nearest l hfl dC dI cI cL cII cR cO h0 (h0 + 6558) H.size μ f a1 T (hT.1.1.1.1.1) ha1 (by (first | ((try clear ex9); (try clear ha1); (try clear e1); (try clear hbA); (try clear hT0); (try clear hT); (try clear Bs); (try clear Wk); (try clear Ss); (try clear hsz0); (try clear hend); (try clear hroom); (try clear hi); omega) | omega))) (vx_cwSW 3 hts (gW_G k1030 k1031 k0 k1032) rfl rfl rfl (by decide +kernel) ⟨Nat.le_of_ble_eq_true rfl, Nat.le_of_ble_eq_true rfl⟩) ⟨fun a U g mk q => by obtain ⟨q0, q1, qP, qO, qK, qKo, qM, qE, qN⟩ := q; exact ⟨q0, q1, qP, qO, va_K.moved (u := U) (U := U.calling g mk a) (Vm.Alike.refl U.vm) qK, va_K.moved (u := U) (U := U.calling g mk a) (Vm.Alike.refl U.vm) qKo, qM, xX_call qE, qN⟩, fun U hU hW9 => ⟨rfl, by rw [hU], by rw [hU]; exact hW.1, by rw [hU]; exact hW.2.2, va_K.moved hW9.alike hK, va_K.moved hW9.alike hKo, xM_warm hW9 hM, xX_at hEx hS (fun q h => lA_w hS hsz0 (by (first | ((try clear h); (try clear q); (try clear hU); (try clear U); (try clear mk); (try clear g); (try clear ex9); (try clear ha1); (try clear e1); (try clear hbA); (try clear hT0); (try clear hT); (try clear Bs); (try clear Wk); (try clear Ss); (try clear hsz0); (try clear hend); (try clear hroom); (try clear hi); omega) | omega)) q h) hU hW9, xNC_warm hW9 hNc⟩⟩ rfl rfl hl.1 rfl (lv_room (Nat.le_of_ble_eq_true rfl)) dL_law_1029 ⟨by show cells + 1 ≤ 601024; (first | ((try clear ex9); (try clear ha1); (try clear e1); (try clear hbA); (try clear hT0); (try clear hT); (try clear Bs); (try clear Wk); (try clear Ss); (try clear hsz0); (try clear hend); (try clear hi); omega) | omega), by show slots + 6 ≤ 7293034; (first | ((try clear ex9); (try clear ha1); (try clear e1); (try clear hbA); (try clear hT0); (try clear hT); (try clear Bs); (try clear Wk); (try clear Ss); (try clear hsz0); (try clear hend); (try clear hi); omega) | omega)⟩) hS (fun q _ h => lA_w hS hsz0 (by (first | ((try clear h); (try clear ex9); (try clear ha1); (try clear e1); (try clear hbA); (try clear hT0); (try clear hT); (try clear Bs); (try clear Wk); (try clear Ss); (try clear hsz0); (try clear hend); (try clear hroom); (try clear hi); omega) | omega)) q h) (lA_w hS hsz0 (by (first | ((try clear ex9); (try clear ha1); (try clear e1); (try clear hbA); (try clear hT0); (try clear hT); (try clear Bs); (try clear Wk); (try clear Ss); (try clear hsz0); (try clear hend); (try clear hroom); (try clear hi); omega) | omega))) (fun r1 u9 t9 H1 locs ht9 hvm9 hw9 hB9 hz9 hk9 hS => ?_)
  obtain ⟨hP9, hO9⟩ := hB9
  rw [ht9] at hP9 hO9
  have hW := LW_w hW hk9 hP9 hO9
  have hT := LWt_c hT hw9
  obtain ⟨u1, f1⟩ := u9
  try dsimp only at hW hT
  clear hk9 hP9 hO9
  generalize H1 = H at hW hS ⊢
  refine lv_istore (lv' := [(5, .int r1), (4, .int (iZ i)), (0, .ref b), (1, .ref h0), (2, .ref (h0 + 233)), (3, .ref (h0 + 6558))]) hx hb dL_law_1032 hl (by decide) rfl (fun ls hl => ?_)
  refine lv_aload_n hx hb dL_law_1034 rfl (lv_at hl 4 rfl) ?_
  refine lv_aload_n hx hb dL_law_1035 rfl (lv_at hl 2 rfl) ?_
  refine lv_iload hx hb dL_law_1036 (lv_at hl 1 rfl) ?_
  refine lv_iconst (v := iZ 1) hx hb dL_law_1038 rfl ?_
  refine lv_iadd hx hb dL_law_1039 ?_
  refine lv_topi (fun x9 ex9 => ?_)
  obtain rfl : x9 = iZ (i + 1) := ex9.trans (iZ_add _ _)
  refine va_sld hx hb hX hbl hbA hS (iZ_in (by (first | ((try clear ex9); (try clear f1); (try clear u1); (try clear hT); (try clear hO9); (try clear hP9); (try clear hz9); (try clear r1); (try clear ha1); (try clear e1); (try clear hbA); (try clear hT0); (try clear Bs); (try clear Wk); (try clear Ss); (try clear hsz0); (try clear hend); (try clear hroom); omega) | omega)) (by (first | ((try clear ex9); (try clear f1); (try clear u1); (try clear hT); (try clear hO9); (try clear hP9); (try clear hz9); (try clear r1); (try clear ha1); (try clear e1); (try clear hbA); (try clear hT0); (try clear Bs); (try clear Wk); (try clear Ss); (try clear hsz0); (try clear hend); (try clear hroom); omega) | omega)) (by (first | ((try clear ex9); (try clear f1); (try clear u1); (try clear hT); (try clear hO9); (try clear hP9); (try clear hz9); (try clear r1); (try clear ha1); (try clear e1); (try clear hbA); (try clear hT0); (try clear Bs); (try clear Wk); (try clear Ss); (try clear hsz0); (try clear hend); (try clear hroom); (try clear hi); omega) | omega))) dL_law_1040 ?_
  refine lv_topi (fun x9 ex9 => ?_)
  obtain rfl : x9 = iZ a1 := ex9.trans e1
  refine va_calli (va_runV (As := [.int (iZ a1)]) (rest := []) ⟨hx, hb, hml, hown, hts⟩ (m_nearest l dC dI cI cZ cII cIII (h0 + 233) H.size ν a1 JS hT.1.1.1.1.2.1 JS_ok ha1) (cwV 1 hts (gV_G k1707 k1708 k1709 k13 k1710) rfl rfl rfl (by decide +kernel) ⟨Nat.le_of_ble_eq_true rfl, Nat.le_of_ble_eq_true rfl⟩) ⟨fun a U g mk q => by obtain ⟨q0, q1, qP, qK⟩ := q; exact ⟨q0, q1, qP, va_K.moved (u := U) (U := U.calling g mk a) (Vm.Alike.refl U.vm) qK⟩, va_recv hKm hW.2.1 (ci := 10) (q0 := 0) rfl ((fw_get (by decide)).trans (by rw [mE_obj])), fun U hU hW9 => ⟨rfl, by rw [hU], by rw [hU]; exact hW.2.1, va_K.moved hW9.alike hKm⟩⟩ rfl rfl hl.1 rfl (lv_room (Nat.le_of_ble_eq_true rfl)) dL_law_1041 ⟨by show cells + 1 + 0 ≤ 601024; (first | ((try clear ex9); (try clear f1); (try clear u1); (try clear hT); (try clear hO9); (try clear hP9); (try clear hz9); (try clear r1); (try clear ha1); (try clear e1); (try clear hbA); (try clear hT0); (try clear Bs); (try clear Wk); (try clear Ss); (try clear hsz0); (try clear hend); (try clear hi); omega) | omega), by show slots + 6 + 0 ≤ 7293034; (first | ((try clear ex9); (try clear f1); (try clear u1); (try clear hT); (try clear hO9); (try clear hP9); (try clear hz9); (try clear r1); (try clear ha1); (try clear e1); (try clear hbA); (try clear hT0); (try clear Bs); (try clear Wk); (try clear Ss); (try clear hsz0); (try clear hend); (try clear hi); omega) | omega)⟩) hS (fun q _ h => lA_f hS hsz0 (by (first | ((try clear h); (try clear ex9); (try clear f1); (try clear u1); (try clear hT); (try clear hO9); (try clear hP9); (try clear hz9); (try clear r1); (try clear ha1); (try clear e1); (try clear hbA); (try clear hT0); (try clear Bs); (try clear Wk); (try clear Ss); (try clear hsz0); (try clear hend); (try clear hroom); (try clear hi); omega) | omega)) q h) (lA_f hS hsz0 (by (first | ((try clear ex9); (try clear f1); (try clear u1); (try clear hT); (try clear hO9); (try clear hP9); (try clear hz9); (try clear r1); (try clear ha1); (try clear e1); (try clear hbA); (try clear hT0); (try clear Bs); (try clear Wk); (try clear Ss); (try clear hsz0); (try clear hend); (try clear hroom); (try clear hi); omega) | omega))) (fun r2 u9 t9 H1 locs ht9 hvm9 hw9 hB9 hz9 hk9 hS => ?_)
  obtain ⟨hP9, -⟩ := hB9
  rw [ht9] at hP9
  have hW := LW_m hW hk9 hP9
  obtain ⟨v1, q2⟩ := u9
  obtain ⟨er9, hw9⟩ := hw9
  have er2 : r2 = iZ q2 := er9
  subst er2
  have hT := LWt_ps hT hw9
  try dsimp only at hW hT
  clear hk9 hP9
  generalize H1 = H at hW hS ⊢
  refine lv_istore (lv' := [(6, .int (iZ q2)), (5, .int r1), (4, .int (iZ i)), (0, .ref b), (1, .ref h0), (2, .ref (h0 + 233)), (3, .ref (h0 + 6558))]) hx hb dL_law_1044 hl (by decide) rfl (fun ls hl => ?_)
  refine lv_goto (tgt := 1468) hx hb dL_law_1046 (by decide) ?_
  have hV9 : LW9 u1 v1 := ⟨T, Ss, Wk, Bs, hT⟩
  refine W.widen (k := cells + 1) (n := slots + 6) (by (first | ((try clear hT); (try clear er2); (try clear er9); (try clear q2); (try clear v1); (try clear hP9); (try clear hz9); (try clear r2); (try clear ex9); (try clear f1); (try clear u1); (try clear hO9); (try clear r1); (try clear ha1); (try clear e1); (try clear hbA); (try clear hT0); (try clear Bs); (try clear Wk); (try clear Ss); (try clear hsz0); (try clear hend); (try clear hroom); (try clear hi); omega) | omega)) (by (first | ((try clear hT); (try clear er2); (try clear er9); (try clear q2); (try clear v1); (try clear hP9); (try clear hz9); (try clear r2); (try clear ex9); (try clear f1); (try clear u1); (try clear hO9); (try clear r1); (try clear ha1); (try clear e1); (try clear hbA); (try clear hT0); (try clear Bs); (try clear Wk); (try clear Ss); (try clear hsz0); (try clear hend); (try clear hroom); (try clear hi); omega) | omega)) ?_
  exact hend _ _ _ H locs ls hV9 hW hS (lv_sub hl [2, 3, 4, 5, 6] rfl)
set_option maxHeartbeats 4000000 in
set_option maxRecDepth 100000 in
theorem lc_orders {p : Program} {l : Launch} {e : Env} {s : State} {m : MethodId} {below : List Frame} {meth : Method} {c : Code} {dC : Nat → ClassId} {dI : Nat → Nat → Nat} {cI cL cII cR cZ cIII cO : ClassId} {h0 b L : Nat} {xs : Nat → Int32} (C0 : lx_C p l s m c b L xs dC dI cI cL cII cR cZ cIII cO h0) {i : Int} (hi : 0 ≤ i ∧ i + 6 ≤ L) {μ ν : va_M} {f : Nat → Int64} (hV : LW9 μ ν) {cells slots : Nat} (hroom : cells + 1 ≤ 601024 ∧ slots + 6 ≤ 7293034)
    (hend : ∀ (μ ν : va_M) (f : Nat → Int64) (H : Heap) (locs : List Loc) (ls : Array Slot), LW9 μ ν → LW dC dI cI cL cII cR cZ cIII cO h0 μ ν f H → va_S (lA h0) s.heap H locs → lv_has ls 7 [(4, .int (iZ i)), (0, .ref b), (1, .ref h0), (2, .ref (h0 + 233)), (3, .ref (h0 + 6558))] → W p l e room_1 s m #[Value.ref b] below meth c H locs (cells + 1) (slots + 6) (lw_Z below #[Value.ref b] s) (F0 m 1468 ls []))
    {H : Heap} {locs : List Loc} {ls : Array Slot} (hW : LW dC dI cI cL cII cR cZ cIII cO h0 μ ν f H) (hS : va_S (lA h0) s.heap H locs) (hl : lv_has ls 7 [(4, .int (iZ i)), (0, .ref b), (1, .ref h0), (2, .ref (h0 + 233)), (3, .ref (h0 + 6558))]) : W p l e room_1 s m #[Value.ref b] below meth c H locs cells slots (lw_Z below #[Value.ref b] s) (F0 m 1049 ls []) := by
  obtain ⟨hfl, hx, hb, hml, hown, hts, hX, hbl, hsz0, hL9, hK, hKm, hKo, hM, hEx, hNc⟩ := C0
  obtain ⟨T, Ss, Wk, Bs, hT⟩ := hV
  have hT : LWt T Ss Wk Bs μ ν := hT
  have hT0 := hT
  have hbA : ¬ lA h0 b := Nat.not_le.mpr (by (first | ((try clear hbA); (try clear hT0); (try clear hT); (try clear Bs); (try clear Wk); (try clear Ss); (try clear hend); (try clear hroom); (try clear hi); omega) | omega))
  obtain ⟨a1, e1, ha1⟩ := iZ_ex (xs (iZ (i + 1)).toNatClampNeg)
  refine lv_aload_n hx hb dL_law_1049 rfl (lv_at hl 2 rfl) ?_
  refine lv_aload_n hx hb dL_law_1050 rfl (lv_at hl 1 rfl) ?_
  refine lv_iload hx hb dL_law_1051 (lv_at hl 0 rfl) ?_
  refine lv_iconst (v := iZ 1) hx hb dL_law_1053 rfl ?_
  refine lv_iadd hx hb dL_law_1054 ?_
  refine lv_topi (fun x9 ex9 => ?_)
  obtain rfl : x9 = iZ (i + 1) := ex9.trans (iZ_add _ _)
  refine va_sld hx hb hX hbl hbA hS (iZ_in (by (first | ((try clear ex9); (try clear ha1); (try clear e1); (try clear hbA); (try clear hT0); (try clear hT); (try clear Bs); (try clear Wk); (try clear Ss); (try clear hsz0); (try clear hend); (try clear hroom); omega) | omega)) (by (first | ((try clear ex9); (try clear ha1); (try clear e1); (try clear hbA); (try clear hT0); (try clear hT); (try clear Bs); (try clear Wk); (try clear Ss); (try clear hsz0); (try clear hend); (try clear hroom); omega) | omega)) (by (first | ((try clear ex9); (try clear ha1); (try clear e1); (try clear hbA); (try clear hT0); (try clear hT); (try clear Bs); (try clear Wk); (try clear Ss); (try clear hsz0); (try clear hend); (try clear hroom); (try clear hi); omega) | omega))) dL_law_1055 ?_
  refine lv_topi (fun x9 ex9 => ?_)
  obtain rfl : x9 = iZ a1 := ex9.trans e1
  refine lv_aload_n hx hb dL_law_1056 rfl (lv_at hl 4 rfl) ?_
  refine va_calli (vx_runSW (hh := [(0, 9, 12, 13), (0, 9, 15, 15)]) (As := [.ref h0, .int (iZ a1), .ref (h0 + 6558)]) (rest := []) ⟨hx, hb, hml, hown, hts⟩ (w_orders l hfl dC dI cI cL cII cR cO h0 (h0 + 6558) H.size μ f a1 T (hT.1.1.1.1.1) ha1 (by (first | ((try clear ex9); (try clear ha1); (try clear e1); (try clear hbA); (try clear hT0); (try clear hT); (try clear Bs); (try clear Wk); (try clear Ss); (try clear hsz0); (try clear hend); (try clear hroom); (try clear hi); omega) | omega))) (vx_cwSW 3 hts (gW_G k1038 k1039 k0 k1040) rfl rfl rfl (by decide +kernel) ⟨Nat.le_of_ble_eq_true rfl, Nat.le_of_ble_eq_true rfl⟩) ⟨fun a U g mk q => by obtain ⟨q0, q1, qP, qO, qK, qKo, qM, qE, qN⟩ := q; exact ⟨q0, q1, qP, qO, va_K.moved (u := U) (U := U.calling g mk a) (Vm.Alike.refl U.vm) qK, va_K.moved (u := U) (U := U.calling g mk a) (Vm.Alike.refl U.vm) qKo, qM, xX_call qE, qN⟩, fun U hU hW9 => ⟨rfl, by rw [hU], by rw [hU]; exact hW.1, by rw [hU]; exact hW.2.2, va_K.moved hW9.alike hK, va_K.moved hW9.alike hKo, xM_warm hW9 hM, xX_at hEx hS (fun q h => lA_w hS hsz0 (by (first | ((try clear h); (try clear q); (try clear hU); (try clear U); (try clear mk); (try clear g); (try clear ex9); (try clear ha1); (try clear e1); (try clear hbA); (try clear hT0); (try clear hT); (try clear Bs); (try clear Wk); (try clear Ss); (try clear hsz0); (try clear hend); (try clear hroom); (try clear hi); omega) | omega)) q h) hU hW9, xNC_warm hW9 hNc⟩⟩ rfl rfl hl.1 rfl (lv_room (Nat.le_of_ble_eq_true rfl)) dL_law_1057 ⟨by show cells + 1 ≤ 601024; (first | ((try clear ex9); (try clear ha1); (try clear e1); (try clear hbA); (try clear hT0); (try clear hT); (try clear Bs); (try clear Wk); (try clear Ss); (try clear hsz0); (try clear hend); (try clear hi); omega) | omega), by show slots + 6 ≤ 7293034; (first | ((try clear ex9); (try clear ha1); (try clear e1); (try clear hbA); (try clear hT0); (try clear hT); (try clear Bs); (try clear Wk); (try clear Ss); (try clear hsz0); (try clear hend); (try clear hi); omega) | omega)⟩) hS (fun q _ h => lA_w hS hsz0 (by (first | ((try clear h); (try clear ex9); (try clear ha1); (try clear e1); (try clear hbA); (try clear hT0); (try clear hT); (try clear Bs); (try clear Wk); (try clear Ss); (try clear hsz0); (try clear hend); (try clear hroom); (try clear hi); omega) | omega)) q h) (lA_w hS hsz0 (by (first | ((try clear ex9); (try clear ha1); (try clear e1); (try clear hbA); (try clear hT0); (try clear hT); (try clear Bs); (try clear Wk); (try clear Ss); (try clear hsz0); (try clear hend); (try clear hroom); (try clear hi); omega) | omega))) (fun r1 u9 t9 H1 locs ht9 hvm9 hw9 hB9 hz9 hk9 hS => ?_)
  obtain ⟨hP9, hO9⟩ := hB9
  rw [ht9] at hP9 hO9
  have hW := LW_w hW hk9 hP9 hO9
  have hT := LWt_c hT hw9
  obtain ⟨u1, f1⟩ := u9
  try dsimp only at hW hT
  clear hk9 hP9 hO9
  generalize H1 = H at hW hS ⊢
  refine lv_istore (lv' := [(5, .int r1), (4, .int (iZ i)), (0, .ref b), (1, .ref h0), (2, .ref (h0 + 233)), (3, .ref (h0 + 6558))]) hx hb dL_law_1060 hl (by decide) rfl (fun ls hl => ?_)
  refine lv_aload_n hx hb dL_law_1062 rfl (lv_at hl 4 rfl) ?_
  refine lv_aload_n hx hb dL_law_1063 rfl (lv_at hl 2 rfl) ?_
  refine lv_iload hx hb dL_law_1064 (lv_at hl 1 rfl) ?_
  refine lv_iconst (v := iZ 1) hx hb dL_law_1066 rfl ?_
  refine lv_iadd hx hb dL_law_1067 ?_
  refine lv_topi (fun x9 ex9 => ?_)
  obtain rfl : x9 = iZ (i + 1) := ex9.trans (iZ_add _ _)
  refine va_sld hx hb hX hbl hbA hS (iZ_in (by (first | ((try clear ex9); (try clear f1); (try clear u1); (try clear hT); (try clear hO9); (try clear hP9); (try clear hz9); (try clear r1); (try clear ha1); (try clear e1); (try clear hbA); (try clear hT0); (try clear Bs); (try clear Wk); (try clear Ss); (try clear hsz0); (try clear hend); (try clear hroom); omega) | omega)) (by (first | ((try clear ex9); (try clear f1); (try clear u1); (try clear hT); (try clear hO9); (try clear hP9); (try clear hz9); (try clear r1); (try clear ha1); (try clear e1); (try clear hbA); (try clear hT0); (try clear Bs); (try clear Wk); (try clear Ss); (try clear hsz0); (try clear hend); (try clear hroom); omega) | omega)) (by (first | ((try clear ex9); (try clear f1); (try clear u1); (try clear hT); (try clear hO9); (try clear hP9); (try clear hz9); (try clear r1); (try clear ha1); (try clear e1); (try clear hbA); (try clear hT0); (try clear Bs); (try clear Wk); (try clear Ss); (try clear hsz0); (try clear hend); (try clear hroom); (try clear hi); omega) | omega))) dL_law_1068 ?_
  refine lv_topi (fun x9 ex9 => ?_)
  obtain rfl : x9 = iZ a1 := ex9.trans e1
  refine va_calli (va_runV (As := [.int (iZ a1)]) (rest := []) ⟨hx, hb, hml, hown, hts⟩ (m_orders l dC dI cI cZ cII cIII (h0 + 233) H.size ν a1 JS hT.1.1.1.1.2.1 JS_ok ha1) (cwV 1 hts (gV_G k1711 k1712 k1713 k13 k1714) rfl rfl rfl (by decide +kernel) ⟨Nat.le_of_ble_eq_true rfl, Nat.le_of_ble_eq_true rfl⟩) ⟨fun a U g mk q => by obtain ⟨q0, q1, qP, qK⟩ := q; exact ⟨q0, q1, qP, va_K.moved (u := U) (U := U.calling g mk a) (Vm.Alike.refl U.vm) qK⟩, va_recv hKm hW.2.1 (ci := 10) (q0 := 0) rfl ((fw_get (by decide)).trans (by rw [mE_obj])), fun U hU hW9 => ⟨rfl, by rw [hU], by rw [hU]; exact hW.2.1, va_K.moved hW9.alike hKm⟩⟩ rfl rfl hl.1 rfl (lv_room (Nat.le_of_ble_eq_true rfl)) dL_law_1069 ⟨by show cells + 1 + 0 ≤ 601024; (first | ((try clear ex9); (try clear f1); (try clear u1); (try clear hT); (try clear hO9); (try clear hP9); (try clear hz9); (try clear r1); (try clear ha1); (try clear e1); (try clear hbA); (try clear hT0); (try clear Bs); (try clear Wk); (try clear Ss); (try clear hsz0); (try clear hend); (try clear hi); omega) | omega), by show slots + 6 + 0 ≤ 7293034; (first | ((try clear ex9); (try clear f1); (try clear u1); (try clear hT); (try clear hO9); (try clear hP9); (try clear hz9); (try clear r1); (try clear ha1); (try clear e1); (try clear hbA); (try clear hT0); (try clear Bs); (try clear Wk); (try clear Ss); (try clear hsz0); (try clear hend); (try clear hi); omega) | omega)⟩) hS (fun q _ h => lA_f hS hsz0 (by (first | ((try clear h); (try clear ex9); (try clear f1); (try clear u1); (try clear hT); (try clear hO9); (try clear hP9); (try clear hz9); (try clear r1); (try clear ha1); (try clear e1); (try clear hbA); (try clear hT0); (try clear Bs); (try clear Wk); (try clear Ss); (try clear hsz0); (try clear hend); (try clear hroom); (try clear hi); omega) | omega)) q h) (lA_f hS hsz0 (by (first | ((try clear ex9); (try clear f1); (try clear u1); (try clear hT); (try clear hO9); (try clear hP9); (try clear hz9); (try clear r1); (try clear ha1); (try clear e1); (try clear hbA); (try clear hT0); (try clear Bs); (try clear Wk); (try clear Ss); (try clear hsz0); (try clear hend); (try clear hroom); (try clear hi); omega) | omega))) (fun r2 u9 t9 H1 locs ht9 hvm9 hw9 hB9 hz9 hk9 hS => ?_)
  obtain ⟨hP9, -⟩ := hB9
  rw [ht9] at hP9
  have hW := LW_m hW hk9 hP9
  obtain ⟨v1, q2⟩ := u9
  obtain ⟨er9, hw9⟩ := hw9
  have er2 : r2 = iZ q2 := er9
  subst er2
  have hT := LWt_ps hT hw9
  try dsimp only at hW hT
  clear hk9 hP9
  generalize H1 = H at hW hS ⊢
  refine lv_istore (lv' := [(6, .int (iZ q2)), (5, .int r1), (4, .int (iZ i)), (0, .ref b), (1, .ref h0), (2, .ref (h0 + 233)), (3, .ref (h0 + 6558))]) hx hb dL_law_1072 hl (by decide) rfl (fun ls hl => ?_)
  refine lv_goto (tgt := 1468) hx hb dL_law_1074 (by decide) ?_
  have hV9 : LW9 u1 v1 := ⟨T, Ss, Wk, Bs, hT⟩
  refine W.widen (k := cells + 1) (n := slots + 6) (by (first | ((try clear hT); (try clear er2); (try clear er9); (try clear q2); (try clear v1); (try clear hP9); (try clear hz9); (try clear r2); (try clear ex9); (try clear f1); (try clear u1); (try clear hO9); (try clear r1); (try clear ha1); (try clear e1); (try clear hbA); (try clear hT0); (try clear Bs); (try clear Wk); (try clear Ss); (try clear hsz0); (try clear hend); (try clear hroom); (try clear hi); omega) | omega)) (by (first | ((try clear hT); (try clear er2); (try clear er9); (try clear q2); (try clear v1); (try clear hP9); (try clear hz9); (try clear r2); (try clear ex9); (try clear f1); (try clear u1); (try clear hO9); (try clear r1); (try clear ha1); (try clear e1); (try clear hbA); (try clear hT0); (try clear Bs); (try clear Wk); (try clear Ss); (try clear hsz0); (try clear hend); (try clear hroom); (try clear hi); omega) | omega)) ?_
  exact hend _ _ _ H locs ls hV9 hW hS (lv_sub hl [2, 3, 4, 5, 6] rfl)
set_option maxHeartbeats 4000000 in
set_option maxRecDepth 100000 in
theorem lc_shortest {p : Program} {l : Launch} {e : Env} {s : State} {m : MethodId} {below : List Frame} {meth : Method} {c : Code} {dC : Nat → ClassId} {dI : Nat → Nat → Nat} {cI cL cII cR cZ cIII cO : ClassId} {h0 b L : Nat} {xs : Nat → Int32} (C0 : lx_C p l s m c b L xs dC dI cI cL cII cR cZ cIII cO h0) {i : Int} (hi : 0 ≤ i ∧ i + 6 ≤ L) {μ ν : va_M} {f : Nat → Int64} (hV : LW9 μ ν) {cells slots : Nat} (hroom : cells + 1 ≤ 601024 ∧ slots + 6 ≤ 7293034)
    (hend : ∀ (μ ν : va_M) (f : Nat → Int64) (H : Heap) (locs : List Loc) (ls : Array Slot), LW9 μ ν → LW dC dI cI cL cII cR cZ cIII cO h0 μ ν f H → va_S (lA h0) s.heap H locs → lv_has ls 7 [(4, .int (iZ i)), (0, .ref b), (1, .ref h0), (2, .ref (h0 + 233)), (3, .ref (h0 + 6558))] → W p l e room_1 s m #[Value.ref b] below meth c H locs (cells + 1) (slots + 6) (lw_Z below #[Value.ref b] s) (F0 m 1468 ls []))
    {H : Heap} {locs : List Loc} {ls : Array Slot} (hW : LW dC dI cI cL cII cR cZ cIII cO h0 μ ν f H) (hS : va_S (lA h0) s.heap H locs) (hl : lv_has ls 7 [(4, .int (iZ i)), (0, .ref b), (1, .ref h0), (2, .ref (h0 + 233)), (3, .ref (h0 + 6558))]) : W p l e room_1 s m #[Value.ref b] below meth c H locs cells slots (lw_Z below #[Value.ref b] s) (F0 m 1077 ls []) := by
  obtain ⟨hfl, hx, hb, hml, hown, hts, hX, hbl, hsz0, hL9, hK, hKm, hKo, hM, hEx, hNc⟩ := C0
  obtain ⟨T, Ss, Wk, Bs, hT⟩ := hV
  have hT : LWt T Ss Wk Bs μ ν := hT
  have hT0 := hT
  have hbA : ¬ lA h0 b := Nat.not_le.mpr (by (first | ((try clear hbA); (try clear hT0); (try clear hT); (try clear Bs); (try clear Wk); (try clear Ss); (try clear hend); (try clear hroom); (try clear hi); omega) | omega))
  refine lv_aload_n hx hb dL_law_1077 rfl (lv_at hl 2 rfl) ?_
  refine va_calli (va_runV (As := []) (rest := []) ⟨hx, hb, hml, hown, hts⟩ (q_shortest l dC dI cI cL cII cR h0 H.size μ  T (hT.1.1.1.1.1) ) (cwV 0 hts (gV_G k523 k524 k525 k1 k526) rfl rfl rfl (by decide +kernel) ⟨Nat.le_of_ble_eq_true rfl, Nat.le_of_ble_eq_true rfl⟩) ⟨fun a U g mk q => by obtain ⟨q0, q1, qP, qK, qM⟩ := q; exact ⟨q0, q1, qP, va_K.moved (u := U) (U := U.calling g mk a) (Vm.Alike.refl U.vm) qK, qM⟩, va_recv hK hW.1 (ci := 9) (q0 := 0) rfl ((fw_get (by decide)).trans (by rw [sE_0]; rfl)), fun U hU hW9 => ⟨rfl, by rw [hU], by rw [hU]; exact hW.1, va_K.moved hW9.alike hK, xM_warm hW9 hM⟩⟩ rfl rfl hl.1 rfl (lv_room (Nat.le_of_ble_eq_true rfl)) dL_law_1078 ⟨by show cells + 0 ≤ 601024; (first | ((try clear hbA); (try clear hT0); (try clear hT); (try clear Bs); (try clear Wk); (try clear Ss); (try clear hsz0); (try clear hend); (try clear hi); omega) | omega), by show slots + 0 ≤ 7293034; (first | ((try clear hbA); (try clear hT0); (try clear hT); (try clear Bs); (try clear Wk); (try clear Ss); (try clear hsz0); (try clear hend); (try clear hi); omega) | omega)⟩) hS (fun q _ h => lA_f hS hsz0 (Nat.le_refl _) q h) (lA_f hS hsz0 (Nat.le_refl _)) (fun r1 u9 t9 H1 locs ht9 hvm9 hw9 hB9 hz9 hk9 hS => ?_)
  obtain ⟨hP9, -⟩ := hB9
  rw [ht9] at hP9
  have hW := LW_c hW hk9 hP9
  obtain ⟨u1, q1⟩ := u9
  obtain ⟨er9, hw9⟩ := hw9
  have er1 : r1 = iZ q1 := er9
  subst er1
  have hT := LWt_c hT hw9
  try dsimp only at hW hT
  clear hk9 hP9
  generalize H1 = H at hW hS ⊢
  refine lv_pop hx hb dL_law_1081 rfl ?_
  refine lv_aload_n hx hb dL_law_1082 rfl (lv_at hl 3 rfl) ?_
  refine va_calli (va_runV (As := []) (rest := []) ⟨hx, hb, hml, hown, hts⟩ (m_shortest l dC dI cI cZ cII cIII (h0 + 233) H.size ν hT.1.1.1.1.2.1.1) (cwV 0 hts (gV_G k1727 k1728 k1729 k13 k1730) rfl rfl rfl (by decide +kernel) ⟨Nat.le_of_ble_eq_true rfl, Nat.le_of_ble_eq_true rfl⟩) ⟨fun a U g mk q => by obtain ⟨q0, q1, qP, qK⟩ := q; exact ⟨q0, q1, qP, va_K.moved (u := U) (U := U.calling g mk a) (Vm.Alike.refl U.vm) qK⟩, va_recv hKm hW.2.1 (ci := 10) (q0 := 0) rfl ((fw_get (by decide)).trans (by rw [mE_obj])), fun U hU hW9 => ⟨rfl, by rw [hU], by rw [hU]; exact hW.2.1, va_K.moved hW9.alike hKm⟩⟩ rfl rfl hl.1 rfl (lv_room (Nat.le_of_ble_eq_true rfl)) dL_law_1083 ⟨by show cells + 0 ≤ 601024; (first | ((try clear hT); (try clear er1); (try clear er9); (try clear u1); (try clear hP9); (try clear hz9); (try clear r1); (try clear hbA); (try clear hT0); (try clear Bs); (try clear Wk); (try clear Ss); (try clear hsz0); (try clear hend); (try clear hi); omega) | omega), by show slots + 0 ≤ 7293034; (first | ((try clear hT); (try clear er1); (try clear er9); (try clear u1); (try clear hP9); (try clear hz9); (try clear r1); (try clear hbA); (try clear hT0); (try clear Bs); (try clear Wk); (try clear Ss); (try clear hsz0); (try clear hend); (try clear hi); omega) | omega)⟩) hS (fun q _ h => lA_f hS hsz0 (by (first | ((try clear h); (try clear hT); (try clear er1); (try clear er9); (try clear u1); (try clear hP9); (try clear hz9); (try clear r1); (try clear hbA); (try clear hT0); (try clear Bs); (try clear Wk); (try clear Ss); (try clear hsz0); (try clear hend); (try clear hroom); (try clear hi); omega) | omega)) q h) (lA_f hS hsz0 (by (first | ((try clear hT); (try clear er1); (try clear er9); (try clear u1); (try clear hP9); (try clear hz9); (try clear r1); (try clear hbA); (try clear hT0); (try clear Bs); (try clear Wk); (try clear Ss); (try clear hsz0); (try clear hend); (try clear hroom); (try clear hi); omega) | omega))) (fun r2 u9 t9 H1 locs ht9 hvm9 hw9 hB9 hz9 hk9 hS => ?_)
  obtain ⟨hP9, -⟩ := hB9
  rw [ht9] at hP9
  have hW := LW_m hW hk9 hP9
  obtain ⟨v1, q2⟩ := u9
  obtain ⟨er9, hw9⟩ := hw9
  have er2 : r2 = iZ q2 := er9
  subst er2
  have hT := LWt_ps hT hw9
  try dsimp only at hW hT
  clear hk9 hP9
  generalize H1 = H at hW hS ⊢
  refine lv_pop hx hb dL_law_1086 rfl ?_
  refine lv_goto (tgt := 1468) hx hb dL_law_1087 (by decide) ?_
  have hV9 : LW9 u1 v1 := ⟨T, Ss, Wk, Bs, hT⟩
  refine W.widen (k := cells + 1) (n := slots + 6) (by (first | ((try clear hT); (try clear er2); (try clear er9); (try clear q2); (try clear v1); (try clear hP9); (try clear hz9); (try clear r2); (try clear er1); (try clear u1); (try clear r1); (try clear hbA); (try clear hT0); (try clear Bs); (try clear Wk); (try clear Ss); (try clear hsz0); (try clear hend); (try clear hroom); (try clear hi); omega) | omega)) (by (first | ((try clear hT); (try clear er2); (try clear er9); (try clear q2); (try clear v1); (try clear hP9); (try clear hz9); (try clear r2); (try clear er1); (try clear u1); (try clear r1); (try clear hbA); (try clear hT0); (try clear Bs); (try clear Wk); (try clear Ss); (try clear hsz0); (try clear hend); (try clear hroom); (try clear hi); omega) | omega)) ?_
  exact hend _ _ _ H locs ls hV9 hW hS (lv_sub hl [0, 1, 2, 3, 4] rfl)
set_option maxHeartbeats 4000000 in
set_option maxRecDepth 100000 in
theorem lc_firm {p : Program} {l : Launch} {e : Env} {s : State} {m : MethodId} {below : List Frame} {meth : Method} {c : Code} {dC : Nat → ClassId} {dI : Nat → Nat → Nat} {cI cL cII cR cZ cIII cO : ClassId} {h0 b L : Nat} {xs : Nat → Int32} (C0 : lx_C p l s m c b L xs dC dI cI cL cII cR cZ cIII cO h0) {i : Int} (hi : 0 ≤ i ∧ i + 6 ≤ L) {μ ν : va_M} {f : Nat → Int64} (hV : LW9 μ ν) {cells slots : Nat} (hroom : cells + 1 ≤ 601024 ∧ slots + 6 ≤ 7293034)
    (hend : ∀ (μ ν : va_M) (f : Nat → Int64) (H : Heap) (locs : List Loc) (ls : Array Slot), LW9 μ ν → LW dC dI cI cL cII cR cZ cIII cO h0 μ ν f H → va_S (lA h0) s.heap H locs → lv_has ls 7 [(4, .int (iZ i)), (0, .ref b), (1, .ref h0), (2, .ref (h0 + 233)), (3, .ref (h0 + 6558))] → W p l e room_1 s m #[Value.ref b] below meth c H locs (cells + 1) (slots + 6) (lw_Z below #[Value.ref b] s) (F0 m 1468 ls []))
    {H : Heap} {locs : List Loc} {ls : Array Slot} (hW : LW dC dI cI cL cII cR cZ cIII cO h0 μ ν f H) (hS : va_S (lA h0) s.heap H locs) (hl : lv_has ls 7 [(4, .int (iZ i)), (0, .ref b), (1, .ref h0), (2, .ref (h0 + 233)), (3, .ref (h0 + 6558))]) : W p l e room_1 s m #[Value.ref b] below meth c H locs cells slots (lw_Z below #[Value.ref b] s) (F0 m 1090 ls []) := by
  obtain ⟨hfl, hx, hb, hml, hown, hts, hX, hbl, hsz0, hL9, hK, hKm, hKo, hM, hEx, hNc⟩ := C0
  obtain ⟨T, Ss, Wk, Bs, hT⟩ := hV
  have hT : LWt T Ss Wk Bs μ ν := hT
  have hT0 := hT
  have hbA : ¬ lA h0 b := Nat.not_le.mpr (by (first | ((try clear hbA); (try clear hT0); (try clear hT); (try clear Bs); (try clear Wk); (try clear Ss); (try clear hend); (try clear hroom); (try clear hi); omega) | omega))
  obtain ⟨a1, e1, ha1⟩ := iZ_ex (xs (iZ (i + 1)).toNatClampNeg)
  refine lv_aload_n hx hb dL_law_1090 rfl (lv_at hl 2 rfl) ?_
  refine lv_aload_n hx hb dL_law_1091 rfl (lv_at hl 1 rfl) ?_
  refine lv_iload hx hb dL_law_1092 (lv_at hl 0 rfl) ?_
  refine lv_iconst (v := iZ 1) hx hb dL_law_1094 rfl ?_
  refine lv_iadd hx hb dL_law_1095 ?_
  refine lv_topi (fun x9 ex9 => ?_)
  obtain rfl : x9 = iZ (i + 1) := ex9.trans (iZ_add _ _)
  refine va_sld hx hb hX hbl hbA hS (iZ_in (by (first | ((try clear ex9); (try clear ha1); (try clear e1); (try clear hbA); (try clear hT0); (try clear hT); (try clear Bs); (try clear Wk); (try clear Ss); (try clear hsz0); (try clear hend); (try clear hroom); omega) | omega)) (by (first | ((try clear ex9); (try clear ha1); (try clear e1); (try clear hbA); (try clear hT0); (try clear hT); (try clear Bs); (try clear Wk); (try clear Ss); (try clear hsz0); (try clear hend); (try clear hroom); omega) | omega)) (by (first | ((try clear ex9); (try clear ha1); (try clear e1); (try clear hbA); (try clear hT0); (try clear hT); (try clear Bs); (try clear Wk); (try clear Ss); (try clear hsz0); (try clear hend); (try clear hroom); (try clear hi); omega) | omega))) dL_law_1096 ?_
  refine lv_topi (fun x9 ex9 => ?_)
  obtain rfl : x9 = iZ a1 := ex9.trans e1
  refine lv_aload_n hx hb dL_law_1097 rfl (lv_at hl 4 rfl) ?_
  refine va_calli (vx_runSW (hh := [(0, 9, 12, 13)]) (As := [.ref h0, .int (iZ a1), .ref (h0 + 6558)]) (rest := []) ⟨hx, hb, hml, hown, hts⟩ (w_firm l hfl dC dI cI cL cII cR cO h0 (h0 + 6558) H.size μ f a1 T (hT.1.1.1.1.1) ha1 (by (first | ((try clear ex9); (try clear ha1); (try clear e1); (try clear hbA); (try clear hT0); (try clear hT); (try clear Bs); (try clear Wk); (try clear Ss); (try clear hsz0); (try clear hend); (try clear hroom); (try clear hi); omega) | omega))) (vx_cwSW 3 hts (gW_G k1085 k1086 k0 k1087) rfl rfl rfl (by decide +kernel) ⟨Nat.le_of_ble_eq_true rfl, Nat.le_of_ble_eq_true rfl⟩) ⟨fun a U g mk q => by obtain ⟨q0, q1, qP, qO, qK, qKo, qM, qE, qN⟩ := q; exact ⟨q0, q1, qP, qO, va_K.moved (u := U) (U := U.calling g mk a) (Vm.Alike.refl U.vm) qK, va_K.moved (u := U) (U := U.calling g mk a) (Vm.Alike.refl U.vm) qKo, qM, xX_call qE, qN⟩, fun U hU hW9 => ⟨rfl, by rw [hU], by rw [hU]; exact hW.1, by rw [hU]; exact hW.2.2, va_K.moved hW9.alike hK, va_K.moved hW9.alike hKo, xM_warm hW9 hM, xX_at hEx hS (fun q h => lA_w hS hsz0 (by (first | ((try clear h); (try clear q); (try clear hU); (try clear U); (try clear mk); (try clear g); (try clear ex9); (try clear ha1); (try clear e1); (try clear hbA); (try clear hT0); (try clear hT); (try clear Bs); (try clear Wk); (try clear Ss); (try clear hsz0); (try clear hend); (try clear hroom); (try clear hi); omega) | omega)) q h) hU hW9, xNC_warm hW9 hNc⟩⟩ rfl rfl hl.1 rfl (lv_room (Nat.le_of_ble_eq_true rfl)) dL_law_1098 ⟨by show cells + 1 ≤ 601024; (first | ((try clear ex9); (try clear ha1); (try clear e1); (try clear hbA); (try clear hT0); (try clear hT); (try clear Bs); (try clear Wk); (try clear Ss); (try clear hsz0); (try clear hend); (try clear hi); omega) | omega), by show slots + 6 ≤ 7293034; (first | ((try clear ex9); (try clear ha1); (try clear e1); (try clear hbA); (try clear hT0); (try clear hT); (try clear Bs); (try clear Wk); (try clear Ss); (try clear hsz0); (try clear hend); (try clear hi); omega) | omega)⟩) hS (fun q _ h => lA_w hS hsz0 (by (first | ((try clear h); (try clear ex9); (try clear ha1); (try clear e1); (try clear hbA); (try clear hT0); (try clear hT); (try clear Bs); (try clear Wk); (try clear Ss); (try clear hsz0); (try clear hend); (try clear hroom); (try clear hi); omega) | omega)) q h) (lA_w hS hsz0 (by (first | ((try clear ex9); (try clear ha1); (try clear e1); (try clear hbA); (try clear hT0); (try clear hT); (try clear Bs); (try clear Wk); (try clear Ss); (try clear hsz0); (try clear hend); (try clear hroom); (try clear hi); omega) | omega))) (fun r1 u9 t9 H1 locs ht9 hvm9 hw9 hB9 hz9 hk9 hS => ?_)
  obtain ⟨hP9, hO9⟩ := hB9
  rw [ht9] at hP9 hO9
  have hW := LW_w hW hk9 hP9 hO9
  have hT := LWt_c hT hw9
  obtain ⟨u1, f1⟩ := u9
  try dsimp only at hW hT
  clear hk9 hP9 hO9
  generalize H1 = H at hW hS ⊢
  refine lv_istore (lv' := [(5, .int r1), (4, .int (iZ i)), (0, .ref b), (1, .ref h0), (2, .ref (h0 + 233)), (3, .ref (h0 + 6558))]) hx hb dL_law_1101 hl (by decide) rfl (fun ls hl => ?_)
  refine lv_aload_n hx hb dL_law_1103 rfl (lv_at hl 4 rfl) ?_
  refine lv_aload_n hx hb dL_law_1104 rfl (lv_at hl 2 rfl) ?_
  refine lv_iload hx hb dL_law_1105 (lv_at hl 1 rfl) ?_
  refine lv_iconst (v := iZ 1) hx hb dL_law_1107 rfl ?_
  refine lv_iadd hx hb dL_law_1108 ?_
  refine lv_topi (fun x9 ex9 => ?_)
  obtain rfl : x9 = iZ (i + 1) := ex9.trans (iZ_add _ _)
  refine va_sld hx hb hX hbl hbA hS (iZ_in (by (first | ((try clear ex9); (try clear f1); (try clear u1); (try clear hT); (try clear hO9); (try clear hP9); (try clear hz9); (try clear r1); (try clear ha1); (try clear e1); (try clear hbA); (try clear hT0); (try clear Bs); (try clear Wk); (try clear Ss); (try clear hsz0); (try clear hend); (try clear hroom); omega) | omega)) (by (first | ((try clear ex9); (try clear f1); (try clear u1); (try clear hT); (try clear hO9); (try clear hP9); (try clear hz9); (try clear r1); (try clear ha1); (try clear e1); (try clear hbA); (try clear hT0); (try clear Bs); (try clear Wk); (try clear Ss); (try clear hsz0); (try clear hend); (try clear hroom); omega) | omega)) (by (first | ((try clear ex9); (try clear f1); (try clear u1); (try clear hT); (try clear hO9); (try clear hP9); (try clear hz9); (try clear r1); (try clear ha1); (try clear e1); (try clear hbA); (try clear hT0); (try clear Bs); (try clear Wk); (try clear Ss); (try clear hsz0); (try clear hend); (try clear hroom); (try clear hi); omega) | omega))) dL_law_1109 ?_
  refine lv_topi (fun x9 ex9 => ?_)
  obtain rfl : x9 = iZ a1 := ex9.trans e1
  refine va_calli (va_runV (As := [.int (iZ a1)]) (rest := []) ⟨hx, hb, hml, hown, hts⟩ (m_firm l dC dI cI cZ cII cIII (h0 + 233) H.size ν a1 hT.1.1.1.1.2.1.1 ha1) (cwV 1 hts (gV_G k1731 k1732 k1733 k13 k1734) rfl rfl rfl (by decide +kernel) ⟨Nat.le_of_ble_eq_true rfl, Nat.le_of_ble_eq_true rfl⟩) ⟨fun a U g mk q => by obtain ⟨q0, q1, qP, qK⟩ := q; exact ⟨q0, q1, qP, va_K.moved (u := U) (U := U.calling g mk a) (Vm.Alike.refl U.vm) qK⟩, va_recv hKm hW.2.1 (ci := 10) (q0 := 0) rfl ((fw_get (by decide)).trans (by rw [mE_obj])), fun U hU hW9 => ⟨rfl, by rw [hU], by rw [hU]; exact hW.2.1, va_K.moved hW9.alike hKm⟩⟩ rfl rfl hl.1 rfl (lv_room (Nat.le_of_ble_eq_true rfl)) dL_law_1110 ⟨by show cells + 1 + 0 ≤ 601024; (first | ((try clear ex9); (try clear f1); (try clear u1); (try clear hT); (try clear hO9); (try clear hP9); (try clear hz9); (try clear r1); (try clear ha1); (try clear e1); (try clear hbA); (try clear hT0); (try clear Bs); (try clear Wk); (try clear Ss); (try clear hsz0); (try clear hend); (try clear hi); omega) | omega), by show slots + 6 + 0 ≤ 7293034; (first | ((try clear ex9); (try clear f1); (try clear u1); (try clear hT); (try clear hO9); (try clear hP9); (try clear hz9); (try clear r1); (try clear ha1); (try clear e1); (try clear hbA); (try clear hT0); (try clear Bs); (try clear Wk); (try clear Ss); (try clear hsz0); (try clear hend); (try clear hi); omega) | omega)⟩) hS (fun q _ h => lA_f hS hsz0 (by (first | ((try clear h); (try clear ex9); (try clear f1); (try clear u1); (try clear hT); (try clear hO9); (try clear hP9); (try clear hz9); (try clear r1); (try clear ha1); (try clear e1); (try clear hbA); (try clear hT0); (try clear Bs); (try clear Wk); (try clear Ss); (try clear hsz0); (try clear hend); (try clear hroom); (try clear hi); omega) | omega)) q h) (lA_f hS hsz0 (by (first | ((try clear ex9); (try clear f1); (try clear u1); (try clear hT); (try clear hO9); (try clear hP9); (try clear hz9); (try clear r1); (try clear ha1); (try clear e1); (try clear hbA); (try clear hT0); (try clear Bs); (try clear Wk); (try clear Ss); (try clear hsz0); (try clear hend); (try clear hroom); (try clear hi); omega) | omega))) (fun r2 u9 t9 H1 locs ht9 hvm9 hw9 hB9 hz9 hk9 hS => ?_)
  obtain ⟨hP9, -⟩ := hB9
  rw [ht9] at hP9
  have hW := LW_m hW hk9 hP9
  obtain ⟨v1, q2⟩ := u9
  obtain ⟨er9, hw9⟩ := hw9
  have er2 : r2 = iZ q2 := er9
  subst er2
  have hT := LWt_ps hT hw9
  try dsimp only at hW hT
  clear hk9 hP9
  generalize H1 = H at hW hS ⊢
  refine lv_istore (lv' := [(6, .int (iZ q2)), (5, .int r1), (4, .int (iZ i)), (0, .ref b), (1, .ref h0), (2, .ref (h0 + 233)), (3, .ref (h0 + 6558))]) hx hb dL_law_1113 hl (by decide) rfl (fun ls hl => ?_)
  refine lv_goto (tgt := 1468) hx hb dL_law_1115 (by decide) ?_
  have hV9 : LW9 u1 v1 := ⟨T, Ss, Wk, Bs, hT⟩
  refine W.widen (k := cells + 1) (n := slots + 6) (by (first | ((try clear hT); (try clear er2); (try clear er9); (try clear q2); (try clear v1); (try clear hP9); (try clear hz9); (try clear r2); (try clear ex9); (try clear f1); (try clear u1); (try clear hO9); (try clear r1); (try clear ha1); (try clear e1); (try clear hbA); (try clear hT0); (try clear Bs); (try clear Wk); (try clear Ss); (try clear hsz0); (try clear hend); (try clear hroom); (try clear hi); omega) | omega)) (by (first | ((try clear hT); (try clear er2); (try clear er9); (try clear q2); (try clear v1); (try clear hP9); (try clear hz9); (try clear r2); (try clear ex9); (try clear f1); (try clear u1); (try clear hO9); (try clear r1); (try clear ha1); (try clear e1); (try clear hbA); (try clear hT0); (try clear Bs); (try clear Wk); (try clear Ss); (try clear hsz0); (try clear hend); (try clear hroom); (try clear hi); omega) | omega)) ?_
  exact hend _ _ _ H locs ls hV9 hW hS (lv_sub hl [2, 3, 4, 5, 6] rfl)
set_option maxHeartbeats 4000000 in
set_option maxRecDepth 100000 in
theorem lc_alike {p : Program} {l : Launch} {e : Env} {s : State} {m : MethodId} {below : List Frame} {meth : Method} {c : Code} {dC : Nat → ClassId} {dI : Nat → Nat → Nat} {cI cL cII cR cZ cIII cO : ClassId} {h0 b L : Nat} {xs : Nat → Int32} (C0 : lx_C p l s m c b L xs dC dI cI cL cII cR cZ cIII cO h0) {i : Int} (hi : 0 ≤ i ∧ i + 6 ≤ L) {μ ν : va_M} {f : Nat → Int64} (hV : LW9 μ ν) {cells slots : Nat} (hroom : cells + 1 ≤ 601024 ∧ slots + 6 ≤ 7293034)
    (hend : ∀ (μ ν : va_M) (f : Nat → Int64) (H : Heap) (locs : List Loc) (ls : Array Slot), LW9 μ ν → LW dC dI cI cL cII cR cZ cIII cO h0 μ ν f H → va_S (lA h0) s.heap H locs → lv_has ls 7 [(4, .int (iZ i)), (0, .ref b), (1, .ref h0), (2, .ref (h0 + 233)), (3, .ref (h0 + 6558))] → W p l e room_1 s m #[Value.ref b] below meth c H locs (cells + 1) (slots + 6) (lw_Z below #[Value.ref b] s) (F0 m 1468 ls []))
    {H : Heap} {locs : List Loc} {ls : Array Slot} (hW : LW dC dI cI cL cII cR cZ cIII cO h0 μ ν f H) (hS : va_S (lA h0) s.heap H locs) (hl : lv_has ls 7 [(4, .int (iZ i)), (0, .ref b), (1, .ref h0), (2, .ref (h0 + 233)), (3, .ref (h0 + 6558))]) : W p l e room_1 s m #[Value.ref b] below meth c H locs cells slots (lw_Z below #[Value.ref b] s) (F0 m 1118 ls []) := by
  obtain ⟨hfl, hx, hb, hml, hown, hts, hX, hbl, hsz0, hL9, hK, hKm, hKo, hM, hEx, hNc⟩ := C0
  obtain ⟨T, Ss, Wk, Bs, hT⟩ := hV
  have hT : LWt T Ss Wk Bs μ ν := hT
  have hT0 := hT
  have hbA : ¬ lA h0 b := Nat.not_le.mpr (by (first | ((try clear hbA); (try clear hT0); (try clear hT); (try clear Bs); (try clear Wk); (try clear Ss); (try clear hend); (try clear hroom); (try clear hi); omega) | omega))
  obtain ⟨a1, e1, ha1⟩ := iZ_ex (xs (iZ (i + 1)).toNatClampNeg)
  obtain ⟨a2, e2, ha2⟩ := iZ_ex (xs (iZ (i + 2)).toNatClampNeg)
  refine lv_aload_n hx hb dL_law_1118 rfl (lv_at hl 2 rfl) ?_
  refine lv_aload_n hx hb dL_law_1119 rfl (lv_at hl 1 rfl) ?_
  refine lv_iload hx hb dL_law_1120 (lv_at hl 0 rfl) ?_
  refine lv_iconst (v := iZ 1) hx hb dL_law_1122 rfl ?_
  refine lv_iadd hx hb dL_law_1123 ?_
  refine lv_topi (fun x9 ex9 => ?_)
  obtain rfl : x9 = iZ (i + 1) := ex9.trans (iZ_add _ _)
  refine va_sld hx hb hX hbl hbA hS (iZ_in (by (first | ((try clear ex9); (try clear ha2); (try clear e2); (try clear ha1); (try clear e1); (try clear hbA); (try clear hT0); (try clear hT); (try clear Bs); (try clear Wk); (try clear Ss); (try clear hsz0); (try clear hend); (try clear hroom); omega) | omega)) (by (first | ((try clear ex9); (try clear ha2); (try clear e2); (try clear ha1); (try clear e1); (try clear hbA); (try clear hT0); (try clear hT); (try clear Bs); (try clear Wk); (try clear Ss); (try clear hsz0); (try clear hend); (try clear hroom); omega) | omega)) (by (first | ((try clear ex9); (try clear ha2); (try clear e2); (try clear ha1); (try clear e1); (try clear hbA); (try clear hT0); (try clear hT); (try clear Bs); (try clear Wk); (try clear Ss); (try clear hsz0); (try clear hend); (try clear hroom); (try clear hi); omega) | omega))) dL_law_1124 ?_
  refine lv_topi (fun x9 ex9 => ?_)
  obtain rfl : x9 = iZ a1 := ex9.trans e1
  refine lv_aload_n hx hb dL_law_1125 rfl (lv_at hl 1 rfl) ?_
  refine lv_iload hx hb dL_law_1126 (lv_at hl 0 rfl) ?_
  refine lv_iconst (v := iZ 2) hx hb dL_law_1128 rfl ?_
  refine lv_iadd hx hb dL_law_1129 ?_
  refine lv_topi (fun x9 ex9 => ?_)
  obtain rfl : x9 = iZ (i + 2) := ex9.trans (iZ_add _ _)
  refine va_sld hx hb hX hbl hbA hS (iZ_in (by (first | ((try clear ex9); (try clear ha2); (try clear e2); (try clear ha1); (try clear e1); (try clear hbA); (try clear hT0); (try clear hT); (try clear Bs); (try clear Wk); (try clear Ss); (try clear hsz0); (try clear hend); (try clear hroom); omega) | omega)) (by (first | ((try clear ex9); (try clear ha2); (try clear e2); (try clear ha1); (try clear e1); (try clear hbA); (try clear hT0); (try clear hT); (try clear Bs); (try clear Wk); (try clear Ss); (try clear hsz0); (try clear hend); (try clear hroom); omega) | omega)) (by (first | ((try clear ex9); (try clear ha2); (try clear e2); (try clear ha1); (try clear e1); (try clear hbA); (try clear hT0); (try clear hT); (try clear Bs); (try clear Wk); (try clear Ss); (try clear hsz0); (try clear hend); (try clear hroom); (try clear hi); omega) | omega))) dL_law_1130 ?_
  refine lv_topi (fun x9 ex9 => ?_)
  obtain rfl : x9 = iZ a2 := ex9.trans e2
  refine lv_aload_n hx hb dL_law_1131 rfl (lv_at hl 4 rfl) ?_
  refine va_calli (vx_runSW (hh := [(0, 17, 20, 20)]) (As := [.ref h0, .int (iZ a1), .int (iZ a2), .ref (h0 + 6558)]) (rest := []) ⟨hx, hb, hml, hown, hts⟩ (w_alike l hfl dC dI cI cL cII cR cO h0 (h0 + 6558) H.size μ f a1 a2 T (hT.1.1.1.1.1) ha1 ha2 (by (first | ((try clear ex9); (try clear ha2); (try clear e2); (try clear ha1); (try clear e1); (try clear hbA); (try clear hT0); (try clear hT); (try clear Bs); (try clear Wk); (try clear Ss); (try clear hsz0); (try clear hend); (try clear hroom); (try clear hi); omega) | omega))) (vx_cwSW 4 hts (gW_G k1092 k1093 k0 k1094) rfl rfl rfl (by decide +kernel) ⟨Nat.le_of_ble_eq_true rfl, Nat.le_of_ble_eq_true rfl⟩) ⟨fun a U g mk q => by obtain ⟨q0, q1, qP, qO, qK, qKo, qM, qE, qN⟩ := q; exact ⟨q0, q1, qP, qO, va_K.moved (u := U) (U := U.calling g mk a) (Vm.Alike.refl U.vm) qK, va_K.moved (u := U) (U := U.calling g mk a) (Vm.Alike.refl U.vm) qKo, qM, xX_call qE, qN⟩, fun U hU hW9 => ⟨rfl, by rw [hU], by rw [hU]; exact hW.1, by rw [hU]; exact hW.2.2, va_K.moved hW9.alike hK, va_K.moved hW9.alike hKo, xM_warm hW9 hM, xX_at hEx hS (fun q h => lA_w hS hsz0 (by (first | ((try clear h); (try clear q); (try clear hU); (try clear U); (try clear mk); (try clear g); (try clear ex9); (try clear ha2); (try clear e2); (try clear ha1); (try clear e1); (try clear hbA); (try clear hT0); (try clear hT); (try clear Bs); (try clear Wk); (try clear Ss); (try clear hsz0); (try clear hend); (try clear hroom); (try clear hi); omega) | omega)) q h) hU hW9, xNC_warm hW9 hNc⟩⟩ rfl rfl hl.1 rfl (lv_room (Nat.le_of_ble_eq_true rfl)) dL_law_1132 ⟨by show cells + 1 ≤ 601024; (first | ((try clear ex9); (try clear ha2); (try clear e2); (try clear ha1); (try clear e1); (try clear hbA); (try clear hT0); (try clear hT); (try clear Bs); (try clear Wk); (try clear Ss); (try clear hsz0); (try clear hend); (try clear hi); omega) | omega), by show slots + 6 ≤ 7293034; (first | ((try clear ex9); (try clear ha2); (try clear e2); (try clear ha1); (try clear e1); (try clear hbA); (try clear hT0); (try clear hT); (try clear Bs); (try clear Wk); (try clear Ss); (try clear hsz0); (try clear hend); (try clear hi); omega) | omega)⟩) hS (fun q _ h => lA_w hS hsz0 (by (first | ((try clear h); (try clear ex9); (try clear ha2); (try clear e2); (try clear ha1); (try clear e1); (try clear hbA); (try clear hT0); (try clear hT); (try clear Bs); (try clear Wk); (try clear Ss); (try clear hsz0); (try clear hend); (try clear hroom); (try clear hi); omega) | omega)) q h) (lA_w hS hsz0 (by (first | ((try clear ex9); (try clear ha2); (try clear e2); (try clear ha1); (try clear e1); (try clear hbA); (try clear hT0); (try clear hT); (try clear Bs); (try clear Wk); (try clear Ss); (try clear hsz0); (try clear hend); (try clear hroom); (try clear hi); omega) | omega))) (fun r1 u9 t9 H1 locs ht9 hvm9 hw9 hB9 hz9 hk9 hS => ?_)
  obtain ⟨hP9, hO9⟩ := hB9
  rw [ht9] at hP9 hO9
  have hW := LW_w hW hk9 hP9 hO9
  have hT := LWt_c hT hw9
  obtain ⟨u1, f1⟩ := u9
  try dsimp only at hW hT
  clear hk9 hP9 hO9
  generalize H1 = H at hW hS ⊢
  refine lv_istore (lv' := [(5, .int r1), (4, .int (iZ i)), (0, .ref b), (1, .ref h0), (2, .ref (h0 + 233)), (3, .ref (h0 + 6558))]) hx hb dL_law_1135 hl (by decide) rfl (fun ls hl => ?_)
  refine lv_aload_n hx hb dL_law_1137 rfl (lv_at hl 4 rfl) ?_
  refine lv_aload_n hx hb dL_law_1138 rfl (lv_at hl 2 rfl) ?_
  refine lv_iload hx hb dL_law_1139 (lv_at hl 1 rfl) ?_
  refine lv_iconst (v := iZ 1) hx hb dL_law_1141 rfl ?_
  refine lv_iadd hx hb dL_law_1142 ?_
  refine lv_topi (fun x9 ex9 => ?_)
  obtain rfl : x9 = iZ (i + 1) := ex9.trans (iZ_add _ _)
  refine va_sld hx hb hX hbl hbA hS (iZ_in (by (first | ((try clear ex9); (try clear f1); (try clear u1); (try clear hT); (try clear hO9); (try clear hP9); (try clear hz9); (try clear r1); (try clear ha2); (try clear e2); (try clear ha1); (try clear e1); (try clear hbA); (try clear hT0); (try clear Bs); (try clear Wk); (try clear Ss); (try clear hsz0); (try clear hend); (try clear hroom); omega) | omega)) (by (first | ((try clear ex9); (try clear f1); (try clear u1); (try clear hT); (try clear hO9); (try clear hP9); (try clear hz9); (try clear r1); (try clear ha2); (try clear e2); (try clear ha1); (try clear e1); (try clear hbA); (try clear hT0); (try clear Bs); (try clear Wk); (try clear Ss); (try clear hsz0); (try clear hend); (try clear hroom); omega) | omega)) (by (first | ((try clear ex9); (try clear f1); (try clear u1); (try clear hT); (try clear hO9); (try clear hP9); (try clear hz9); (try clear r1); (try clear ha2); (try clear e2); (try clear ha1); (try clear e1); (try clear hbA); (try clear hT0); (try clear Bs); (try clear Wk); (try clear Ss); (try clear hsz0); (try clear hend); (try clear hroom); (try clear hi); omega) | omega))) dL_law_1143 ?_
  refine lv_topi (fun x9 ex9 => ?_)
  obtain rfl : x9 = iZ a1 := ex9.trans e1
  refine lv_aload_n hx hb dL_law_1144 rfl (lv_at hl 2 rfl) ?_
  refine lv_iload hx hb dL_law_1145 (lv_at hl 1 rfl) ?_
  refine lv_iconst (v := iZ 2) hx hb dL_law_1147 rfl ?_
  refine lv_iadd hx hb dL_law_1148 ?_
  refine lv_topi (fun x9 ex9 => ?_)
  obtain rfl : x9 = iZ (i + 2) := ex9.trans (iZ_add _ _)
  refine va_sld hx hb hX hbl hbA hS (iZ_in (by (first | ((try clear ex9); (try clear f1); (try clear u1); (try clear hT); (try clear hO9); (try clear hP9); (try clear hz9); (try clear r1); (try clear ha2); (try clear e2); (try clear ha1); (try clear e1); (try clear hbA); (try clear hT0); (try clear Bs); (try clear Wk); (try clear Ss); (try clear hsz0); (try clear hend); (try clear hroom); omega) | omega)) (by (first | ((try clear ex9); (try clear f1); (try clear u1); (try clear hT); (try clear hO9); (try clear hP9); (try clear hz9); (try clear r1); (try clear ha2); (try clear e2); (try clear ha1); (try clear e1); (try clear hbA); (try clear hT0); (try clear Bs); (try clear Wk); (try clear Ss); (try clear hsz0); (try clear hend); (try clear hroom); omega) | omega)) (by (first | ((try clear ex9); (try clear f1); (try clear u1); (try clear hT); (try clear hO9); (try clear hP9); (try clear hz9); (try clear r1); (try clear ha2); (try clear e2); (try clear ha1); (try clear e1); (try clear hbA); (try clear hT0); (try clear Bs); (try clear Wk); (try clear Ss); (try clear hsz0); (try clear hend); (try clear hroom); (try clear hi); omega) | omega))) dL_law_1149 ?_
  refine lv_topi (fun x9 ex9 => ?_)
  obtain rfl : x9 = iZ a2 := ex9.trans e2
  refine va_calli (va_runV (As := [.int (iZ a1), .int (iZ a2)]) (rest := []) ⟨hx, hb, hml, hown, hts⟩ (m_alike l dC dI cI cZ cII cIII (h0 + 233) H.size ν a1 a2 hT.1.1.1.1.2.1.1 ha1 ha2) (cwV 2 hts (gV_G k1735 k1736 k1737 k13 k1738) rfl rfl rfl (by decide +kernel) ⟨Nat.le_of_ble_eq_true rfl, Nat.le_of_ble_eq_true rfl⟩) ⟨fun a U g mk q => by obtain ⟨q0, q1, qP, qK⟩ := q; exact ⟨q0, q1, qP, va_K.moved (u := U) (U := U.calling g mk a) (Vm.Alike.refl U.vm) qK⟩, va_recv hKm hW.2.1 (ci := 10) (q0 := 0) rfl ((fw_get (by decide)).trans (by rw [mE_obj])), fun U hU hW9 => ⟨rfl, by rw [hU], by rw [hU]; exact hW.2.1, va_K.moved hW9.alike hKm⟩⟩ rfl rfl hl.1 rfl (lv_room (Nat.le_of_ble_eq_true rfl)) dL_law_1150 ⟨by show cells + 1 + 0 ≤ 601024; (first | ((try clear ex9); (try clear f1); (try clear u1); (try clear hT); (try clear hO9); (try clear hP9); (try clear hz9); (try clear r1); (try clear ha2); (try clear e2); (try clear ha1); (try clear e1); (try clear hbA); (try clear hT0); (try clear Bs); (try clear Wk); (try clear Ss); (try clear hsz0); (try clear hend); (try clear hi); omega) | omega), by show slots + 6 + 0 ≤ 7293034; (first | ((try clear ex9); (try clear f1); (try clear u1); (try clear hT); (try clear hO9); (try clear hP9); (try clear hz9); (try clear r1); (try clear ha2); (try clear e2); (try clear ha1); (try clear e1); (try clear hbA); (try clear hT0); (try clear Bs); (try clear Wk); (try clear Ss); (try clear hsz0); (try clear hend); (try clear hi); omega) | omega)⟩) hS (fun q _ h => lA_f hS hsz0 (by (first | ((try clear h); (try clear ex9); (try clear f1); (try clear u1); (try clear hT); (try clear hO9); (try clear hP9); (try clear hz9); (try clear r1); (try clear ha2); (try clear e2); (try clear ha1); (try clear e1); (try clear hbA); (try clear hT0); (try clear Bs); (try clear Wk); (try clear Ss); (try clear hsz0); (try clear hend); (try clear hroom); (try clear hi); omega) | omega)) q h) (lA_f hS hsz0 (by (first | ((try clear ex9); (try clear f1); (try clear u1); (try clear hT); (try clear hO9); (try clear hP9); (try clear hz9); (try clear r1); (try clear ha2); (try clear e2); (try clear ha1); (try clear e1); (try clear hbA); (try clear hT0); (try clear Bs); (try clear Wk); (try clear Ss); (try clear hsz0); (try clear hend); (try clear hroom); (try clear hi); omega) | omega))) (fun r2 u9 t9 H1 locs ht9 hvm9 hw9 hB9 hz9 hk9 hS => ?_)
  obtain ⟨hP9, -⟩ := hB9
  rw [ht9] at hP9
  have hW := LW_m hW hk9 hP9
  obtain ⟨v1, q2⟩ := u9
  obtain ⟨er9, hw9⟩ := hw9
  have er2 : r2 = iZ q2 := er9
  subst er2
  have hT := LWt_ps hT hw9
  try dsimp only at hW hT
  clear hk9 hP9
  generalize H1 = H at hW hS ⊢
  refine lv_istore (lv' := [(6, .int (iZ q2)), (5, .int r1), (4, .int (iZ i)), (0, .ref b), (1, .ref h0), (2, .ref (h0 + 233)), (3, .ref (h0 + 6558))]) hx hb dL_law_1153 hl (by decide) rfl (fun ls hl => ?_)
  refine lv_goto (tgt := 1468) hx hb dL_law_1155 (by decide) ?_
  have hV9 : LW9 u1 v1 := ⟨T, Ss, Wk, Bs, hT⟩
  refine W.widen (k := cells + 1) (n := slots + 6) (by (first | ((try clear hT); (try clear er2); (try clear er9); (try clear q2); (try clear v1); (try clear hP9); (try clear hz9); (try clear r2); (try clear ex9); (try clear f1); (try clear u1); (try clear hO9); (try clear r1); (try clear ha2); (try clear e2); (try clear ha1); (try clear e1); (try clear hbA); (try clear hT0); (try clear Bs); (try clear Wk); (try clear Ss); (try clear hsz0); (try clear hend); (try clear hroom); (try clear hi); omega) | omega)) (by (first | ((try clear hT); (try clear er2); (try clear er9); (try clear q2); (try clear v1); (try clear hP9); (try clear hz9); (try clear r2); (try clear ex9); (try clear f1); (try clear u1); (try clear hO9); (try clear r1); (try clear ha2); (try clear e2); (try clear ha1); (try clear e1); (try clear hbA); (try clear hT0); (try clear Bs); (try clear Wk); (try clear Ss); (try clear hsz0); (try clear hend); (try clear hroom); (try clear hi); omega) | omega)) ?_
  exact hend _ _ _ H locs ls hV9 hW hS (lv_sub hl [2, 3, 4, 5, 6] rfl)

set_option maxRecDepth 100000 in
theorem k590 : (Cond.classLink "PageSkeletonLaw" (13 : Nat) "java/lang/IllegalArgumentException") ∈ wsG := wsG_a3 110 rfl rfl
set_option maxRecDepth 100000 in
theorem k591 : (Cond.classLink "PageSkeletonLaw" (15 : Nat) "java/lang/IllegalStateException") ∈ wsG := wsG_a3 111 rfl rfl
set_option maxRecDepth 100000 in
theorem k592 : (Cond.methodLink "PageSkeletonLaw" (7 : Nat) ({ cls := "PageSkeleton", name := "page", desc := "(I)I" } : MethodName)) ∈ wsG := wsG_a3 112 rfl rfl
set_option maxRecDepth 100000 in
theorem k593 : (Cond.instanceMethod ({ cls := "PageSkeleton", name := "page", desc := "(I)I" } : MethodName)) ∈ wsG := wsG_a3 113 rfl rfl
set_option maxRecDepth 100000 in
theorem k594 : (Cond.selects "PageSkeleton" ({ cls := "PageSkeleton", name := "page", desc := "(I)I" } : MethodName) ({ cls := "PageSkeleton", name := "page", desc := "(I)I" } : MethodName)) ∈ wsG := wsG_a3 114 rfl rfl
set_option maxRecDepth 100000 in
theorem k595 : (Cond.code ({ cls := "PageSkeleton", name := "page", desc := "(I)I" } : MethodName) prog_1_method_3_code (3 : Nat) (Option.some FieldType.int)) ∈ wsG := wsG_a3 115 rfl rfl
set_option maxRecDepth 100000 in
theorem k730 : (Cond.classLink "PageSkeletonLaw" (20 : Nat) "java/util/NoSuchElementException") ∈ wsG := wsG_a4 10 rfl rfl
set_option maxRecDepth 100000 in
theorem k731 : (Cond.methodLink "PageSkeletonLaw" (17 : Nat) ({ cls := "PageSkeleton", name := "lay", desc := "(I)I" } : MethodName)) ∈ wsG := wsG_a4 11 rfl rfl
set_option maxRecDepth 100000 in
theorem k732 : (Cond.instanceMethod ({ cls := "PageSkeleton", name := "lay", desc := "(I)I" } : MethodName)) ∈ wsG := wsG_a4 12 rfl rfl
set_option maxRecDepth 100000 in
theorem k733 : (Cond.selects "PageSkeleton" ({ cls := "PageSkeleton", name := "lay", desc := "(I)I" } : MethodName) ({ cls := "PageSkeleton", name := "lay", desc := "(I)I" } : MethodName)) ∈ wsG := wsG_a4 13 rfl rfl
set_option maxRecDepth 100000 in
theorem k734 : (Cond.code ({ cls := "PageSkeleton", name := "lay", desc := "(I)I" } : MethodName) prog_1_method_5_code (3 : Nat) (Option.some FieldType.int)) ∈ wsG := wsG_a4 14 rfl rfl
set_option maxRecDepth 100000 in
theorem k840 : (Cond.methodLink "PageSkeletonLaw" (22 : Nat) ({ cls := "PageSkeleton", name := "tidied", desc := "(I)I" } : MethodName)) ∈ wsG := wsG_a4 120 rfl rfl
set_option maxRecDepth 100000 in
theorem k841 : (Cond.instanceMethod ({ cls := "PageSkeleton", name := "tidied", desc := "(I)I" } : MethodName)) ∈ wsG := wsG_a4 121 rfl rfl
set_option maxRecDepth 100000 in
theorem k842 : (Cond.selects "PageSkeleton" ({ cls := "PageSkeleton", name := "tidied", desc := "(I)I" } : MethodName) ({ cls := "PageSkeleton", name := "tidied", desc := "(I)I" } : MethodName)) ∈ wsG := wsG_a4 122 rfl rfl
set_option maxRecDepth 100000 in
theorem k843 : (Cond.code ({ cls := "PageSkeleton", name := "tidied", desc := "(I)I" } : MethodName) prog_1_method_7_code (3 : Nat) (Option.some FieldType.int)) ∈ wsG := wsG_a4 123 rfl rfl
set_option maxRecDepth 100000 in
theorem k852 : (Cond.methodLink "PageSkeletonLaw" (25 : Nat) ({ cls := "PageSkeleton", name := "told", desc := "(I)I" } : MethodName)) ∈ wsG := wsG_a4 132 rfl rfl
set_option maxRecDepth 100000 in
theorem k853 : (Cond.instanceMethod ({ cls := "PageSkeleton", name := "told", desc := "(I)I" } : MethodName)) ∈ wsG := wsG_a4 133 rfl rfl
set_option maxRecDepth 100000 in
theorem k854 : (Cond.selects "PageSkeleton" ({ cls := "PageSkeleton", name := "told", desc := "(I)I" } : MethodName) ({ cls := "PageSkeleton", name := "told", desc := "(I)I" } : MethodName)) ∈ wsG := wsG_a4 134 rfl rfl
set_option maxRecDepth 100000 in
theorem k855 : (Cond.code ({ cls := "PageSkeleton", name := "told", desc := "(I)I" } : MethodName) prog_1_method_10_code (2 : Nat) (Option.some FieldType.int)) ∈ wsG := wsG_a4 135 rfl rfl
set_option maxRecDepth 100000 in
theorem k863 : (Cond.methodLink "PageSkeletonLaw" (28 : Nat) ({ cls := "PageSkeleton", name := "pageOf", desc := "(II)I" } : MethodName)) ∈ wsG := wsG_a4 143 rfl rfl
set_option maxRecDepth 100000 in
theorem k864 : (Cond.instanceMethod ({ cls := "PageSkeleton", name := "pageOf", desc := "(II)I" } : MethodName)) ∈ wsG := wsG_a4 144 rfl rfl
set_option maxRecDepth 100000 in
theorem k865 : (Cond.selects "PageSkeleton" ({ cls := "PageSkeleton", name := "pageOf", desc := "(II)I" } : MethodName) ({ cls := "PageSkeleton", name := "pageOf", desc := "(II)I" } : MethodName)) ∈ wsG := wsG_a4 145 rfl rfl
set_option maxRecDepth 100000 in
theorem k866 : (Cond.code ({ cls := "PageSkeleton", name := "pageOf", desc := "(II)I" } : MethodName) prog_1_method_11_code (4 : Nat) (Option.some FieldType.int)) ∈ wsG := wsG_a4 146 rfl rfl
set_option maxRecDepth 100000 in
theorem k874 : (Cond.methodLink "PageSkeletonLaw" (32 : Nat) ({ cls := "PageSkeleton", name := "token", desc := "(II)I" } : MethodName)) ∈ wsG := wsG_a4 154 rfl rfl
set_option maxRecDepth 100000 in
theorem k875 : (Cond.instanceMethod ({ cls := "PageSkeleton", name := "token", desc := "(II)I" } : MethodName)) ∈ wsG := wsG_a4 155 rfl rfl
set_option maxRecDepth 100000 in
theorem k876 : (Cond.selects "PageSkeleton" ({ cls := "PageSkeleton", name := "token", desc := "(II)I" } : MethodName) ({ cls := "PageSkeleton", name := "token", desc := "(II)I" } : MethodName)) ∈ wsG := wsG_a4 156 rfl rfl
set_option maxRecDepth 100000 in
theorem k877 : (Cond.code ({ cls := "PageSkeleton", name := "token", desc := "(II)I" } : MethodName) prog_1_method_12_code (3 : Nat) (Option.some FieldType.int)) ∈ wsG := wsG_a4 157 rfl rfl
set_option maxRecDepth 100000 in
theorem k885 : (Cond.methodLink "PageSkeletonLaw" (35 : Nat) ({ cls := "PageSkeleton", name := "tokenOf", desc := "(II)I" } : MethodName)) ∈ wsG := wsG_a4 165 rfl rfl
set_option maxRecDepth 100000 in
theorem k886 : (Cond.instanceMethod ({ cls := "PageSkeleton", name := "tokenOf", desc := "(II)I" } : MethodName)) ∈ wsG := wsG_a4 166 rfl rfl
set_option maxRecDepth 100000 in
theorem k887 : (Cond.selects "PageSkeleton" ({ cls := "PageSkeleton", name := "tokenOf", desc := "(II)I" } : MethodName) ({ cls := "PageSkeleton", name := "tokenOf", desc := "(II)I" } : MethodName)) ∈ wsG := wsG_a4 167 rfl rfl
set_option maxRecDepth 100000 in
theorem k888 : (Cond.code ({ cls := "PageSkeleton", name := "tokenOf", desc := "(II)I" } : MethodName) prog_1_method_13_code (3 : Nat) (Option.some FieldType.int)) ∈ wsG := wsG_a4 168 rfl rfl
set_option maxRecDepth 100000 in
theorem k910 : (Cond.methodLink "PageSkeletonLaw" (38 : Nat) ({ cls := "PageSkeleton", name := "node", desc := "(II)I" } : MethodName)) ∈ wsG := wsG_a4 190 rfl rfl
set_option maxRecDepth 100000 in
theorem k911 : (Cond.instanceMethod ({ cls := "PageSkeleton", name := "node", desc := "(II)I" } : MethodName)) ∈ wsG := wsG_a4 191 rfl rfl
set_option maxRecDepth 100000 in
theorem k912 : (Cond.selects "PageSkeleton" ({ cls := "PageSkeleton", name := "node", desc := "(II)I" } : MethodName) ({ cls := "PageSkeleton", name := "node", desc := "(II)I" } : MethodName)) ∈ wsG := wsG_a4 192 rfl rfl
set_option maxRecDepth 100000 in
theorem k913 : (Cond.code ({ cls := "PageSkeleton", name := "node", desc := "(II)I" } : MethodName) prog_1_method_14_code (3 : Nat) (Option.some FieldType.int)) ∈ wsG := wsG_a4 193 rfl rfl
set_option maxRecDepth 100000 in
theorem k944 : (Cond.methodLink "PageSkeletonLaw" (41 : Nat) ({ cls := "PageSkeleton", name := "pageNode", desc := "(III)I" } : MethodName)) ∈ wsG := wsG_a4 224 rfl rfl
set_option maxRecDepth 100000 in
theorem k945 : (Cond.instanceMethod ({ cls := "PageSkeleton", name := "pageNode", desc := "(III)I" } : MethodName)) ∈ wsG := wsG_a4 225 rfl rfl
set_option maxRecDepth 100000 in
theorem k946 : (Cond.selects "PageSkeleton" ({ cls := "PageSkeleton", name := "pageNode", desc := "(III)I" } : MethodName) ({ cls := "PageSkeleton", name := "pageNode", desc := "(III)I" } : MethodName)) ∈ wsG := wsG_a4 226 rfl rfl
set_option maxRecDepth 100000 in
theorem k947 : (Cond.code ({ cls := "PageSkeleton", name := "pageNode", desc := "(III)I" } : MethodName) prog_1_method_15_code (4 : Nat) (Option.some FieldType.int)) ∈ wsG := wsG_a4 227 rfl rfl
set_option maxRecDepth 100000 in
theorem k951 : (Cond.methodLink "PageSkeletonLaw" (45 : Nat) ({ cls := "PageSkeleton", name := "fits", desc := "(I)Z" } : MethodName)) ∈ wsG := wsG_a4 231 rfl rfl
set_option maxRecDepth 100000 in
theorem k952 : (Cond.instanceMethod ({ cls := "PageSkeleton", name := "fits", desc := "(I)Z" } : MethodName)) ∈ wsG := wsG_a4 232 rfl rfl
set_option maxRecDepth 100000 in
theorem k953 : (Cond.selects "PageSkeleton" ({ cls := "PageSkeleton", name := "fits", desc := "(I)Z" } : MethodName) ({ cls := "PageSkeleton", name := "fits", desc := "(I)Z" } : MethodName)) ∈ wsG := wsG_a4 233 rfl rfl
set_option maxRecDepth 100000 in
theorem k954 : (Cond.code ({ cls := "PageSkeleton", name := "fits", desc := "(I)Z" } : MethodName) prog_1_method_16_code (2 : Nat) (Option.some FieldType.boolean)) ∈ wsG := wsG_a4 234 rfl rfl
set_option maxRecDepth 100000 in
theorem k958 : (Cond.methodLink "PageSkeletonLaw" (49 : Nat) ({ cls := "PageSkeleton", name := "reach", desc := "(I)I" } : MethodName)) ∈ wsG := wsG_a4 238 rfl rfl
set_option maxRecDepth 100000 in
theorem k959 : (Cond.instanceMethod ({ cls := "PageSkeleton", name := "reach", desc := "(I)I" } : MethodName)) ∈ wsG := wsG_a4 239 rfl rfl
set_option maxRecDepth 100000 in
theorem k960 : (Cond.selects "PageSkeleton" ({ cls := "PageSkeleton", name := "reach", desc := "(I)I" } : MethodName) ({ cls := "PageSkeleton", name := "reach", desc := "(I)I" } : MethodName)) ∈ wsG := wsG_a5 0 rfl rfl
set_option maxRecDepth 100000 in
theorem k961 : (Cond.code ({ cls := "PageSkeleton", name := "reach", desc := "(I)I" } : MethodName) prog_1_method_17_code (2 : Nat) (Option.some FieldType.int)) ∈ wsG := wsG_a5 1 rfl rfl
set_option maxRecDepth 100000 in
theorem k965 : (Cond.methodLink "PageSkeletonLaw" (52 : Nat) ({ cls := "PageSkeleton", name := "ways", desc := "(I)I" } : MethodName)) ∈ wsG := wsG_a5 5 rfl rfl
set_option maxRecDepth 100000 in
theorem k966 : (Cond.instanceMethod ({ cls := "PageSkeleton", name := "ways", desc := "(I)I" } : MethodName)) ∈ wsG := wsG_a5 6 rfl rfl
set_option maxRecDepth 100000 in
theorem k967 : (Cond.selects "PageSkeleton" ({ cls := "PageSkeleton", name := "ways", desc := "(I)I" } : MethodName) ({ cls := "PageSkeleton", name := "ways", desc := "(I)I" } : MethodName)) ∈ wsG := wsG_a5 7 rfl rfl
set_option maxRecDepth 100000 in
theorem k968 : (Cond.code ({ cls := "PageSkeleton", name := "ways", desc := "(I)I" } : MethodName) prog_1_method_18_code (2 : Nat) (Option.some FieldType.int)) ∈ wsG := wsG_a5 8 rfl rfl
set_option maxRecDepth 100000 in
theorem k972 : (Cond.methodLink "PageSkeletonLaw" (55 : Nat) ({ cls := "PageSkeleton", name := "times", desc := "(II)I" } : MethodName)) ∈ wsG := wsG_a5 12 rfl rfl
set_option maxRecDepth 100000 in
theorem k973 : (Cond.instanceMethod ({ cls := "PageSkeleton", name := "times", desc := "(II)I" } : MethodName)) ∈ wsG := wsG_a5 13 rfl rfl
set_option maxRecDepth 100000 in
theorem k974 : (Cond.selects "PageSkeleton" ({ cls := "PageSkeleton", name := "times", desc := "(II)I" } : MethodName) ({ cls := "PageSkeleton", name := "times", desc := "(II)I" } : MethodName)) ∈ wsG := wsG_a5 14 rfl rfl
set_option maxRecDepth 100000 in
theorem k975 : (Cond.code ({ cls := "PageSkeleton", name := "times", desc := "(II)I" } : MethodName) prog_1_method_19_code (4 : Nat) (Option.some FieldType.int)) ∈ wsG := wsG_a5 15 rfl rfl
set_option maxRecDepth 100000 in
theorem k979 : (Cond.methodLink "PageSkeletonLaw" (58 : Nat) ({ cls := "PageSkeleton", name := "passes", desc := "(II)I" } : MethodName)) ∈ wsG := wsG_a5 19 rfl rfl
set_option maxRecDepth 100000 in
theorem k980 : (Cond.instanceMethod ({ cls := "PageSkeleton", name := "passes", desc := "(II)I" } : MethodName)) ∈ wsG := wsG_a5 20 rfl rfl
set_option maxRecDepth 100000 in
theorem k981 : (Cond.selects "PageSkeleton" ({ cls := "PageSkeleton", name := "passes", desc := "(II)I" } : MethodName) ({ cls := "PageSkeleton", name := "passes", desc := "(II)I" } : MethodName)) ∈ wsG := wsG_a5 21 rfl rfl
set_option maxRecDepth 100000 in
theorem k982 : (Cond.code ({ cls := "PageSkeleton", name := "passes", desc := "(II)I" } : MethodName) prog_1_method_20_code (4 : Nat) (Option.some FieldType.int)) ∈ wsG := wsG_a5 22 rfl rfl
set_option maxRecDepth 100000 in
theorem k990 : (Cond.methodLink "PageSkeletonLaw" (61 : Nat) ({ cls := "PageSkeleton", name := "value", desc := "(III)I" } : MethodName)) ∈ wsG := wsG_a5 30 rfl rfl
set_option maxRecDepth 100000 in
theorem k991 : (Cond.instanceMethod ({ cls := "PageSkeleton", name := "value", desc := "(III)I" } : MethodName)) ∈ wsG := wsG_a5 31 rfl rfl
set_option maxRecDepth 100000 in
theorem k992 : (Cond.selects "PageSkeleton" ({ cls := "PageSkeleton", name := "value", desc := "(III)I" } : MethodName) ({ cls := "PageSkeleton", name := "value", desc := "(III)I" } : MethodName)) ∈ wsG := wsG_a5 32 rfl rfl
set_option maxRecDepth 100000 in
theorem k993 : (Cond.code ({ cls := "PageSkeleton", name := "value", desc := "(III)I" } : MethodName) prog_1_method_21_code (7 : Nat) (Option.some FieldType.int)) ∈ wsG := wsG_a5 33 rfl rfl
set_option maxRecDepth 100000 in
theorem k997 : (Cond.methodLink "PageSkeletonLaw" (64 : Nat) ({ cls := "PageSkeleton", name := "taker", desc := "(II)I" } : MethodName)) ∈ wsG := wsG_a5 37 rfl rfl
set_option maxRecDepth 100000 in
theorem k998 : (Cond.instanceMethod ({ cls := "PageSkeleton", name := "taker", desc := "(II)I" } : MethodName)) ∈ wsG := wsG_a5 38 rfl rfl
set_option maxRecDepth 100000 in
theorem k999 : (Cond.selects "PageSkeleton" ({ cls := "PageSkeleton", name := "taker", desc := "(II)I" } : MethodName) ({ cls := "PageSkeleton", name := "taker", desc := "(II)I" } : MethodName)) ∈ wsG := wsG_a5 39 rfl rfl
set_option maxRecDepth 100000 in
theorem k1000 : (Cond.code ({ cls := "PageSkeleton", name := "taker", desc := "(II)I" } : MethodName) prog_1_method_22_code (4 : Nat) (Option.some FieldType.int)) ∈ wsG := wsG_a5 40 rfl rfl
set_option maxRecDepth 100000 in
theorem k1004 : (Cond.methodLink "PageSkeletonLaw" (67 : Nat) ({ cls := "PageSkeleton", name := "unlike", desc := "(I)I" } : MethodName)) ∈ wsG := wsG_a5 44 rfl rfl
set_option maxRecDepth 100000 in
theorem k1005 : (Cond.instanceMethod ({ cls := "PageSkeleton", name := "unlike", desc := "(I)I" } : MethodName)) ∈ wsG := wsG_a5 45 rfl rfl
set_option maxRecDepth 100000 in
theorem k1006 : (Cond.selects "PageSkeleton" ({ cls := "PageSkeleton", name := "unlike", desc := "(I)I" } : MethodName) ({ cls := "PageSkeleton", name := "unlike", desc := "(I)I" } : MethodName)) ∈ wsG := wsG_a5 46 rfl rfl
set_option maxRecDepth 100000 in
theorem k1007 : (Cond.code ({ cls := "PageSkeleton", name := "unlike", desc := "(I)I" } : MethodName) prog_1_method_23_code (4 : Nat) (Option.some FieldType.int)) ∈ wsG := wsG_a5 47 rfl rfl
set_option maxRecDepth 100000 in
theorem k1015 : (Cond.methodLink "PageSkeletonLaw" (70 : Nat) ({ cls := "PageSkeleton", name := "would", desc := "(II)I" } : MethodName)) ∈ wsG := wsG_a5 55 rfl rfl
set_option maxRecDepth 100000 in
theorem k1016 : (Cond.instanceMethod ({ cls := "PageSkeleton", name := "would", desc := "(II)I" } : MethodName)) ∈ wsG := wsG_a5 56 rfl rfl
set_option maxRecDepth 100000 in
theorem k1017 : (Cond.selects "PageSkeleton" ({ cls := "PageSkeleton", name := "would", desc := "(II)I" } : MethodName) ({ cls := "PageSkeleton", name := "would", desc := "(II)I" } : MethodName)) ∈ wsG := wsG_a5 57 rfl rfl
set_option maxRecDepth 100000 in
theorem k1018 : (Cond.code ({ cls := "PageSkeleton", name := "would", desc := "(II)I" } : MethodName) prog_1_method_24_code (4 : Nat) (Option.some FieldType.int)) ∈ wsG := wsG_a5 58 rfl rfl
set_option maxRecDepth 100000 in
theorem k1022 : (Cond.methodLink "PageSkeletonLaw" (73 : Nat) ({ cls := "PageSkeleton", name := "distance", desc := "(II)I" } : MethodName)) ∈ wsG := wsG_a5 62 rfl rfl
set_option maxRecDepth 100000 in
theorem k1023 : (Cond.instanceMethod ({ cls := "PageSkeleton", name := "distance", desc := "(II)I" } : MethodName)) ∈ wsG := wsG_a5 63 rfl rfl
set_option maxRecDepth 100000 in
theorem k1024 : (Cond.selects "PageSkeleton" ({ cls := "PageSkeleton", name := "distance", desc := "(II)I" } : MethodName) ({ cls := "PageSkeleton", name := "distance", desc := "(II)I" } : MethodName)) ∈ wsG := wsG_a5 64 rfl rfl
set_option maxRecDepth 100000 in
theorem k1025 : (Cond.code ({ cls := "PageSkeleton", name := "distance", desc := "(II)I" } : MethodName) prog_1_method_25_code (3 : Nat) (Option.some FieldType.int)) ∈ wsG := wsG_a5 65 rfl rfl
set_option maxRecDepth 100000 in
theorem k1033 : (Cond.methodLink "PageSkeletonLaw" (76 : Nat) ({ cls := "PageSkeleton", name := "nearest", desc := "(I)I" } : MethodName)) ∈ wsG := wsG_a5 73 rfl rfl
set_option maxRecDepth 100000 in
theorem k1034 : (Cond.instanceMethod ({ cls := "PageSkeleton", name := "nearest", desc := "(I)I" } : MethodName)) ∈ wsG := wsG_a5 74 rfl rfl
set_option maxRecDepth 100000 in
theorem k1035 : (Cond.selects "PageSkeleton" ({ cls := "PageSkeleton", name := "nearest", desc := "(I)I" } : MethodName) ({ cls := "PageSkeleton", name := "nearest", desc := "(I)I" } : MethodName)) ∈ wsG := wsG_a5 75 rfl rfl
set_option maxRecDepth 100000 in
theorem k1036 : (Cond.code ({ cls := "PageSkeleton", name := "nearest", desc := "(I)I" } : MethodName) prog_1_method_26_code (6 : Nat) (Option.some FieldType.int)) ∈ wsG := wsG_a5 76 rfl rfl
set_option maxRecDepth 100000 in
theorem k1041 : (Cond.methodLink "PageSkeletonLaw" (79 : Nat) ({ cls := "PageSkeleton", name := "orders", desc := "(I)I" } : MethodName)) ∈ wsG := wsG_a5 81 rfl rfl
set_option maxRecDepth 100000 in
theorem k1042 : (Cond.instanceMethod ({ cls := "PageSkeleton", name := "orders", desc := "(I)I" } : MethodName)) ∈ wsG := wsG_a5 82 rfl rfl
set_option maxRecDepth 100000 in
theorem k1043 : (Cond.selects "PageSkeleton" ({ cls := "PageSkeleton", name := "orders", desc := "(I)I" } : MethodName) ({ cls := "PageSkeleton", name := "orders", desc := "(I)I" } : MethodName)) ∈ wsG := wsG_a5 83 rfl rfl
set_option maxRecDepth 100000 in
theorem k1044 : (Cond.code ({ cls := "PageSkeleton", name := "orders", desc := "(I)I" } : MethodName) prog_1_method_27_code (2 : Nat) (Option.some FieldType.int)) ∈ wsG := wsG_a5 84 rfl rfl
set_option maxRecDepth 100000 in
theorem k1088 : (Cond.methodLink "PageSkeletonLaw" (82 : Nat) ({ cls := "PageSkeleton", name := "firm", desc := "(I)I" } : MethodName)) ∈ wsG := wsG_a5 128 rfl rfl
set_option maxRecDepth 100000 in
theorem k1089 : (Cond.instanceMethod ({ cls := "PageSkeleton", name := "firm", desc := "(I)I" } : MethodName)) ∈ wsG := wsG_a5 129 rfl rfl
set_option maxRecDepth 100000 in
theorem k1090 : (Cond.selects "PageSkeleton" ({ cls := "PageSkeleton", name := "firm", desc := "(I)I" } : MethodName) ({ cls := "PageSkeleton", name := "firm", desc := "(I)I" } : MethodName)) ∈ wsG := wsG_a5 130 rfl rfl
set_option maxRecDepth 100000 in
theorem k1091 : (Cond.code ({ cls := "PageSkeleton", name := "firm", desc := "(I)I" } : MethodName) prog_1_method_29_code (2 : Nat) (Option.some FieldType.int)) ∈ wsG := wsG_a5 131 rfl rfl
set_option maxRecDepth 100000 in
theorem k1095 : (Cond.methodLink "PageSkeletonLaw" (85 : Nat) ({ cls := "PageSkeleton", name := "alike", desc := "(II)Z" } : MethodName)) ∈ wsG := wsG_a5 135 rfl rfl
set_option maxRecDepth 100000 in
theorem k1096 : (Cond.instanceMethod ({ cls := "PageSkeleton", name := "alike", desc := "(II)Z" } : MethodName)) ∈ wsG := wsG_a5 136 rfl rfl
set_option maxRecDepth 100000 in
theorem k1097 : (Cond.selects "PageSkeleton" ({ cls := "PageSkeleton", name := "alike", desc := "(II)Z" } : MethodName) ({ cls := "PageSkeleton", name := "alike", desc := "(II)Z" } : MethodName)) ∈ wsG := wsG_a5 137 rfl rfl
set_option maxRecDepth 100000 in
theorem k1098 : (Cond.code ({ cls := "PageSkeleton", name := "alike", desc := "(II)Z" } : MethodName) prog_1_method_30_code (6 : Nat) (Option.some FieldType.boolean)) ∈ wsG := wsG_a5 138 rfl rfl
set_option maxRecDepth 100000 in
theorem k1104 : (Cond.methodLink "PageSkeletonLaw" (89 : Nat) ({ cls := "PageSkeleton", name := "cuts", desc := "(I)I" } : MethodName)) ∈ wsG := wsG_a5 144 rfl rfl
set_option maxRecDepth 100000 in
theorem k1105 : (Cond.instanceMethod ({ cls := "PageSkeleton", name := "cuts", desc := "(I)I" } : MethodName)) ∈ wsG := wsG_a5 145 rfl rfl
set_option maxRecDepth 100000 in
theorem k1106 : (Cond.selects "PageSkeleton" ({ cls := "PageSkeleton", name := "cuts", desc := "(I)I" } : MethodName) ({ cls := "PageSkeleton", name := "cuts", desc := "(I)I" } : MethodName)) ∈ wsG := wsG_a5 146 rfl rfl
set_option maxRecDepth 100000 in
theorem k1107 : (Cond.code ({ cls := "PageSkeleton", name := "cuts", desc := "(I)I" } : MethodName) prog_1_method_31_code (3 : Nat) (Option.some FieldType.int)) ∈ wsG := wsG_a5 147 rfl rfl
set_option maxRecDepth 100000 in
theorem k1111 : (Cond.methodLink "PageSkeletonLaw" (92 : Nat) ({ cls := "PageSkeleton", name := "derived", desc := "(I)I" } : MethodName)) ∈ wsG := wsG_a5 151 rfl rfl
set_option maxRecDepth 100000 in
theorem k1112 : (Cond.instanceMethod ({ cls := "PageSkeleton", name := "derived", desc := "(I)I" } : MethodName)) ∈ wsG := wsG_a5 152 rfl rfl
set_option maxRecDepth 100000 in
theorem k1113 : (Cond.selects "PageSkeleton" ({ cls := "PageSkeleton", name := "derived", desc := "(I)I" } : MethodName) ({ cls := "PageSkeleton", name := "derived", desc := "(I)I" } : MethodName)) ∈ wsG := wsG_a5 153 rfl rfl
set_option maxRecDepth 100000 in
theorem k1114 : (Cond.code ({ cls := "PageSkeleton", name := "derived", desc := "(I)I" } : MethodName) prog_1_method_32_code (2 : Nat) (Option.some FieldType.int)) ∈ wsG := wsG_a5 154 rfl rfl
set_option maxRecDepth 100000 in
theorem k1118 : (Cond.methodLink "PageSkeletonLaw" (95 : Nat) ({ cls := "PageSkeleton", name := "common", desc := "(II)I" } : MethodName)) ∈ wsG := wsG_a5 158 rfl rfl
set_option maxRecDepth 100000 in
theorem k1119 : (Cond.instanceMethod ({ cls := "PageSkeleton", name := "common", desc := "(II)I" } : MethodName)) ∈ wsG := wsG_a5 159 rfl rfl
set_option maxRecDepth 100000 in
theorem k1120 : (Cond.selects "PageSkeleton" ({ cls := "PageSkeleton", name := "common", desc := "(II)I" } : MethodName) ({ cls := "PageSkeleton", name := "common", desc := "(II)I" } : MethodName)) ∈ wsG := wsG_a5 160 rfl rfl
set_option maxRecDepth 100000 in
theorem k1121 : (Cond.code ({ cls := "PageSkeleton", name := "common", desc := "(II)I" } : MethodName) prog_1_method_33_code (3 : Nat) (Option.some FieldType.int)) ∈ wsG := wsG_a5 161 rfl rfl
set_option maxRecDepth 100000 in
theorem k1131 : (Cond.methodLink "PageSkeletonLaw" (98 : Nat) ({ cls := "PageSkeleton", name := "similar", desc := "(II)Z" } : MethodName)) ∈ wsG := wsG_a5 171 rfl rfl
set_option maxRecDepth 100000 in
theorem k1132 : (Cond.instanceMethod ({ cls := "PageSkeleton", name := "similar", desc := "(II)Z" } : MethodName)) ∈ wsG := wsG_a5 172 rfl rfl
set_option maxRecDepth 100000 in
theorem k1133 : (Cond.selects "PageSkeleton" ({ cls := "PageSkeleton", name := "similar", desc := "(II)Z" } : MethodName) ({ cls := "PageSkeleton", name := "similar", desc := "(II)Z" } : MethodName)) ∈ wsG := wsG_a5 173 rfl rfl
set_option maxRecDepth 100000 in
theorem k1134 : (Cond.code ({ cls := "PageSkeleton", name := "similar", desc := "(II)Z" } : MethodName) prog_1_method_34_code (5 : Nat) (Option.some FieldType.boolean)) ∈ wsG := wsG_a5 174 rfl rfl
set_option maxRecDepth 100000 in
theorem k1138 : (Cond.methodLink "PageSkeletonLaw" (101 : Nat) ({ cls := "PageSkeleton", name := "step", desc := "(III)I" } : MethodName)) ∈ wsG := wsG_a5 178 rfl rfl
set_option maxRecDepth 100000 in
theorem k1139 : (Cond.instanceMethod ({ cls := "PageSkeleton", name := "step", desc := "(III)I" } : MethodName)) ∈ wsG := wsG_a5 179 rfl rfl
set_option maxRecDepth 100000 in
theorem k1140 : (Cond.selects "PageSkeleton" ({ cls := "PageSkeleton", name := "step", desc := "(III)I" } : MethodName) ({ cls := "PageSkeleton", name := "step", desc := "(III)I" } : MethodName)) ∈ wsG := wsG_a5 180 rfl rfl
set_option maxRecDepth 100000 in
theorem k1141 : (Cond.code ({ cls := "PageSkeleton", name := "step", desc := "(III)I" } : MethodName) prog_1_method_35_code (4 : Nat) (Option.some FieldType.int)) ∈ wsG := wsG_a5 181 rfl rfl
set_option maxRecDepth 100000 in
theorem k1145 : (Cond.methodLink "PageSkeletonLaw" (104 : Nat) ({ cls := "PageSkeleton", name := "users", desc := "(I)I" } : MethodName)) ∈ wsG := wsG_a5 185 rfl rfl
set_option maxRecDepth 100000 in
theorem k1146 : (Cond.instanceMethod ({ cls := "PageSkeleton", name := "users", desc := "(I)I" } : MethodName)) ∈ wsG := wsG_a5 186 rfl rfl
set_option maxRecDepth 100000 in
theorem k1147 : (Cond.selects "PageSkeleton" ({ cls := "PageSkeleton", name := "users", desc := "(I)I" } : MethodName) ({ cls := "PageSkeleton", name := "users", desc := "(I)I" } : MethodName)) ∈ wsG := wsG_a5 187 rfl rfl
set_option maxRecDepth 100000 in
theorem k1148 : (Cond.code ({ cls := "PageSkeleton", name := "users", desc := "(I)I" } : MethodName) prog_1_method_36_code (5 : Nat) (Option.some FieldType.int)) ∈ wsG := wsG_a5 188 rfl rfl
set_option maxRecDepth 100000 in
theorem k1152 : (Cond.methodLink "PageSkeletonLaw" (107 : Nat) ({ cls := "PageSkeleton", name := "greatest", desc := "(I)I" } : MethodName)) ∈ wsG := wsG_a5 192 rfl rfl
set_option maxRecDepth 100000 in
theorem k1153 : (Cond.instanceMethod ({ cls := "PageSkeleton", name := "greatest", desc := "(I)I" } : MethodName)) ∈ wsG := wsG_a5 193 rfl rfl
set_option maxRecDepth 100000 in
theorem k1154 : (Cond.selects "PageSkeleton" ({ cls := "PageSkeleton", name := "greatest", desc := "(I)I" } : MethodName) ({ cls := "PageSkeleton", name := "greatest", desc := "(I)I" } : MethodName)) ∈ wsG := wsG_a5 194 rfl rfl
set_option maxRecDepth 100000 in
theorem k1155 : (Cond.code ({ cls := "PageSkeleton", name := "greatest", desc := "(I)I" } : MethodName) prog_1_method_37_code (5 : Nat) (Option.some FieldType.int)) ∈ wsG := wsG_a5 195 rfl rfl
theorem dL_alike_0 : decode cL_alike 0 = .ok (.aload_n 3, 1) := by decide +kernel
theorem dL_alike_1 : decode cL_alike 1 = .ok (.iconst 0, 1) := by decide +kernel
theorem dL_alike_2 : decode cL_alike 2 = .ok (.aload_n 0, 1) := by decide +kernel
theorem dL_alike_3 : decode cL_alike 3 = .ok (.iload_n 1, 1) := by decide +kernel
theorem dL_alike_4 : decode cL_alike 4 = .ok (.iload_n 2, 1) := by decide +kernel
theorem dL_alike_5 : decode cL_alike 5 = .ok (.invokevirtual 85, 3) := by decide +kernel
theorem dL_alike_8 : decode cL_alike 8 = .ok (.ifCond .eq 7, 3) := by decide +kernel
theorem dL_alike_11 : decode cL_alike 11 = .ok (.lconst 1, 1) := by decide +kernel
theorem dL_alike_12 : decode cL_alike 12 = .ok (.goto 4, 3) := by decide +kernel
theorem dL_alike_15 : decode cL_alike 15 = .ok (.lconst 0, 1) := by decide +kernel
theorem dL_alike_16 : decode cL_alike 16 = .ok (.lastore, 1) := by decide +kernel
theorem dL_alike_17 : decode cL_alike 17 = .ok (.goto 7, 3) := by decide +kernel
theorem dL_alike_20 : decode cL_alike 20 = .ok (.astore 4, 2) := by decide +kernel
theorem dL_alike_22 : decode cL_alike 22 = .ok (.iconst 1, 1) := by decide +kernel
theorem dL_alike_23 : decode cL_alike 23 = .ok (.ireturn, 1) := by decide +kernel
theorem dL_alike_24 : decode cL_alike 24 = .ok (.iconst 0, 1) := by decide +kernel
theorem dL_alike_25 : decode cL_alike 25 = .ok (.ireturn, 1) := by decide +kernel
theorem dL_common_0 : decode cL_common 0 = .ok (.aload_n 3, 1) := by decide +kernel
theorem dL_common_1 : decode cL_common 1 = .ok (.iconst 0, 1) := by decide +kernel
theorem dL_common_2 : decode cL_common 2 = .ok (.aload_n 0, 1) := by decide +kernel
theorem dL_common_3 : decode cL_common 3 = .ok (.iload_n 1, 1) := by decide +kernel
theorem dL_common_4 : decode cL_common 4 = .ok (.iload_n 2, 1) := by decide +kernel
theorem dL_common_5 : decode cL_common 5 = .ok (.invokevirtual 95, 3) := by decide +kernel
theorem dL_common_8 : decode cL_common 8 = .ok (.i2l, 1) := by decide +kernel
theorem dL_common_9 : decode cL_common 9 = .ok (.lastore, 1) := by decide +kernel
theorem dL_common_10 : decode cL_common 10 = .ok (.goto 7, 3) := by decide +kernel
theorem dL_common_13 : decode cL_common 13 = .ok (.astore 4, 2) := by decide +kernel
theorem dL_common_15 : decode cL_common 15 = .ok (.iconst 1, 1) := by decide +kernel
theorem dL_common_16 : decode cL_common 16 = .ok (.ireturn, 1) := by decide +kernel
theorem dL_common_17 : decode cL_common 17 = .ok (.iconst 0, 1) := by decide +kernel
theorem dL_common_18 : decode cL_common 18 = .ok (.ireturn, 1) := by decide +kernel
theorem dL_cuts_0 : decode cL_cuts 0 = .ok (.aload_n 2, 1) := by decide +kernel
theorem dL_cuts_1 : decode cL_cuts 1 = .ok (.iconst 0, 1) := by decide +kernel
theorem dL_cuts_2 : decode cL_cuts 2 = .ok (.aload_n 0, 1) := by decide +kernel
theorem dL_cuts_3 : decode cL_cuts 3 = .ok (.iload_n 1, 1) := by decide +kernel
theorem dL_cuts_4 : decode cL_cuts 4 = .ok (.invokevirtual 89, 3) := by decide +kernel
theorem dL_cuts_7 : decode cL_cuts 7 = .ok (.i2l, 1) := by decide +kernel
theorem dL_cuts_8 : decode cL_cuts 8 = .ok (.lastore, 1) := by decide +kernel
theorem dL_cuts_9 : decode cL_cuts 9 = .ok (.goto 6, 3) := by decide +kernel
theorem dL_cuts_12 : decode cL_cuts 12 = .ok (.astore_n 3, 1) := by decide +kernel
theorem dL_cuts_13 : decode cL_cuts 13 = .ok (.iconst 1, 1) := by decide +kernel
theorem dL_cuts_14 : decode cL_cuts 14 = .ok (.ireturn, 1) := by decide +kernel
theorem dL_cuts_15 : decode cL_cuts 15 = .ok (.iconst 0, 1) := by decide +kernel
theorem dL_cuts_16 : decode cL_cuts 16 = .ok (.ireturn, 1) := by decide +kernel
theorem dL_derived_0 : decode cL_derived 0 = .ok (.aload_n 2, 1) := by decide +kernel
theorem dL_derived_1 : decode cL_derived 1 = .ok (.iconst 0, 1) := by decide +kernel
theorem dL_derived_2 : decode cL_derived 2 = .ok (.aload_n 0, 1) := by decide +kernel
theorem dL_derived_3 : decode cL_derived 3 = .ok (.iload_n 1, 1) := by decide +kernel
theorem dL_derived_4 : decode cL_derived 4 = .ok (.invokevirtual 92, 3) := by decide +kernel
theorem dL_derived_7 : decode cL_derived 7 = .ok (.i2l, 1) := by decide +kernel
theorem dL_derived_8 : decode cL_derived 8 = .ok (.lastore, 1) := by decide +kernel
theorem dL_derived_9 : decode cL_derived 9 = .ok (.goto 6, 3) := by decide +kernel
theorem dL_derived_12 : decode cL_derived 12 = .ok (.astore_n 3, 1) := by decide +kernel
theorem dL_derived_13 : decode cL_derived 13 = .ok (.iconst 1, 1) := by decide +kernel
theorem dL_derived_14 : decode cL_derived 14 = .ok (.ireturn, 1) := by decide +kernel
theorem dL_derived_15 : decode cL_derived 15 = .ok (.iconst 0, 1) := by decide +kernel
theorem dL_derived_16 : decode cL_derived 16 = .ok (.ireturn, 1) := by decide +kernel
theorem dL_distance_0 : decode cL_distance 0 = .ok (.aload_n 3, 1) := by decide +kernel
theorem dL_distance_1 : decode cL_distance 1 = .ok (.iconst 0, 1) := by decide +kernel
theorem dL_distance_2 : decode cL_distance 2 = .ok (.aload_n 0, 1) := by decide +kernel
theorem dL_distance_3 : decode cL_distance 3 = .ok (.iload_n 1, 1) := by decide +kernel
theorem dL_distance_4 : decode cL_distance 4 = .ok (.iload_n 2, 1) := by decide +kernel
theorem dL_distance_5 : decode cL_distance 5 = .ok (.invokevirtual 73, 3) := by decide +kernel
theorem dL_distance_8 : decode cL_distance 8 = .ok (.i2l, 1) := by decide +kernel
theorem dL_distance_9 : decode cL_distance 9 = .ok (.lastore, 1) := by decide +kernel
theorem dL_distance_10 : decode cL_distance 10 = .ok (.goto 7, 3) := by decide +kernel
theorem dL_distance_13 : decode cL_distance 13 = .ok (.astore 4, 2) := by decide +kernel
theorem dL_distance_15 : decode cL_distance 15 = .ok (.iconst 1, 1) := by decide +kernel
theorem dL_distance_16 : decode cL_distance 16 = .ok (.ireturn, 1) := by decide +kernel
theorem dL_distance_17 : decode cL_distance 17 = .ok (.iconst 0, 1) := by decide +kernel
theorem dL_distance_18 : decode cL_distance 18 = .ok (.ireturn, 1) := by decide +kernel
theorem dL_firm_0 : decode cL_firm 0 = .ok (.aload_n 2, 1) := by decide +kernel
theorem dL_firm_1 : decode cL_firm 1 = .ok (.iconst 0, 1) := by decide +kernel
theorem dL_firm_2 : decode cL_firm 2 = .ok (.aload_n 0, 1) := by decide +kernel
theorem dL_firm_3 : decode cL_firm 3 = .ok (.iload_n 1, 1) := by decide +kernel
theorem dL_firm_4 : decode cL_firm 4 = .ok (.invokevirtual 82, 3) := by decide +kernel
theorem dL_firm_7 : decode cL_firm 7 = .ok (.i2l, 1) := by decide +kernel
theorem dL_firm_8 : decode cL_firm 8 = .ok (.lastore, 1) := by decide +kernel
theorem dL_firm_9 : decode cL_firm 9 = .ok (.goto 6, 3) := by decide +kernel
theorem dL_firm_12 : decode cL_firm 12 = .ok (.astore_n 3, 1) := by decide +kernel
theorem dL_firm_13 : decode cL_firm 13 = .ok (.iconst 1, 1) := by decide +kernel
theorem dL_firm_14 : decode cL_firm 14 = .ok (.ireturn, 1) := by decide +kernel
theorem dL_firm_15 : decode cL_firm 15 = .ok (.iconst 0, 1) := by decide +kernel
theorem dL_firm_16 : decode cL_firm 16 = .ok (.ireturn, 1) := by decide +kernel
theorem dL_fits_0 : decode cL_fits 0 = .ok (.aload_n 2, 1) := by decide +kernel
theorem dL_fits_1 : decode cL_fits 1 = .ok (.iconst 0, 1) := by decide +kernel
theorem dL_fits_2 : decode cL_fits 2 = .ok (.aload_n 0, 1) := by decide +kernel
theorem dL_fits_3 : decode cL_fits 3 = .ok (.iload_n 1, 1) := by decide +kernel
theorem dL_fits_4 : decode cL_fits 4 = .ok (.invokevirtual 45, 3) := by decide +kernel
theorem dL_fits_7 : decode cL_fits 7 = .ok (.ifCond .eq 7, 3) := by decide +kernel
theorem dL_fits_10 : decode cL_fits 10 = .ok (.lconst 1, 1) := by decide +kernel
theorem dL_fits_11 : decode cL_fits 11 = .ok (.goto 4, 3) := by decide +kernel
theorem dL_fits_14 : decode cL_fits 14 = .ok (.lconst 0, 1) := by decide +kernel
theorem dL_fits_15 : decode cL_fits 15 = .ok (.lastore, 1) := by decide +kernel
theorem dL_fits_16 : decode cL_fits 16 = .ok (.goto 6, 3) := by decide +kernel
theorem dL_fits_19 : decode cL_fits 19 = .ok (.astore_n 3, 1) := by decide +kernel
theorem dL_fits_20 : decode cL_fits 20 = .ok (.iconst 1, 1) := by decide +kernel
theorem dL_fits_21 : decode cL_fits 21 = .ok (.ireturn, 1) := by decide +kernel
theorem dL_fits_22 : decode cL_fits 22 = .ok (.iconst 0, 1) := by decide +kernel
theorem dL_fits_23 : decode cL_fits 23 = .ok (.ireturn, 1) := by decide +kernel
theorem dL_greatest_0 : decode cL_greatest 0 = .ok (.aload_n 2, 1) := by decide +kernel
theorem dL_greatest_1 : decode cL_greatest 1 = .ok (.iconst 0, 1) := by decide +kernel
theorem dL_greatest_2 : decode cL_greatest 2 = .ok (.aload_n 0, 1) := by decide +kernel
theorem dL_greatest_3 : decode cL_greatest 3 = .ok (.iload_n 1, 1) := by decide +kernel
theorem dL_greatest_4 : decode cL_greatest 4 = .ok (.invokevirtual 107, 3) := by decide +kernel
theorem dL_greatest_7 : decode cL_greatest 7 = .ok (.i2l, 1) := by decide +kernel
theorem dL_greatest_8 : decode cL_greatest 8 = .ok (.lastore, 1) := by decide +kernel
theorem dL_greatest_9 : decode cL_greatest 9 = .ok (.goto 6, 3) := by decide +kernel
theorem dL_greatest_12 : decode cL_greatest 12 = .ok (.astore_n 3, 1) := by decide +kernel
theorem dL_greatest_13 : decode cL_greatest 13 = .ok (.iconst 1, 1) := by decide +kernel
theorem dL_greatest_14 : decode cL_greatest 14 = .ok (.ireturn, 1) := by decide +kernel
theorem dL_greatest_15 : decode cL_greatest 15 = .ok (.iconst 0, 1) := by decide +kernel
theorem dL_greatest_16 : decode cL_greatest 16 = .ok (.ireturn, 1) := by decide +kernel
theorem dL_lay_0 : decode cL_lay 0 = .ok (.aload_n 2, 1) := by decide +kernel
theorem dL_lay_1 : decode cL_lay 1 = .ok (.iconst 0, 1) := by decide +kernel
theorem dL_lay_2 : decode cL_lay 2 = .ok (.aload_n 0, 1) := by decide +kernel
theorem dL_lay_3 : decode cL_lay 3 = .ok (.iload_n 1, 1) := by decide +kernel
theorem dL_lay_4 : decode cL_lay 4 = .ok (.invokevirtual 17, 3) := by decide +kernel
theorem dL_lay_7 : decode cL_lay 7 = .ok (.i2l, 1) := by decide +kernel
theorem dL_lay_8 : decode cL_lay 8 = .ok (.lastore, 1) := by decide +kernel
theorem dL_lay_9 : decode cL_lay 9 = .ok (.goto 9, 3) := by decide +kernel
theorem dL_lay_12 : decode cL_lay 12 = .ok (.astore_n 3, 1) := by decide +kernel
theorem dL_lay_13 : decode cL_lay 13 = .ok (.iconst 1, 1) := by decide +kernel
theorem dL_lay_14 : decode cL_lay 14 = .ok (.ireturn, 1) := by decide +kernel
theorem dL_lay_15 : decode cL_lay 15 = .ok (.astore_n 3, 1) := by decide +kernel
theorem dL_lay_16 : decode cL_lay 16 = .ok (.iconst 2, 1) := by decide +kernel
theorem dL_lay_17 : decode cL_lay 17 = .ok (.ireturn, 1) := by decide +kernel
theorem dL_lay_18 : decode cL_lay 18 = .ok (.iconst 0, 1) := by decide +kernel
theorem dL_lay_19 : decode cL_lay 19 = .ok (.ireturn, 1) := by decide +kernel
theorem dL_nearest_0 : decode cL_nearest 0 = .ok (.aload_n 2, 1) := by decide +kernel
theorem dL_nearest_1 : decode cL_nearest 1 = .ok (.iconst 0, 1) := by decide +kernel
theorem dL_nearest_2 : decode cL_nearest 2 = .ok (.aload_n 0, 1) := by decide +kernel
theorem dL_nearest_3 : decode cL_nearest 3 = .ok (.iload_n 1, 1) := by decide +kernel
theorem dL_nearest_4 : decode cL_nearest 4 = .ok (.invokevirtual 76, 3) := by decide +kernel
theorem dL_nearest_7 : decode cL_nearest 7 = .ok (.i2l, 1) := by decide +kernel
theorem dL_nearest_8 : decode cL_nearest 8 = .ok (.lastore, 1) := by decide +kernel
theorem dL_nearest_9 : decode cL_nearest 9 = .ok (.goto 6, 3) := by decide +kernel
theorem dL_nearest_12 : decode cL_nearest 12 = .ok (.astore_n 3, 1) := by decide +kernel
theorem dL_nearest_13 : decode cL_nearest 13 = .ok (.iconst 1, 1) := by decide +kernel
theorem dL_nearest_14 : decode cL_nearest 14 = .ok (.ireturn, 1) := by decide +kernel
theorem dL_nearest_15 : decode cL_nearest 15 = .ok (.iconst 0, 1) := by decide +kernel
theorem dL_nearest_16 : decode cL_nearest 16 = .ok (.ireturn, 1) := by decide +kernel
theorem dL_node_0 : decode cL_node 0 = .ok (.aload_n 3, 1) := by decide +kernel
theorem dL_node_1 : decode cL_node 1 = .ok (.iconst 0, 1) := by decide +kernel
theorem dL_node_2 : decode cL_node 2 = .ok (.aload_n 0, 1) := by decide +kernel
theorem dL_node_3 : decode cL_node 3 = .ok (.iload_n 1, 1) := by decide +kernel
theorem dL_node_4 : decode cL_node 4 = .ok (.iload_n 2, 1) := by decide +kernel
theorem dL_node_5 : decode cL_node 5 = .ok (.invokevirtual 38, 3) := by decide +kernel
theorem dL_node_8 : decode cL_node 8 = .ok (.i2l, 1) := by decide +kernel
theorem dL_node_9 : decode cL_node 9 = .ok (.lastore, 1) := by decide +kernel
theorem dL_node_10 : decode cL_node 10 = .ok (.goto 11, 3) := by decide +kernel
theorem dL_node_13 : decode cL_node 13 = .ok (.astore 4, 2) := by decide +kernel
theorem dL_node_15 : decode cL_node 15 = .ok (.iconst 1, 1) := by decide +kernel
theorem dL_node_16 : decode cL_node 16 = .ok (.ireturn, 1) := by decide +kernel
theorem dL_node_17 : decode cL_node 17 = .ok (.astore 4, 2) := by decide +kernel
theorem dL_node_19 : decode cL_node 19 = .ok (.iconst 2, 1) := by decide +kernel
theorem dL_node_20 : decode cL_node 20 = .ok (.ireturn, 1) := by decide +kernel
theorem dL_node_21 : decode cL_node 21 = .ok (.iconst 0, 1) := by decide +kernel
theorem dL_node_22 : decode cL_node 22 = .ok (.ireturn, 1) := by decide +kernel
theorem dL_orders_0 : decode cL_orders 0 = .ok (.aload_n 2, 1) := by decide +kernel
theorem dL_orders_1 : decode cL_orders 1 = .ok (.iconst 0, 1) := by decide +kernel
theorem dL_orders_2 : decode cL_orders 2 = .ok (.aload_n 0, 1) := by decide +kernel
theorem dL_orders_3 : decode cL_orders 3 = .ok (.iload_n 1, 1) := by decide +kernel
theorem dL_orders_4 : decode cL_orders 4 = .ok (.invokevirtual 79, 3) := by decide +kernel
theorem dL_orders_7 : decode cL_orders 7 = .ok (.i2l, 1) := by decide +kernel
theorem dL_orders_8 : decode cL_orders 8 = .ok (.lastore, 1) := by decide +kernel
theorem dL_orders_9 : decode cL_orders 9 = .ok (.goto 9, 3) := by decide +kernel
theorem dL_orders_12 : decode cL_orders 12 = .ok (.astore_n 3, 1) := by decide +kernel
theorem dL_orders_13 : decode cL_orders 13 = .ok (.iconst 1, 1) := by decide +kernel
theorem dL_orders_14 : decode cL_orders 14 = .ok (.ireturn, 1) := by decide +kernel
theorem dL_orders_15 : decode cL_orders 15 = .ok (.astore_n 3, 1) := by decide +kernel
theorem dL_orders_16 : decode cL_orders 16 = .ok (.iconst 2, 1) := by decide +kernel
theorem dL_orders_17 : decode cL_orders 17 = .ok (.ireturn, 1) := by decide +kernel
theorem dL_orders_18 : decode cL_orders 18 = .ok (.iconst 0, 1) := by decide +kernel
theorem dL_orders_19 : decode cL_orders 19 = .ok (.ireturn, 1) := by decide +kernel
theorem dL_page_0 : decode cL_page 0 = .ok (.aload_n 2, 1) := by decide +kernel
theorem dL_page_1 : decode cL_page 1 = .ok (.iconst 0, 1) := by decide +kernel
theorem dL_page_2 : decode cL_page 2 = .ok (.aload_n 0, 1) := by decide +kernel
theorem dL_page_3 : decode cL_page 3 = .ok (.iload_n 1, 1) := by decide +kernel
theorem dL_page_4 : decode cL_page 4 = .ok (.invokevirtual 7, 3) := by decide +kernel
theorem dL_page_7 : decode cL_page 7 = .ok (.i2l, 1) := by decide +kernel
theorem dL_page_8 : decode cL_page 8 = .ok (.lastore, 1) := by decide +kernel
theorem dL_page_9 : decode cL_page 9 = .ok (.goto 9, 3) := by decide +kernel
theorem dL_page_12 : decode cL_page 12 = .ok (.astore_n 3, 1) := by decide +kernel
theorem dL_page_13 : decode cL_page 13 = .ok (.iconst 1, 1) := by decide +kernel
theorem dL_page_14 : decode cL_page 14 = .ok (.ireturn, 1) := by decide +kernel
theorem dL_page_15 : decode cL_page 15 = .ok (.astore_n 3, 1) := by decide +kernel
theorem dL_page_16 : decode cL_page 16 = .ok (.iconst 2, 1) := by decide +kernel
theorem dL_page_17 : decode cL_page 17 = .ok (.ireturn, 1) := by decide +kernel
theorem dL_page_18 : decode cL_page 18 = .ok (.iconst 0, 1) := by decide +kernel
theorem dL_page_19 : decode cL_page 19 = .ok (.ireturn, 1) := by decide +kernel
theorem dL_pageNode_0 : decode cL_pageNode 0 = .ok (.aload 4, 2) := by decide +kernel
theorem dL_pageNode_2 : decode cL_pageNode 2 = .ok (.iconst 0, 1) := by decide +kernel
theorem dL_pageNode_3 : decode cL_pageNode 3 = .ok (.aload_n 0, 1) := by decide +kernel
theorem dL_pageNode_4 : decode cL_pageNode 4 = .ok (.iload_n 1, 1) := by decide +kernel
theorem dL_pageNode_5 : decode cL_pageNode 5 = .ok (.iload_n 2, 1) := by decide +kernel
theorem dL_pageNode_6 : decode cL_pageNode 6 = .ok (.iload_n 3, 1) := by decide +kernel
theorem dL_pageNode_7 : decode cL_pageNode 7 = .ok (.invokevirtual 41, 3) := by decide +kernel
theorem dL_pageNode_10 : decode cL_pageNode 10 = .ok (.i2l, 1) := by decide +kernel
theorem dL_pageNode_11 : decode cL_pageNode 11 = .ok (.lastore, 1) := by decide +kernel
theorem dL_pageNode_12 : decode cL_pageNode 12 = .ok (.goto 11, 3) := by decide +kernel
theorem dL_pageNode_15 : decode cL_pageNode 15 = .ok (.astore 5, 2) := by decide +kernel
theorem dL_pageNode_17 : decode cL_pageNode 17 = .ok (.iconst 1, 1) := by decide +kernel
theorem dL_pageNode_18 : decode cL_pageNode 18 = .ok (.ireturn, 1) := by decide +kernel
theorem dL_pageNode_19 : decode cL_pageNode 19 = .ok (.astore 5, 2) := by decide +kernel
theorem dL_pageNode_21 : decode cL_pageNode 21 = .ok (.iconst 2, 1) := by decide +kernel
theorem dL_pageNode_22 : decode cL_pageNode 22 = .ok (.ireturn, 1) := by decide +kernel
theorem dL_pageNode_23 : decode cL_pageNode 23 = .ok (.iconst 0, 1) := by decide +kernel
theorem dL_pageNode_24 : decode cL_pageNode 24 = .ok (.ireturn, 1) := by decide +kernel
theorem dL_pageOf_0 : decode cL_pageOf 0 = .ok (.aload_n 3, 1) := by decide +kernel
theorem dL_pageOf_1 : decode cL_pageOf 1 = .ok (.iconst 0, 1) := by decide +kernel
theorem dL_pageOf_2 : decode cL_pageOf 2 = .ok (.aload_n 0, 1) := by decide +kernel
theorem dL_pageOf_3 : decode cL_pageOf 3 = .ok (.iload_n 1, 1) := by decide +kernel
theorem dL_pageOf_4 : decode cL_pageOf 4 = .ok (.iload_n 2, 1) := by decide +kernel
theorem dL_pageOf_5 : decode cL_pageOf 5 = .ok (.invokevirtual 28, 3) := by decide +kernel
theorem dL_pageOf_8 : decode cL_pageOf 8 = .ok (.i2l, 1) := by decide +kernel
theorem dL_pageOf_9 : decode cL_pageOf 9 = .ok (.lastore, 1) := by decide +kernel
theorem dL_pageOf_10 : decode cL_pageOf 10 = .ok (.goto 11, 3) := by decide +kernel
theorem dL_pageOf_13 : decode cL_pageOf 13 = .ok (.astore 4, 2) := by decide +kernel
theorem dL_pageOf_15 : decode cL_pageOf 15 = .ok (.iconst 1, 1) := by decide +kernel
theorem dL_pageOf_16 : decode cL_pageOf 16 = .ok (.ireturn, 1) := by decide +kernel
theorem dL_pageOf_17 : decode cL_pageOf 17 = .ok (.astore 4, 2) := by decide +kernel
theorem dL_pageOf_19 : decode cL_pageOf 19 = .ok (.iconst 2, 1) := by decide +kernel
theorem dL_pageOf_20 : decode cL_pageOf 20 = .ok (.ireturn, 1) := by decide +kernel
theorem dL_pageOf_21 : decode cL_pageOf 21 = .ok (.iconst 0, 1) := by decide +kernel
theorem dL_pageOf_22 : decode cL_pageOf 22 = .ok (.ireturn, 1) := by decide +kernel
theorem dL_passes_0 : decode cL_passes 0 = .ok (.aload_n 3, 1) := by decide +kernel
theorem dL_passes_1 : decode cL_passes 1 = .ok (.iconst 0, 1) := by decide +kernel
theorem dL_passes_2 : decode cL_passes 2 = .ok (.aload_n 0, 1) := by decide +kernel
theorem dL_passes_3 : decode cL_passes 3 = .ok (.iload_n 1, 1) := by decide +kernel
theorem dL_passes_4 : decode cL_passes 4 = .ok (.iload_n 2, 1) := by decide +kernel
theorem dL_passes_5 : decode cL_passes 5 = .ok (.invokevirtual 58, 3) := by decide +kernel
theorem dL_passes_8 : decode cL_passes 8 = .ok (.i2l, 1) := by decide +kernel
theorem dL_passes_9 : decode cL_passes 9 = .ok (.lastore, 1) := by decide +kernel
theorem dL_passes_10 : decode cL_passes 10 = .ok (.goto 7, 3) := by decide +kernel
theorem dL_passes_13 : decode cL_passes 13 = .ok (.astore 4, 2) := by decide +kernel
theorem dL_passes_15 : decode cL_passes 15 = .ok (.iconst 1, 1) := by decide +kernel
theorem dL_passes_16 : decode cL_passes 16 = .ok (.ireturn, 1) := by decide +kernel
theorem dL_passes_17 : decode cL_passes 17 = .ok (.iconst 0, 1) := by decide +kernel
theorem dL_passes_18 : decode cL_passes 18 = .ok (.ireturn, 1) := by decide +kernel
theorem dL_reach_0 : decode cL_reach 0 = .ok (.aload_n 2, 1) := by decide +kernel
theorem dL_reach_1 : decode cL_reach 1 = .ok (.iconst 0, 1) := by decide +kernel
theorem dL_reach_2 : decode cL_reach 2 = .ok (.aload_n 0, 1) := by decide +kernel
theorem dL_reach_3 : decode cL_reach 3 = .ok (.iload_n 1, 1) := by decide +kernel
theorem dL_reach_4 : decode cL_reach 4 = .ok (.invokevirtual 49, 3) := by decide +kernel
theorem dL_reach_7 : decode cL_reach 7 = .ok (.i2l, 1) := by decide +kernel
theorem dL_reach_8 : decode cL_reach 8 = .ok (.lastore, 1) := by decide +kernel
theorem dL_reach_9 : decode cL_reach 9 = .ok (.goto 6, 3) := by decide +kernel
theorem dL_reach_12 : decode cL_reach 12 = .ok (.astore_n 3, 1) := by decide +kernel
theorem dL_reach_13 : decode cL_reach 13 = .ok (.iconst 1, 1) := by decide +kernel
theorem dL_reach_14 : decode cL_reach 14 = .ok (.ireturn, 1) := by decide +kernel
theorem dL_reach_15 : decode cL_reach 15 = .ok (.iconst 0, 1) := by decide +kernel
theorem dL_reach_16 : decode cL_reach 16 = .ok (.ireturn, 1) := by decide +kernel
theorem dL_similar_0 : decode cL_similar 0 = .ok (.aload_n 3, 1) := by decide +kernel
theorem dL_similar_1 : decode cL_similar 1 = .ok (.iconst 0, 1) := by decide +kernel
theorem dL_similar_2 : decode cL_similar 2 = .ok (.aload_n 0, 1) := by decide +kernel
theorem dL_similar_3 : decode cL_similar 3 = .ok (.iload_n 1, 1) := by decide +kernel
theorem dL_similar_4 : decode cL_similar 4 = .ok (.iload_n 2, 1) := by decide +kernel
theorem dL_similar_5 : decode cL_similar 5 = .ok (.invokevirtual 98, 3) := by decide +kernel
theorem dL_similar_8 : decode cL_similar 8 = .ok (.ifCond .eq 7, 3) := by decide +kernel
theorem dL_similar_11 : decode cL_similar 11 = .ok (.lconst 1, 1) := by decide +kernel
theorem dL_similar_12 : decode cL_similar 12 = .ok (.goto 4, 3) := by decide +kernel
theorem dL_similar_15 : decode cL_similar 15 = .ok (.lconst 0, 1) := by decide +kernel
theorem dL_similar_16 : decode cL_similar 16 = .ok (.lastore, 1) := by decide +kernel
theorem dL_similar_17 : decode cL_similar 17 = .ok (.goto 7, 3) := by decide +kernel
theorem dL_similar_20 : decode cL_similar 20 = .ok (.astore 4, 2) := by decide +kernel
theorem dL_similar_22 : decode cL_similar 22 = .ok (.iconst 1, 1) := by decide +kernel
theorem dL_similar_23 : decode cL_similar 23 = .ok (.ireturn, 1) := by decide +kernel
theorem dL_similar_24 : decode cL_similar 24 = .ok (.iconst 0, 1) := by decide +kernel
theorem dL_similar_25 : decode cL_similar 25 = .ok (.ireturn, 1) := by decide +kernel
theorem dL_step_0 : decode cL_step 0 = .ok (.aload 4, 2) := by decide +kernel
theorem dL_step_2 : decode cL_step 2 = .ok (.iconst 0, 1) := by decide +kernel
theorem dL_step_3 : decode cL_step 3 = .ok (.aload_n 0, 1) := by decide +kernel
theorem dL_step_4 : decode cL_step 4 = .ok (.iload_n 1, 1) := by decide +kernel
theorem dL_step_5 : decode cL_step 5 = .ok (.iload_n 2, 1) := by decide +kernel
theorem dL_step_6 : decode cL_step 6 = .ok (.iload_n 3, 1) := by decide +kernel
theorem dL_step_7 : decode cL_step 7 = .ok (.invokevirtual 101, 3) := by decide +kernel
theorem dL_step_10 : decode cL_step 10 = .ok (.i2l, 1) := by decide +kernel
theorem dL_step_11 : decode cL_step 11 = .ok (.lastore, 1) := by decide +kernel
theorem dL_step_12 : decode cL_step 12 = .ok (.goto 11, 3) := by decide +kernel
theorem dL_step_15 : decode cL_step 15 = .ok (.astore 5, 2) := by decide +kernel
theorem dL_step_17 : decode cL_step 17 = .ok (.iconst 1, 1) := by decide +kernel
theorem dL_step_18 : decode cL_step 18 = .ok (.ireturn, 1) := by decide +kernel
theorem dL_step_19 : decode cL_step 19 = .ok (.astore 5, 2) := by decide +kernel
theorem dL_step_21 : decode cL_step 21 = .ok (.iconst 2, 1) := by decide +kernel
theorem dL_step_22 : decode cL_step 22 = .ok (.ireturn, 1) := by decide +kernel
theorem dL_step_23 : decode cL_step 23 = .ok (.iconst 0, 1) := by decide +kernel
theorem dL_step_24 : decode cL_step 24 = .ok (.ireturn, 1) := by decide +kernel
theorem dL_taker_0 : decode cL_taker 0 = .ok (.aload_n 3, 1) := by decide +kernel
theorem dL_taker_1 : decode cL_taker 1 = .ok (.iconst 0, 1) := by decide +kernel
theorem dL_taker_2 : decode cL_taker 2 = .ok (.aload_n 0, 1) := by decide +kernel
theorem dL_taker_3 : decode cL_taker 3 = .ok (.iload_n 1, 1) := by decide +kernel
theorem dL_taker_4 : decode cL_taker 4 = .ok (.iload_n 2, 1) := by decide +kernel
theorem dL_taker_5 : decode cL_taker 5 = .ok (.invokevirtual 64, 3) := by decide +kernel
theorem dL_taker_8 : decode cL_taker 8 = .ok (.i2l, 1) := by decide +kernel
theorem dL_taker_9 : decode cL_taker 9 = .ok (.lastore, 1) := by decide +kernel
theorem dL_taker_10 : decode cL_taker 10 = .ok (.goto 7, 3) := by decide +kernel
theorem dL_taker_13 : decode cL_taker 13 = .ok (.astore 4, 2) := by decide +kernel
theorem dL_taker_15 : decode cL_taker 15 = .ok (.iconst 1, 1) := by decide +kernel
theorem dL_taker_16 : decode cL_taker 16 = .ok (.ireturn, 1) := by decide +kernel
theorem dL_taker_17 : decode cL_taker 17 = .ok (.iconst 0, 1) := by decide +kernel
theorem dL_taker_18 : decode cL_taker 18 = .ok (.ireturn, 1) := by decide +kernel
theorem dL_tidied_0 : decode cL_tidied 0 = .ok (.aload_n 2, 1) := by decide +kernel
theorem dL_tidied_1 : decode cL_tidied 1 = .ok (.iconst 0, 1) := by decide +kernel
theorem dL_tidied_2 : decode cL_tidied 2 = .ok (.aload_n 0, 1) := by decide +kernel
theorem dL_tidied_3 : decode cL_tidied 3 = .ok (.iload_n 1, 1) := by decide +kernel
theorem dL_tidied_4 : decode cL_tidied 4 = .ok (.invokevirtual 22, 3) := by decide +kernel
theorem dL_tidied_7 : decode cL_tidied 7 = .ok (.i2l, 1) := by decide +kernel
theorem dL_tidied_8 : decode cL_tidied 8 = .ok (.lastore, 1) := by decide +kernel
theorem dL_tidied_9 : decode cL_tidied 9 = .ok (.goto 6, 3) := by decide +kernel
theorem dL_tidied_12 : decode cL_tidied 12 = .ok (.astore_n 3, 1) := by decide +kernel
theorem dL_tidied_13 : decode cL_tidied 13 = .ok (.iconst 1, 1) := by decide +kernel
theorem dL_tidied_14 : decode cL_tidied 14 = .ok (.ireturn, 1) := by decide +kernel
theorem dL_tidied_15 : decode cL_tidied 15 = .ok (.iconst 0, 1) := by decide +kernel
theorem dL_tidied_16 : decode cL_tidied 16 = .ok (.ireturn, 1) := by decide +kernel
theorem dL_times_0 : decode cL_times 0 = .ok (.aload_n 3, 1) := by decide +kernel
theorem dL_times_1 : decode cL_times 1 = .ok (.iconst 0, 1) := by decide +kernel
theorem dL_times_2 : decode cL_times 2 = .ok (.aload_n 0, 1) := by decide +kernel
theorem dL_times_3 : decode cL_times 3 = .ok (.iload_n 1, 1) := by decide +kernel
theorem dL_times_4 : decode cL_times 4 = .ok (.iload_n 2, 1) := by decide +kernel
theorem dL_times_5 : decode cL_times 5 = .ok (.invokevirtual 55, 3) := by decide +kernel
theorem dL_times_8 : decode cL_times 8 = .ok (.i2l, 1) := by decide +kernel
theorem dL_times_9 : decode cL_times 9 = .ok (.lastore, 1) := by decide +kernel
theorem dL_times_10 : decode cL_times 10 = .ok (.goto 7, 3) := by decide +kernel
theorem dL_times_13 : decode cL_times 13 = .ok (.astore 4, 2) := by decide +kernel
theorem dL_times_15 : decode cL_times 15 = .ok (.iconst 1, 1) := by decide +kernel
theorem dL_times_16 : decode cL_times 16 = .ok (.ireturn, 1) := by decide +kernel
theorem dL_times_17 : decode cL_times 17 = .ok (.iconst 0, 1) := by decide +kernel
theorem dL_times_18 : decode cL_times 18 = .ok (.ireturn, 1) := by decide +kernel
theorem dL_token_0 : decode cL_token 0 = .ok (.aload_n 3, 1) := by decide +kernel
theorem dL_token_1 : decode cL_token 1 = .ok (.iconst 0, 1) := by decide +kernel
theorem dL_token_2 : decode cL_token 2 = .ok (.aload_n 0, 1) := by decide +kernel
theorem dL_token_3 : decode cL_token 3 = .ok (.iload_n 1, 1) := by decide +kernel
theorem dL_token_4 : decode cL_token 4 = .ok (.iload_n 2, 1) := by decide +kernel
theorem dL_token_5 : decode cL_token 5 = .ok (.invokevirtual 32, 3) := by decide +kernel
theorem dL_token_8 : decode cL_token 8 = .ok (.i2l, 1) := by decide +kernel
theorem dL_token_9 : decode cL_token 9 = .ok (.lastore, 1) := by decide +kernel
theorem dL_token_10 : decode cL_token 10 = .ok (.goto 7, 3) := by decide +kernel
theorem dL_token_13 : decode cL_token 13 = .ok (.astore 4, 2) := by decide +kernel
theorem dL_token_15 : decode cL_token 15 = .ok (.iconst 1, 1) := by decide +kernel
theorem dL_token_16 : decode cL_token 16 = .ok (.ireturn, 1) := by decide +kernel
theorem dL_token_17 : decode cL_token 17 = .ok (.iconst 0, 1) := by decide +kernel
theorem dL_token_18 : decode cL_token 18 = .ok (.ireturn, 1) := by decide +kernel
theorem dL_tokenOf_0 : decode cL_tokenOf 0 = .ok (.aload_n 3, 1) := by decide +kernel
theorem dL_tokenOf_1 : decode cL_tokenOf 1 = .ok (.iconst 0, 1) := by decide +kernel
theorem dL_tokenOf_2 : decode cL_tokenOf 2 = .ok (.aload_n 0, 1) := by decide +kernel
theorem dL_tokenOf_3 : decode cL_tokenOf 3 = .ok (.iload_n 1, 1) := by decide +kernel
theorem dL_tokenOf_4 : decode cL_tokenOf 4 = .ok (.iload_n 2, 1) := by decide +kernel
theorem dL_tokenOf_5 : decode cL_tokenOf 5 = .ok (.invokevirtual 35, 3) := by decide +kernel
theorem dL_tokenOf_8 : decode cL_tokenOf 8 = .ok (.i2l, 1) := by decide +kernel
theorem dL_tokenOf_9 : decode cL_tokenOf 9 = .ok (.lastore, 1) := by decide +kernel
theorem dL_tokenOf_10 : decode cL_tokenOf 10 = .ok (.goto 11, 3) := by decide +kernel
theorem dL_tokenOf_13 : decode cL_tokenOf 13 = .ok (.astore 4, 2) := by decide +kernel
theorem dL_tokenOf_15 : decode cL_tokenOf 15 = .ok (.iconst 1, 1) := by decide +kernel
theorem dL_tokenOf_16 : decode cL_tokenOf 16 = .ok (.ireturn, 1) := by decide +kernel
theorem dL_tokenOf_17 : decode cL_tokenOf 17 = .ok (.astore 4, 2) := by decide +kernel
theorem dL_tokenOf_19 : decode cL_tokenOf 19 = .ok (.iconst 2, 1) := by decide +kernel
theorem dL_tokenOf_20 : decode cL_tokenOf 20 = .ok (.ireturn, 1) := by decide +kernel
theorem dL_tokenOf_21 : decode cL_tokenOf 21 = .ok (.iconst 0, 1) := by decide +kernel
theorem dL_tokenOf_22 : decode cL_tokenOf 22 = .ok (.ireturn, 1) := by decide +kernel
theorem dL_told_0 : decode cL_told 0 = .ok (.aload_n 2, 1) := by decide +kernel
theorem dL_told_1 : decode cL_told 1 = .ok (.iconst 0, 1) := by decide +kernel
theorem dL_told_2 : decode cL_told 2 = .ok (.aload_n 0, 1) := by decide +kernel
theorem dL_told_3 : decode cL_told 3 = .ok (.iload_n 1, 1) := by decide +kernel
theorem dL_told_4 : decode cL_told 4 = .ok (.invokevirtual 25, 3) := by decide +kernel
theorem dL_told_7 : decode cL_told 7 = .ok (.i2l, 1) := by decide +kernel
theorem dL_told_8 : decode cL_told 8 = .ok (.lastore, 1) := by decide +kernel
theorem dL_told_9 : decode cL_told 9 = .ok (.goto 6, 3) := by decide +kernel
theorem dL_told_12 : decode cL_told 12 = .ok (.astore_n 3, 1) := by decide +kernel
theorem dL_told_13 : decode cL_told 13 = .ok (.iconst 1, 1) := by decide +kernel
theorem dL_told_14 : decode cL_told 14 = .ok (.ireturn, 1) := by decide +kernel
theorem dL_told_15 : decode cL_told 15 = .ok (.iconst 0, 1) := by decide +kernel
theorem dL_told_16 : decode cL_told 16 = .ok (.ireturn, 1) := by decide +kernel
theorem dL_unlike_0 : decode cL_unlike 0 = .ok (.aload_n 2, 1) := by decide +kernel
theorem dL_unlike_1 : decode cL_unlike 1 = .ok (.iconst 0, 1) := by decide +kernel
theorem dL_unlike_2 : decode cL_unlike 2 = .ok (.aload_n 0, 1) := by decide +kernel
theorem dL_unlike_3 : decode cL_unlike 3 = .ok (.iload_n 1, 1) := by decide +kernel
theorem dL_unlike_4 : decode cL_unlike 4 = .ok (.invokevirtual 67, 3) := by decide +kernel
theorem dL_unlike_7 : decode cL_unlike 7 = .ok (.i2l, 1) := by decide +kernel
theorem dL_unlike_8 : decode cL_unlike 8 = .ok (.lastore, 1) := by decide +kernel
theorem dL_unlike_9 : decode cL_unlike 9 = .ok (.goto 6, 3) := by decide +kernel
theorem dL_unlike_12 : decode cL_unlike 12 = .ok (.astore_n 3, 1) := by decide +kernel
theorem dL_unlike_13 : decode cL_unlike 13 = .ok (.iconst 1, 1) := by decide +kernel
theorem dL_unlike_14 : decode cL_unlike 14 = .ok (.ireturn, 1) := by decide +kernel
theorem dL_unlike_15 : decode cL_unlike 15 = .ok (.iconst 0, 1) := by decide +kernel
theorem dL_unlike_16 : decode cL_unlike 16 = .ok (.ireturn, 1) := by decide +kernel
theorem dL_users_0 : decode cL_users 0 = .ok (.aload_n 2, 1) := by decide +kernel
theorem dL_users_1 : decode cL_users 1 = .ok (.iconst 0, 1) := by decide +kernel
theorem dL_users_2 : decode cL_users 2 = .ok (.aload_n 0, 1) := by decide +kernel
theorem dL_users_3 : decode cL_users 3 = .ok (.iload_n 1, 1) := by decide +kernel
theorem dL_users_4 : decode cL_users 4 = .ok (.invokevirtual 104, 3) := by decide +kernel
theorem dL_users_7 : decode cL_users 7 = .ok (.i2l, 1) := by decide +kernel
theorem dL_users_8 : decode cL_users 8 = .ok (.lastore, 1) := by decide +kernel
theorem dL_users_9 : decode cL_users 9 = .ok (.goto 6, 3) := by decide +kernel
theorem dL_users_12 : decode cL_users 12 = .ok (.astore_n 3, 1) := by decide +kernel
theorem dL_users_13 : decode cL_users 13 = .ok (.iconst 1, 1) := by decide +kernel
theorem dL_users_14 : decode cL_users 14 = .ok (.ireturn, 1) := by decide +kernel
theorem dL_users_15 : decode cL_users 15 = .ok (.iconst 0, 1) := by decide +kernel
theorem dL_users_16 : decode cL_users 16 = .ok (.ireturn, 1) := by decide +kernel
theorem dL_value_0 : decode cL_value 0 = .ok (.aload 4, 2) := by decide +kernel
theorem dL_value_2 : decode cL_value 2 = .ok (.iconst 0, 1) := by decide +kernel
theorem dL_value_3 : decode cL_value 3 = .ok (.aload_n 0, 1) := by decide +kernel
theorem dL_value_4 : decode cL_value 4 = .ok (.iload_n 1, 1) := by decide +kernel
theorem dL_value_5 : decode cL_value 5 = .ok (.iload_n 2, 1) := by decide +kernel
theorem dL_value_6 : decode cL_value 6 = .ok (.iload_n 3, 1) := by decide +kernel
theorem dL_value_7 : decode cL_value 7 = .ok (.invokevirtual 61, 3) := by decide +kernel
theorem dL_value_10 : decode cL_value 10 = .ok (.i2l, 1) := by decide +kernel
theorem dL_value_11 : decode cL_value 11 = .ok (.lastore, 1) := by decide +kernel
theorem dL_value_12 : decode cL_value 12 = .ok (.goto 7, 3) := by decide +kernel
theorem dL_value_15 : decode cL_value 15 = .ok (.astore 5, 2) := by decide +kernel
theorem dL_value_17 : decode cL_value 17 = .ok (.iconst 1, 1) := by decide +kernel
theorem dL_value_18 : decode cL_value 18 = .ok (.ireturn, 1) := by decide +kernel
theorem dL_value_19 : decode cL_value 19 = .ok (.iconst 0, 1) := by decide +kernel
theorem dL_value_20 : decode cL_value 20 = .ok (.ireturn, 1) := by decide +kernel
theorem dL_ways_0 : decode cL_ways 0 = .ok (.aload_n 2, 1) := by decide +kernel
theorem dL_ways_1 : decode cL_ways 1 = .ok (.iconst 0, 1) := by decide +kernel
theorem dL_ways_2 : decode cL_ways 2 = .ok (.aload_n 0, 1) := by decide +kernel
theorem dL_ways_3 : decode cL_ways 3 = .ok (.iload_n 1, 1) := by decide +kernel
theorem dL_ways_4 : decode cL_ways 4 = .ok (.invokevirtual 52, 3) := by decide +kernel
theorem dL_ways_7 : decode cL_ways 7 = .ok (.i2l, 1) := by decide +kernel
theorem dL_ways_8 : decode cL_ways 8 = .ok (.lastore, 1) := by decide +kernel
theorem dL_ways_9 : decode cL_ways 9 = .ok (.goto 6, 3) := by decide +kernel
theorem dL_ways_12 : decode cL_ways 12 = .ok (.astore_n 3, 1) := by decide +kernel
theorem dL_ways_13 : decode cL_ways 13 = .ok (.iconst 1, 1) := by decide +kernel
theorem dL_ways_14 : decode cL_ways 14 = .ok (.ireturn, 1) := by decide +kernel
theorem dL_ways_15 : decode cL_ways 15 = .ok (.iconst 0, 1) := by decide +kernel
theorem dL_ways_16 : decode cL_ways 16 = .ok (.ireturn, 1) := by decide +kernel
theorem dL_would_0 : decode cL_would 0 = .ok (.aload_n 3, 1) := by decide +kernel
theorem dL_would_1 : decode cL_would 1 = .ok (.iconst 0, 1) := by decide +kernel
theorem dL_would_2 : decode cL_would 2 = .ok (.aload_n 0, 1) := by decide +kernel
theorem dL_would_3 : decode cL_would 3 = .ok (.iload_n 1, 1) := by decide +kernel
theorem dL_would_4 : decode cL_would 4 = .ok (.iload_n 2, 1) := by decide +kernel
theorem dL_would_5 : decode cL_would 5 = .ok (.invokevirtual 70, 3) := by decide +kernel
theorem dL_would_8 : decode cL_would 8 = .ok (.i2l, 1) := by decide +kernel
theorem dL_would_9 : decode cL_would 9 = .ok (.lastore, 1) := by decide +kernel
theorem dL_would_10 : decode cL_would 10 = .ok (.goto 11, 3) := by decide +kernel
theorem dL_would_13 : decode cL_would 13 = .ok (.astore 4, 2) := by decide +kernel
theorem dL_would_15 : decode cL_would 15 = .ok (.iconst 1, 1) := by decide +kernel
theorem dL_would_16 : decode cL_would 16 = .ok (.ireturn, 1) := by decide +kernel
theorem dL_would_17 : decode cL_would 17 = .ok (.astore 4, 2) := by decide +kernel
theorem dL_would_19 : decode cL_would 19 = .ok (.iconst 2, 1) := by decide +kernel
theorem dL_would_20 : decode cL_would 20 = .ok (.ireturn, 1) := by decide +kernel
theorem dL_would_21 : decode cL_would 21 = .ok (.iconst 0, 1) := by decide +kernel
theorem dL_would_22 : decode cL_would 22 = .ok (.ireturn, 1) := by decide +kernel
/-! the law's own methods: they call the class and catch what it throws -/
def wA (h0 o0 sz : Nat) : Nat → Prop := fun q => (h0 ≤ q ∧ q < h0 + 233) ∨ q = o0 ∨ sz ≤ q
theorem fA_w {h0 o0 sz s2 : Nat} (h : sz ≤ s2) : ∀ q, fA h0 233 s2 q → wA h0 o0 sz q := fun _ hq => hq.elim Or.inl (fun h1 => Or.inr (Or.inr (Nat.le_trans h h1)))
def xNC (U : State) : Prop := va_Nc "java/lang/IllegalStateException" "java/lang/IllegalArgumentException" U ∧ va_Nc "java/lang/IllegalStateException" "java/util/NoSuchElementException" U ∧ va_Nc "java/lang/IllegalArgumentException" "java/util/NoSuchElementException" U
theorem xNC_warm {s U : State} (hW : s.WarmedH U.vm) (h : xNC s) : xNC U := ⟨va_Nc.moved hW.alike h.1, va_Nc.moved hW.alike h.2.1, va_Nc.moved hW.alike h.2.2⟩
theorem one_kept {D : va_G} {cl : List vw_C} {o0 : Nat} {E : va_E} {H H1 : Heap} {A1 : Nat → Prop} (h : va_P D cl [(o0, E)] H) (hk : ∀ q : Nat, q < H.size → ¬ A1 q → H1[q]? = H[q]?) (ho : ¬ A1 o0) : va_P D cl [(o0, E)] H1 := h.kept (fun k x hx => by
  have hlt := (h k x hx).lt
  match k, hx with
  | 0, hx => cases hx; exact hk _ hlt ho
  | k + 1, hx => simp at hx)
theorem one_lt {D : va_G} {cl : List vw_C} {o0 : Nat} {E : va_E} {H : Heap} (h : va_P D cl [(o0, E)] H) : o0 < H.size := (h 0 _ rfl).lt
theorem fl_kept {D : va_G} {cl : List vw_C} {a n : Nat} {w : Nat → va_E} {H H1 : Heap} {A1 : Nat → Prop} (h : va_P D cl (fl a n w) H) (hk : ∀ q : Nat, q < H.size → ¬ A1 q → H1[q]? = H[q]?) (ho : ∀ k, k < n → ¬ A1 (a + k)) : va_P D cl (fl a n w) H1 := fl_P fun k hn => (fl_at h hn).kept (hk _ (fl_at h hn).lt (ho k hn))
section WO
variable {p : Program} {l : Launch} {e : Env} {R : Room} {s : State} {m : MethodId} {args : Array Value} {below : List Frame} {meth : Method} {c : Code} {H : Heap} {locs : List Loc} {cells slots : Nat} {Q : State → Prop}
variable {cc : ByteArray} {pc : Nat} {ls : Array Slot} {rest : List Value} {D : va_G} {cl : List vw_C} {A : Nat → Prop} {H0 : Heap}
theorem wo_last (hexec : p.tables.exec = Jvm.exec) (hb : c.code = cc) {a : Nat} {cO : ClassId} {f : Nat → Int64} {x : Int64} (hK : va_K D cl [(cO, .long)] s) (hP : va_P D cl [(a, .inl (cO, 1, .inr (.inl f)))] H) (hS : va_S A H0 H locs) (hA : A a) (hdg : decode cc pc = .ok (.lastore, 1))
    (kk : ∀ (H1 : Heap) (locs1 : List Loc) (f1 : Nat → Int64), va_P D cl [(a, .inl (cO, 1, .inr (.inl f1)))] H1 → (∀ q : Nat, q < H.size → ¬ (q = a) → H1[q]? = H[q]?) → va_S A H0 H1 locs1 → W p l e R s m args below meth c H1 locs1 cells slots Q (F0 m (pc + 1) ls rest)) : W p l e R s m args below meth c H locs cells slots Q (F0 m pc ls (.long x :: .int (iZ 0) :: .ref a :: rest)) := by
  have hD : va_D A [(a, (.inl (cO, 1, .inr (.inl f)) : va_E))] := ⟨fun i j p q h1 h2 _ => by
    match i, j, h1, h2 with
    | 0, 0, _, _ => rfl
    | i + 1, _, h1, _ => simp at h1
    | 0, j + 1, _, h2 => simp at h2, fun k q h => by
    match k, h with
    | 0, h => cases h; exact hA
    | k + 1, h => simp at h⟩
  refine W.last hexec hb (hP 0 _ rfl) ((hK.2 0 _ rfl).1 1 (fun j => .long (f j))) (fun q => by cases q) (by show ¬ (iZ 0 < 0 ∨ (arrV _ _ _).slots.size ≤ _); rw [arrV_size]; exact show ¬ (iZ 0 < 0 ∨ 1 ≤ (iZ 0).toNatClampNeg) by decide +kernel) rfl rfl hdg fun H1 e z oq => ?_
  refine kk H1 _ (vp_updL f (iZ 0).toNatClampNeg x) (hP.set hD (p := 0) rfl ?_ oq) (fun q _ h => oq q h) (hS.put z oq hA)
  show H1[a]? = some (vp_cell _ _)
  rw [e]
  rw [vp_cell_l, vp_cell_l, arrV_store]
  congr 2
  funext q
  by_cases hq : q = (iZ 0).toNatClampNeg
  · subst hq
    simp [updV, vp_updL]
  · simp [updV, vp_updL, hq]
theorem wo_last2 (hexec : p.tables.exec = Jvm.exec) (hb : c.code = cc) {a : Nat} {cO : ClassId} {f : Nat → Int64} {x : Int64} (hK : va_K D cl [(cO, .long)] s) (hP : va_P D cl [(a, .inl (cO, 1, .inr (.inl f)))] H) (hS : va_S A H0 H locs) (hA : A a) (hdg : decode cc pc = .ok (.lastore, 1))
    (kk : ∀ (H1 : Heap) (locs1 : List Loc), va_P D cl [(a, .inl (cO, 1, .inr (.inl (vp_updL f (iZ 0).toNatClampNeg x))))] H1 → (∀ q : Nat, q < H.size → ¬ (q = a) → H1[q]? = H[q]?) → va_S A H0 H1 locs1 → W p l e R s m args below meth c H1 locs1 cells slots Q (F0 m (pc + 1) ls rest)) : W p l e R s m args below meth c H locs cells slots Q (F0 m pc ls (.long x :: .int (iZ 0) :: .ref a :: rest)) := by
  have hD : va_D A [(a, (.inl (cO, 1, .inr (.inl f)) : va_E))] := ⟨fun i j p q h1 h2 _ => by
    match i, j, h1, h2 with
    | 0, 0, _, _ => rfl
    | i + 1, _, h1, _ => simp at h1
    | 0, j + 1, _, h2 => simp at h2, fun k q h => by
    match k, h with
    | 0, h => cases h; exact hA
    | k + 1, h => simp at h⟩
  refine W.last hexec hb (hP 0 _ rfl) ((hK.2 0 _ rfl).1 1 (fun j => .long (f j))) (fun q => by cases q) (by show ¬ (iZ 0 < 0 ∨ (arrV _ _ _).slots.size ≤ _); rw [arrV_size]; exact show ¬ (iZ 0 < 0 ∨ 1 ≤ (iZ 0).toNatClampNeg) by decide +kernel) rfl rfl hdg fun H1 e z oq => ?_
  refine kk H1 _ (hP.set hD (p := 0) rfl ?_ oq) (fun q _ h => oq q h) (hS.put z oq hA)
  show H1[a]? = some (vp_cell _ _)
  rw [e]
  rw [vp_cell_l, vp_cell_l, arrV_store]
  congr 2
  funext q
  by_cases hq : q = (iZ 0).toNatClampNeg
  · subst hq
    simp [updV, vp_updL]
  · simp [updV, vp_updL, hq]
theorem wo_get {f : Nat → Int64} {x : Int64} : vp_updL f (iZ 0).toNatClampNeg x 0 = x := by
  have h : (iZ 0).toNatClampNeg = 0 := by decide +kernel
  rw [h]
  simp [vp_updL]
end WO
set_option maxHeartbeats 4000000 in
set_option maxRecDepth 100000 in
theorem w_page (l : Launch) (hfl : l.stackTraces = false) (dC : Nat → ClassId) (dI : Nat → Nat → Nat) (cI cZ cII cIII cO : ClassId) (h0 o0 sz : Nat) (μ : va_M) (f : Nat → Int64) (n : Int) (T : List Tk) (hI : CI T μ) (h_n : inR n) (ho : h0 + 233 ≤ o0) : Met l yL_page (Cond.codeWith yL_page cL_page 4 (some .int) [(0, 9, 12, 13), (0, 9, 15, 15)] :: wsG) ({ frames := 8, cells := 1, slots := 6, locals := 168 } : Room) (va_Pc [.ref h0, .int (iZ (n)), .ref o0] (fun U => U.heap.size = sz ∧ va_P (dC, dI) vwCl (fw (sE cI cZ cII cIII h0) h0 233 μ) U.heap ∧ va_P (dC, dI) vwCl [(o0, .inl (cO, 1, .inr (.inl f)))] U.heap ∧ va_K (dC, dI) vwCl (sT cI cZ cII cIII) U ∧ va_K (dC, dI) vwCl [(cO, .long)] U ∧ xM U ∧ xX (wA h0 o0 sz) U ∧ xNC U)) (va_Qi (fun (r9 : Int32) (u : va_M × (Nat → Int64)) => PKC T μ n u.1) (fun u t => va_P (dC, dI) vwCl (fw (sE cI cZ cII cIII h0) h0 233 u.1) t.heap ∧ va_P (dC, dI) vwCl [(o0, .inl (cO, 1, .inr (.inl u.2)))] t.heap) (wA h0 o0 sz)) 1 6 (wA h0 o0 sz) := by
  refine va_MetW (hh := [(0, 9, 12, 13), (0, 9, 15, 15)]) (cc := cL_page) (maxL := 4) (ret := (some .int)) (by decide) rfl ?_
  intro p e s m args below meth c s₁ B hml hv
  obtain ⟨rfl, hsz, hP, hO, hK, hKo, hM, hEx, hNc⟩ := hv
  have hx := B.exec
  have hb := B.bytes
  have hr := B.returns
  have hts : ∀ w ∈ wsG, w.before _ s = true := fun w hw => atoms_spec (ws := (Cond.codeWith yL_page cL_page 4 (some .int) [(0, 9, 12, 13), (0, 9, 15, 15)] :: wsG)) B.pre w (List.mem_cons_of_mem _ hw)
  have htab := vx_table (x := yL_page) B (atoms_spec (ws := (Cond.codeWith yL_page cL_page 4 (some .int) [(0, 9, 12, 13), (0, 9, 15, 15)] :: wsG)) B.pre _ List.mem_cons_self)
  have hown : s.vm.findClass RL = some m.cls := findClass_of_methodNamed B.named
  have hlocks := B.notSynchronized
  subst hsz
  have hS : va_S (wA h0 o0 s.heap.size) s.heap s.heap [] := va_S.rf
  have hl := lv_entry ([.ref h0, .int (iZ (n)), .ref o0]) (n := 4) (Nat.le_of_ble_eq_true rfl)
  rw [lg_entry_eq]
  generalize (lg_sl ([.ref h0, .int (iZ (n)), .ref o0]) ++ List.replicate (4 - (lg_sl ([.ref h0, .int (iZ (n)), .ref o0])).length) Slot.unset).toArray = ls at hl ⊢
  have hl : lv_has ls 4 [(0, .ref h0), (1, .int (iZ (n))), (2, .ref o0)] := hl
  refine lv_aload_n hx hb dL_page_0 rfl (lv_at hl 2 rfl) ?_
  refine lv_iconst (v := iZ 0) hx hb dL_page_1 rfl ?_
  refine lv_aload_n hx hb dL_page_2 rfl (lv_at hl 0 rfl) ?_
  refine lv_iload_n hx hb dL_page_3 rfl (lv_at hl 1 rfl) ?_
  refine vx_calli (vx_runV (As := [.int (iZ (n))]) (rest := [.int (iZ 0), .ref o0]) ⟨hx, hb, hml, hown, hts⟩ (q_page2 l hfl dC dI cI cZ cII cIII h0 s.heap.size μ n T hI h_n) (cwV 1 hts (gV_G k592 k593 k594 k1 k595) rfl rfl rfl (by decide +kernel) ⟨Nat.le_of_ble_eq_true rfl, Nat.le_of_ble_eq_true rfl⟩) ⟨fun a U g mk q => by obtain ⟨q0, q1, qP, qK, qM, qE⟩ := q; exact ⟨q0, q1, qP, va_K.moved (u := U) (U := U.calling g mk a) (Vm.Alike.refl U.vm) qK, qM, xX_call qE⟩, va_recv hK hP (ci := 9) (q0 := 0) rfl ((fw_get (by decide)).trans (by rw [sE_0]; rfl)), fun U hU hW => ⟨rfl, by rw [hU], by rw [hU]; exact hP, va_K.moved hW.alike hK, xM_warm hW hM, xX_at hEx hS (fA_w (Nat.le_refl _)) hU hW⟩⟩ rfl rfl hl.1 rfl (lv_room (Nat.le_of_ble_eq_true rfl)) dL_page_4 ⟨Nat.le_of_ble_eq_true rfl, Nat.le_of_ble_eq_true rfl⟩) hS (fun q _ h => fA_w (Nat.le_refl _) q h) (fA_w (Nat.le_refl _)) (fun q _ h => fA_w (Nat.le_refl _) q h) (fun E9 ce9 q9 u9 t9 H1 locs ht9 hvm9 hpx9 hBX9 hz9 hk9 hS hce9 hcv9 hcl9 => ?_) (fun r9 u9 t9 H1 locs ht9 hvm9 hw9 hB9 hz9 hk9 hS => ?_)
  · obtain ⟨hE9, hP9, -⟩ := hBX9
    rw [ht9] at hP9
    have hO := one_kept hO hk9 (fun h => by have := one_lt hO; rcases h with h | h <;> (first | ((try clear hO); (try clear hP9); (try clear hE9); (try clear hz9); (try clear hcl9); (try clear hcv9); (try clear hce9); (try clear hpx9); (try clear q9); (try clear ce9); (try clear E9); (try clear htab); (try clear hsz); (try clear s₁); omega) | omega))
    have hP := hP9
    clear hP9 hk9
    simp only [List.mem_cons, List.not_mem_nil, or_false] at hE9
    rcases hE9 with rfl | rfl
    · refine vx_catch (name := "java/lang/IllegalArgumentException") hown [] ⟨0, 9, 12, 13⟩ [⟨0, 9, 15, 15⟩] htab (fun z hz => by simp at hz) (by decide) (by decide) (hts _ k590) (va_Nw.use rfl (hEx.2.1 _ (by decide +kernel))) hce9 hcv9 hcl9 ?_
      clear hce9
      generalize H1 = H at hP hO hS ⊢
      refine W.widen (k := 1) (n := 6) (by (first | ((try clear hO); (try clear hP9); (try clear hE9); (try clear hz9); (try clear hcl9); (try clear hcv9); (try clear hce9); (try clear hpx9); (try clear q9); (try clear ce9); (try clear E9); (try clear htab); (try clear hsz); (try clear s₁); (try clear ho); omega) | omega)) (by (first | ((try clear hO); (try clear hP9); (try clear hE9); (try clear hz9); (try clear hcl9); (try clear hcv9); (try clear hce9); (try clear hpx9); (try clear q9); (try clear ce9); (try clear E9); (try clear htab); (try clear hsz); (try clear s₁); (try clear ho); omega) | omega)) ?_
      refine lv_astore_n (lv' := [(3, .ref q9), (0, .ref h0), (1, .int (iZ (n))), (2, .ref o0)]) hx hb dL_page_12 rfl hl (by decide) rfl (fun ls hl => ?_)
      refine lv_iconst (v := iZ 1) hx hb dL_page_13 rfl ?_
      exact W.iret (v := (iZ 1)) hx hb hr (fun t8 ht8 hW8 => ⟨⟨(iZ 1), (u9, f), rfl, ⟨Or.inr hpx9, fun x y q => hpx9.2.1 x y (by (first | ((try clear hW8); (try clear ht8); (try clear t8); (try clear hO); (try clear hP9); (try clear hE9); (try clear hz9); (try clear hcl9); (try clear hcv9); (try clear hce9); (try clear hpx9); (try clear q9); (try clear ce9); (try clear E9); (try clear htab); (try clear hsz); (try clear s₁); (try clear ho); omega) | omega))⟩, by rw [ht8]; exact hP, by rw [ht8]; exact hO⟩, hS.F ht8⟩) hS.2.2 dL_page_14
    · refine vx_catch (name := "java/lang/IllegalStateException") hown [⟨0, 9, 12, 13⟩] ⟨0, 9, 15, 15⟩ [] htab (fun z hz => by rw [List.mem_singleton.mp hz]; exact Or.inr ⟨by decide, "java/lang/IllegalArgumentException", hts _ k590, hNc.1⟩) (by decide) (by decide) (hts _ k591) (va_Nw.use rfl (hEx.2.1 _ (by decide +kernel))) hce9 hcv9 hcl9 ?_
      clear hce9
      generalize H1 = H at hP hO hS ⊢
      refine W.widen (k := 1) (n := 6) (by (first | ((try clear hO); (try clear hP9); (try clear hE9); (try clear hz9); (try clear hcl9); (try clear hcv9); (try clear hce9); (try clear hpx9); (try clear q9); (try clear ce9); (try clear E9); (try clear htab); (try clear hsz); (try clear s₁); (try clear ho); omega) | omega)) (by (first | ((try clear hO); (try clear hP9); (try clear hE9); (try clear hz9); (try clear hcl9); (try clear hcv9); (try clear hce9); (try clear hpx9); (try clear q9); (try clear ce9); (try clear E9); (try clear htab); (try clear hsz); (try clear s₁); (try clear ho); omega) | omega)) ?_
      refine lv_astore_n (lv' := [(3, .ref q9), (0, .ref h0), (1, .int (iZ (n))), (2, .ref o0)]) hx hb dL_page_15 rfl hl (by decide) rfl (fun ls hl => ?_)
      refine lv_iconst (v := iZ 2) hx hb dL_page_16 rfl ?_
      exact W.iret (v := (iZ 2)) hx hb hr (fun t8 ht8 hW8 => ⟨⟨(iZ 2), (u9, f), rfl, ⟨Or.inr hpx9, fun x y q => hpx9.2.1 x y (by (first | ((try clear hW8); (try clear ht8); (try clear t8); (try clear hO); (try clear hP9); (try clear hE9); (try clear hz9); (try clear hcl9); (try clear hcv9); (try clear hce9); (try clear hpx9); (try clear q9); (try clear ce9); (try clear E9); (try clear htab); (try clear hsz); (try clear s₁); (try clear ho); omega) | omega))⟩, by rw [ht8]; exact hP, by rw [ht8]; exact hO⟩, hS.F ht8⟩) hS.2.2 dL_page_17
  · obtain ⟨hP9, -⟩ := hB9
    rw [ht9] at hP9
    have hO := one_kept hO hk9 (fun h => by have := one_lt hO; rcases h with h | h <;> (first | ((try clear hO); (try clear hP9); (try clear hz9); (try clear hcl9); (try clear hcv9); (try clear hce9); (try clear hpx9); (try clear q9); (try clear ce9); (try clear E9); (try clear htab); (try clear hsz); (try clear s₁); omega) | omega))
    have hP := hP9
    clear hP9 hk9
    generalize H1 = H at hP hO hS ⊢
    refine W.widen (k := 1) (n := 6) (by (first | ((try clear hO); (try clear hP9); (try clear hz9); (try clear hcl9); (try clear hcv9); (try clear hce9); (try clear hpx9); (try clear q9); (try clear ce9); (try clear E9); (try clear htab); (try clear hsz); (try clear s₁); (try clear ho); omega) | omega)) (by (first | ((try clear hO); (try clear hP9); (try clear hz9); (try clear hcl9); (try clear hcv9); (try clear hce9); (try clear hpx9); (try clear q9); (try clear ce9); (try clear E9); (try clear htab); (try clear hsz); (try clear s₁); (try clear ho); omega) | omega)) ?_
    refine lv_i2l (v := r9.toInt64) hx hb dL_page_7 rfl ?_
    refine wo_last hx hb hKo hO hS (Or.inr (Or.inl rfl)) dL_page_8 (fun H2 locs f1 hO hq2 hS => ?_)
    have hP := fl_kept hP hq2 (fun k hk => by (first | ((try clear hq2); (try clear hO); (try clear f1); (try clear H2); (try clear hP9); (try clear hz9); (try clear hcl9); (try clear hcv9); (try clear hce9); (try clear hpx9); (try clear q9); (try clear ce9); (try clear E9); (try clear htab); (try clear hsz); (try clear s₁); omega) | omega))
    clear hq2
    generalize H2 = H at hP hO hS ⊢
    refine lv_goto (tgt := 18) hx hb dL_page_9 (by decide) ?_
    refine lv_iconst (v := iZ 0) hx hb dL_page_18 rfl ?_
    exact W.iret (v := (iZ 0)) hx hb hr (fun t8 ht8 hW8 => ⟨⟨(iZ 0), (u9.1, f1), rfl, ⟨Or.inl hw9.2.2, hw9.2.1⟩, by rw [ht8]; exact hP, by rw [ht8]; exact hO⟩, hS.F ht8⟩) hS.2.2 dL_page_19
set_option maxHeartbeats 4000000 in
set_option maxRecDepth 100000 in
theorem w_lay (l : Launch) (hfl : l.stackTraces = false) (dC : Nat → ClassId) (dI : Nat → Nat → Nat) (cI cZ cII cIII cO : ClassId) (h0 o0 sz : Nat) (μ : va_M) (f : Nat → Int64) (pg : Int) (T : List Tk) (Wk : Rw) (Bs : List Rw) (b9 : Rw) (hI : CI T μ) (h_pg : inR pg) (hSK : SKc Wk Bs μ) (hl16 : Bs.length ≤ 16) (hWw : rWF Wk) (hwp : 0 ≤ pg ∧ pg < μ 0 2 → rowS μ (113 + (pg).toNat * 15 + 3) b9 ∧ (rWF b9 ∧ rPg b9 ∧ rN Wk + rN b9 ≤ 1800) ∧ (rL (lyW Wk b9) ≤ 160 → sL (lyW Wk b9) ≤ 1100)) (hWy : 0 ≤ pg ∧ pg < μ 0 2 → rWF (lyW Wk b9)) (ho : h0 + 233 ≤ o0) : Met l yL_lay (Cond.codeWith yL_lay cL_lay 4 (some .int) [(0, 9, 12, 20), (0, 9, 15, 15)] :: wsG) ({ frames := 9, cells := 1, slots := 6, locals := 184 } : Room) (va_Pc [.ref h0, .int (iZ (pg)), .ref o0] (fun U => U.heap.size = sz ∧ va_P (dC, dI) vwCl (fw (sE cI cZ cII cIII h0) h0 233 μ) U.heap ∧ va_P (dC, dI) vwCl [(o0, .inl (cO, 1, .inr (.inl f)))] U.heap ∧ va_K (dC, dI) vwCl (sT cI cZ cII cIII) U ∧ va_K (dC, dI) vwCl [(cO, .long)] U ∧ xM U ∧ xX (wA h0 o0 sz) U ∧ xNC U)) (va_Qi (fun (r9 : Int32) (u : va_M × (Nat → Int64)) => CI T u.1 ∧ KLy μ Wk Bs b9 pg u.1 ∧ ∃ cd z : Int, r9 = iZ cd ∧ (cd = cd2 (0 ≤ pg ∧ pg < μ 0 2) (rL (lyW Wk b9) ≤ 160) ∧ (cd = 0 → z = lyC Wk b9)) ∧ (cd = 0 → u.2 0 = (iZ z).toInt64)) (fun u t => va_P (dC, dI) vwCl (fw (sE cI cZ cII cIII h0) h0 233 u.1) t.heap ∧ va_P (dC, dI) vwCl [(o0, .inl (cO, 1, .inr (.inl u.2)))] t.heap) (wA h0 o0 sz)) 1 6 (wA h0 o0 sz) := by
  refine va_MetW (hh := [(0, 9, 12, 20), (0, 9, 15, 15)]) (cc := cL_lay) (maxL := 4) (ret := (some .int)) (by decide) rfl ?_
  intro p e s m args below meth c s₁ B hml hv
  obtain ⟨rfl, hsz, hP, hO, hK, hKo, hM, hEx, hNc⟩ := hv
  have hx := B.exec
  have hb := B.bytes
  have hr := B.returns
  have hts : ∀ w ∈ wsG, w.before _ s = true := fun w hw => atoms_spec (ws := (Cond.codeWith yL_lay cL_lay 4 (some .int) [(0, 9, 12, 20), (0, 9, 15, 15)] :: wsG)) B.pre w (List.mem_cons_of_mem _ hw)
  have htab := vx_table (x := yL_lay) B (atoms_spec (ws := (Cond.codeWith yL_lay cL_lay 4 (some .int) [(0, 9, 12, 20), (0, 9, 15, 15)] :: wsG)) B.pre _ List.mem_cons_self)
  have hown : s.vm.findClass RL = some m.cls := findClass_of_methodNamed B.named
  have hlocks := B.notSynchronized
  subst hsz
  have hS : va_S (wA h0 o0 s.heap.size) s.heap s.heap [] := va_S.rf
  have hl := lv_entry ([.ref h0, .int (iZ (pg)), .ref o0]) (n := 4) (Nat.le_of_ble_eq_true rfl)
  rw [lg_entry_eq]
  generalize (lg_sl ([.ref h0, .int (iZ (pg)), .ref o0]) ++ List.replicate (4 - (lg_sl ([.ref h0, .int (iZ (pg)), .ref o0])).length) Slot.unset).toArray = ls at hl ⊢
  have hl : lv_has ls 4 [(0, .ref h0), (1, .int (iZ (pg))), (2, .ref o0)] := hl
  refine lv_aload_n hx hb dL_lay_0 rfl (lv_at hl 2 rfl) ?_
  refine lv_iconst (v := iZ 0) hx hb dL_lay_1 rfl ?_
  refine lv_aload_n hx hb dL_lay_2 rfl (lv_at hl 0 rfl) ?_
  refine lv_iload_n hx hb dL_lay_3 rfl (lv_at hl 1 rfl) ?_
  refine vx_calli (vx_runV (As := [.int (iZ (pg))]) (rest := [.int (iZ 0), .ref o0]) ⟨hx, hb, hml, hown, hts⟩ (t_lay9 l hfl dC dI cI cZ cII cIII h0 s.heap.size μ pg T Wk Bs b9 hI h_pg hSK hl16 hWw hwp hWy) (cwV 1 hts (gV_G k731 k732 k733 k1 k734) rfl rfl rfl (by decide +kernel) ⟨Nat.le_of_ble_eq_true rfl, Nat.le_of_ble_eq_true rfl⟩) ⟨fun a U g mk q => by obtain ⟨q0, q1, qP, qK, qM, qE⟩ := q; exact ⟨q0, q1, qP, va_K.moved (u := U) (U := U.calling g mk a) (Vm.Alike.refl U.vm) qK, qM, xX_call qE⟩, va_recv hK hP (ci := 9) (q0 := 0) rfl ((fw_get (by decide)).trans (by rw [sE_0]; rfl)), fun U hU hW => ⟨rfl, by rw [hU], by rw [hU]; exact hP, va_K.moved hW.alike hK, xM_warm hW hM, xX_at hEx hS (fA_w (Nat.le_refl _)) hU hW⟩⟩ rfl rfl hl.1 rfl (lv_room (Nat.le_of_ble_eq_true rfl)) dL_lay_4 ⟨Nat.le_of_ble_eq_true rfl, Nat.le_of_ble_eq_true rfl⟩) hS (fun q _ h => fA_w (Nat.le_refl _) q h) (fA_w (Nat.le_refl _)) (fun q _ h => fA_w (Nat.le_refl _) q h) (fun E9 ce9 q9 u9 t9 H1 locs ht9 hvm9 hpx9 hBX9 hz9 hk9 hS hce9 hcv9 hcl9 => ?_) (fun r9 u9 t9 H1 locs ht9 hvm9 hw9 hB9 hz9 hk9 hS => ?_)
  · obtain ⟨hE9, hP9, -, hT9⟩ := hBX9
    rw [ht9] at hP9
    have hO := one_kept hO hk9 (fun h => by have := one_lt hO; rcases h with h | h <;> (first | ((try clear hO); (try clear hT9); (try clear hP9); (try clear hE9); (try clear hz9); (try clear hcl9); (try clear hcv9); (try clear hce9); (try clear hpx9); (try clear q9); (try clear ce9); (try clear E9); (try clear htab); (try clear hsz); (try clear s₁); (try clear hWy); (try clear hwp); (try clear hl16); omega) | omega))
    have hP := hP9
    clear hP9 hk9
    simp only [List.mem_cons, List.not_mem_nil, or_false] at hE9
    rcases hE9 with rfl | rfl
    · refine vx_catch (name := "java/util/NoSuchElementException") hown [] ⟨0, 9, 12, 20⟩ [⟨0, 9, 15, 15⟩] htab (fun z hz => by simp at hz) (by decide) (by decide) (hts _ k730) (va_Nw.use rfl (hEx.2.1 _ (by decide +kernel))) hce9 hcv9 hcl9 ?_
      clear hce9
      generalize H1 = H at hP hO hS ⊢
      refine W.widen (k := 1) (n := 6) (by (first | ((try clear hO); (try clear hT9); (try clear hP9); (try clear hE9); (try clear hz9); (try clear hcl9); (try clear hcv9); (try clear hce9); (try clear hpx9); (try clear q9); (try clear ce9); (try clear E9); (try clear htab); (try clear hsz); (try clear s₁); (try clear ho); (try clear hWy); (try clear hwp); (try clear hl16); omega) | omega)) (by (first | ((try clear hO); (try clear hT9); (try clear hP9); (try clear hE9); (try clear hz9); (try clear hcl9); (try clear hcv9); (try clear hce9); (try clear hpx9); (try clear q9); (try clear ce9); (try clear E9); (try clear htab); (try clear hsz); (try clear s₁); (try clear ho); (try clear hWy); (try clear hwp); (try clear hl16); omega) | omega)) ?_
      refine lv_astore_n (lv' := [(3, .ref q9), (0, .ref h0), (1, .int (iZ (pg))), (2, .ref o0)]) hx hb dL_lay_12 rfl hl (by decide) rfl (fun ls hl => ?_)
      refine lv_iconst (v := iZ 1) hx hb dL_lay_13 rfl ?_
      exact W.iret (v := (iZ 1)) hx hb hr (fun t8 ht8 hW8 => ⟨⟨(iZ 1), (u9, f), rfl, ⟨hpx9.1, ⟨SZ_P hpx9.2, Or.inr ⟨fun h9 => absurd ((hT9.1 rfl).symm.trans (cd2_0 h9.1 h9.2)) (by decide), hpx9.2⟩⟩, 1, 0, rfl, ⟨(hT9.1 rfl).symm, fun h => absurd h (by decide)⟩, fun h => absurd h (by decide)⟩, by rw [ht8]; exact hP, by rw [ht8]; exact hO⟩, hS.F ht8⟩) hS.2.2 dL_lay_14
    · refine vx_catch (name := "java/lang/IllegalStateException") hown [⟨0, 9, 12, 20⟩] ⟨0, 9, 15, 15⟩ [] htab (fun z hz => by rw [List.mem_singleton.mp hz]; exact Or.inr ⟨by decide, "java/util/NoSuchElementException", hts _ k730, hNc.2.1⟩) (by decide) (by decide) (hts _ k591) (va_Nw.use rfl (hEx.2.1 _ (by decide +kernel))) hce9 hcv9 hcl9 ?_
      clear hce9
      generalize H1 = H at hP hO hS ⊢
      refine W.widen (k := 1) (n := 6) (by (first | ((try clear hO); (try clear hT9); (try clear hP9); (try clear hE9); (try clear hz9); (try clear hcl9); (try clear hcv9); (try clear hce9); (try clear hpx9); (try clear q9); (try clear ce9); (try clear E9); (try clear htab); (try clear hsz); (try clear s₁); (try clear ho); (try clear hWy); (try clear hwp); (try clear hl16); omega) | omega)) (by (first | ((try clear hO); (try clear hT9); (try clear hP9); (try clear hE9); (try clear hz9); (try clear hcl9); (try clear hcv9); (try clear hce9); (try clear hpx9); (try clear q9); (try clear ce9); (try clear E9); (try clear htab); (try clear hsz); (try clear s₁); (try clear ho); (try clear hWy); (try clear hwp); (try clear hl16); omega) | omega)) ?_
      refine lv_astore_n (lv' := [(3, .ref q9), (0, .ref h0), (1, .int (iZ (pg))), (2, .ref o0)]) hx hb dL_lay_15 rfl hl (by decide) rfl (fun ls hl => ?_)
      refine lv_iconst (v := iZ 2) hx hb dL_lay_16 rfl ?_
      exact W.iret (v := (iZ 2)) hx hb hr (fun t8 ht8 hW8 => ⟨⟨(iZ 2), (u9, f), rfl, ⟨hpx9.1, ⟨SZ_P hpx9.2, Or.inr ⟨fun h9 => absurd ((hT9.2 rfl).symm.trans (cd2_0 h9.1 h9.2)) (by decide), hpx9.2⟩⟩, 2, 0, rfl, ⟨(hT9.2 rfl).symm, fun h => absurd h (by decide)⟩, fun h => absurd h (by decide)⟩, by rw [ht8]; exact hP, by rw [ht8]; exact hO⟩, hS.F ht8⟩) hS.2.2 dL_lay_17
  · obtain ⟨hP9, -⟩ := hB9
    rw [ht9] at hP9
    have hO := one_kept hO hk9 (fun h => by have := one_lt hO; rcases h with h | h <;> (first | ((try clear hO); (try clear hP9); (try clear hz9); (try clear hcl9); (try clear hcv9); (try clear hce9); (try clear hpx9); (try clear q9); (try clear ce9); (try clear E9); (try clear htab); (try clear hsz); (try clear s₁); (try clear hWy); (try clear hwp); (try clear hl16); omega) | omega))
    have hP := hP9
    clear hP9 hk9
    generalize H1 = H at hP hO hS ⊢
    refine W.widen (k := 1) (n := 6) (by (first | ((try clear hO); (try clear hP9); (try clear hz9); (try clear hcl9); (try clear hcv9); (try clear hce9); (try clear hpx9); (try clear q9); (try clear ce9); (try clear E9); (try clear htab); (try clear hsz); (try clear s₁); (try clear ho); (try clear hWy); (try clear hwp); (try clear hl16); omega) | omega)) (by (first | ((try clear hO); (try clear hP9); (try clear hz9); (try clear hcl9); (try clear hcv9); (try clear hce9); (try clear hpx9); (try clear q9); (try clear ce9); (try clear E9); (try clear htab); (try clear hsz); (try clear s₁); (try clear ho); (try clear hWy); (try clear hwp); (try clear hl16); omega) | omega)) ?_
    refine lv_i2l (v := r9.toInt64) hx hb dL_lay_7 rfl ?_
    refine wo_last2 hx hb hKo hO hS (Or.inr (Or.inl rfl)) dL_lay_8 (fun H2 locs hO hq2 hS => ?_)
    have hP := fl_kept hP hq2 (fun k hk => by (first | ((try clear hq2); (try clear hO); (try clear H2); (try clear hP9); (try clear hz9); (try clear hcl9); (try clear hcv9); (try clear hce9); (try clear hpx9); (try clear q9); (try clear ce9); (try clear E9); (try clear htab); (try clear hsz); (try clear s₁); (try clear hWy); (try clear hwp); (try clear hl16); omega) | omega))
    clear hq2
    generalize H2 = H at hP hO hS ⊢
    refine lv_goto (tgt := 18) hx hb dL_lay_9 (by decide) ?_
    refine lv_iconst (v := iZ 0) hx hb dL_lay_18 rfl ?_
    exact W.iret (v := (iZ 0)) hx hb hr (fun t8 ht8 hW8 => ⟨⟨(iZ 0), (u9.1, (vp_updL f (iZ 0).toNatClampNeg ((r9.toInt64)))), rfl, ⟨hw9.2.1, ⟨hw9.2.2.1, Or.inl ⟨hw9.2.2.2.1, hw9.2.2.2.2.1, hw9.2.2.2.2.2.2⟩⟩, 0, u9.2, rfl, ⟨(cd2_0 hw9.2.2.2.1 hw9.2.2.2.2.1).symm, fun _ => hw9.2.2.2.2.2.1⟩, fun _ => (wo_get (f := f) (x := r9.toInt64)).trans (congrArg Int32.toInt64 hw9.1)⟩, by rw [ht8]; exact hP, by rw [ht8]; exact hO⟩, hS.F ht8⟩) hS.2.2 dL_lay_19
set_option maxHeartbeats 4000000 in
set_option maxRecDepth 100000 in
theorem w_tidied (l : Launch) (hfl : l.stackTraces = false) (dC : Nat → ClassId) (dI : Nat → Nat → Nat) (cI cZ cII cIII cO : ClassId) (h0 o0 sz : Nat) (μ : va_M) (f : Nat → Int64) (wh : Int) (T : List Tk) (Wk : Rw) (Bs : List Rw) (hI : CI T μ) (h_wh : inR wh) (hSK : SKc Wk Bs μ) (hl16 : Bs.length ≤ 16) (hWw : rWF Wk) (hWd : rAd Wk) (hcapW : ∀ y : Rw, TQ Wk y → (sL y : Int) ≤ (1100 : Nat)) (ho : h0 + 233 ≤ o0) : Met l yL_tidied (Cond.codeWith yL_tidied cL_tidied 4 (some .int) [(0, 9, 12, 13)] :: wsG) ({ frames := 9, cells := 1, slots := 6, locals := 219 } : Room) (va_Pc [.ref h0, .int (iZ (wh)), .ref o0] (fun U => U.heap.size = sz ∧ va_P (dC, dI) vwCl (fw (sE cI cZ cII cIII h0) h0 233 μ) U.heap ∧ va_P (dC, dI) vwCl [(o0, .inl (cO, 1, .inr (.inl f)))] U.heap ∧ va_K (dC, dI) vwCl (sT cI cZ cII cIII) U ∧ va_K (dC, dI) vwCl [(cO, .long)] U ∧ xM U ∧ xX (wA h0 o0 sz) U ∧ xNC U)) (va_Qi (fun (r9 : Int32) (u : va_M × (Nat → Int64)) => CI T u.1 ∧ SZ μ u.1) (fun u t => va_P (dC, dI) vwCl (fw (sE cI cZ cII cIII h0) h0 233 u.1) t.heap ∧ va_P (dC, dI) vwCl [(o0, .inl (cO, 1, .inr (.inl u.2)))] t.heap) (wA h0 o0 sz)) 1 6 (wA h0 o0 sz) := by
  refine va_MetW (hh := [(0, 9, 12, 13)]) (cc := cL_tidied) (maxL := 4) (ret := (some .int)) (by decide) rfl ?_
  intro p e s m args below meth c s₁ B hml hv
  obtain ⟨rfl, hsz, hP, hO, hK, hKo, hM, hEx, hNc⟩ := hv
  have hx := B.exec
  have hb := B.bytes
  have hr := B.returns
  have hts : ∀ w ∈ wsG, w.before _ s = true := fun w hw => atoms_spec (ws := (Cond.codeWith yL_tidied cL_tidied 4 (some .int) [(0, 9, 12, 13)] :: wsG)) B.pre w (List.mem_cons_of_mem _ hw)
  have htab := vx_table (x := yL_tidied) B (atoms_spec (ws := (Cond.codeWith yL_tidied cL_tidied 4 (some .int) [(0, 9, 12, 13)] :: wsG)) B.pre _ List.mem_cons_self)
  have hown : s.vm.findClass RL = some m.cls := findClass_of_methodNamed B.named
  have hlocks := B.notSynchronized
  subst hsz
  have hS : va_S (wA h0 o0 s.heap.size) s.heap s.heap [] := va_S.rf
  have hl := lv_entry ([.ref h0, .int (iZ (wh)), .ref o0]) (n := 4) (Nat.le_of_ble_eq_true rfl)
  rw [lg_entry_eq]
  generalize (lg_sl ([.ref h0, .int (iZ (wh)), .ref o0]) ++ List.replicate (4 - (lg_sl ([.ref h0, .int (iZ (wh)), .ref o0])).length) Slot.unset).toArray = ls at hl ⊢
  have hl : lv_has ls 4 [(0, .ref h0), (1, .int (iZ (wh))), (2, .ref o0)] := hl
  refine lv_aload_n hx hb dL_tidied_0 rfl (lv_at hl 2 rfl) ?_
  refine lv_iconst (v := iZ 0) hx hb dL_tidied_1 rfl ?_
  refine lv_aload_n hx hb dL_tidied_2 rfl (lv_at hl 0 rfl) ?_
  refine lv_iload_n hx hb dL_tidied_3 rfl (lv_at hl 1 rfl) ?_
  refine vx_calli (vx_runV (As := [.int (iZ (wh))]) (rest := [.int (iZ 0), .ref o0]) ⟨hx, hb, hml, hown, hts⟩ (t_tidied l hfl dC dI cI cZ cII cIII h0 s.heap.size μ wh T Wk Bs hI h_wh hSK hl16 hWw hWd hcapW) (cwV 1 hts (gV_G k840 k841 k842 k1 k843) rfl rfl rfl (by decide +kernel) ⟨Nat.le_of_ble_eq_true rfl, Nat.le_of_ble_eq_true rfl⟩) ⟨fun a U g mk q => by obtain ⟨q0, q1, qP, qK, qM, qE⟩ := q; exact ⟨q0, q1, qP, va_K.moved (u := U) (U := U.calling g mk a) (Vm.Alike.refl U.vm) qK, qM, xX_call qE⟩, va_recv hK hP (ci := 9) (q0 := 0) rfl ((fw_get (by decide)).trans (by rw [sE_0]; rfl)), fun U hU hW => ⟨rfl, by rw [hU], by rw [hU]; exact hP, va_K.moved hW.alike hK, xM_warm hW hM, xX_at hEx hS (fA_w (Nat.le_refl _)) hU hW⟩⟩ rfl rfl hl.1 rfl (lv_room (Nat.le_of_ble_eq_true rfl)) dL_tidied_4 ⟨Nat.le_of_ble_eq_true rfl, Nat.le_of_ble_eq_true rfl⟩) hS (fun q _ h => fA_w (Nat.le_refl _) q h) (fA_w (Nat.le_refl _)) (fun q _ h => fA_w (Nat.le_refl _) q h) (fun E9 ce9 q9 u9 t9 H1 locs ht9 hvm9 hpx9 hBX9 hz9 hk9 hS hce9 hcv9 hcl9 => ?_) (fun r9 u9 t9 H1 locs ht9 hvm9 hw9 hB9 hz9 hk9 hS => ?_)
  · obtain ⟨hE9, hP9, -⟩ := hBX9
    rw [ht9] at hP9
    have hO := one_kept hO hk9 (fun h => by have := one_lt hO; rcases h with h | h <;> (first | ((try clear hO); (try clear hP9); (try clear hE9); (try clear hz9); (try clear hcl9); (try clear hcv9); (try clear hce9); (try clear hpx9); (try clear q9); (try clear ce9); (try clear E9); (try clear htab); (try clear hsz); (try clear s₁); (try clear hcapW); (try clear hl16); omega) | omega))
    have hP := hP9
    clear hP9 hk9
    simp only [List.mem_cons, List.not_mem_nil, or_false] at hE9
    subst hE9
    refine vx_catch (name := "java/lang/IllegalArgumentException") hown [] ⟨0, 9, 12, 13⟩ [] htab (fun z hz => by simp at hz) (by decide) (by decide) (hts _ k590) (va_Nw.use rfl (hEx.2.1 _ (by decide +kernel))) hce9 hcv9 hcl9 ?_
    clear hce9
    generalize H1 = H at hP hO hS ⊢
    refine W.widen (k := 1) (n := 6) (by (first | ((try clear hO); (try clear hP9); (try clear hE9); (try clear hz9); (try clear hcl9); (try clear hcv9); (try clear hce9); (try clear hpx9); (try clear q9); (try clear ce9); (try clear E9); (try clear htab); (try clear hsz); (try clear s₁); (try clear ho); (try clear hcapW); (try clear hl16); omega) | omega)) (by (first | ((try clear hO); (try clear hP9); (try clear hE9); (try clear hz9); (try clear hcl9); (try clear hcv9); (try clear hce9); (try clear hpx9); (try clear q9); (try clear ce9); (try clear E9); (try clear htab); (try clear hsz); (try clear s₁); (try clear ho); (try clear hcapW); (try clear hl16); omega) | omega)) ?_
    refine lv_astore_n (lv' := [(3, .ref q9), (0, .ref h0), (1, .int (iZ (wh))), (2, .ref o0)]) hx hb dL_tidied_12 rfl hl (by decide) rfl (fun ls hl => ?_)
    refine lv_iconst (v := iZ 1) hx hb dL_tidied_13 rfl ?_
    exact W.iret (v := (iZ 1)) hx hb hr (fun t8 ht8 hW8 => ⟨⟨(iZ 1), (u9, f), rfl, hpx9, by rw [ht8]; exact hP, by rw [ht8]; exact hO⟩, hS.F ht8⟩) hS.2.2 dL_tidied_14
  · obtain ⟨hP9, -⟩ := hB9
    rw [ht9] at hP9
    have hO := one_kept hO hk9 (fun h => by have := one_lt hO; rcases h with h | h <;> (first | ((try clear hO); (try clear hP9); (try clear hz9); (try clear hcl9); (try clear hcv9); (try clear hce9); (try clear hpx9); (try clear q9); (try clear ce9); (try clear E9); (try clear htab); (try clear hsz); (try clear s₁); (try clear hcapW); (try clear hl16); omega) | omega))
    have hP := hP9
    clear hP9 hk9
    generalize H1 = H at hP hO hS ⊢
    refine W.widen (k := 1) (n := 6) (by (first | ((try clear hO); (try clear hP9); (try clear hz9); (try clear hcl9); (try clear hcv9); (try clear hce9); (try clear hpx9); (try clear q9); (try clear ce9); (try clear E9); (try clear htab); (try clear hsz); (try clear s₁); (try clear ho); (try clear hcapW); (try clear hl16); omega) | omega)) (by (first | ((try clear hO); (try clear hP9); (try clear hz9); (try clear hcl9); (try clear hcv9); (try clear hce9); (try clear hpx9); (try clear q9); (try clear ce9); (try clear E9); (try clear htab); (try clear hsz); (try clear s₁); (try clear ho); (try clear hcapW); (try clear hl16); omega) | omega)) ?_
    refine lv_i2l (v := r9.toInt64) hx hb dL_tidied_7 rfl ?_
    refine wo_last hx hb hKo hO hS (Or.inr (Or.inl rfl)) dL_tidied_8 (fun H2 locs f1 hO hq2 hS => ?_)
    have hP := fl_kept hP hq2 (fun k hk => by (first | ((try clear hq2); (try clear hO); (try clear f1); (try clear H2); (try clear hP9); (try clear hz9); (try clear hcl9); (try clear hcv9); (try clear hce9); (try clear hpx9); (try clear q9); (try clear ce9); (try clear E9); (try clear htab); (try clear hsz); (try clear s₁); (try clear hcapW); (try clear hl16); omega) | omega))
    clear hq2
    generalize H2 = H at hP hO hS ⊢
    refine lv_goto (tgt := 15) hx hb dL_tidied_9 (by decide) ?_
    refine lv_iconst (v := iZ 0) hx hb dL_tidied_15 rfl ?_
    exact W.iret (v := (iZ 0)) hx hb hr (fun t8 ht8 hW8 => ⟨⟨(iZ 0), (u9.1, f1), rfl, hw9.2, by rw [ht8]; exact hP, by rw [ht8]; exact hO⟩, hS.F ht8⟩) hS.2.2 dL_tidied_16
set_option maxHeartbeats 4000000 in
set_option maxRecDepth 100000 in
theorem w_told (l : Launch) (hfl : l.stackTraces = false) (dC : Nat → ClassId) (dI : Nat → Nat → Nat) (cI cZ cII cIII cO : ClassId) (h0 o0 sz : Nat) (μ : va_M) (f : Nat → Int64) (wh : Int) (T : List Tk) (hI : CI T μ) (h_wh : inR wh) (ho : h0 + 233 ≤ o0) : Met l yL_told (Cond.codeWith yL_told cL_told 4 (some .int) [(0, 9, 12, 13)] :: wsG) ({ frames := 8, cells := 1, slots := 6, locals := 131 } : Room) (va_Pc [.ref h0, .int (iZ (wh)), .ref o0] (fun U => U.heap.size = sz ∧ va_P (dC, dI) vwCl (fw (sE cI cZ cII cIII h0) h0 233 μ) U.heap ∧ va_P (dC, dI) vwCl [(o0, .inl (cO, 1, .inr (.inl f)))] U.heap ∧ va_K (dC, dI) vwCl (sT cI cZ cII cIII) U ∧ va_K (dC, dI) vwCl [(cO, .long)] U ∧ xM U ∧ xX (wA h0 o0 sz) U ∧ xNC U)) (va_Qi (fun (r9 : Int32) (u : va_M × (Nat → Int64)) => CI T u.1 ∧ SZ μ u.1) (fun u t => va_P (dC, dI) vwCl (fw (sE cI cZ cII cIII h0) h0 233 u.1) t.heap ∧ va_P (dC, dI) vwCl [(o0, .inl (cO, 1, .inr (.inl u.2)))] t.heap) (wA h0 o0 sz)) 1 6 (wA h0 o0 sz) := by
  refine va_MetW (hh := [(0, 9, 12, 13)]) (cc := cL_told) (maxL := 4) (ret := (some .int)) (by decide) rfl ?_
  intro p e s m args below meth c s₁ B hml hv
  obtain ⟨rfl, hsz, hP, hO, hK, hKo, hM, hEx, hNc⟩ := hv
  have hx := B.exec
  have hb := B.bytes
  have hr := B.returns
  have hts : ∀ w ∈ wsG, w.before _ s = true := fun w hw => atoms_spec (ws := (Cond.codeWith yL_told cL_told 4 (some .int) [(0, 9, 12, 13)] :: wsG)) B.pre w (List.mem_cons_of_mem _ hw)
  have htab := vx_table (x := yL_told) B (atoms_spec (ws := (Cond.codeWith yL_told cL_told 4 (some .int) [(0, 9, 12, 13)] :: wsG)) B.pre _ List.mem_cons_self)
  have hown : s.vm.findClass RL = some m.cls := findClass_of_methodNamed B.named
  have hlocks := B.notSynchronized
  subst hsz
  have hS : va_S (wA h0 o0 s.heap.size) s.heap s.heap [] := va_S.rf
  have hl := lv_entry ([.ref h0, .int (iZ (wh)), .ref o0]) (n := 4) (Nat.le_of_ble_eq_true rfl)
  rw [lg_entry_eq]
  generalize (lg_sl ([.ref h0, .int (iZ (wh)), .ref o0]) ++ List.replicate (4 - (lg_sl ([.ref h0, .int (iZ (wh)), .ref o0])).length) Slot.unset).toArray = ls at hl ⊢
  have hl : lv_has ls 4 [(0, .ref h0), (1, .int (iZ (wh))), (2, .ref o0)] := hl
  refine lv_aload_n hx hb dL_told_0 rfl (lv_at hl 2 rfl) ?_
  refine lv_iconst (v := iZ 0) hx hb dL_told_1 rfl ?_
  refine lv_aload_n hx hb dL_told_2 rfl (lv_at hl 0 rfl) ?_
  refine lv_iload_n hx hb dL_told_3 rfl (lv_at hl 1 rfl) ?_
  refine vx_calli (vx_runV (As := [.int (iZ (wh))]) (rest := [.int (iZ 0), .ref o0]) ⟨hx, hb, hml, hown, hts⟩ (q_told l hfl dC dI cI cZ cII cIII h0 s.heap.size μ wh T hI h_wh) (cwV 1 hts (gV_G k852 k853 k854 k1 k855) rfl rfl rfl (by decide +kernel) ⟨Nat.le_of_ble_eq_true rfl, Nat.le_of_ble_eq_true rfl⟩) ⟨fun a U g mk q => by obtain ⟨q0, q1, qP, qK, qM, qE⟩ := q; exact ⟨q0, q1, qP, va_K.moved (u := U) (U := U.calling g mk a) (Vm.Alike.refl U.vm) qK, qM, xX_call qE⟩, va_recv hK hP (ci := 9) (q0 := 0) rfl ((fw_get (by decide)).trans (by rw [sE_0]; rfl)), fun U hU hW => ⟨rfl, by rw [hU], by rw [hU]; exact hP, va_K.moved hW.alike hK, xM_warm hW hM, xX_at hEx hS (fA_w (Nat.le_refl _)) hU hW⟩⟩ rfl rfl hl.1 rfl (lv_room (Nat.le_of_ble_eq_true rfl)) dL_told_4 ⟨Nat.le_of_ble_eq_true rfl, Nat.le_of_ble_eq_true rfl⟩) hS (fun q _ h => fA_w (Nat.le_refl _) q h) (fA_w (Nat.le_refl _)) (fun q _ h => fA_w (Nat.le_refl _) q h) (fun E9 ce9 q9 u9 t9 H1 locs ht9 hvm9 hpx9 hBX9 hz9 hk9 hS hce9 hcv9 hcl9 => ?_) (fun r9 u9 t9 H1 locs ht9 hvm9 hw9 hB9 hz9 hk9 hS => ?_)
  · obtain ⟨hE9, hP9, -⟩ := hBX9
    rw [ht9] at hP9
    have hO := one_kept hO hk9 (fun h => by have := one_lt hO; rcases h with h | h <;> (first | ((try clear hO); (try clear hP9); (try clear hE9); (try clear hz9); (try clear hcl9); (try clear hcv9); (try clear hce9); (try clear hpx9); (try clear q9); (try clear ce9); (try clear E9); (try clear htab); (try clear hsz); (try clear s₁); omega) | omega))
    have hP := hP9
    clear hP9 hk9
    simp only [List.mem_cons, List.not_mem_nil, or_false] at hE9
    subst hE9
    refine vx_catch (name := "java/lang/IllegalArgumentException") hown [] ⟨0, 9, 12, 13⟩ [] htab (fun z hz => by simp at hz) (by decide) (by decide) (hts _ k590) (va_Nw.use rfl (hEx.2.1 _ (by decide +kernel))) hce9 hcv9 hcl9 ?_
    clear hce9
    generalize H1 = H at hP hO hS ⊢
    refine W.widen (k := 1) (n := 6) (by (first | ((try clear hO); (try clear hP9); (try clear hE9); (try clear hz9); (try clear hcl9); (try clear hcv9); (try clear hce9); (try clear hpx9); (try clear q9); (try clear ce9); (try clear E9); (try clear htab); (try clear hsz); (try clear s₁); (try clear ho); omega) | omega)) (by (first | ((try clear hO); (try clear hP9); (try clear hE9); (try clear hz9); (try clear hcl9); (try clear hcv9); (try clear hce9); (try clear hpx9); (try clear q9); (try clear ce9); (try clear E9); (try clear htab); (try clear hsz); (try clear s₁); (try clear ho); omega) | omega)) ?_
    refine lv_astore_n (lv' := [(3, .ref q9), (0, .ref h0), (1, .int (iZ (wh))), (2, .ref o0)]) hx hb dL_told_12 rfl hl (by decide) rfl (fun ls hl => ?_)
    refine lv_iconst (v := iZ 1) hx hb dL_told_13 rfl ?_
    exact W.iret (v := (iZ 1)) hx hb hr (fun t8 ht8 hW8 => ⟨⟨(iZ 1), (u9, f), rfl, hpx9, by rw [ht8]; exact hP, by rw [ht8]; exact hO⟩, hS.F ht8⟩) hS.2.2 dL_told_14
  · obtain ⟨hP9, -⟩ := hB9
    rw [ht9] at hP9
    have hO := one_kept hO hk9 (fun h => by have := one_lt hO; rcases h with h | h <;> (first | ((try clear hO); (try clear hP9); (try clear hz9); (try clear hcl9); (try clear hcv9); (try clear hce9); (try clear hpx9); (try clear q9); (try clear ce9); (try clear E9); (try clear htab); (try clear hsz); (try clear s₁); omega) | omega))
    have hP := hP9
    clear hP9 hk9
    generalize H1 = H at hP hO hS ⊢
    refine W.widen (k := 1) (n := 6) (by (first | ((try clear hO); (try clear hP9); (try clear hz9); (try clear hcl9); (try clear hcv9); (try clear hce9); (try clear hpx9); (try clear q9); (try clear ce9); (try clear E9); (try clear htab); (try clear hsz); (try clear s₁); (try clear ho); omega) | omega)) (by (first | ((try clear hO); (try clear hP9); (try clear hz9); (try clear hcl9); (try clear hcv9); (try clear hce9); (try clear hpx9); (try clear q9); (try clear ce9); (try clear E9); (try clear htab); (try clear hsz); (try clear s₁); (try clear ho); omega) | omega)) ?_
    refine lv_i2l (v := r9.toInt64) hx hb dL_told_7 rfl ?_
    refine wo_last hx hb hKo hO hS (Or.inr (Or.inl rfl)) dL_told_8 (fun H2 locs f1 hO hq2 hS => ?_)
    have hP := fl_kept hP hq2 (fun k hk => by (first | ((try clear hq2); (try clear hO); (try clear f1); (try clear H2); (try clear hP9); (try clear hz9); (try clear hcl9); (try clear hcv9); (try clear hce9); (try clear hpx9); (try clear q9); (try clear ce9); (try clear E9); (try clear htab); (try clear hsz); (try clear s₁); omega) | omega))
    clear hq2
    generalize H2 = H at hP hO hS ⊢
    refine lv_goto (tgt := 15) hx hb dL_told_9 (by decide) ?_
    refine lv_iconst (v := iZ 0) hx hb dL_told_15 rfl ?_
    exact W.iret (v := (iZ 0)) hx hb hr (fun t8 ht8 hW8 => ⟨⟨(iZ 0), (u9.1, f1), rfl, hw9.2, by rw [ht8]; exact hP, by rw [ht8]; exact hO⟩, hS.F ht8⟩) hS.2.2 dL_told_16
set_option maxHeartbeats 4000000 in
set_option maxRecDepth 100000 in
theorem w_pageOf (l : Launch) (hfl : l.stackTraces = false) (dC : Nat → ClassId) (dI : Nat → Nat → Nat) (cI cZ cII cIII cO : ClassId) (h0 o0 sz : Nat) (μ : va_M) (f : Nat → Int64) (pg : Int) (wh : Int) (T : List Tk) (hI : CI T μ) (h_pg : inR pg) (h_wh : inR wh) (ho : h0 + 233 ≤ o0) : Met l yL_pageOf (Cond.codeWith yL_pageOf cL_pageOf 5 (some .int) [(0, 10, 13, 20), (0, 10, 17, 13)] :: wsG) ({ frames := 9, cells := 1, slots := 6, locals := 154 } : Room) (va_Pc [.ref h0, .int (iZ (pg)), .int (iZ (wh)), .ref o0] (fun U => U.heap.size = sz ∧ va_P (dC, dI) vwCl (fw (sE cI cZ cII cIII h0) h0 233 μ) U.heap ∧ va_P (dC, dI) vwCl [(o0, .inl (cO, 1, .inr (.inl f)))] U.heap ∧ va_K (dC, dI) vwCl (sT cI cZ cII cIII) U ∧ va_K (dC, dI) vwCl [(cO, .long)] U ∧ xM U ∧ xX (wA h0 o0 sz) U ∧ xNC U)) (va_Qi (fun (r9 : Int32) (u : va_M × (Nat → Int64)) => CI T u.1 ∧ SZ μ u.1) (fun u t => va_P (dC, dI) vwCl (fw (sE cI cZ cII cIII h0) h0 233 u.1) t.heap ∧ va_P (dC, dI) vwCl [(o0, .inl (cO, 1, .inr (.inl u.2)))] t.heap) (wA h0 o0 sz)) 1 6 (wA h0 o0 sz) := by
  refine va_MetW (hh := [(0, 10, 13, 20), (0, 10, 17, 13)]) (cc := cL_pageOf) (maxL := 5) (ret := (some .int)) (by decide) rfl ?_
  intro p e s m args below meth c s₁ B hml hv
  obtain ⟨rfl, hsz, hP, hO, hK, hKo, hM, hEx, hNc⟩ := hv
  have hx := B.exec
  have hb := B.bytes
  have hr := B.returns
  have hts : ∀ w ∈ wsG, w.before _ s = true := fun w hw => atoms_spec (ws := (Cond.codeWith yL_pageOf cL_pageOf 5 (some .int) [(0, 10, 13, 20), (0, 10, 17, 13)] :: wsG)) B.pre w (List.mem_cons_of_mem _ hw)
  have htab := vx_table (x := yL_pageOf) B (atoms_spec (ws := (Cond.codeWith yL_pageOf cL_pageOf 5 (some .int) [(0, 10, 13, 20), (0, 10, 17, 13)] :: wsG)) B.pre _ List.mem_cons_self)
  have hown : s.vm.findClass RL = some m.cls := findClass_of_methodNamed B.named
  have hlocks := B.notSynchronized
  subst hsz
  have hS : va_S (wA h0 o0 s.heap.size) s.heap s.heap [] := va_S.rf
  have hl := lv_entry ([.ref h0, .int (iZ (pg)), .int (iZ (wh)), .ref o0]) (n := 5) (Nat.le_of_ble_eq_true rfl)
  rw [lg_entry_eq]
  generalize (lg_sl ([.ref h0, .int (iZ (pg)), .int (iZ (wh)), .ref o0]) ++ List.replicate (5 - (lg_sl ([.ref h0, .int (iZ (pg)), .int (iZ (wh)), .ref o0])).length) Slot.unset).toArray = ls at hl ⊢
  have hl : lv_has ls 5 [(0, .ref h0), (1, .int (iZ (pg))), (2, .int (iZ (wh))), (3, .ref o0)] := hl
  refine lv_aload_n hx hb dL_pageOf_0 rfl (lv_at hl 3 rfl) ?_
  refine lv_iconst (v := iZ 0) hx hb dL_pageOf_1 rfl ?_
  refine lv_aload_n hx hb dL_pageOf_2 rfl (lv_at hl 0 rfl) ?_
  refine lv_iload_n hx hb dL_pageOf_3 rfl (lv_at hl 1 rfl) ?_
  refine lv_iload_n hx hb dL_pageOf_4 rfl (lv_at hl 2 rfl) ?_
  refine vx_calli (vx_runV (As := [.int (iZ (pg)), .int (iZ (wh))]) (rest := [.int (iZ 0), .ref o0]) ⟨hx, hb, hml, hown, hts⟩ (q_pageOf l hfl dC dI cI cZ cII cIII h0 s.heap.size μ pg wh T hI h_pg h_wh) (cwV 2 hts (gV_G k863 k864 k865 k1 k866) rfl rfl rfl (by decide +kernel) ⟨Nat.le_of_ble_eq_true rfl, Nat.le_of_ble_eq_true rfl⟩) ⟨fun a U g mk q => by obtain ⟨q0, q1, qP, qK, qM, qE⟩ := q; exact ⟨q0, q1, qP, va_K.moved (u := U) (U := U.calling g mk a) (Vm.Alike.refl U.vm) qK, qM, xX_call qE⟩, va_recv hK hP (ci := 9) (q0 := 0) rfl ((fw_get (by decide)).trans (by rw [sE_0]; rfl)), fun U hU hW => ⟨rfl, by rw [hU], by rw [hU]; exact hP, va_K.moved hW.alike hK, xM_warm hW hM, xX_at hEx hS (fA_w (Nat.le_refl _)) hU hW⟩⟩ rfl rfl hl.1 rfl (lv_room (Nat.le_of_ble_eq_true rfl)) dL_pageOf_5 ⟨Nat.le_of_ble_eq_true rfl, Nat.le_of_ble_eq_true rfl⟩) hS (fun q _ h => fA_w (Nat.le_refl _) q h) (fA_w (Nat.le_refl _)) (fun q _ h => fA_w (Nat.le_refl _) q h) (fun E9 ce9 q9 u9 t9 H1 locs ht9 hvm9 hpx9 hBX9 hz9 hk9 hS hce9 hcv9 hcl9 => ?_) (fun r9 u9 t9 H1 locs ht9 hvm9 hw9 hB9 hz9 hk9 hS => ?_)
  · obtain ⟨hE9, hP9, -⟩ := hBX9
    rw [ht9] at hP9
    have hO := one_kept hO hk9 (fun h => by have := one_lt hO; rcases h with h | h <;> (first | ((try clear hO); (try clear hP9); (try clear hE9); (try clear hz9); (try clear hcl9); (try clear hcv9); (try clear hce9); (try clear hpx9); (try clear q9); (try clear ce9); (try clear E9); (try clear htab); (try clear hsz); (try clear s₁); omega) | omega))
    have hP := hP9
    clear hP9 hk9
    simp only [List.mem_cons, List.not_mem_nil, or_false] at hE9
    rcases hE9 with rfl | rfl
    · refine vx_catch (name := "java/util/NoSuchElementException") hown [] ⟨0, 10, 13, 20⟩ [⟨0, 10, 17, 13⟩] htab (fun z hz => by simp at hz) (by decide) (by decide) (hts _ k730) (va_Nw.use rfl (hEx.2.1 _ (by decide +kernel))) hce9 hcv9 hcl9 ?_
      clear hce9
      generalize H1 = H at hP hO hS ⊢
      refine W.widen (k := 1) (n := 6) (by (first | ((try clear hO); (try clear hP9); (try clear hE9); (try clear hz9); (try clear hcl9); (try clear hcv9); (try clear hce9); (try clear hpx9); (try clear q9); (try clear ce9); (try clear E9); (try clear htab); (try clear hsz); (try clear s₁); (try clear ho); omega) | omega)) (by (first | ((try clear hO); (try clear hP9); (try clear hE9); (try clear hz9); (try clear hcl9); (try clear hcv9); (try clear hce9); (try clear hpx9); (try clear q9); (try clear ce9); (try clear E9); (try clear htab); (try clear hsz); (try clear s₁); (try clear ho); omega) | omega)) ?_
      refine lv_astore (lv' := [(4, .ref q9), (0, .ref h0), (1, .int (iZ (pg))), (2, .int (iZ (wh))), (3, .ref o0)]) hx hb dL_pageOf_13 hl (by decide) rfl (fun ls hl => ?_)
      refine lv_iconst (v := iZ 1) hx hb dL_pageOf_15 rfl ?_
      exact W.iret (v := (iZ 1)) hx hb hr (fun t8 ht8 hW8 => ⟨⟨(iZ 1), (u9, f), rfl, hpx9, by rw [ht8]; exact hP, by rw [ht8]; exact hO⟩, hS.F ht8⟩) hS.2.2 dL_pageOf_16
    · refine vx_catch (name := "java/lang/IllegalArgumentException") hown [⟨0, 10, 13, 20⟩] ⟨0, 10, 17, 13⟩ [] htab (fun z hz => by rw [List.mem_singleton.mp hz]; exact Or.inr ⟨by decide, "java/util/NoSuchElementException", hts _ k730, hNc.2.2⟩) (by decide) (by decide) (hts _ k590) (va_Nw.use rfl (hEx.2.1 _ (by decide +kernel))) hce9 hcv9 hcl9 ?_
      clear hce9
      generalize H1 = H at hP hO hS ⊢
      refine W.widen (k := 1) (n := 6) (by (first | ((try clear hO); (try clear hP9); (try clear hE9); (try clear hz9); (try clear hcl9); (try clear hcv9); (try clear hce9); (try clear hpx9); (try clear q9); (try clear ce9); (try clear E9); (try clear htab); (try clear hsz); (try clear s₁); (try clear ho); omega) | omega)) (by (first | ((try clear hO); (try clear hP9); (try clear hE9); (try clear hz9); (try clear hcl9); (try clear hcv9); (try clear hce9); (try clear hpx9); (try clear q9); (try clear ce9); (try clear E9); (try clear htab); (try clear hsz); (try clear s₁); (try clear ho); omega) | omega)) ?_
      refine lv_astore (lv' := [(4, .ref q9), (0, .ref h0), (1, .int (iZ (pg))), (2, .int (iZ (wh))), (3, .ref o0)]) hx hb dL_pageOf_17 hl (by decide) rfl (fun ls hl => ?_)
      refine lv_iconst (v := iZ 2) hx hb dL_pageOf_19 rfl ?_
      exact W.iret (v := (iZ 2)) hx hb hr (fun t8 ht8 hW8 => ⟨⟨(iZ 2), (u9, f), rfl, hpx9, by rw [ht8]; exact hP, by rw [ht8]; exact hO⟩, hS.F ht8⟩) hS.2.2 dL_pageOf_20
  · obtain ⟨hP9, -⟩ := hB9
    rw [ht9] at hP9
    have hO := one_kept hO hk9 (fun h => by have := one_lt hO; rcases h with h | h <;> (first | ((try clear hO); (try clear hP9); (try clear hz9); (try clear hcl9); (try clear hcv9); (try clear hce9); (try clear hpx9); (try clear q9); (try clear ce9); (try clear E9); (try clear htab); (try clear hsz); (try clear s₁); omega) | omega))
    have hP := hP9
    clear hP9 hk9
    generalize H1 = H at hP hO hS ⊢
    refine W.widen (k := 1) (n := 6) (by (first | ((try clear hO); (try clear hP9); (try clear hz9); (try clear hcl9); (try clear hcv9); (try clear hce9); (try clear hpx9); (try clear q9); (try clear ce9); (try clear E9); (try clear htab); (try clear hsz); (try clear s₁); (try clear ho); omega) | omega)) (by (first | ((try clear hO); (try clear hP9); (try clear hz9); (try clear hcl9); (try clear hcv9); (try clear hce9); (try clear hpx9); (try clear q9); (try clear ce9); (try clear E9); (try clear htab); (try clear hsz); (try clear s₁); (try clear ho); omega) | omega)) ?_
    refine lv_i2l (v := r9.toInt64) hx hb dL_pageOf_8 rfl ?_
    refine wo_last hx hb hKo hO hS (Or.inr (Or.inl rfl)) dL_pageOf_9 (fun H2 locs f1 hO hq2 hS => ?_)
    have hP := fl_kept hP hq2 (fun k hk => by (first | ((try clear hq2); (try clear hO); (try clear f1); (try clear H2); (try clear hP9); (try clear hz9); (try clear hcl9); (try clear hcv9); (try clear hce9); (try clear hpx9); (try clear q9); (try clear ce9); (try clear E9); (try clear htab); (try clear hsz); (try clear s₁); omega) | omega))
    clear hq2
    generalize H2 = H at hP hO hS ⊢
    refine lv_goto (tgt := 21) hx hb dL_pageOf_10 (by decide) ?_
    refine lv_iconst (v := iZ 0) hx hb dL_pageOf_21 rfl ?_
    exact W.iret (v := (iZ 0)) hx hb hr (fun t8 ht8 hW8 => ⟨⟨(iZ 0), (u9.1, f1), rfl, hw9.2, by rw [ht8]; exact hP, by rw [ht8]; exact hO⟩, hS.F ht8⟩) hS.2.2 dL_pageOf_22
set_option maxHeartbeats 4000000 in
set_option maxRecDepth 100000 in
theorem w_token (l : Launch) (hfl : l.stackTraces = false) (dC : Nat → ClassId) (dI : Nat → Nat → Nat) (cI cZ cII cIII cO : ClassId) (h0 o0 sz : Nat) (μ : va_M) (f : Nat → Int64) (pg : Int) (kn : Int) (T : List Tk) (hI : CI T μ) (h_pg : inR pg) (h_kn : inR kn) (ho : h0 + 233 ≤ o0) : Met l yL_token (Cond.codeWith yL_token cL_token 5 (some .int) [(0, 10, 13, 20)] :: wsG) ({ frames := 10, cells := 1, slots := 6, locals := 175 } : Room) (va_Pc [.ref h0, .int (iZ (pg)), .int (iZ (kn)), .ref o0] (fun U => U.heap.size = sz ∧ va_P (dC, dI) vwCl (fw (sE cI cZ cII cIII h0) h0 233 μ) U.heap ∧ va_P (dC, dI) vwCl [(o0, .inl (cO, 1, .inr (.inl f)))] U.heap ∧ va_K (dC, dI) vwCl (sT cI cZ cII cIII) U ∧ va_K (dC, dI) vwCl [(cO, .long)] U ∧ xM U ∧ xX (wA h0 o0 sz) U ∧ xNC U)) (va_Qi (fun (r9 : Int32) (u : va_M × (Nat → Int64)) => CI T u.1 ∧ SZ μ u.1) (fun u t => va_P (dC, dI) vwCl (fw (sE cI cZ cII cIII h0) h0 233 u.1) t.heap ∧ va_P (dC, dI) vwCl [(o0, .inl (cO, 1, .inr (.inl u.2)))] t.heap) (wA h0 o0 sz)) 1 6 (wA h0 o0 sz) := by
  refine va_MetW (hh := [(0, 10, 13, 20)]) (cc := cL_token) (maxL := 5) (ret := (some .int)) (by decide) rfl ?_
  intro p e s m args below meth c s₁ B hml hv
  obtain ⟨rfl, hsz, hP, hO, hK, hKo, hM, hEx, hNc⟩ := hv
  have hx := B.exec
  have hb := B.bytes
  have hr := B.returns
  have hts : ∀ w ∈ wsG, w.before _ s = true := fun w hw => atoms_spec (ws := (Cond.codeWith yL_token cL_token 5 (some .int) [(0, 10, 13, 20)] :: wsG)) B.pre w (List.mem_cons_of_mem _ hw)
  have htab := vx_table (x := yL_token) B (atoms_spec (ws := (Cond.codeWith yL_token cL_token 5 (some .int) [(0, 10, 13, 20)] :: wsG)) B.pre _ List.mem_cons_self)
  have hown : s.vm.findClass RL = some m.cls := findClass_of_methodNamed B.named
  have hlocks := B.notSynchronized
  subst hsz
  have hS : va_S (wA h0 o0 s.heap.size) s.heap s.heap [] := va_S.rf
  have hl := lv_entry ([.ref h0, .int (iZ (pg)), .int (iZ (kn)), .ref o0]) (n := 5) (Nat.le_of_ble_eq_true rfl)
  rw [lg_entry_eq]
  generalize (lg_sl ([.ref h0, .int (iZ (pg)), .int (iZ (kn)), .ref o0]) ++ List.replicate (5 - (lg_sl ([.ref h0, .int (iZ (pg)), .int (iZ (kn)), .ref o0])).length) Slot.unset).toArray = ls at hl ⊢
  have hl : lv_has ls 5 [(0, .ref h0), (1, .int (iZ (pg))), (2, .int (iZ (kn))), (3, .ref o0)] := hl
  refine lv_aload_n hx hb dL_token_0 rfl (lv_at hl 3 rfl) ?_
  refine lv_iconst (v := iZ 0) hx hb dL_token_1 rfl ?_
  refine lv_aload_n hx hb dL_token_2 rfl (lv_at hl 0 rfl) ?_
  refine lv_iload_n hx hb dL_token_3 rfl (lv_at hl 1 rfl) ?_
  refine lv_iload_n hx hb dL_token_4 rfl (lv_at hl 2 rfl) ?_
  refine vx_calli (vx_runV (As := [.int (iZ (pg)), .int (iZ (kn))]) (rest := [.int (iZ 0), .ref o0]) ⟨hx, hb, hml, hown, hts⟩ (q_token l hfl dC dI cI cZ cII cIII h0 s.heap.size μ pg kn T hI h_pg h_kn) (cwV 2 hts (gV_G k874 k875 k876 k1 k877) rfl rfl rfl (by decide +kernel) ⟨Nat.le_of_ble_eq_true rfl, Nat.le_of_ble_eq_true rfl⟩) ⟨fun a U g mk q => by obtain ⟨q0, q1, qP, qK, qM, qE⟩ := q; exact ⟨q0, q1, qP, va_K.moved (u := U) (U := U.calling g mk a) (Vm.Alike.refl U.vm) qK, qM, xX_call qE⟩, va_recv hK hP (ci := 9) (q0 := 0) rfl ((fw_get (by decide)).trans (by rw [sE_0]; rfl)), fun U hU hW => ⟨rfl, by rw [hU], by rw [hU]; exact hP, va_K.moved hW.alike hK, xM_warm hW hM, xX_at hEx hS (fA_w (Nat.le_refl _)) hU hW⟩⟩ rfl rfl hl.1 rfl (lv_room (Nat.le_of_ble_eq_true rfl)) dL_token_5 ⟨Nat.le_of_ble_eq_true rfl, Nat.le_of_ble_eq_true rfl⟩) hS (fun q _ h => fA_w (Nat.le_refl _) q h) (fA_w (Nat.le_refl _)) (fun q _ h => fA_w (Nat.le_refl _) q h) (fun E9 ce9 q9 u9 t9 H1 locs ht9 hvm9 hpx9 hBX9 hz9 hk9 hS hce9 hcv9 hcl9 => ?_) (fun r9 u9 t9 H1 locs ht9 hvm9 hw9 hB9 hz9 hk9 hS => ?_)
  · obtain ⟨hE9, hP9, -⟩ := hBX9
    rw [ht9] at hP9
    have hO := one_kept hO hk9 (fun h => by have := one_lt hO; rcases h with h | h <;> (first | ((try clear hO); (try clear hP9); (try clear hE9); (try clear hz9); (try clear hcl9); (try clear hcv9); (try clear hce9); (try clear hpx9); (try clear q9); (try clear ce9); (try clear E9); (try clear htab); (try clear hsz); (try clear s₁); omega) | omega))
    have hP := hP9
    clear hP9 hk9
    simp only [List.mem_cons, List.not_mem_nil, or_false] at hE9
    subst hE9
    refine vx_catch (name := "java/util/NoSuchElementException") hown [] ⟨0, 10, 13, 20⟩ [] htab (fun z hz => by simp at hz) (by decide) (by decide) (hts _ k730) (va_Nw.use rfl (hEx.2.1 _ (by decide +kernel))) hce9 hcv9 hcl9 ?_
    clear hce9
    generalize H1 = H at hP hO hS ⊢
    refine W.widen (k := 1) (n := 6) (by (first | ((try clear hO); (try clear hP9); (try clear hE9); (try clear hz9); (try clear hcl9); (try clear hcv9); (try clear hce9); (try clear hpx9); (try clear q9); (try clear ce9); (try clear E9); (try clear htab); (try clear hsz); (try clear s₁); (try clear ho); omega) | omega)) (by (first | ((try clear hO); (try clear hP9); (try clear hE9); (try clear hz9); (try clear hcl9); (try clear hcv9); (try clear hce9); (try clear hpx9); (try clear q9); (try clear ce9); (try clear E9); (try clear htab); (try clear hsz); (try clear s₁); (try clear ho); omega) | omega)) ?_
    refine lv_astore (lv' := [(4, .ref q9), (0, .ref h0), (1, .int (iZ (pg))), (2, .int (iZ (kn))), (3, .ref o0)]) hx hb dL_token_13 hl (by decide) rfl (fun ls hl => ?_)
    refine lv_iconst (v := iZ 1) hx hb dL_token_15 rfl ?_
    exact W.iret (v := (iZ 1)) hx hb hr (fun t8 ht8 hW8 => ⟨⟨(iZ 1), (u9, f), rfl, hpx9, by rw [ht8]; exact hP, by rw [ht8]; exact hO⟩, hS.F ht8⟩) hS.2.2 dL_token_16
  · obtain ⟨hP9, -⟩ := hB9
    rw [ht9] at hP9
    have hO := one_kept hO hk9 (fun h => by have := one_lt hO; rcases h with h | h <;> (first | ((try clear hO); (try clear hP9); (try clear hz9); (try clear hcl9); (try clear hcv9); (try clear hce9); (try clear hpx9); (try clear q9); (try clear ce9); (try clear E9); (try clear htab); (try clear hsz); (try clear s₁); omega) | omega))
    have hP := hP9
    clear hP9 hk9
    generalize H1 = H at hP hO hS ⊢
    refine W.widen (k := 1) (n := 6) (by (first | ((try clear hO); (try clear hP9); (try clear hz9); (try clear hcl9); (try clear hcv9); (try clear hce9); (try clear hpx9); (try clear q9); (try clear ce9); (try clear E9); (try clear htab); (try clear hsz); (try clear s₁); (try clear ho); omega) | omega)) (by (first | ((try clear hO); (try clear hP9); (try clear hz9); (try clear hcl9); (try clear hcv9); (try clear hce9); (try clear hpx9); (try clear q9); (try clear ce9); (try clear E9); (try clear htab); (try clear hsz); (try clear s₁); (try clear ho); omega) | omega)) ?_
    refine lv_i2l (v := r9.toInt64) hx hb dL_token_8 rfl ?_
    refine wo_last hx hb hKo hO hS (Or.inr (Or.inl rfl)) dL_token_9 (fun H2 locs f1 hO hq2 hS => ?_)
    have hP := fl_kept hP hq2 (fun k hk => by (first | ((try clear hq2); (try clear hO); (try clear f1); (try clear H2); (try clear hP9); (try clear hz9); (try clear hcl9); (try clear hcv9); (try clear hce9); (try clear hpx9); (try clear q9); (try clear ce9); (try clear E9); (try clear htab); (try clear hsz); (try clear s₁); omega) | omega))
    clear hq2
    generalize H2 = H at hP hO hS ⊢
    refine lv_goto (tgt := 17) hx hb dL_token_10 (by decide) ?_
    refine lv_iconst (v := iZ 0) hx hb dL_token_17 rfl ?_
    exact W.iret (v := (iZ 0)) hx hb hr (fun t8 ht8 hW8 => ⟨⟨(iZ 0), (u9.1, f1), rfl, hw9.2, by rw [ht8]; exact hP, by rw [ht8]; exact hO⟩, hS.F ht8⟩) hS.2.2 dL_token_18
set_option maxHeartbeats 4000000 in
set_option maxRecDepth 100000 in
theorem w_tokenOf (l : Launch) (hfl : l.stackTraces = false) (dC : Nat → ClassId) (dI : Nat → Nat → Nat) (cI cZ cII cIII cO : ClassId) (h0 o0 sz : Nat) (μ : va_M) (f : Nat → Int64) (tk : Int) (wh : Int) (T : List Tk) (hI : CI T μ) (h_tk : inR tk) (h_wh : inR wh) (ho : h0 + 233 ≤ o0) : Met l yL_tokenOf (Cond.codeWith yL_tokenOf cL_tokenOf 5 (some .int) [(0, 10, 13, 20), (0, 10, 17, 13)] :: wsG) ({ frames := 8, cells := 1, slots := 6, locals := 132 } : Room) (va_Pc [.ref h0, .int (iZ (tk)), .int (iZ (wh)), .ref o0] (fun U => U.heap.size = sz ∧ va_P (dC, dI) vwCl (fw (sE cI cZ cII cIII h0) h0 233 μ) U.heap ∧ va_P (dC, dI) vwCl [(o0, .inl (cO, 1, .inr (.inl f)))] U.heap ∧ va_K (dC, dI) vwCl (sT cI cZ cII cIII) U ∧ va_K (dC, dI) vwCl [(cO, .long)] U ∧ xM U ∧ xX (wA h0 o0 sz) U ∧ xNC U)) (va_Qi (fun (r9 : Int32) (u : va_M × (Nat → Int64)) => CI T u.1 ∧ SZ μ u.1) (fun u t => va_P (dC, dI) vwCl (fw (sE cI cZ cII cIII h0) h0 233 u.1) t.heap ∧ va_P (dC, dI) vwCl [(o0, .inl (cO, 1, .inr (.inl u.2)))] t.heap) (wA h0 o0 sz)) 1 6 (wA h0 o0 sz) := by
  refine va_MetW (hh := [(0, 10, 13, 20), (0, 10, 17, 13)]) (cc := cL_tokenOf) (maxL := 5) (ret := (some .int)) (by decide) rfl ?_
  intro p e s m args below meth c s₁ B hml hv
  obtain ⟨rfl, hsz, hP, hO, hK, hKo, hM, hEx, hNc⟩ := hv
  have hx := B.exec
  have hb := B.bytes
  have hr := B.returns
  have hts : ∀ w ∈ wsG, w.before _ s = true := fun w hw => atoms_spec (ws := (Cond.codeWith yL_tokenOf cL_tokenOf 5 (some .int) [(0, 10, 13, 20), (0, 10, 17, 13)] :: wsG)) B.pre w (List.mem_cons_of_mem _ hw)
  have htab := vx_table (x := yL_tokenOf) B (atoms_spec (ws := (Cond.codeWith yL_tokenOf cL_tokenOf 5 (some .int) [(0, 10, 13, 20), (0, 10, 17, 13)] :: wsG)) B.pre _ List.mem_cons_self)
  have hown : s.vm.findClass RL = some m.cls := findClass_of_methodNamed B.named
  have hlocks := B.notSynchronized
  subst hsz
  have hS : va_S (wA h0 o0 s.heap.size) s.heap s.heap [] := va_S.rf
  have hl := lv_entry ([.ref h0, .int (iZ (tk)), .int (iZ (wh)), .ref o0]) (n := 5) (Nat.le_of_ble_eq_true rfl)
  rw [lg_entry_eq]
  generalize (lg_sl ([.ref h0, .int (iZ (tk)), .int (iZ (wh)), .ref o0]) ++ List.replicate (5 - (lg_sl ([.ref h0, .int (iZ (tk)), .int (iZ (wh)), .ref o0])).length) Slot.unset).toArray = ls at hl ⊢
  have hl : lv_has ls 5 [(0, .ref h0), (1, .int (iZ (tk))), (2, .int (iZ (wh))), (3, .ref o0)] := hl
  refine lv_aload_n hx hb dL_tokenOf_0 rfl (lv_at hl 3 rfl) ?_
  refine lv_iconst (v := iZ 0) hx hb dL_tokenOf_1 rfl ?_
  refine lv_aload_n hx hb dL_tokenOf_2 rfl (lv_at hl 0 rfl) ?_
  refine lv_iload_n hx hb dL_tokenOf_3 rfl (lv_at hl 1 rfl) ?_
  refine lv_iload_n hx hb dL_tokenOf_4 rfl (lv_at hl 2 rfl) ?_
  refine vx_calli (vx_runV (As := [.int (iZ (tk)), .int (iZ (wh))]) (rest := [.int (iZ 0), .ref o0]) ⟨hx, hb, hml, hown, hts⟩ (q_tokenOf l hfl dC dI cI cZ cII cIII h0 s.heap.size μ tk wh T hI h_tk h_wh) (cwV 2 hts (gV_G k885 k886 k887 k1 k888) rfl rfl rfl (by decide +kernel) ⟨Nat.le_of_ble_eq_true rfl, Nat.le_of_ble_eq_true rfl⟩) ⟨fun a U g mk q => by obtain ⟨q0, q1, qP, qK, qM, qE⟩ := q; exact ⟨q0, q1, qP, va_K.moved (u := U) (U := U.calling g mk a) (Vm.Alike.refl U.vm) qK, qM, xX_call qE⟩, va_recv hK hP (ci := 9) (q0 := 0) rfl ((fw_get (by decide)).trans (by rw [sE_0]; rfl)), fun U hU hW => ⟨rfl, by rw [hU], by rw [hU]; exact hP, va_K.moved hW.alike hK, xM_warm hW hM, xX_at hEx hS (fA_w (Nat.le_refl _)) hU hW⟩⟩ rfl rfl hl.1 rfl (lv_room (Nat.le_of_ble_eq_true rfl)) dL_tokenOf_5 ⟨Nat.le_of_ble_eq_true rfl, Nat.le_of_ble_eq_true rfl⟩) hS (fun q _ h => fA_w (Nat.le_refl _) q h) (fA_w (Nat.le_refl _)) (fun q _ h => fA_w (Nat.le_refl _) q h) (fun E9 ce9 q9 u9 t9 H1 locs ht9 hvm9 hpx9 hBX9 hz9 hk9 hS hce9 hcv9 hcl9 => ?_) (fun r9 u9 t9 H1 locs ht9 hvm9 hw9 hB9 hz9 hk9 hS => ?_)
  · obtain ⟨hE9, hP9, -⟩ := hBX9
    rw [ht9] at hP9
    have hO := one_kept hO hk9 (fun h => by have := one_lt hO; rcases h with h | h <;> (first | ((try clear hO); (try clear hP9); (try clear hE9); (try clear hz9); (try clear hcl9); (try clear hcv9); (try clear hce9); (try clear hpx9); (try clear q9); (try clear ce9); (try clear E9); (try clear htab); (try clear hsz); (try clear s₁); omega) | omega))
    have hP := hP9
    clear hP9 hk9
    simp only [List.mem_cons, List.not_mem_nil, or_false] at hE9
    rcases hE9 with rfl | rfl
    · refine vx_catch (name := "java/util/NoSuchElementException") hown [] ⟨0, 10, 13, 20⟩ [⟨0, 10, 17, 13⟩] htab (fun z hz => by simp at hz) (by decide) (by decide) (hts _ k730) (va_Nw.use rfl (hEx.2.1 _ (by decide +kernel))) hce9 hcv9 hcl9 ?_
      clear hce9
      generalize H1 = H at hP hO hS ⊢
      refine W.widen (k := 1) (n := 6) (by (first | ((try clear hO); (try clear hP9); (try clear hE9); (try clear hz9); (try clear hcl9); (try clear hcv9); (try clear hce9); (try clear hpx9); (try clear q9); (try clear ce9); (try clear E9); (try clear htab); (try clear hsz); (try clear s₁); (try clear ho); omega) | omega)) (by (first | ((try clear hO); (try clear hP9); (try clear hE9); (try clear hz9); (try clear hcl9); (try clear hcv9); (try clear hce9); (try clear hpx9); (try clear q9); (try clear ce9); (try clear E9); (try clear htab); (try clear hsz); (try clear s₁); (try clear ho); omega) | omega)) ?_
      refine lv_astore (lv' := [(4, .ref q9), (0, .ref h0), (1, .int (iZ (tk))), (2, .int (iZ (wh))), (3, .ref o0)]) hx hb dL_tokenOf_13 hl (by decide) rfl (fun ls hl => ?_)
      refine lv_iconst (v := iZ 1) hx hb dL_tokenOf_15 rfl ?_
      exact W.iret (v := (iZ 1)) hx hb hr (fun t8 ht8 hW8 => ⟨⟨(iZ 1), (u9, f), rfl, hpx9, by rw [ht8]; exact hP, by rw [ht8]; exact hO⟩, hS.F ht8⟩) hS.2.2 dL_tokenOf_16
    · refine vx_catch (name := "java/lang/IllegalArgumentException") hown [⟨0, 10, 13, 20⟩] ⟨0, 10, 17, 13⟩ [] htab (fun z hz => by rw [List.mem_singleton.mp hz]; exact Or.inr ⟨by decide, "java/util/NoSuchElementException", hts _ k730, hNc.2.2⟩) (by decide) (by decide) (hts _ k590) (va_Nw.use rfl (hEx.2.1 _ (by decide +kernel))) hce9 hcv9 hcl9 ?_
      clear hce9
      generalize H1 = H at hP hO hS ⊢
      refine W.widen (k := 1) (n := 6) (by (first | ((try clear hO); (try clear hP9); (try clear hE9); (try clear hz9); (try clear hcl9); (try clear hcv9); (try clear hce9); (try clear hpx9); (try clear q9); (try clear ce9); (try clear E9); (try clear htab); (try clear hsz); (try clear s₁); (try clear ho); omega) | omega)) (by (first | ((try clear hO); (try clear hP9); (try clear hE9); (try clear hz9); (try clear hcl9); (try clear hcv9); (try clear hce9); (try clear hpx9); (try clear q9); (try clear ce9); (try clear E9); (try clear htab); (try clear hsz); (try clear s₁); (try clear ho); omega) | omega)) ?_
      refine lv_astore (lv' := [(4, .ref q9), (0, .ref h0), (1, .int (iZ (tk))), (2, .int (iZ (wh))), (3, .ref o0)]) hx hb dL_tokenOf_17 hl (by decide) rfl (fun ls hl => ?_)
      refine lv_iconst (v := iZ 2) hx hb dL_tokenOf_19 rfl ?_
      exact W.iret (v := (iZ 2)) hx hb hr (fun t8 ht8 hW8 => ⟨⟨(iZ 2), (u9, f), rfl, hpx9, by rw [ht8]; exact hP, by rw [ht8]; exact hO⟩, hS.F ht8⟩) hS.2.2 dL_tokenOf_20
  · obtain ⟨hP9, -⟩ := hB9
    rw [ht9] at hP9
    have hO := one_kept hO hk9 (fun h => by have := one_lt hO; rcases h with h | h <;> (first | ((try clear hO); (try clear hP9); (try clear hz9); (try clear hcl9); (try clear hcv9); (try clear hce9); (try clear hpx9); (try clear q9); (try clear ce9); (try clear E9); (try clear htab); (try clear hsz); (try clear s₁); omega) | omega))
    have hP := hP9
    clear hP9 hk9
    generalize H1 = H at hP hO hS ⊢
    refine W.widen (k := 1) (n := 6) (by (first | ((try clear hO); (try clear hP9); (try clear hz9); (try clear hcl9); (try clear hcv9); (try clear hce9); (try clear hpx9); (try clear q9); (try clear ce9); (try clear E9); (try clear htab); (try clear hsz); (try clear s₁); (try clear ho); omega) | omega)) (by (first | ((try clear hO); (try clear hP9); (try clear hz9); (try clear hcl9); (try clear hcv9); (try clear hce9); (try clear hpx9); (try clear q9); (try clear ce9); (try clear E9); (try clear htab); (try clear hsz); (try clear s₁); (try clear ho); omega) | omega)) ?_
    refine lv_i2l (v := r9.toInt64) hx hb dL_tokenOf_8 rfl ?_
    refine wo_last hx hb hKo hO hS (Or.inr (Or.inl rfl)) dL_tokenOf_9 (fun H2 locs f1 hO hq2 hS => ?_)
    have hP := fl_kept hP hq2 (fun k hk => by (first | ((try clear hq2); (try clear hO); (try clear f1); (try clear H2); (try clear hP9); (try clear hz9); (try clear hcl9); (try clear hcv9); (try clear hce9); (try clear hpx9); (try clear q9); (try clear ce9); (try clear E9); (try clear htab); (try clear hsz); (try clear s₁); omega) | omega))
    clear hq2
    generalize H2 = H at hP hO hS ⊢
    refine lv_goto (tgt := 21) hx hb dL_tokenOf_10 (by decide) ?_
    refine lv_iconst (v := iZ 0) hx hb dL_tokenOf_21 rfl ?_
    exact W.iret (v := (iZ 0)) hx hb hr (fun t8 ht8 hW8 => ⟨⟨(iZ 0), (u9.1, f1), rfl, hw9.2, by rw [ht8]; exact hP, by rw [ht8]; exact hO⟩, hS.F ht8⟩) hS.2.2 dL_tokenOf_22
set_option maxHeartbeats 4000000 in
set_option maxRecDepth 100000 in
theorem w_node (l : Launch) (hfl : l.stackTraces = false) (dC : Nat → ClassId) (dI : Nat → Nat → Nat) (cI cZ cII cIII cO : ClassId) (h0 o0 sz : Nat) (μ : va_M) (f : Nat → Int64) (nd : Int) (wh : Int) (T : List Tk) (hI : CI T μ) (h_nd : inR nd) (h_wh : inR wh) (ho : h0 + 233 ≤ o0) : Met l yL_node (Cond.codeWith yL_node cL_node 5 (some .int) [(0, 10, 13, 20), (0, 10, 17, 13)] :: wsG) ({ frames := 9, cells := 1, slots := 6, locals := 154 } : Room) (va_Pc [.ref h0, .int (iZ (nd)), .int (iZ (wh)), .ref o0] (fun U => U.heap.size = sz ∧ va_P (dC, dI) vwCl (fw (sE cI cZ cII cIII h0) h0 233 μ) U.heap ∧ va_P (dC, dI) vwCl [(o0, .inl (cO, 1, .inr (.inl f)))] U.heap ∧ va_K (dC, dI) vwCl (sT cI cZ cII cIII) U ∧ va_K (dC, dI) vwCl [(cO, .long)] U ∧ xM U ∧ xX (wA h0 o0 sz) U ∧ xNC U)) (va_Qi (fun (r9 : Int32) (u : va_M × (Nat → Int64)) => CI T u.1 ∧ SZ μ u.1) (fun u t => va_P (dC, dI) vwCl (fw (sE cI cZ cII cIII h0) h0 233 u.1) t.heap ∧ va_P (dC, dI) vwCl [(o0, .inl (cO, 1, .inr (.inl u.2)))] t.heap) (wA h0 o0 sz)) 1 6 (wA h0 o0 sz) := by
  refine va_MetW (hh := [(0, 10, 13, 20), (0, 10, 17, 13)]) (cc := cL_node) (maxL := 5) (ret := (some .int)) (by decide) rfl ?_
  intro p e s m args below meth c s₁ B hml hv
  obtain ⟨rfl, hsz, hP, hO, hK, hKo, hM, hEx, hNc⟩ := hv
  have hx := B.exec
  have hb := B.bytes
  have hr := B.returns
  have hts : ∀ w ∈ wsG, w.before _ s = true := fun w hw => atoms_spec (ws := (Cond.codeWith yL_node cL_node 5 (some .int) [(0, 10, 13, 20), (0, 10, 17, 13)] :: wsG)) B.pre w (List.mem_cons_of_mem _ hw)
  have htab := vx_table (x := yL_node) B (atoms_spec (ws := (Cond.codeWith yL_node cL_node 5 (some .int) [(0, 10, 13, 20), (0, 10, 17, 13)] :: wsG)) B.pre _ List.mem_cons_self)
  have hown : s.vm.findClass RL = some m.cls := findClass_of_methodNamed B.named
  have hlocks := B.notSynchronized
  subst hsz
  have hS : va_S (wA h0 o0 s.heap.size) s.heap s.heap [] := va_S.rf
  have hl := lv_entry ([.ref h0, .int (iZ (nd)), .int (iZ (wh)), .ref o0]) (n := 5) (Nat.le_of_ble_eq_true rfl)
  rw [lg_entry_eq]
  generalize (lg_sl ([.ref h0, .int (iZ (nd)), .int (iZ (wh)), .ref o0]) ++ List.replicate (5 - (lg_sl ([.ref h0, .int (iZ (nd)), .int (iZ (wh)), .ref o0])).length) Slot.unset).toArray = ls at hl ⊢
  have hl : lv_has ls 5 [(0, .ref h0), (1, .int (iZ (nd))), (2, .int (iZ (wh))), (3, .ref o0)] := hl
  refine lv_aload_n hx hb dL_node_0 rfl (lv_at hl 3 rfl) ?_
  refine lv_iconst (v := iZ 0) hx hb dL_node_1 rfl ?_
  refine lv_aload_n hx hb dL_node_2 rfl (lv_at hl 0 rfl) ?_
  refine lv_iload_n hx hb dL_node_3 rfl (lv_at hl 1 rfl) ?_
  refine lv_iload_n hx hb dL_node_4 rfl (lv_at hl 2 rfl) ?_
  refine vx_calli (vx_runV (As := [.int (iZ (nd)), .int (iZ (wh))]) (rest := [.int (iZ 0), .ref o0]) ⟨hx, hb, hml, hown, hts⟩ (q_node l hfl dC dI cI cZ cII cIII h0 s.heap.size μ nd wh T hI h_nd h_wh) (cwV 2 hts (gV_G k910 k911 k912 k1 k913) rfl rfl rfl (by decide +kernel) ⟨Nat.le_of_ble_eq_true rfl, Nat.le_of_ble_eq_true rfl⟩) ⟨fun a U g mk q => by obtain ⟨q0, q1, qP, qK, qM, qE⟩ := q; exact ⟨q0, q1, qP, va_K.moved (u := U) (U := U.calling g mk a) (Vm.Alike.refl U.vm) qK, qM, xX_call qE⟩, va_recv hK hP (ci := 9) (q0 := 0) rfl ((fw_get (by decide)).trans (by rw [sE_0]; rfl)), fun U hU hW => ⟨rfl, by rw [hU], by rw [hU]; exact hP, va_K.moved hW.alike hK, xM_warm hW hM, xX_at hEx hS (fA_w (Nat.le_refl _)) hU hW⟩⟩ rfl rfl hl.1 rfl (lv_room (Nat.le_of_ble_eq_true rfl)) dL_node_5 ⟨Nat.le_of_ble_eq_true rfl, Nat.le_of_ble_eq_true rfl⟩) hS (fun q _ h => fA_w (Nat.le_refl _) q h) (fA_w (Nat.le_refl _)) (fun q _ h => fA_w (Nat.le_refl _) q h) (fun E9 ce9 q9 u9 t9 H1 locs ht9 hvm9 hpx9 hBX9 hz9 hk9 hS hce9 hcv9 hcl9 => ?_) (fun r9 u9 t9 H1 locs ht9 hvm9 hw9 hB9 hz9 hk9 hS => ?_)
  · obtain ⟨hE9, hP9, -⟩ := hBX9
    rw [ht9] at hP9
    have hO := one_kept hO hk9 (fun h => by have := one_lt hO; rcases h with h | h <;> (first | ((try clear hO); (try clear hP9); (try clear hE9); (try clear hz9); (try clear hcl9); (try clear hcv9); (try clear hce9); (try clear hpx9); (try clear q9); (try clear ce9); (try clear E9); (try clear htab); (try clear hsz); (try clear s₁); omega) | omega))
    have hP := hP9
    clear hP9 hk9
    simp only [List.mem_cons, List.not_mem_nil, or_false] at hE9
    rcases hE9 with rfl | rfl
    · refine vx_catch (name := "java/util/NoSuchElementException") hown [] ⟨0, 10, 13, 20⟩ [⟨0, 10, 17, 13⟩] htab (fun z hz => by simp at hz) (by decide) (by decide) (hts _ k730) (va_Nw.use rfl (hEx.2.1 _ (by decide +kernel))) hce9 hcv9 hcl9 ?_
      clear hce9
      generalize H1 = H at hP hO hS ⊢
      refine W.widen (k := 1) (n := 6) (by (first | ((try clear hO); (try clear hP9); (try clear hE9); (try clear hz9); (try clear hcl9); (try clear hcv9); (try clear hce9); (try clear hpx9); (try clear q9); (try clear ce9); (try clear E9); (try clear htab); (try clear hsz); (try clear s₁); (try clear ho); omega) | omega)) (by (first | ((try clear hO); (try clear hP9); (try clear hE9); (try clear hz9); (try clear hcl9); (try clear hcv9); (try clear hce9); (try clear hpx9); (try clear q9); (try clear ce9); (try clear E9); (try clear htab); (try clear hsz); (try clear s₁); (try clear ho); omega) | omega)) ?_
      refine lv_astore (lv' := [(4, .ref q9), (0, .ref h0), (1, .int (iZ (nd))), (2, .int (iZ (wh))), (3, .ref o0)]) hx hb dL_node_13 hl (by decide) rfl (fun ls hl => ?_)
      refine lv_iconst (v := iZ 1) hx hb dL_node_15 rfl ?_
      exact W.iret (v := (iZ 1)) hx hb hr (fun t8 ht8 hW8 => ⟨⟨(iZ 1), (u9, f), rfl, hpx9, by rw [ht8]; exact hP, by rw [ht8]; exact hO⟩, hS.F ht8⟩) hS.2.2 dL_node_16
    · refine vx_catch (name := "java/lang/IllegalArgumentException") hown [⟨0, 10, 13, 20⟩] ⟨0, 10, 17, 13⟩ [] htab (fun z hz => by rw [List.mem_singleton.mp hz]; exact Or.inr ⟨by decide, "java/util/NoSuchElementException", hts _ k730, hNc.2.2⟩) (by decide) (by decide) (hts _ k590) (va_Nw.use rfl (hEx.2.1 _ (by decide +kernel))) hce9 hcv9 hcl9 ?_
      clear hce9
      generalize H1 = H at hP hO hS ⊢
      refine W.widen (k := 1) (n := 6) (by (first | ((try clear hO); (try clear hP9); (try clear hE9); (try clear hz9); (try clear hcl9); (try clear hcv9); (try clear hce9); (try clear hpx9); (try clear q9); (try clear ce9); (try clear E9); (try clear htab); (try clear hsz); (try clear s₁); (try clear ho); omega) | omega)) (by (first | ((try clear hO); (try clear hP9); (try clear hE9); (try clear hz9); (try clear hcl9); (try clear hcv9); (try clear hce9); (try clear hpx9); (try clear q9); (try clear ce9); (try clear E9); (try clear htab); (try clear hsz); (try clear s₁); (try clear ho); omega) | omega)) ?_
      refine lv_astore (lv' := [(4, .ref q9), (0, .ref h0), (1, .int (iZ (nd))), (2, .int (iZ (wh))), (3, .ref o0)]) hx hb dL_node_17 hl (by decide) rfl (fun ls hl => ?_)
      refine lv_iconst (v := iZ 2) hx hb dL_node_19 rfl ?_
      exact W.iret (v := (iZ 2)) hx hb hr (fun t8 ht8 hW8 => ⟨⟨(iZ 2), (u9, f), rfl, hpx9, by rw [ht8]; exact hP, by rw [ht8]; exact hO⟩, hS.F ht8⟩) hS.2.2 dL_node_20
  · obtain ⟨hP9, -⟩ := hB9
    rw [ht9] at hP9
    have hO := one_kept hO hk9 (fun h => by have := one_lt hO; rcases h with h | h <;> (first | ((try clear hO); (try clear hP9); (try clear hz9); (try clear hcl9); (try clear hcv9); (try clear hce9); (try clear hpx9); (try clear q9); (try clear ce9); (try clear E9); (try clear htab); (try clear hsz); (try clear s₁); omega) | omega))
    have hP := hP9
    clear hP9 hk9
    generalize H1 = H at hP hO hS ⊢
    refine W.widen (k := 1) (n := 6) (by (first | ((try clear hO); (try clear hP9); (try clear hz9); (try clear hcl9); (try clear hcv9); (try clear hce9); (try clear hpx9); (try clear q9); (try clear ce9); (try clear E9); (try clear htab); (try clear hsz); (try clear s₁); (try clear ho); omega) | omega)) (by (first | ((try clear hO); (try clear hP9); (try clear hz9); (try clear hcl9); (try clear hcv9); (try clear hce9); (try clear hpx9); (try clear q9); (try clear ce9); (try clear E9); (try clear htab); (try clear hsz); (try clear s₁); (try clear ho); omega) | omega)) ?_
    refine lv_i2l (v := r9.toInt64) hx hb dL_node_8 rfl ?_
    refine wo_last hx hb hKo hO hS (Or.inr (Or.inl rfl)) dL_node_9 (fun H2 locs f1 hO hq2 hS => ?_)
    have hP := fl_kept hP hq2 (fun k hk => by (first | ((try clear hq2); (try clear hO); (try clear f1); (try clear H2); (try clear hP9); (try clear hz9); (try clear hcl9); (try clear hcv9); (try clear hce9); (try clear hpx9); (try clear q9); (try clear ce9); (try clear E9); (try clear htab); (try clear hsz); (try clear s₁); omega) | omega))
    clear hq2
    generalize H2 = H at hP hO hS ⊢
    refine lv_goto (tgt := 21) hx hb dL_node_10 (by decide) ?_
    refine lv_iconst (v := iZ 0) hx hb dL_node_21 rfl ?_
    exact W.iret (v := (iZ 0)) hx hb hr (fun t8 ht8 hW8 => ⟨⟨(iZ 0), (u9.1, f1), rfl, hw9.2, by rw [ht8]; exact hP, by rw [ht8]; exact hO⟩, hS.F ht8⟩) hS.2.2 dL_node_22
set_option maxHeartbeats 4000000 in
set_option maxRecDepth 100000 in
theorem w_pageNode (l : Launch) (hfl : l.stackTraces = false) (dC : Nat → ClassId) (dI : Nat → Nat → Nat) (cI cZ cII cIII cO : ClassId) (h0 o0 sz : Nat) (μ : va_M) (f : Nat → Int64) (pg : Int) (nd : Int) (wh : Int) (T : List Tk) (hI : CI T μ) (h_pg : inR pg) (h_nd : inR nd) (h_wh : inR wh) (ho : h0 + 233 ≤ o0) : Met l yL_pageNode (Cond.codeWith yL_pageNode cL_pageNode 6 (some .int) [(0, 12, 15, 20), (0, 12, 19, 13)] :: wsG) ({ frames := 9, cells := 1, slots := 6, locals := 155 } : Room) (va_Pc [.ref h0, .int (iZ (pg)), .int (iZ (nd)), .int (iZ (wh)), .ref o0] (fun U => U.heap.size = sz ∧ va_P (dC, dI) vwCl (fw (sE cI cZ cII cIII h0) h0 233 μ) U.heap ∧ va_P (dC, dI) vwCl [(o0, .inl (cO, 1, .inr (.inl f)))] U.heap ∧ va_K (dC, dI) vwCl (sT cI cZ cII cIII) U ∧ va_K (dC, dI) vwCl [(cO, .long)] U ∧ xM U ∧ xX (wA h0 o0 sz) U ∧ xNC U)) (va_Qi (fun (r9 : Int32) (u : va_M × (Nat → Int64)) => CI T u.1 ∧ SZ μ u.1) (fun u t => va_P (dC, dI) vwCl (fw (sE cI cZ cII cIII h0) h0 233 u.1) t.heap ∧ va_P (dC, dI) vwCl [(o0, .inl (cO, 1, .inr (.inl u.2)))] t.heap) (wA h0 o0 sz)) 1 6 (wA h0 o0 sz) := by
  refine va_MetW (hh := [(0, 12, 15, 20), (0, 12, 19, 13)]) (cc := cL_pageNode) (maxL := 6) (ret := (some .int)) (by decide) rfl ?_
  intro p e s m args below meth c s₁ B hml hv
  obtain ⟨rfl, hsz, hP, hO, hK, hKo, hM, hEx, hNc⟩ := hv
  have hx := B.exec
  have hb := B.bytes
  have hr := B.returns
  have hts : ∀ w ∈ wsG, w.before _ s = true := fun w hw => atoms_spec (ws := (Cond.codeWith yL_pageNode cL_pageNode 6 (some .int) [(0, 12, 15, 20), (0, 12, 19, 13)] :: wsG)) B.pre w (List.mem_cons_of_mem _ hw)
  have htab := vx_table (x := yL_pageNode) B (atoms_spec (ws := (Cond.codeWith yL_pageNode cL_pageNode 6 (some .int) [(0, 12, 15, 20), (0, 12, 19, 13)] :: wsG)) B.pre _ List.mem_cons_self)
  have hown : s.vm.findClass RL = some m.cls := findClass_of_methodNamed B.named
  have hlocks := B.notSynchronized
  subst hsz
  have hS : va_S (wA h0 o0 s.heap.size) s.heap s.heap [] := va_S.rf
  have hl := lv_entry ([.ref h0, .int (iZ (pg)), .int (iZ (nd)), .int (iZ (wh)), .ref o0]) (n := 6) (Nat.le_of_ble_eq_true rfl)
  rw [lg_entry_eq]
  generalize (lg_sl ([.ref h0, .int (iZ (pg)), .int (iZ (nd)), .int (iZ (wh)), .ref o0]) ++ List.replicate (6 - (lg_sl ([.ref h0, .int (iZ (pg)), .int (iZ (nd)), .int (iZ (wh)), .ref o0])).length) Slot.unset).toArray = ls at hl ⊢
  have hl : lv_has ls 6 [(0, .ref h0), (1, .int (iZ (pg))), (2, .int (iZ (nd))), (3, .int (iZ (wh))), (4, .ref o0)] := hl
  refine lv_aload hx hb dL_pageNode_0 (lv_at hl 4 rfl) ?_
  refine lv_iconst (v := iZ 0) hx hb dL_pageNode_2 rfl ?_
  refine lv_aload_n hx hb dL_pageNode_3 rfl (lv_at hl 0 rfl) ?_
  refine lv_iload_n hx hb dL_pageNode_4 rfl (lv_at hl 1 rfl) ?_
  refine lv_iload_n hx hb dL_pageNode_5 rfl (lv_at hl 2 rfl) ?_
  refine lv_iload_n hx hb dL_pageNode_6 rfl (lv_at hl 3 rfl) ?_
  refine vx_calli (vx_runV (As := [.int (iZ (pg)), .int (iZ (nd)), .int (iZ (wh))]) (rest := [.int (iZ 0), .ref o0]) ⟨hx, hb, hml, hown, hts⟩ (q_pageNode l hfl dC dI cI cZ cII cIII h0 s.heap.size μ pg nd wh T hI h_pg h_nd h_wh) (cwV 3 hts (gV_G k944 k945 k946 k1 k947) rfl rfl rfl (by decide +kernel) ⟨Nat.le_of_ble_eq_true rfl, Nat.le_of_ble_eq_true rfl⟩) ⟨fun a U g mk q => by obtain ⟨q0, q1, qP, qK, qM, qE⟩ := q; exact ⟨q0, q1, qP, va_K.moved (u := U) (U := U.calling g mk a) (Vm.Alike.refl U.vm) qK, qM, xX_call qE⟩, va_recv hK hP (ci := 9) (q0 := 0) rfl ((fw_get (by decide)).trans (by rw [sE_0]; rfl)), fun U hU hW => ⟨rfl, by rw [hU], by rw [hU]; exact hP, va_K.moved hW.alike hK, xM_warm hW hM, xX_at hEx hS (fA_w (Nat.le_refl _)) hU hW⟩⟩ rfl rfl hl.1 rfl (lv_room (Nat.le_of_ble_eq_true rfl)) dL_pageNode_7 ⟨Nat.le_of_ble_eq_true rfl, Nat.le_of_ble_eq_true rfl⟩) hS (fun q _ h => fA_w (Nat.le_refl _) q h) (fA_w (Nat.le_refl _)) (fun q _ h => fA_w (Nat.le_refl _) q h) (fun E9 ce9 q9 u9 t9 H1 locs ht9 hvm9 hpx9 hBX9 hz9 hk9 hS hce9 hcv9 hcl9 => ?_) (fun r9 u9 t9 H1 locs ht9 hvm9 hw9 hB9 hz9 hk9 hS => ?_)
  · obtain ⟨hE9, hP9, -⟩ := hBX9
    rw [ht9] at hP9
    have hO := one_kept hO hk9 (fun h => by have := one_lt hO; rcases h with h | h <;> (first | ((try clear hO); (try clear hP9); (try clear hE9); (try clear hz9); (try clear hcl9); (try clear hcv9); (try clear hce9); (try clear hpx9); (try clear q9); (try clear ce9); (try clear E9); (try clear htab); (try clear hsz); (try clear s₁); omega) | omega))
    have hP := hP9
    clear hP9 hk9
    simp only [List.mem_cons, List.not_mem_nil, or_false] at hE9
    rcases hE9 with rfl | rfl
    · refine vx_catch (name := "java/util/NoSuchElementException") hown [] ⟨0, 12, 15, 20⟩ [⟨0, 12, 19, 13⟩] htab (fun z hz => by simp at hz) (by decide) (by decide) (hts _ k730) (va_Nw.use rfl (hEx.2.1 _ (by decide +kernel))) hce9 hcv9 hcl9 ?_
      clear hce9
      generalize H1 = H at hP hO hS ⊢
      refine W.widen (k := 1) (n := 6) (by (first | ((try clear hO); (try clear hP9); (try clear hE9); (try clear hz9); (try clear hcl9); (try clear hcv9); (try clear hce9); (try clear hpx9); (try clear q9); (try clear ce9); (try clear E9); (try clear htab); (try clear hsz); (try clear s₁); (try clear ho); omega) | omega)) (by (first | ((try clear hO); (try clear hP9); (try clear hE9); (try clear hz9); (try clear hcl9); (try clear hcv9); (try clear hce9); (try clear hpx9); (try clear q9); (try clear ce9); (try clear E9); (try clear htab); (try clear hsz); (try clear s₁); (try clear ho); omega) | omega)) ?_
      refine lv_astore (lv' := [(5, .ref q9), (0, .ref h0), (1, .int (iZ (pg))), (2, .int (iZ (nd))), (3, .int (iZ (wh))), (4, .ref o0)]) hx hb dL_pageNode_15 hl (by decide) rfl (fun ls hl => ?_)
      refine lv_iconst (v := iZ 1) hx hb dL_pageNode_17 rfl ?_
      exact W.iret (v := (iZ 1)) hx hb hr (fun t8 ht8 hW8 => ⟨⟨(iZ 1), (u9, f), rfl, hpx9, by rw [ht8]; exact hP, by rw [ht8]; exact hO⟩, hS.F ht8⟩) hS.2.2 dL_pageNode_18
    · refine vx_catch (name := "java/lang/IllegalArgumentException") hown [⟨0, 12, 15, 20⟩] ⟨0, 12, 19, 13⟩ [] htab (fun z hz => by rw [List.mem_singleton.mp hz]; exact Or.inr ⟨by decide, "java/util/NoSuchElementException", hts _ k730, hNc.2.2⟩) (by decide) (by decide) (hts _ k590) (va_Nw.use rfl (hEx.2.1 _ (by decide +kernel))) hce9 hcv9 hcl9 ?_
      clear hce9
      generalize H1 = H at hP hO hS ⊢
      refine W.widen (k := 1) (n := 6) (by (first | ((try clear hO); (try clear hP9); (try clear hE9); (try clear hz9); (try clear hcl9); (try clear hcv9); (try clear hce9); (try clear hpx9); (try clear q9); (try clear ce9); (try clear E9); (try clear htab); (try clear hsz); (try clear s₁); (try clear ho); omega) | omega)) (by (first | ((try clear hO); (try clear hP9); (try clear hE9); (try clear hz9); (try clear hcl9); (try clear hcv9); (try clear hce9); (try clear hpx9); (try clear q9); (try clear ce9); (try clear E9); (try clear htab); (try clear hsz); (try clear s₁); (try clear ho); omega) | omega)) ?_
      refine lv_astore (lv' := [(5, .ref q9), (0, .ref h0), (1, .int (iZ (pg))), (2, .int (iZ (nd))), (3, .int (iZ (wh))), (4, .ref o0)]) hx hb dL_pageNode_19 hl (by decide) rfl (fun ls hl => ?_)
      refine lv_iconst (v := iZ 2) hx hb dL_pageNode_21 rfl ?_
      exact W.iret (v := (iZ 2)) hx hb hr (fun t8 ht8 hW8 => ⟨⟨(iZ 2), (u9, f), rfl, hpx9, by rw [ht8]; exact hP, by rw [ht8]; exact hO⟩, hS.F ht8⟩) hS.2.2 dL_pageNode_22
  · obtain ⟨hP9, -⟩ := hB9
    rw [ht9] at hP9
    have hO := one_kept hO hk9 (fun h => by have := one_lt hO; rcases h with h | h <;> (first | ((try clear hO); (try clear hP9); (try clear hz9); (try clear hcl9); (try clear hcv9); (try clear hce9); (try clear hpx9); (try clear q9); (try clear ce9); (try clear E9); (try clear htab); (try clear hsz); (try clear s₁); omega) | omega))
    have hP := hP9
    clear hP9 hk9
    generalize H1 = H at hP hO hS ⊢
    refine W.widen (k := 1) (n := 6) (by (first | ((try clear hO); (try clear hP9); (try clear hz9); (try clear hcl9); (try clear hcv9); (try clear hce9); (try clear hpx9); (try clear q9); (try clear ce9); (try clear E9); (try clear htab); (try clear hsz); (try clear s₁); (try clear ho); omega) | omega)) (by (first | ((try clear hO); (try clear hP9); (try clear hz9); (try clear hcl9); (try clear hcv9); (try clear hce9); (try clear hpx9); (try clear q9); (try clear ce9); (try clear E9); (try clear htab); (try clear hsz); (try clear s₁); (try clear ho); omega) | omega)) ?_
    refine lv_i2l (v := r9.toInt64) hx hb dL_pageNode_10 rfl ?_
    refine wo_last hx hb hKo hO hS (Or.inr (Or.inl rfl)) dL_pageNode_11 (fun H2 locs f1 hO hq2 hS => ?_)
    have hP := fl_kept hP hq2 (fun k hk => by (first | ((try clear hq2); (try clear hO); (try clear f1); (try clear H2); (try clear hP9); (try clear hz9); (try clear hcl9); (try clear hcv9); (try clear hce9); (try clear hpx9); (try clear q9); (try clear ce9); (try clear E9); (try clear htab); (try clear hsz); (try clear s₁); omega) | omega))
    clear hq2
    generalize H2 = H at hP hO hS ⊢
    refine lv_goto (tgt := 23) hx hb dL_pageNode_12 (by decide) ?_
    refine lv_iconst (v := iZ 0) hx hb dL_pageNode_23 rfl ?_
    exact W.iret (v := (iZ 0)) hx hb hr (fun t8 ht8 hW8 => ⟨⟨(iZ 0), (u9.1, f1), rfl, hw9.2, by rw [ht8]; exact hP, by rw [ht8]; exact hO⟩, hS.F ht8⟩) hS.2.2 dL_pageNode_24
set_option maxHeartbeats 4000000 in
set_option maxRecDepth 100000 in
theorem w_fits (l : Launch) (hfl : l.stackTraces = false) (dC : Nat → ClassId) (dI : Nat → Nat → Nat) (cI cZ cII cIII cO : ClassId) (h0 o0 sz : Nat) (μ : va_M) (f : Nat → Int64) (pg : Int) (T : List Tk) (hI : CI T μ) (h_pg : inR pg) (ho : h0 + 233 ≤ o0) : Met l yL_fits (Cond.codeWith yL_fits cL_fits 4 (some .int) [(0, 16, 19, 20)] :: wsG) ({ frames := 9, cells := 1, slots := 6, locals := 184 } : Room) (va_Pc [.ref h0, .int (iZ (pg)), .ref o0] (fun U => U.heap.size = sz ∧ va_P (dC, dI) vwCl (fw (sE cI cZ cII cIII h0) h0 233 μ) U.heap ∧ va_P (dC, dI) vwCl [(o0, .inl (cO, 1, .inr (.inl f)))] U.heap ∧ va_K (dC, dI) vwCl (sT cI cZ cII cIII) U ∧ va_K (dC, dI) vwCl [(cO, .long)] U ∧ xM U ∧ xX (wA h0 o0 sz) U ∧ xNC U)) (va_Qi (fun (r9 : Int32) (u : va_M × (Nat → Int64)) => CI T u.1 ∧ SZ μ u.1) (fun u t => va_P (dC, dI) vwCl (fw (sE cI cZ cII cIII h0) h0 233 u.1) t.heap ∧ va_P (dC, dI) vwCl [(o0, .inl (cO, 1, .inr (.inl u.2)))] t.heap) (wA h0 o0 sz)) 1 6 (wA h0 o0 sz) := by
  refine va_MetW (hh := [(0, 16, 19, 20)]) (cc := cL_fits) (maxL := 4) (ret := (some .int)) (by decide) rfl ?_
  intro p e s m args below meth c s₁ B hml hv
  obtain ⟨rfl, hsz, hP, hO, hK, hKo, hM, hEx, hNc⟩ := hv
  have hx := B.exec
  have hb := B.bytes
  have hr := B.returns
  have hts : ∀ w ∈ wsG, w.before _ s = true := fun w hw => atoms_spec (ws := (Cond.codeWith yL_fits cL_fits 4 (some .int) [(0, 16, 19, 20)] :: wsG)) B.pre w (List.mem_cons_of_mem _ hw)
  have htab := vx_table (x := yL_fits) B (atoms_spec (ws := (Cond.codeWith yL_fits cL_fits 4 (some .int) [(0, 16, 19, 20)] :: wsG)) B.pre _ List.mem_cons_self)
  have hown : s.vm.findClass RL = some m.cls := findClass_of_methodNamed B.named
  have hlocks := B.notSynchronized
  subst hsz
  have hS : va_S (wA h0 o0 s.heap.size) s.heap s.heap [] := va_S.rf
  have hl := lv_entry ([.ref h0, .int (iZ (pg)), .ref o0]) (n := 4) (Nat.le_of_ble_eq_true rfl)
  rw [lg_entry_eq]
  generalize (lg_sl ([.ref h0, .int (iZ (pg)), .ref o0]) ++ List.replicate (4 - (lg_sl ([.ref h0, .int (iZ (pg)), .ref o0])).length) Slot.unset).toArray = ls at hl ⊢
  have hl : lv_has ls 4 [(0, .ref h0), (1, .int (iZ (pg))), (2, .ref o0)] := hl
  refine lv_aload_n hx hb dL_fits_0 rfl (lv_at hl 2 rfl) ?_
  refine lv_iconst (v := iZ 0) hx hb dL_fits_1 rfl ?_
  refine lv_aload_n hx hb dL_fits_2 rfl (lv_at hl 0 rfl) ?_
  refine lv_iload_n hx hb dL_fits_3 rfl (lv_at hl 1 rfl) ?_
  refine vx_calli (vx_runV (As := [.int (iZ (pg))]) (rest := [.int (iZ 0), .ref o0]) ⟨hx, hb, hml, hown, hts⟩ (q_fits l hfl dC dI cI cZ cII cIII h0 s.heap.size μ pg T hI h_pg) (cwV 1 hts (gV_G k951 k952 k953 k1 k954) rfl rfl rfl (by decide +kernel) ⟨Nat.le_of_ble_eq_true rfl, Nat.le_of_ble_eq_true rfl⟩) ⟨fun a U g mk q => by obtain ⟨q0, q1, qP, qK, qM, qE⟩ := q; exact ⟨q0, q1, qP, va_K.moved (u := U) (U := U.calling g mk a) (Vm.Alike.refl U.vm) qK, qM, xX_call qE⟩, va_recv hK hP (ci := 9) (q0 := 0) rfl ((fw_get (by decide)).trans (by rw [sE_0]; rfl)), fun U hU hW => ⟨rfl, by rw [hU], by rw [hU]; exact hP, va_K.moved hW.alike hK, xM_warm hW hM, xX_at hEx hS (fA_w (Nat.le_refl _)) hU hW⟩⟩ rfl rfl hl.1 rfl (lv_room (Nat.le_of_ble_eq_true rfl)) dL_fits_4 ⟨Nat.le_of_ble_eq_true rfl, Nat.le_of_ble_eq_true rfl⟩) hS (fun q _ h => fA_w (Nat.le_refl _) q h) (fA_w (Nat.le_refl _)) (fun q _ h => fA_w (Nat.le_refl _) q h) (fun E9 ce9 q9 u9 t9 H1 locs ht9 hvm9 hpx9 hBX9 hz9 hk9 hS hce9 hcv9 hcl9 => ?_) (fun r9 u9 t9 H1 locs ht9 hvm9 hw9 hB9 hz9 hk9 hS => ?_)
  · obtain ⟨hE9, hP9, -⟩ := hBX9
    rw [ht9] at hP9
    have hO := one_kept hO hk9 (fun h => by have := one_lt hO; rcases h with h | h <;> (first | ((try clear hO); (try clear hP9); (try clear hE9); (try clear hz9); (try clear hcl9); (try clear hcv9); (try clear hce9); (try clear hpx9); (try clear q9); (try clear ce9); (try clear E9); (try clear htab); (try clear hsz); (try clear s₁); omega) | omega))
    have hP := hP9
    clear hP9 hk9
    simp only [List.mem_cons, List.not_mem_nil, or_false] at hE9
    subst hE9
    refine vx_catch (name := "java/util/NoSuchElementException") hown [] ⟨0, 16, 19, 20⟩ [] htab (fun z hz => by simp at hz) (by decide) (by decide) (hts _ k730) (va_Nw.use rfl (hEx.2.1 _ (by decide +kernel))) hce9 hcv9 hcl9 ?_
    clear hce9
    generalize H1 = H at hP hO hS ⊢
    refine W.widen (k := 1) (n := 6) (by (first | ((try clear hO); (try clear hP9); (try clear hE9); (try clear hz9); (try clear hcl9); (try clear hcv9); (try clear hce9); (try clear hpx9); (try clear q9); (try clear ce9); (try clear E9); (try clear htab); (try clear hsz); (try clear s₁); (try clear ho); omega) | omega)) (by (first | ((try clear hO); (try clear hP9); (try clear hE9); (try clear hz9); (try clear hcl9); (try clear hcv9); (try clear hce9); (try clear hpx9); (try clear q9); (try clear ce9); (try clear E9); (try clear htab); (try clear hsz); (try clear s₁); (try clear ho); omega) | omega)) ?_
    refine lv_astore_n (lv' := [(3, .ref q9), (0, .ref h0), (1, .int (iZ (pg))), (2, .ref o0)]) hx hb dL_fits_19 rfl hl (by decide) rfl (fun ls hl => ?_)
    refine lv_iconst (v := iZ 1) hx hb dL_fits_20 rfl ?_
    exact W.iret (v := (iZ 1)) hx hb hr (fun t8 ht8 hW8 => ⟨⟨(iZ 1), (u9, f), rfl, hpx9, by rw [ht8]; exact hP, by rw [ht8]; exact hO⟩, hS.F ht8⟩) hS.2.2 dL_fits_21
  · obtain ⟨hP9, -⟩ := hB9
    rw [ht9] at hP9
    have hO := one_kept hO hk9 (fun h => by have := one_lt hO; rcases h with h | h <;> (first | ((try clear hO); (try clear hP9); (try clear hz9); (try clear hcl9); (try clear hcv9); (try clear hce9); (try clear hpx9); (try clear q9); (try clear ce9); (try clear E9); (try clear htab); (try clear hsz); (try clear s₁); omega) | omega))
    have hP := hP9
    clear hP9 hk9
    generalize H1 = H at hP hO hS ⊢
    refine W.widen (k := 1) (n := 6) (by (first | ((try clear hO); (try clear hP9); (try clear hz9); (try clear hcl9); (try clear hcv9); (try clear hce9); (try clear hpx9); (try clear q9); (try clear ce9); (try clear E9); (try clear htab); (try clear hsz); (try clear s₁); (try clear ho); omega) | omega)) (by (first | ((try clear hO); (try clear hP9); (try clear hz9); (try clear hcl9); (try clear hcv9); (try clear hce9); (try clear hpx9); (try clear q9); (try clear ce9); (try clear E9); (try clear htab); (try clear hsz); (try clear s₁); (try clear ho); omega) | omega)) ?_
    refine lv_if_eq (tgt := 14) hx hb dL_fits_7 (by decide) (fun c9_ => ?_) (fun c9_ => ?_)
    · refine lv_lconst (v := 0) hx hb dL_fits_14 rfl ?_
      refine wo_last hx hb hKo hO hS (Or.inr (Or.inl rfl)) dL_fits_15 (fun H2 locs f1 hO hq2 hS => ?_)
      have hP := fl_kept hP hq2 (fun k hk => by (first | ((try clear hq2); (try clear hO); (try clear f1); (try clear H2); (try clear c9_); (try clear hP9); (try clear hz9); (try clear hcl9); (try clear hcv9); (try clear hce9); (try clear hpx9); (try clear q9); (try clear ce9); (try clear E9); (try clear htab); (try clear hsz); (try clear s₁); omega) | omega))
      clear hq2
      generalize H2 = H at hP hO hS ⊢
      refine lv_goto (tgt := 22) hx hb dL_fits_16 (by decide) ?_
      refine lv_iconst (v := iZ 0) hx hb dL_fits_22 rfl ?_
      exact W.iret (v := (iZ 0)) hx hb hr (fun t8 ht8 hW8 => ⟨⟨(iZ 0), (u9.1, f1), rfl, hw9.2, by rw [ht8]; exact hP, by rw [ht8]; exact hO⟩, hS.F ht8⟩) hS.2.2 dL_fits_23
    · refine lv_lconst (v := 1) hx hb dL_fits_10 rfl ?_
      refine lv_goto (tgt := 15) hx hb dL_fits_11 (by decide) ?_
      refine wo_last hx hb hKo hO hS (Or.inr (Or.inl rfl)) dL_fits_15 (fun H2 locs f1 hO hq2 hS => ?_)
      have hP := fl_kept hP hq2 (fun k hk => by (first | ((try clear hq2); (try clear hO); (try clear f1); (try clear H2); (try clear c9_); (try clear hP9); (try clear hz9); (try clear hcl9); (try clear hcv9); (try clear hce9); (try clear hpx9); (try clear q9); (try clear ce9); (try clear E9); (try clear htab); (try clear hsz); (try clear s₁); omega) | omega))
      clear hq2
      generalize H2 = H at hP hO hS ⊢
      refine lv_goto (tgt := 22) hx hb dL_fits_16 (by decide) ?_
      refine lv_iconst (v := iZ 0) hx hb dL_fits_22 rfl ?_
      exact W.iret (v := (iZ 0)) hx hb hr (fun t8 ht8 hW8 => ⟨⟨(iZ 0), (u9.1, f1), rfl, hw9.2, by rw [ht8]; exact hP, by rw [ht8]; exact hO⟩, hS.F ht8⟩) hS.2.2 dL_fits_23
set_option maxHeartbeats 4000000 in
set_option maxRecDepth 100000 in
theorem w_reach (l : Launch) (hfl : l.stackTraces = false) (dC : Nat → ClassId) (dI : Nat → Nat → Nat) (cI cZ cII cIII cO : ClassId) (h0 o0 sz : Nat) (μ : va_M) (f : Nat → Int64) (pg : Int) (T : List Tk) (hI : CI T μ) (h_pg : inR pg) (ho : h0 + 233 ≤ o0) : Met l yL_reach (Cond.codeWith yL_reach cL_reach 4 (some .int) [(0, 9, 12, 20)] :: wsG) ({ frames := 9, cells := 1, slots := 6, locals := 152 } : Room) (va_Pc [.ref h0, .int (iZ (pg)), .ref o0] (fun U => U.heap.size = sz ∧ va_P (dC, dI) vwCl (fw (sE cI cZ cII cIII h0) h0 233 μ) U.heap ∧ va_P (dC, dI) vwCl [(o0, .inl (cO, 1, .inr (.inl f)))] U.heap ∧ va_K (dC, dI) vwCl (sT cI cZ cII cIII) U ∧ va_K (dC, dI) vwCl [(cO, .long)] U ∧ xM U ∧ xX (wA h0 o0 sz) U ∧ xNC U)) (va_Qi (fun (r9 : Int32) (u : va_M × (Nat → Int64)) => CI T u.1 ∧ SZ μ u.1) (fun u t => va_P (dC, dI) vwCl (fw (sE cI cZ cII cIII h0) h0 233 u.1) t.heap ∧ va_P (dC, dI) vwCl [(o0, .inl (cO, 1, .inr (.inl u.2)))] t.heap) (wA h0 o0 sz)) 1 6 (wA h0 o0 sz) := by
  refine va_MetW (hh := [(0, 9, 12, 20)]) (cc := cL_reach) (maxL := 4) (ret := (some .int)) (by decide) rfl ?_
  intro p e s m args below meth c s₁ B hml hv
  obtain ⟨rfl, hsz, hP, hO, hK, hKo, hM, hEx, hNc⟩ := hv
  have hx := B.exec
  have hb := B.bytes
  have hr := B.returns
  have hts : ∀ w ∈ wsG, w.before _ s = true := fun w hw => atoms_spec (ws := (Cond.codeWith yL_reach cL_reach 4 (some .int) [(0, 9, 12, 20)] :: wsG)) B.pre w (List.mem_cons_of_mem _ hw)
  have htab := vx_table (x := yL_reach) B (atoms_spec (ws := (Cond.codeWith yL_reach cL_reach 4 (some .int) [(0, 9, 12, 20)] :: wsG)) B.pre _ List.mem_cons_self)
  have hown : s.vm.findClass RL = some m.cls := findClass_of_methodNamed B.named
  have hlocks := B.notSynchronized
  subst hsz
  have hS : va_S (wA h0 o0 s.heap.size) s.heap s.heap [] := va_S.rf
  have hl := lv_entry ([.ref h0, .int (iZ (pg)), .ref o0]) (n := 4) (Nat.le_of_ble_eq_true rfl)
  rw [lg_entry_eq]
  generalize (lg_sl ([.ref h0, .int (iZ (pg)), .ref o0]) ++ List.replicate (4 - (lg_sl ([.ref h0, .int (iZ (pg)), .ref o0])).length) Slot.unset).toArray = ls at hl ⊢
  have hl : lv_has ls 4 [(0, .ref h0), (1, .int (iZ (pg))), (2, .ref o0)] := hl
  refine lv_aload_n hx hb dL_reach_0 rfl (lv_at hl 2 rfl) ?_
  refine lv_iconst (v := iZ 0) hx hb dL_reach_1 rfl ?_
  refine lv_aload_n hx hb dL_reach_2 rfl (lv_at hl 0 rfl) ?_
  refine lv_iload_n hx hb dL_reach_3 rfl (lv_at hl 1 rfl) ?_
  refine vx_calli (vx_runV (As := [.int (iZ (pg))]) (rest := [.int (iZ 0), .ref o0]) ⟨hx, hb, hml, hown, hts⟩ (q_reach l hfl dC dI cI cZ cII cIII h0 s.heap.size μ pg T hI h_pg) (cwV 1 hts (gV_G k958 k959 k960 k1 k961) rfl rfl rfl (by decide +kernel) ⟨Nat.le_of_ble_eq_true rfl, Nat.le_of_ble_eq_true rfl⟩) ⟨fun a U g mk q => by obtain ⟨q0, q1, qP, qK, qM, qE⟩ := q; exact ⟨q0, q1, qP, va_K.moved (u := U) (U := U.calling g mk a) (Vm.Alike.refl U.vm) qK, qM, xX_call qE⟩, va_recv hK hP (ci := 9) (q0 := 0) rfl ((fw_get (by decide)).trans (by rw [sE_0]; rfl)), fun U hU hW => ⟨rfl, by rw [hU], by rw [hU]; exact hP, va_K.moved hW.alike hK, xM_warm hW hM, xX_at hEx hS (fA_w (Nat.le_refl _)) hU hW⟩⟩ rfl rfl hl.1 rfl (lv_room (Nat.le_of_ble_eq_true rfl)) dL_reach_4 ⟨Nat.le_of_ble_eq_true rfl, Nat.le_of_ble_eq_true rfl⟩) hS (fun q _ h => fA_w (Nat.le_refl _) q h) (fA_w (Nat.le_refl _)) (fun q _ h => fA_w (Nat.le_refl _) q h) (fun E9 ce9 q9 u9 t9 H1 locs ht9 hvm9 hpx9 hBX9 hz9 hk9 hS hce9 hcv9 hcl9 => ?_) (fun r9 u9 t9 H1 locs ht9 hvm9 hw9 hB9 hz9 hk9 hS => ?_)
  · obtain ⟨hE9, hP9, -⟩ := hBX9
    rw [ht9] at hP9
    have hO := one_kept hO hk9 (fun h => by have := one_lt hO; rcases h with h | h <;> (first | ((try clear hO); (try clear hP9); (try clear hE9); (try clear hz9); (try clear hcl9); (try clear hcv9); (try clear hce9); (try clear hpx9); (try clear q9); (try clear ce9); (try clear E9); (try clear htab); (try clear hsz); (try clear s₁); omega) | omega))
    have hP := hP9
    clear hP9 hk9
    simp only [List.mem_cons, List.not_mem_nil, or_false] at hE9
    subst hE9
    refine vx_catch (name := "java/util/NoSuchElementException") hown [] ⟨0, 9, 12, 20⟩ [] htab (fun z hz => by simp at hz) (by decide) (by decide) (hts _ k730) (va_Nw.use rfl (hEx.2.1 _ (by decide +kernel))) hce9 hcv9 hcl9 ?_
    clear hce9
    generalize H1 = H at hP hO hS ⊢
    refine W.widen (k := 1) (n := 6) (by (first | ((try clear hO); (try clear hP9); (try clear hE9); (try clear hz9); (try clear hcl9); (try clear hcv9); (try clear hce9); (try clear hpx9); (try clear q9); (try clear ce9); (try clear E9); (try clear htab); (try clear hsz); (try clear s₁); (try clear ho); omega) | omega)) (by (first | ((try clear hO); (try clear hP9); (try clear hE9); (try clear hz9); (try clear hcl9); (try clear hcv9); (try clear hce9); (try clear hpx9); (try clear q9); (try clear ce9); (try clear E9); (try clear htab); (try clear hsz); (try clear s₁); (try clear ho); omega) | omega)) ?_
    refine lv_astore_n (lv' := [(3, .ref q9), (0, .ref h0), (1, .int (iZ (pg))), (2, .ref o0)]) hx hb dL_reach_12 rfl hl (by decide) rfl (fun ls hl => ?_)
    refine lv_iconst (v := iZ 1) hx hb dL_reach_13 rfl ?_
    exact W.iret (v := (iZ 1)) hx hb hr (fun t8 ht8 hW8 => ⟨⟨(iZ 1), (u9, f), rfl, hpx9, by rw [ht8]; exact hP, by rw [ht8]; exact hO⟩, hS.F ht8⟩) hS.2.2 dL_reach_14
  · obtain ⟨hP9, -⟩ := hB9
    rw [ht9] at hP9
    have hO := one_kept hO hk9 (fun h => by have := one_lt hO; rcases h with h | h <;> (first | ((try clear hO); (try clear hP9); (try clear hz9); (try clear hcl9); (try clear hcv9); (try clear hce9); (try clear hpx9); (try clear q9); (try clear ce9); (try clear E9); (try clear htab); (try clear hsz); (try clear s₁); omega) | omega))
    have hP := hP9
    clear hP9 hk9
    generalize H1 = H at hP hO hS ⊢
    refine W.widen (k := 1) (n := 6) (by (first | ((try clear hO); (try clear hP9); (try clear hz9); (try clear hcl9); (try clear hcv9); (try clear hce9); (try clear hpx9); (try clear q9); (try clear ce9); (try clear E9); (try clear htab); (try clear hsz); (try clear s₁); (try clear ho); omega) | omega)) (by (first | ((try clear hO); (try clear hP9); (try clear hz9); (try clear hcl9); (try clear hcv9); (try clear hce9); (try clear hpx9); (try clear q9); (try clear ce9); (try clear E9); (try clear htab); (try clear hsz); (try clear s₁); (try clear ho); omega) | omega)) ?_
    refine lv_i2l (v := r9.toInt64) hx hb dL_reach_7 rfl ?_
    refine wo_last hx hb hKo hO hS (Or.inr (Or.inl rfl)) dL_reach_8 (fun H2 locs f1 hO hq2 hS => ?_)
    have hP := fl_kept hP hq2 (fun k hk => by (first | ((try clear hq2); (try clear hO); (try clear f1); (try clear H2); (try clear hP9); (try clear hz9); (try clear hcl9); (try clear hcv9); (try clear hce9); (try clear hpx9); (try clear q9); (try clear ce9); (try clear E9); (try clear htab); (try clear hsz); (try clear s₁); omega) | omega))
    clear hq2
    generalize H2 = H at hP hO hS ⊢
    refine lv_goto (tgt := 15) hx hb dL_reach_9 (by decide) ?_
    refine lv_iconst (v := iZ 0) hx hb dL_reach_15 rfl ?_
    exact W.iret (v := (iZ 0)) hx hb hr (fun t8 ht8 hW8 => ⟨⟨(iZ 0), (u9.1, f1), rfl, hw9.2, by rw [ht8]; exact hP, by rw [ht8]; exact hO⟩, hS.F ht8⟩) hS.2.2 dL_reach_16
set_option maxHeartbeats 4000000 in
set_option maxRecDepth 100000 in
theorem w_ways (l : Launch) (hfl : l.stackTraces = false) (dC : Nat → ClassId) (dI : Nat → Nat → Nat) (cI cZ cII cIII cO : ClassId) (h0 o0 sz : Nat) (μ : va_M) (f : Nat → Int64) (pg : Int) (T : List Tk) (hI : CI T μ) (h_pg : inR pg) (ho : h0 + 233 ≤ o0) : Met l yL_ways (Cond.codeWith yL_ways cL_ways 4 (some .int) [(0, 9, 12, 20)] :: wsG) ({ frames := 9, cells := 1, slots := 6, locals := 184 } : Room) (va_Pc [.ref h0, .int (iZ (pg)), .ref o0] (fun U => U.heap.size = sz ∧ va_P (dC, dI) vwCl (fw (sE cI cZ cII cIII h0) h0 233 μ) U.heap ∧ va_P (dC, dI) vwCl [(o0, .inl (cO, 1, .inr (.inl f)))] U.heap ∧ va_K (dC, dI) vwCl (sT cI cZ cII cIII) U ∧ va_K (dC, dI) vwCl [(cO, .long)] U ∧ xM U ∧ xX (wA h0 o0 sz) U ∧ xNC U)) (va_Qi (fun (r9 : Int32) (u : va_M × (Nat → Int64)) => CI T u.1 ∧ SZ μ u.1) (fun u t => va_P (dC, dI) vwCl (fw (sE cI cZ cII cIII h0) h0 233 u.1) t.heap ∧ va_P (dC, dI) vwCl [(o0, .inl (cO, 1, .inr (.inl u.2)))] t.heap) (wA h0 o0 sz)) 1 6 (wA h0 o0 sz) := by
  refine va_MetW (hh := [(0, 9, 12, 20)]) (cc := cL_ways) (maxL := 4) (ret := (some .int)) (by decide) rfl ?_
  intro p e s m args below meth c s₁ B hml hv
  obtain ⟨rfl, hsz, hP, hO, hK, hKo, hM, hEx, hNc⟩ := hv
  have hx := B.exec
  have hb := B.bytes
  have hr := B.returns
  have hts : ∀ w ∈ wsG, w.before _ s = true := fun w hw => atoms_spec (ws := (Cond.codeWith yL_ways cL_ways 4 (some .int) [(0, 9, 12, 20)] :: wsG)) B.pre w (List.mem_cons_of_mem _ hw)
  have htab := vx_table (x := yL_ways) B (atoms_spec (ws := (Cond.codeWith yL_ways cL_ways 4 (some .int) [(0, 9, 12, 20)] :: wsG)) B.pre _ List.mem_cons_self)
  have hown : s.vm.findClass RL = some m.cls := findClass_of_methodNamed B.named
  have hlocks := B.notSynchronized
  subst hsz
  have hS : va_S (wA h0 o0 s.heap.size) s.heap s.heap [] := va_S.rf
  have hl := lv_entry ([.ref h0, .int (iZ (pg)), .ref o0]) (n := 4) (Nat.le_of_ble_eq_true rfl)
  rw [lg_entry_eq]
  generalize (lg_sl ([.ref h0, .int (iZ (pg)), .ref o0]) ++ List.replicate (4 - (lg_sl ([.ref h0, .int (iZ (pg)), .ref o0])).length) Slot.unset).toArray = ls at hl ⊢
  have hl : lv_has ls 4 [(0, .ref h0), (1, .int (iZ (pg))), (2, .ref o0)] := hl
  refine lv_aload_n hx hb dL_ways_0 rfl (lv_at hl 2 rfl) ?_
  refine lv_iconst (v := iZ 0) hx hb dL_ways_1 rfl ?_
  refine lv_aload_n hx hb dL_ways_2 rfl (lv_at hl 0 rfl) ?_
  refine lv_iload_n hx hb dL_ways_3 rfl (lv_at hl 1 rfl) ?_
  refine vx_calli (vx_runV (As := [.int (iZ (pg))]) (rest := [.int (iZ 0), .ref o0]) ⟨hx, hb, hml, hown, hts⟩ (q_ways l hfl dC dI cI cZ cII cIII h0 s.heap.size μ pg T hI h_pg) (cwV 1 hts (gV_G k965 k966 k967 k1 k968) rfl rfl rfl (by decide +kernel) ⟨Nat.le_of_ble_eq_true rfl, Nat.le_of_ble_eq_true rfl⟩) ⟨fun a U g mk q => by obtain ⟨q0, q1, qP, qK, qM, qE⟩ := q; exact ⟨q0, q1, qP, va_K.moved (u := U) (U := U.calling g mk a) (Vm.Alike.refl U.vm) qK, qM, xX_call qE⟩, va_recv hK hP (ci := 9) (q0 := 0) rfl ((fw_get (by decide)).trans (by rw [sE_0]; rfl)), fun U hU hW => ⟨rfl, by rw [hU], by rw [hU]; exact hP, va_K.moved hW.alike hK, xM_warm hW hM, xX_at hEx hS (fA_w (Nat.le_refl _)) hU hW⟩⟩ rfl rfl hl.1 rfl (lv_room (Nat.le_of_ble_eq_true rfl)) dL_ways_4 ⟨Nat.le_of_ble_eq_true rfl, Nat.le_of_ble_eq_true rfl⟩) hS (fun q _ h => fA_w (Nat.le_refl _) q h) (fA_w (Nat.le_refl _)) (fun q _ h => fA_w (Nat.le_refl _) q h) (fun E9 ce9 q9 u9 t9 H1 locs ht9 hvm9 hpx9 hBX9 hz9 hk9 hS hce9 hcv9 hcl9 => ?_) (fun r9 u9 t9 H1 locs ht9 hvm9 hw9 hB9 hz9 hk9 hS => ?_)
  · obtain ⟨hE9, hP9, -⟩ := hBX9
    rw [ht9] at hP9
    have hO := one_kept hO hk9 (fun h => by have := one_lt hO; rcases h with h | h <;> (first | ((try clear hO); (try clear hP9); (try clear hE9); (try clear hz9); (try clear hcl9); (try clear hcv9); (try clear hce9); (try clear hpx9); (try clear q9); (try clear ce9); (try clear E9); (try clear htab); (try clear hsz); (try clear s₁); omega) | omega))
    have hP := hP9
    clear hP9 hk9
    simp only [List.mem_cons, List.not_mem_nil, or_false] at hE9
    subst hE9
    refine vx_catch (name := "java/util/NoSuchElementException") hown [] ⟨0, 9, 12, 20⟩ [] htab (fun z hz => by simp at hz) (by decide) (by decide) (hts _ k730) (va_Nw.use rfl (hEx.2.1 _ (by decide +kernel))) hce9 hcv9 hcl9 ?_
    clear hce9
    generalize H1 = H at hP hO hS ⊢
    refine W.widen (k := 1) (n := 6) (by (first | ((try clear hO); (try clear hP9); (try clear hE9); (try clear hz9); (try clear hcl9); (try clear hcv9); (try clear hce9); (try clear hpx9); (try clear q9); (try clear ce9); (try clear E9); (try clear htab); (try clear hsz); (try clear s₁); (try clear ho); omega) | omega)) (by (first | ((try clear hO); (try clear hP9); (try clear hE9); (try clear hz9); (try clear hcl9); (try clear hcv9); (try clear hce9); (try clear hpx9); (try clear q9); (try clear ce9); (try clear E9); (try clear htab); (try clear hsz); (try clear s₁); (try clear ho); omega) | omega)) ?_
    refine lv_astore_n (lv' := [(3, .ref q9), (0, .ref h0), (1, .int (iZ (pg))), (2, .ref o0)]) hx hb dL_ways_12 rfl hl (by decide) rfl (fun ls hl => ?_)
    refine lv_iconst (v := iZ 1) hx hb dL_ways_13 rfl ?_
    exact W.iret (v := (iZ 1)) hx hb hr (fun t8 ht8 hW8 => ⟨⟨(iZ 1), (u9, f), rfl, hpx9, by rw [ht8]; exact hP, by rw [ht8]; exact hO⟩, hS.F ht8⟩) hS.2.2 dL_ways_14
  · obtain ⟨hP9, -⟩ := hB9
    rw [ht9] at hP9
    have hO := one_kept hO hk9 (fun h => by have := one_lt hO; rcases h with h | h <;> (first | ((try clear hO); (try clear hP9); (try clear hz9); (try clear hcl9); (try clear hcv9); (try clear hce9); (try clear hpx9); (try clear q9); (try clear ce9); (try clear E9); (try clear htab); (try clear hsz); (try clear s₁); omega) | omega))
    have hP := hP9
    clear hP9 hk9
    generalize H1 = H at hP hO hS ⊢
    refine W.widen (k := 1) (n := 6) (by (first | ((try clear hO); (try clear hP9); (try clear hz9); (try clear hcl9); (try clear hcv9); (try clear hce9); (try clear hpx9); (try clear q9); (try clear ce9); (try clear E9); (try clear htab); (try clear hsz); (try clear s₁); (try clear ho); omega) | omega)) (by (first | ((try clear hO); (try clear hP9); (try clear hz9); (try clear hcl9); (try clear hcv9); (try clear hce9); (try clear hpx9); (try clear q9); (try clear ce9); (try clear E9); (try clear htab); (try clear hsz); (try clear s₁); (try clear ho); omega) | omega)) ?_
    refine lv_i2l (v := r9.toInt64) hx hb dL_ways_7 rfl ?_
    refine wo_last hx hb hKo hO hS (Or.inr (Or.inl rfl)) dL_ways_8 (fun H2 locs f1 hO hq2 hS => ?_)
    have hP := fl_kept hP hq2 (fun k hk => by (first | ((try clear hq2); (try clear hO); (try clear f1); (try clear H2); (try clear hP9); (try clear hz9); (try clear hcl9); (try clear hcv9); (try clear hce9); (try clear hpx9); (try clear q9); (try clear ce9); (try clear E9); (try clear htab); (try clear hsz); (try clear s₁); omega) | omega))
    clear hq2
    generalize H2 = H at hP hO hS ⊢
    refine lv_goto (tgt := 15) hx hb dL_ways_9 (by decide) ?_
    refine lv_iconst (v := iZ 0) hx hb dL_ways_15 rfl ?_
    exact W.iret (v := (iZ 0)) hx hb hr (fun t8 ht8 hW8 => ⟨⟨(iZ 0), (u9.1, f1), rfl, hw9.2, by rw [ht8]; exact hP, by rw [ht8]; exact hO⟩, hS.F ht8⟩) hS.2.2 dL_ways_16
set_option maxHeartbeats 4000000 in
set_option maxRecDepth 100000 in
theorem w_times (l : Launch) (hfl : l.stackTraces = false) (dC : Nat → ClassId) (dI : Nat → Nat → Nat) (cI cZ cII cIII cO : ClassId) (h0 o0 sz : Nat) (μ : va_M) (f : Nat → Int64) (pg : Int) (nd : Int) (T : List Tk) (hI : CI T μ) (h_pg : inR pg) (h_nd : inR nd) (ho : h0 + 233 ≤ o0) : Met l yL_times (Cond.codeWith yL_times cL_times 5 (some .int) [(0, 10, 13, 20)] :: wsG) ({ frames := 9, cells := 1, slots := 6, locals := 186 } : Room) (va_Pc [.ref h0, .int (iZ (pg)), .int (iZ (nd)), .ref o0] (fun U => U.heap.size = sz ∧ va_P (dC, dI) vwCl (fw (sE cI cZ cII cIII h0) h0 233 μ) U.heap ∧ va_P (dC, dI) vwCl [(o0, .inl (cO, 1, .inr (.inl f)))] U.heap ∧ va_K (dC, dI) vwCl (sT cI cZ cII cIII) U ∧ va_K (dC, dI) vwCl [(cO, .long)] U ∧ xM U ∧ xX (wA h0 o0 sz) U ∧ xNC U)) (va_Qi (fun (r9 : Int32) (u : va_M × (Nat → Int64)) => CI T u.1 ∧ SZ μ u.1) (fun u t => va_P (dC, dI) vwCl (fw (sE cI cZ cII cIII h0) h0 233 u.1) t.heap ∧ va_P (dC, dI) vwCl [(o0, .inl (cO, 1, .inr (.inl u.2)))] t.heap) (wA h0 o0 sz)) 1 6 (wA h0 o0 sz) := by
  refine va_MetW (hh := [(0, 10, 13, 20)]) (cc := cL_times) (maxL := 5) (ret := (some .int)) (by decide) rfl ?_
  intro p e s m args below meth c s₁ B hml hv
  obtain ⟨rfl, hsz, hP, hO, hK, hKo, hM, hEx, hNc⟩ := hv
  have hx := B.exec
  have hb := B.bytes
  have hr := B.returns
  have hts : ∀ w ∈ wsG, w.before _ s = true := fun w hw => atoms_spec (ws := (Cond.codeWith yL_times cL_times 5 (some .int) [(0, 10, 13, 20)] :: wsG)) B.pre w (List.mem_cons_of_mem _ hw)
  have htab := vx_table (x := yL_times) B (atoms_spec (ws := (Cond.codeWith yL_times cL_times 5 (some .int) [(0, 10, 13, 20)] :: wsG)) B.pre _ List.mem_cons_self)
  have hown : s.vm.findClass RL = some m.cls := findClass_of_methodNamed B.named
  have hlocks := B.notSynchronized
  subst hsz
  have hS : va_S (wA h0 o0 s.heap.size) s.heap s.heap [] := va_S.rf
  have hl := lv_entry ([.ref h0, .int (iZ (pg)), .int (iZ (nd)), .ref o0]) (n := 5) (Nat.le_of_ble_eq_true rfl)
  rw [lg_entry_eq]
  generalize (lg_sl ([.ref h0, .int (iZ (pg)), .int (iZ (nd)), .ref o0]) ++ List.replicate (5 - (lg_sl ([.ref h0, .int (iZ (pg)), .int (iZ (nd)), .ref o0])).length) Slot.unset).toArray = ls at hl ⊢
  have hl : lv_has ls 5 [(0, .ref h0), (1, .int (iZ (pg))), (2, .int (iZ (nd))), (3, .ref o0)] := hl
  refine lv_aload_n hx hb dL_times_0 rfl (lv_at hl 3 rfl) ?_
  refine lv_iconst (v := iZ 0) hx hb dL_times_1 rfl ?_
  refine lv_aload_n hx hb dL_times_2 rfl (lv_at hl 0 rfl) ?_
  refine lv_iload_n hx hb dL_times_3 rfl (lv_at hl 1 rfl) ?_
  refine lv_iload_n hx hb dL_times_4 rfl (lv_at hl 2 rfl) ?_
  refine vx_calli (vx_runV (As := [.int (iZ (pg)), .int (iZ (nd))]) (rest := [.int (iZ 0), .ref o0]) ⟨hx, hb, hml, hown, hts⟩ (q_times l hfl dC dI cI cZ cII cIII h0 s.heap.size μ pg nd T hI h_pg h_nd) (cwV 2 hts (gV_G k972 k973 k974 k1 k975) rfl rfl rfl (by decide +kernel) ⟨Nat.le_of_ble_eq_true rfl, Nat.le_of_ble_eq_true rfl⟩) ⟨fun a U g mk q => by obtain ⟨q0, q1, qP, qK, qM, qE⟩ := q; exact ⟨q0, q1, qP, va_K.moved (u := U) (U := U.calling g mk a) (Vm.Alike.refl U.vm) qK, qM, xX_call qE⟩, va_recv hK hP (ci := 9) (q0 := 0) rfl ((fw_get (by decide)).trans (by rw [sE_0]; rfl)), fun U hU hW => ⟨rfl, by rw [hU], by rw [hU]; exact hP, va_K.moved hW.alike hK, xM_warm hW hM, xX_at hEx hS (fA_w (Nat.le_refl _)) hU hW⟩⟩ rfl rfl hl.1 rfl (lv_room (Nat.le_of_ble_eq_true rfl)) dL_times_5 ⟨Nat.le_of_ble_eq_true rfl, Nat.le_of_ble_eq_true rfl⟩) hS (fun q _ h => fA_w (Nat.le_refl _) q h) (fA_w (Nat.le_refl _)) (fun q _ h => fA_w (Nat.le_refl _) q h) (fun E9 ce9 q9 u9 t9 H1 locs ht9 hvm9 hpx9 hBX9 hz9 hk9 hS hce9 hcv9 hcl9 => ?_) (fun r9 u9 t9 H1 locs ht9 hvm9 hw9 hB9 hz9 hk9 hS => ?_)
  · obtain ⟨hE9, hP9, -⟩ := hBX9
    rw [ht9] at hP9
    have hO := one_kept hO hk9 (fun h => by have := one_lt hO; rcases h with h | h <;> (first | ((try clear hO); (try clear hP9); (try clear hE9); (try clear hz9); (try clear hcl9); (try clear hcv9); (try clear hce9); (try clear hpx9); (try clear q9); (try clear ce9); (try clear E9); (try clear htab); (try clear hsz); (try clear s₁); omega) | omega))
    have hP := hP9
    clear hP9 hk9
    simp only [List.mem_cons, List.not_mem_nil, or_false] at hE9
    subst hE9
    refine vx_catch (name := "java/util/NoSuchElementException") hown [] ⟨0, 10, 13, 20⟩ [] htab (fun z hz => by simp at hz) (by decide) (by decide) (hts _ k730) (va_Nw.use rfl (hEx.2.1 _ (by decide +kernel))) hce9 hcv9 hcl9 ?_
    clear hce9
    generalize H1 = H at hP hO hS ⊢
    refine W.widen (k := 1) (n := 6) (by (first | ((try clear hO); (try clear hP9); (try clear hE9); (try clear hz9); (try clear hcl9); (try clear hcv9); (try clear hce9); (try clear hpx9); (try clear q9); (try clear ce9); (try clear E9); (try clear htab); (try clear hsz); (try clear s₁); (try clear ho); omega) | omega)) (by (first | ((try clear hO); (try clear hP9); (try clear hE9); (try clear hz9); (try clear hcl9); (try clear hcv9); (try clear hce9); (try clear hpx9); (try clear q9); (try clear ce9); (try clear E9); (try clear htab); (try clear hsz); (try clear s₁); (try clear ho); omega) | omega)) ?_
    refine lv_astore (lv' := [(4, .ref q9), (0, .ref h0), (1, .int (iZ (pg))), (2, .int (iZ (nd))), (3, .ref o0)]) hx hb dL_times_13 hl (by decide) rfl (fun ls hl => ?_)
    refine lv_iconst (v := iZ 1) hx hb dL_times_15 rfl ?_
    exact W.iret (v := (iZ 1)) hx hb hr (fun t8 ht8 hW8 => ⟨⟨(iZ 1), (u9, f), rfl, hpx9, by rw [ht8]; exact hP, by rw [ht8]; exact hO⟩, hS.F ht8⟩) hS.2.2 dL_times_16
  · obtain ⟨hP9, -⟩ := hB9
    rw [ht9] at hP9
    have hO := one_kept hO hk9 (fun h => by have := one_lt hO; rcases h with h | h <;> (first | ((try clear hO); (try clear hP9); (try clear hz9); (try clear hcl9); (try clear hcv9); (try clear hce9); (try clear hpx9); (try clear q9); (try clear ce9); (try clear E9); (try clear htab); (try clear hsz); (try clear s₁); omega) | omega))
    have hP := hP9
    clear hP9 hk9
    generalize H1 = H at hP hO hS ⊢
    refine W.widen (k := 1) (n := 6) (by (first | ((try clear hO); (try clear hP9); (try clear hz9); (try clear hcl9); (try clear hcv9); (try clear hce9); (try clear hpx9); (try clear q9); (try clear ce9); (try clear E9); (try clear htab); (try clear hsz); (try clear s₁); (try clear ho); omega) | omega)) (by (first | ((try clear hO); (try clear hP9); (try clear hz9); (try clear hcl9); (try clear hcv9); (try clear hce9); (try clear hpx9); (try clear q9); (try clear ce9); (try clear E9); (try clear htab); (try clear hsz); (try clear s₁); (try clear ho); omega) | omega)) ?_
    refine lv_i2l (v := r9.toInt64) hx hb dL_times_8 rfl ?_
    refine wo_last hx hb hKo hO hS (Or.inr (Or.inl rfl)) dL_times_9 (fun H2 locs f1 hO hq2 hS => ?_)
    have hP := fl_kept hP hq2 (fun k hk => by (first | ((try clear hq2); (try clear hO); (try clear f1); (try clear H2); (try clear hP9); (try clear hz9); (try clear hcl9); (try clear hcv9); (try clear hce9); (try clear hpx9); (try clear q9); (try clear ce9); (try clear E9); (try clear htab); (try clear hsz); (try clear s₁); omega) | omega))
    clear hq2
    generalize H2 = H at hP hO hS ⊢
    refine lv_goto (tgt := 17) hx hb dL_times_10 (by decide) ?_
    refine lv_iconst (v := iZ 0) hx hb dL_times_17 rfl ?_
    exact W.iret (v := (iZ 0)) hx hb hr (fun t8 ht8 hW8 => ⟨⟨(iZ 0), (u9.1, f1), rfl, hw9.2, by rw [ht8]; exact hP, by rw [ht8]; exact hO⟩, hS.F ht8⟩) hS.2.2 dL_times_18
set_option maxHeartbeats 4000000 in
set_option maxRecDepth 100000 in
theorem w_passes (l : Launch) (hfl : l.stackTraces = false) (dC : Nat → ClassId) (dI : Nat → Nat → Nat) (cI cZ cII cIII cO : ClassId) (h0 o0 sz : Nat) (μ : va_M) (f : Nat → Int64) (pg : Int) (nd : Int) (T : List Tk) (hI : CI T μ) (h_pg : inR pg) (h_nd : inR nd) (ho : h0 + 233 ≤ o0) : Met l yL_passes (Cond.codeWith yL_passes cL_passes 5 (some .int) [(0, 10, 13, 20)] :: wsG) ({ frames := 9, cells := 1, slots := 6, locals := 186 } : Room) (va_Pc [.ref h0, .int (iZ (pg)), .int (iZ (nd)), .ref o0] (fun U => U.heap.size = sz ∧ va_P (dC, dI) vwCl (fw (sE cI cZ cII cIII h0) h0 233 μ) U.heap ∧ va_P (dC, dI) vwCl [(o0, .inl (cO, 1, .inr (.inl f)))] U.heap ∧ va_K (dC, dI) vwCl (sT cI cZ cII cIII) U ∧ va_K (dC, dI) vwCl [(cO, .long)] U ∧ xM U ∧ xX (wA h0 o0 sz) U ∧ xNC U)) (va_Qi (fun (r9 : Int32) (u : va_M × (Nat → Int64)) => CI T u.1 ∧ SZ μ u.1) (fun u t => va_P (dC, dI) vwCl (fw (sE cI cZ cII cIII h0) h0 233 u.1) t.heap ∧ va_P (dC, dI) vwCl [(o0, .inl (cO, 1, .inr (.inl u.2)))] t.heap) (wA h0 o0 sz)) 1 6 (wA h0 o0 sz) := by
  refine va_MetW (hh := [(0, 10, 13, 20)]) (cc := cL_passes) (maxL := 5) (ret := (some .int)) (by decide) rfl ?_
  intro p e s m args below meth c s₁ B hml hv
  obtain ⟨rfl, hsz, hP, hO, hK, hKo, hM, hEx, hNc⟩ := hv
  have hx := B.exec
  have hb := B.bytes
  have hr := B.returns
  have hts : ∀ w ∈ wsG, w.before _ s = true := fun w hw => atoms_spec (ws := (Cond.codeWith yL_passes cL_passes 5 (some .int) [(0, 10, 13, 20)] :: wsG)) B.pre w (List.mem_cons_of_mem _ hw)
  have htab := vx_table (x := yL_passes) B (atoms_spec (ws := (Cond.codeWith yL_passes cL_passes 5 (some .int) [(0, 10, 13, 20)] :: wsG)) B.pre _ List.mem_cons_self)
  have hown : s.vm.findClass RL = some m.cls := findClass_of_methodNamed B.named
  have hlocks := B.notSynchronized
  subst hsz
  have hS : va_S (wA h0 o0 s.heap.size) s.heap s.heap [] := va_S.rf
  have hl := lv_entry ([.ref h0, .int (iZ (pg)), .int (iZ (nd)), .ref o0]) (n := 5) (Nat.le_of_ble_eq_true rfl)
  rw [lg_entry_eq]
  generalize (lg_sl ([.ref h0, .int (iZ (pg)), .int (iZ (nd)), .ref o0]) ++ List.replicate (5 - (lg_sl ([.ref h0, .int (iZ (pg)), .int (iZ (nd)), .ref o0])).length) Slot.unset).toArray = ls at hl ⊢
  have hl : lv_has ls 5 [(0, .ref h0), (1, .int (iZ (pg))), (2, .int (iZ (nd))), (3, .ref o0)] := hl
  refine lv_aload_n hx hb dL_passes_0 rfl (lv_at hl 3 rfl) ?_
  refine lv_iconst (v := iZ 0) hx hb dL_passes_1 rfl ?_
  refine lv_aload_n hx hb dL_passes_2 rfl (lv_at hl 0 rfl) ?_
  refine lv_iload_n hx hb dL_passes_3 rfl (lv_at hl 1 rfl) ?_
  refine lv_iload_n hx hb dL_passes_4 rfl (lv_at hl 2 rfl) ?_
  refine vx_calli (vx_runV (As := [.int (iZ (pg)), .int (iZ (nd))]) (rest := [.int (iZ 0), .ref o0]) ⟨hx, hb, hml, hown, hts⟩ (q_passes l hfl dC dI cI cZ cII cIII h0 s.heap.size μ pg nd T hI h_pg h_nd) (cwV 2 hts (gV_G k979 k980 k981 k1 k982) rfl rfl rfl (by decide +kernel) ⟨Nat.le_of_ble_eq_true rfl, Nat.le_of_ble_eq_true rfl⟩) ⟨fun a U g mk q => by obtain ⟨q0, q1, qP, qK, qM, qE⟩ := q; exact ⟨q0, q1, qP, va_K.moved (u := U) (U := U.calling g mk a) (Vm.Alike.refl U.vm) qK, qM, xX_call qE⟩, va_recv hK hP (ci := 9) (q0 := 0) rfl ((fw_get (by decide)).trans (by rw [sE_0]; rfl)), fun U hU hW => ⟨rfl, by rw [hU], by rw [hU]; exact hP, va_K.moved hW.alike hK, xM_warm hW hM, xX_at hEx hS (fA_w (Nat.le_refl _)) hU hW⟩⟩ rfl rfl hl.1 rfl (lv_room (Nat.le_of_ble_eq_true rfl)) dL_passes_5 ⟨Nat.le_of_ble_eq_true rfl, Nat.le_of_ble_eq_true rfl⟩) hS (fun q _ h => fA_w (Nat.le_refl _) q h) (fA_w (Nat.le_refl _)) (fun q _ h => fA_w (Nat.le_refl _) q h) (fun E9 ce9 q9 u9 t9 H1 locs ht9 hvm9 hpx9 hBX9 hz9 hk9 hS hce9 hcv9 hcl9 => ?_) (fun r9 u9 t9 H1 locs ht9 hvm9 hw9 hB9 hz9 hk9 hS => ?_)
  · obtain ⟨hE9, hP9, -⟩ := hBX9
    rw [ht9] at hP9
    have hO := one_kept hO hk9 (fun h => by have := one_lt hO; rcases h with h | h <;> (first | ((try clear hO); (try clear hP9); (try clear hE9); (try clear hz9); (try clear hcl9); (try clear hcv9); (try clear hce9); (try clear hpx9); (try clear q9); (try clear ce9); (try clear E9); (try clear htab); (try clear hsz); (try clear s₁); omega) | omega))
    have hP := hP9
    clear hP9 hk9
    simp only [List.mem_cons, List.not_mem_nil, or_false] at hE9
    subst hE9
    refine vx_catch (name := "java/util/NoSuchElementException") hown [] ⟨0, 10, 13, 20⟩ [] htab (fun z hz => by simp at hz) (by decide) (by decide) (hts _ k730) (va_Nw.use rfl (hEx.2.1 _ (by decide +kernel))) hce9 hcv9 hcl9 ?_
    clear hce9
    generalize H1 = H at hP hO hS ⊢
    refine W.widen (k := 1) (n := 6) (by (first | ((try clear hO); (try clear hP9); (try clear hE9); (try clear hz9); (try clear hcl9); (try clear hcv9); (try clear hce9); (try clear hpx9); (try clear q9); (try clear ce9); (try clear E9); (try clear htab); (try clear hsz); (try clear s₁); (try clear ho); omega) | omega)) (by (first | ((try clear hO); (try clear hP9); (try clear hE9); (try clear hz9); (try clear hcl9); (try clear hcv9); (try clear hce9); (try clear hpx9); (try clear q9); (try clear ce9); (try clear E9); (try clear htab); (try clear hsz); (try clear s₁); (try clear ho); omega) | omega)) ?_
    refine lv_astore (lv' := [(4, .ref q9), (0, .ref h0), (1, .int (iZ (pg))), (2, .int (iZ (nd))), (3, .ref o0)]) hx hb dL_passes_13 hl (by decide) rfl (fun ls hl => ?_)
    refine lv_iconst (v := iZ 1) hx hb dL_passes_15 rfl ?_
    exact W.iret (v := (iZ 1)) hx hb hr (fun t8 ht8 hW8 => ⟨⟨(iZ 1), (u9, f), rfl, hpx9, by rw [ht8]; exact hP, by rw [ht8]; exact hO⟩, hS.F ht8⟩) hS.2.2 dL_passes_16
  · obtain ⟨hP9, -⟩ := hB9
    rw [ht9] at hP9
    have hO := one_kept hO hk9 (fun h => by have := one_lt hO; rcases h with h | h <;> (first | ((try clear hO); (try clear hP9); (try clear hz9); (try clear hcl9); (try clear hcv9); (try clear hce9); (try clear hpx9); (try clear q9); (try clear ce9); (try clear E9); (try clear htab); (try clear hsz); (try clear s₁); omega) | omega))
    have hP := hP9
    clear hP9 hk9
    generalize H1 = H at hP hO hS ⊢
    refine W.widen (k := 1) (n := 6) (by (first | ((try clear hO); (try clear hP9); (try clear hz9); (try clear hcl9); (try clear hcv9); (try clear hce9); (try clear hpx9); (try clear q9); (try clear ce9); (try clear E9); (try clear htab); (try clear hsz); (try clear s₁); (try clear ho); omega) | omega)) (by (first | ((try clear hO); (try clear hP9); (try clear hz9); (try clear hcl9); (try clear hcv9); (try clear hce9); (try clear hpx9); (try clear q9); (try clear ce9); (try clear E9); (try clear htab); (try clear hsz); (try clear s₁); (try clear ho); omega) | omega)) ?_
    refine lv_i2l (v := r9.toInt64) hx hb dL_passes_8 rfl ?_
    refine wo_last hx hb hKo hO hS (Or.inr (Or.inl rfl)) dL_passes_9 (fun H2 locs f1 hO hq2 hS => ?_)
    have hP := fl_kept hP hq2 (fun k hk => by (first | ((try clear hq2); (try clear hO); (try clear f1); (try clear H2); (try clear hP9); (try clear hz9); (try clear hcl9); (try clear hcv9); (try clear hce9); (try clear hpx9); (try clear q9); (try clear ce9); (try clear E9); (try clear htab); (try clear hsz); (try clear s₁); omega) | omega))
    clear hq2
    generalize H2 = H at hP hO hS ⊢
    refine lv_goto (tgt := 17) hx hb dL_passes_10 (by decide) ?_
    refine lv_iconst (v := iZ 0) hx hb dL_passes_17 rfl ?_
    exact W.iret (v := (iZ 0)) hx hb hr (fun t8 ht8 hW8 => ⟨⟨(iZ 0), (u9.1, f1), rfl, hw9.2, by rw [ht8]; exact hP, by rw [ht8]; exact hO⟩, hS.F ht8⟩) hS.2.2 dL_passes_18
set_option maxHeartbeats 4000000 in
set_option maxRecDepth 100000 in
theorem w_value (l : Launch) (hfl : l.stackTraces = false) (dC : Nat → ClassId) (dI : Nat → Nat → Nat) (cI cZ cII cIII cO : ClassId) (h0 o0 sz : Nat) (μ : va_M) (f : Nat → Int64) (pg : Int) (nd : Int) (kn : Int) (T : List Tk) (hI : CI T μ) (h_pg : inR pg) (h_nd : inR nd) (h_kn : inR kn) (ho : h0 + 233 ≤ o0) : Met l yL_value (Cond.codeWith yL_value cL_value 6 (some .int) [(0, 12, 15, 20)] :: wsG) ({ frames := 9, cells := 1, slots := 6, locals := 189 } : Room) (va_Pc [.ref h0, .int (iZ (pg)), .int (iZ (nd)), .int (iZ (kn)), .ref o0] (fun U => U.heap.size = sz ∧ va_P (dC, dI) vwCl (fw (sE cI cZ cII cIII h0) h0 233 μ) U.heap ∧ va_P (dC, dI) vwCl [(o0, .inl (cO, 1, .inr (.inl f)))] U.heap ∧ va_K (dC, dI) vwCl (sT cI cZ cII cIII) U ∧ va_K (dC, dI) vwCl [(cO, .long)] U ∧ xM U ∧ xX (wA h0 o0 sz) U ∧ xNC U)) (va_Qi (fun (r9 : Int32) (u : va_M × (Nat → Int64)) => CI T u.1 ∧ SZ μ u.1) (fun u t => va_P (dC, dI) vwCl (fw (sE cI cZ cII cIII h0) h0 233 u.1) t.heap ∧ va_P (dC, dI) vwCl [(o0, .inl (cO, 1, .inr (.inl u.2)))] t.heap) (wA h0 o0 sz)) 1 6 (wA h0 o0 sz) := by
  refine va_MetW (hh := [(0, 12, 15, 20)]) (cc := cL_value) (maxL := 6) (ret := (some .int)) (by decide) rfl ?_
  intro p e s m args below meth c s₁ B hml hv
  obtain ⟨rfl, hsz, hP, hO, hK, hKo, hM, hEx, hNc⟩ := hv
  have hx := B.exec
  have hb := B.bytes
  have hr := B.returns
  have hts : ∀ w ∈ wsG, w.before _ s = true := fun w hw => atoms_spec (ws := (Cond.codeWith yL_value cL_value 6 (some .int) [(0, 12, 15, 20)] :: wsG)) B.pre w (List.mem_cons_of_mem _ hw)
  have htab := vx_table (x := yL_value) B (atoms_spec (ws := (Cond.codeWith yL_value cL_value 6 (some .int) [(0, 12, 15, 20)] :: wsG)) B.pre _ List.mem_cons_self)
  have hown : s.vm.findClass RL = some m.cls := findClass_of_methodNamed B.named
  have hlocks := B.notSynchronized
  subst hsz
  have hS : va_S (wA h0 o0 s.heap.size) s.heap s.heap [] := va_S.rf
  have hl := lv_entry ([.ref h0, .int (iZ (pg)), .int (iZ (nd)), .int (iZ (kn)), .ref o0]) (n := 6) (Nat.le_of_ble_eq_true rfl)
  rw [lg_entry_eq]
  generalize (lg_sl ([.ref h0, .int (iZ (pg)), .int (iZ (nd)), .int (iZ (kn)), .ref o0]) ++ List.replicate (6 - (lg_sl ([.ref h0, .int (iZ (pg)), .int (iZ (nd)), .int (iZ (kn)), .ref o0])).length) Slot.unset).toArray = ls at hl ⊢
  have hl : lv_has ls 6 [(0, .ref h0), (1, .int (iZ (pg))), (2, .int (iZ (nd))), (3, .int (iZ (kn))), (4, .ref o0)] := hl
  refine lv_aload hx hb dL_value_0 (lv_at hl 4 rfl) ?_
  refine lv_iconst (v := iZ 0) hx hb dL_value_2 rfl ?_
  refine lv_aload_n hx hb dL_value_3 rfl (lv_at hl 0 rfl) ?_
  refine lv_iload_n hx hb dL_value_4 rfl (lv_at hl 1 rfl) ?_
  refine lv_iload_n hx hb dL_value_5 rfl (lv_at hl 2 rfl) ?_
  refine lv_iload_n hx hb dL_value_6 rfl (lv_at hl 3 rfl) ?_
  refine vx_calli (vx_runV (As := [.int (iZ (pg)), .int (iZ (nd)), .int (iZ (kn))]) (rest := [.int (iZ 0), .ref o0]) ⟨hx, hb, hml, hown, hts⟩ (q_value l hfl dC dI cI cZ cII cIII h0 s.heap.size μ pg nd kn T hI h_pg h_nd h_kn) (cwV 3 hts (gV_G k990 k991 k992 k1 k993) rfl rfl rfl (by decide +kernel) ⟨Nat.le_of_ble_eq_true rfl, Nat.le_of_ble_eq_true rfl⟩) ⟨fun a U g mk q => by obtain ⟨q0, q1, qP, qK, qM, qE⟩ := q; exact ⟨q0, q1, qP, va_K.moved (u := U) (U := U.calling g mk a) (Vm.Alike.refl U.vm) qK, qM, xX_call qE⟩, va_recv hK hP (ci := 9) (q0 := 0) rfl ((fw_get (by decide)).trans (by rw [sE_0]; rfl)), fun U hU hW => ⟨rfl, by rw [hU], by rw [hU]; exact hP, va_K.moved hW.alike hK, xM_warm hW hM, xX_at hEx hS (fA_w (Nat.le_refl _)) hU hW⟩⟩ rfl rfl hl.1 rfl (lv_room (Nat.le_of_ble_eq_true rfl)) dL_value_7 ⟨Nat.le_of_ble_eq_true rfl, Nat.le_of_ble_eq_true rfl⟩) hS (fun q _ h => fA_w (Nat.le_refl _) q h) (fA_w (Nat.le_refl _)) (fun q _ h => fA_w (Nat.le_refl _) q h) (fun E9 ce9 q9 u9 t9 H1 locs ht9 hvm9 hpx9 hBX9 hz9 hk9 hS hce9 hcv9 hcl9 => ?_) (fun r9 u9 t9 H1 locs ht9 hvm9 hw9 hB9 hz9 hk9 hS => ?_)
  · obtain ⟨hE9, hP9, -⟩ := hBX9
    rw [ht9] at hP9
    have hO := one_kept hO hk9 (fun h => by have := one_lt hO; rcases h with h | h <;> (first | ((try clear hO); (try clear hP9); (try clear hE9); (try clear hz9); (try clear hcl9); (try clear hcv9); (try clear hce9); (try clear hpx9); (try clear q9); (try clear ce9); (try clear E9); (try clear htab); (try clear hsz); (try clear s₁); omega) | omega))
    have hP := hP9
    clear hP9 hk9
    simp only [List.mem_cons, List.not_mem_nil, or_false] at hE9
    subst hE9
    refine vx_catch (name := "java/util/NoSuchElementException") hown [] ⟨0, 12, 15, 20⟩ [] htab (fun z hz => by simp at hz) (by decide) (by decide) (hts _ k730) (va_Nw.use rfl (hEx.2.1 _ (by decide +kernel))) hce9 hcv9 hcl9 ?_
    clear hce9
    generalize H1 = H at hP hO hS ⊢
    refine W.widen (k := 1) (n := 6) (by (first | ((try clear hO); (try clear hP9); (try clear hE9); (try clear hz9); (try clear hcl9); (try clear hcv9); (try clear hce9); (try clear hpx9); (try clear q9); (try clear ce9); (try clear E9); (try clear htab); (try clear hsz); (try clear s₁); (try clear ho); omega) | omega)) (by (first | ((try clear hO); (try clear hP9); (try clear hE9); (try clear hz9); (try clear hcl9); (try clear hcv9); (try clear hce9); (try clear hpx9); (try clear q9); (try clear ce9); (try clear E9); (try clear htab); (try clear hsz); (try clear s₁); (try clear ho); omega) | omega)) ?_
    refine lv_astore (lv' := [(5, .ref q9), (0, .ref h0), (1, .int (iZ (pg))), (2, .int (iZ (nd))), (3, .int (iZ (kn))), (4, .ref o0)]) hx hb dL_value_15 hl (by decide) rfl (fun ls hl => ?_)
    refine lv_iconst (v := iZ 1) hx hb dL_value_17 rfl ?_
    exact W.iret (v := (iZ 1)) hx hb hr (fun t8 ht8 hW8 => ⟨⟨(iZ 1), (u9, f), rfl, hpx9, by rw [ht8]; exact hP, by rw [ht8]; exact hO⟩, hS.F ht8⟩) hS.2.2 dL_value_18
  · obtain ⟨hP9, -⟩ := hB9
    rw [ht9] at hP9
    have hO := one_kept hO hk9 (fun h => by have := one_lt hO; rcases h with h | h <;> (first | ((try clear hO); (try clear hP9); (try clear hz9); (try clear hcl9); (try clear hcv9); (try clear hce9); (try clear hpx9); (try clear q9); (try clear ce9); (try clear E9); (try clear htab); (try clear hsz); (try clear s₁); omega) | omega))
    have hP := hP9
    clear hP9 hk9
    generalize H1 = H at hP hO hS ⊢
    refine W.widen (k := 1) (n := 6) (by (first | ((try clear hO); (try clear hP9); (try clear hz9); (try clear hcl9); (try clear hcv9); (try clear hce9); (try clear hpx9); (try clear q9); (try clear ce9); (try clear E9); (try clear htab); (try clear hsz); (try clear s₁); (try clear ho); omega) | omega)) (by (first | ((try clear hO); (try clear hP9); (try clear hz9); (try clear hcl9); (try clear hcv9); (try clear hce9); (try clear hpx9); (try clear q9); (try clear ce9); (try clear E9); (try clear htab); (try clear hsz); (try clear s₁); (try clear ho); omega) | omega)) ?_
    refine lv_i2l (v := r9.toInt64) hx hb dL_value_10 rfl ?_
    refine wo_last hx hb hKo hO hS (Or.inr (Or.inl rfl)) dL_value_11 (fun H2 locs f1 hO hq2 hS => ?_)
    have hP := fl_kept hP hq2 (fun k hk => by (first | ((try clear hq2); (try clear hO); (try clear f1); (try clear H2); (try clear hP9); (try clear hz9); (try clear hcl9); (try clear hcv9); (try clear hce9); (try clear hpx9); (try clear q9); (try clear ce9); (try clear E9); (try clear htab); (try clear hsz); (try clear s₁); omega) | omega))
    clear hq2
    generalize H2 = H at hP hO hS ⊢
    refine lv_goto (tgt := 19) hx hb dL_value_12 (by decide) ?_
    refine lv_iconst (v := iZ 0) hx hb dL_value_19 rfl ?_
    exact W.iret (v := (iZ 0)) hx hb hr (fun t8 ht8 hW8 => ⟨⟨(iZ 0), (u9.1, f1), rfl, hw9.2, by rw [ht8]; exact hP, by rw [ht8]; exact hO⟩, hS.F ht8⟩) hS.2.2 dL_value_20
set_option maxHeartbeats 4000000 in
set_option maxRecDepth 100000 in
theorem w_taker (l : Launch) (hfl : l.stackTraces = false) (dC : Nat → ClassId) (dI : Nat → Nat → Nat) (cI cZ cII cIII cO : ClassId) (h0 o0 sz : Nat) (μ : va_M) (f : Nat → Int64) (pg : Int) (kn : Int) (T : List Tk) (hI : CI T μ) (h_pg : inR pg) (h_kn : inR kn) (ho : h0 + 233 ≤ o0) : Met l yL_taker (Cond.codeWith yL_taker cL_taker 5 (some .int) [(0, 10, 13, 20)] :: wsG) ({ frames := 10, cells := 1, slots := 6, locals := 186 } : Room) (va_Pc [.ref h0, .int (iZ (pg)), .int (iZ (kn)), .ref o0] (fun U => U.heap.size = sz ∧ va_P (dC, dI) vwCl (fw (sE cI cZ cII cIII h0) h0 233 μ) U.heap ∧ va_P (dC, dI) vwCl [(o0, .inl (cO, 1, .inr (.inl f)))] U.heap ∧ va_K (dC, dI) vwCl (sT cI cZ cII cIII) U ∧ va_K (dC, dI) vwCl [(cO, .long)] U ∧ xM U ∧ xX (wA h0 o0 sz) U ∧ xNC U)) (va_Qi (fun (r9 : Int32) (u : va_M × (Nat → Int64)) => CI T u.1 ∧ SZ μ u.1) (fun u t => va_P (dC, dI) vwCl (fw (sE cI cZ cII cIII h0) h0 233 u.1) t.heap ∧ va_P (dC, dI) vwCl [(o0, .inl (cO, 1, .inr (.inl u.2)))] t.heap) (wA h0 o0 sz)) 1 6 (wA h0 o0 sz) := by
  refine va_MetW (hh := [(0, 10, 13, 20)]) (cc := cL_taker) (maxL := 5) (ret := (some .int)) (by decide) rfl ?_
  intro p e s m args below meth c s₁ B hml hv
  obtain ⟨rfl, hsz, hP, hO, hK, hKo, hM, hEx, hNc⟩ := hv
  have hx := B.exec
  have hb := B.bytes
  have hr := B.returns
  have hts : ∀ w ∈ wsG, w.before _ s = true := fun w hw => atoms_spec (ws := (Cond.codeWith yL_taker cL_taker 5 (some .int) [(0, 10, 13, 20)] :: wsG)) B.pre w (List.mem_cons_of_mem _ hw)
  have htab := vx_table (x := yL_taker) B (atoms_spec (ws := (Cond.codeWith yL_taker cL_taker 5 (some .int) [(0, 10, 13, 20)] :: wsG)) B.pre _ List.mem_cons_self)
  have hown : s.vm.findClass RL = some m.cls := findClass_of_methodNamed B.named
  have hlocks := B.notSynchronized
  subst hsz
  have hS : va_S (wA h0 o0 s.heap.size) s.heap s.heap [] := va_S.rf
  have hl := lv_entry ([.ref h0, .int (iZ (pg)), .int (iZ (kn)), .ref o0]) (n := 5) (Nat.le_of_ble_eq_true rfl)
  rw [lg_entry_eq]
  generalize (lg_sl ([.ref h0, .int (iZ (pg)), .int (iZ (kn)), .ref o0]) ++ List.replicate (5 - (lg_sl ([.ref h0, .int (iZ (pg)), .int (iZ (kn)), .ref o0])).length) Slot.unset).toArray = ls at hl ⊢
  have hl : lv_has ls 5 [(0, .ref h0), (1, .int (iZ (pg))), (2, .int (iZ (kn))), (3, .ref o0)] := hl
  refine lv_aload_n hx hb dL_taker_0 rfl (lv_at hl 3 rfl) ?_
  refine lv_iconst (v := iZ 0) hx hb dL_taker_1 rfl ?_
  refine lv_aload_n hx hb dL_taker_2 rfl (lv_at hl 0 rfl) ?_
  refine lv_iload_n hx hb dL_taker_3 rfl (lv_at hl 1 rfl) ?_
  refine lv_iload_n hx hb dL_taker_4 rfl (lv_at hl 2 rfl) ?_
  refine vx_calli (vx_runV (As := [.int (iZ (pg)), .int (iZ (kn))]) (rest := [.int (iZ 0), .ref o0]) ⟨hx, hb, hml, hown, hts⟩ (q_taker l hfl dC dI cI cZ cII cIII h0 s.heap.size μ pg kn T hI h_pg h_kn) (cwV 2 hts (gV_G k997 k998 k999 k1 k1000) rfl rfl rfl (by decide +kernel) ⟨Nat.le_of_ble_eq_true rfl, Nat.le_of_ble_eq_true rfl⟩) ⟨fun a U g mk q => by obtain ⟨q0, q1, qP, qK, qM, qE⟩ := q; exact ⟨q0, q1, qP, va_K.moved (u := U) (U := U.calling g mk a) (Vm.Alike.refl U.vm) qK, qM, xX_call qE⟩, va_recv hK hP (ci := 9) (q0 := 0) rfl ((fw_get (by decide)).trans (by rw [sE_0]; rfl)), fun U hU hW => ⟨rfl, by rw [hU], by rw [hU]; exact hP, va_K.moved hW.alike hK, xM_warm hW hM, xX_at hEx hS (fA_w (Nat.le_refl _)) hU hW⟩⟩ rfl rfl hl.1 rfl (lv_room (Nat.le_of_ble_eq_true rfl)) dL_taker_5 ⟨Nat.le_of_ble_eq_true rfl, Nat.le_of_ble_eq_true rfl⟩) hS (fun q _ h => fA_w (Nat.le_refl _) q h) (fA_w (Nat.le_refl _)) (fun q _ h => fA_w (Nat.le_refl _) q h) (fun E9 ce9 q9 u9 t9 H1 locs ht9 hvm9 hpx9 hBX9 hz9 hk9 hS hce9 hcv9 hcl9 => ?_) (fun r9 u9 t9 H1 locs ht9 hvm9 hw9 hB9 hz9 hk9 hS => ?_)
  · obtain ⟨hE9, hP9, -⟩ := hBX9
    rw [ht9] at hP9
    have hO := one_kept hO hk9 (fun h => by have := one_lt hO; rcases h with h | h <;> (first | ((try clear hO); (try clear hP9); (try clear hE9); (try clear hz9); (try clear hcl9); (try clear hcv9); (try clear hce9); (try clear hpx9); (try clear q9); (try clear ce9); (try clear E9); (try clear htab); (try clear hsz); (try clear s₁); omega) | omega))
    have hP := hP9
    clear hP9 hk9
    simp only [List.mem_cons, List.not_mem_nil, or_false] at hE9
    subst hE9
    refine vx_catch (name := "java/util/NoSuchElementException") hown [] ⟨0, 10, 13, 20⟩ [] htab (fun z hz => by simp at hz) (by decide) (by decide) (hts _ k730) (va_Nw.use rfl (hEx.2.1 _ (by decide +kernel))) hce9 hcv9 hcl9 ?_
    clear hce9
    generalize H1 = H at hP hO hS ⊢
    refine W.widen (k := 1) (n := 6) (by (first | ((try clear hO); (try clear hP9); (try clear hE9); (try clear hz9); (try clear hcl9); (try clear hcv9); (try clear hce9); (try clear hpx9); (try clear q9); (try clear ce9); (try clear E9); (try clear htab); (try clear hsz); (try clear s₁); (try clear ho); omega) | omega)) (by (first | ((try clear hO); (try clear hP9); (try clear hE9); (try clear hz9); (try clear hcl9); (try clear hcv9); (try clear hce9); (try clear hpx9); (try clear q9); (try clear ce9); (try clear E9); (try clear htab); (try clear hsz); (try clear s₁); (try clear ho); omega) | omega)) ?_
    refine lv_astore (lv' := [(4, .ref q9), (0, .ref h0), (1, .int (iZ (pg))), (2, .int (iZ (kn))), (3, .ref o0)]) hx hb dL_taker_13 hl (by decide) rfl (fun ls hl => ?_)
    refine lv_iconst (v := iZ 1) hx hb dL_taker_15 rfl ?_
    exact W.iret (v := (iZ 1)) hx hb hr (fun t8 ht8 hW8 => ⟨⟨(iZ 1), (u9, f), rfl, hpx9, by rw [ht8]; exact hP, by rw [ht8]; exact hO⟩, hS.F ht8⟩) hS.2.2 dL_taker_16
  · obtain ⟨hP9, -⟩ := hB9
    rw [ht9] at hP9
    have hO := one_kept hO hk9 (fun h => by have := one_lt hO; rcases h with h | h <;> (first | ((try clear hO); (try clear hP9); (try clear hz9); (try clear hcl9); (try clear hcv9); (try clear hce9); (try clear hpx9); (try clear q9); (try clear ce9); (try clear E9); (try clear htab); (try clear hsz); (try clear s₁); omega) | omega))
    have hP := hP9
    clear hP9 hk9
    generalize H1 = H at hP hO hS ⊢
    refine W.widen (k := 1) (n := 6) (by (first | ((try clear hO); (try clear hP9); (try clear hz9); (try clear hcl9); (try clear hcv9); (try clear hce9); (try clear hpx9); (try clear q9); (try clear ce9); (try clear E9); (try clear htab); (try clear hsz); (try clear s₁); (try clear ho); omega) | omega)) (by (first | ((try clear hO); (try clear hP9); (try clear hz9); (try clear hcl9); (try clear hcv9); (try clear hce9); (try clear hpx9); (try clear q9); (try clear ce9); (try clear E9); (try clear htab); (try clear hsz); (try clear s₁); (try clear ho); omega) | omega)) ?_
    refine lv_i2l (v := r9.toInt64) hx hb dL_taker_8 rfl ?_
    refine wo_last hx hb hKo hO hS (Or.inr (Or.inl rfl)) dL_taker_9 (fun H2 locs f1 hO hq2 hS => ?_)
    have hP := fl_kept hP hq2 (fun k hk => by (first | ((try clear hq2); (try clear hO); (try clear f1); (try clear H2); (try clear hP9); (try clear hz9); (try clear hcl9); (try clear hcv9); (try clear hce9); (try clear hpx9); (try clear q9); (try clear ce9); (try clear E9); (try clear htab); (try clear hsz); (try clear s₁); omega) | omega))
    clear hq2
    generalize H2 = H at hP hO hS ⊢
    refine lv_goto (tgt := 17) hx hb dL_taker_10 (by decide) ?_
    refine lv_iconst (v := iZ 0) hx hb dL_taker_17 rfl ?_
    exact W.iret (v := (iZ 0)) hx hb hr (fun t8 ht8 hW8 => ⟨⟨(iZ 0), (u9.1, f1), rfl, hw9.2, by rw [ht8]; exact hP, by rw [ht8]; exact hO⟩, hS.F ht8⟩) hS.2.2 dL_taker_18
set_option maxHeartbeats 4000000 in
set_option maxRecDepth 100000 in
theorem w_unlike (l : Launch) (hfl : l.stackTraces = false) (dC : Nat → ClassId) (dI : Nat → Nat → Nat) (cI cZ cII cIII cO : ClassId) (h0 o0 sz : Nat) (μ : va_M) (f : Nat → Int64) (nd : Int) (T : List Tk) (hI : CI T μ) (h_nd : inR nd) (ho : h0 + 233 ≤ o0) : Met l yL_unlike (Cond.codeWith yL_unlike cL_unlike 4 (some .int) [(0, 9, 12, 20)] :: wsG) ({ frames := 9, cells := 1, slots := 6, locals := 212 } : Room) (va_Pc [.ref h0, .int (iZ (nd)), .ref o0] (fun U => U.heap.size = sz ∧ va_P (dC, dI) vwCl (fw (sE cI cZ cII cIII h0) h0 233 μ) U.heap ∧ va_P (dC, dI) vwCl [(o0, .inl (cO, 1, .inr (.inl f)))] U.heap ∧ va_K (dC, dI) vwCl (sT cI cZ cII cIII) U ∧ va_K (dC, dI) vwCl [(cO, .long)] U ∧ xM U ∧ xX (wA h0 o0 sz) U ∧ xNC U)) (va_Qi (fun (r9 : Int32) (u : va_M × (Nat → Int64)) => CI T u.1 ∧ SZ μ u.1) (fun u t => va_P (dC, dI) vwCl (fw (sE cI cZ cII cIII h0) h0 233 u.1) t.heap ∧ va_P (dC, dI) vwCl [(o0, .inl (cO, 1, .inr (.inl u.2)))] t.heap) (wA h0 o0 sz)) 1 6 (wA h0 o0 sz) := by
  refine va_MetW (hh := [(0, 9, 12, 20)]) (cc := cL_unlike) (maxL := 4) (ret := (some .int)) (by decide) rfl ?_
  intro p e s m args below meth c s₁ B hml hv
  obtain ⟨rfl, hsz, hP, hO, hK, hKo, hM, hEx, hNc⟩ := hv
  have hx := B.exec
  have hb := B.bytes
  have hr := B.returns
  have hts : ∀ w ∈ wsG, w.before _ s = true := fun w hw => atoms_spec (ws := (Cond.codeWith yL_unlike cL_unlike 4 (some .int) [(0, 9, 12, 20)] :: wsG)) B.pre w (List.mem_cons_of_mem _ hw)
  have htab := vx_table (x := yL_unlike) B (atoms_spec (ws := (Cond.codeWith yL_unlike cL_unlike 4 (some .int) [(0, 9, 12, 20)] :: wsG)) B.pre _ List.mem_cons_self)
  have hown : s.vm.findClass RL = some m.cls := findClass_of_methodNamed B.named
  have hlocks := B.notSynchronized
  subst hsz
  have hS : va_S (wA h0 o0 s.heap.size) s.heap s.heap [] := va_S.rf
  have hl := lv_entry ([.ref h0, .int (iZ (nd)), .ref o0]) (n := 4) (Nat.le_of_ble_eq_true rfl)
  rw [lg_entry_eq]
  generalize (lg_sl ([.ref h0, .int (iZ (nd)), .ref o0]) ++ List.replicate (4 - (lg_sl ([.ref h0, .int (iZ (nd)), .ref o0])).length) Slot.unset).toArray = ls at hl ⊢
  have hl : lv_has ls 4 [(0, .ref h0), (1, .int (iZ (nd))), (2, .ref o0)] := hl
  refine lv_aload_n hx hb dL_unlike_0 rfl (lv_at hl 2 rfl) ?_
  refine lv_iconst (v := iZ 0) hx hb dL_unlike_1 rfl ?_
  refine lv_aload_n hx hb dL_unlike_2 rfl (lv_at hl 0 rfl) ?_
  refine lv_iload_n hx hb dL_unlike_3 rfl (lv_at hl 1 rfl) ?_
  refine vx_calli (vx_runV (As := [.int (iZ (nd))]) (rest := [.int (iZ 0), .ref o0]) ⟨hx, hb, hml, hown, hts⟩ (q_unlike l hfl dC dI cI cZ cII cIII h0 s.heap.size μ nd T hI h_nd) (cwV 1 hts (gV_G k1004 k1005 k1006 k1 k1007) rfl rfl rfl (by decide +kernel) ⟨Nat.le_of_ble_eq_true rfl, Nat.le_of_ble_eq_true rfl⟩) ⟨fun a U g mk q => by obtain ⟨q0, q1, qP, qK, qM, qE⟩ := q; exact ⟨q0, q1, qP, va_K.moved (u := U) (U := U.calling g mk a) (Vm.Alike.refl U.vm) qK, qM, xX_call qE⟩, va_recv hK hP (ci := 9) (q0 := 0) rfl ((fw_get (by decide)).trans (by rw [sE_0]; rfl)), fun U hU hW => ⟨rfl, by rw [hU], by rw [hU]; exact hP, va_K.moved hW.alike hK, xM_warm hW hM, xX_at hEx hS (fA_w (Nat.le_refl _)) hU hW⟩⟩ rfl rfl hl.1 rfl (lv_room (Nat.le_of_ble_eq_true rfl)) dL_unlike_4 ⟨Nat.le_of_ble_eq_true rfl, Nat.le_of_ble_eq_true rfl⟩) hS (fun q _ h => fA_w (Nat.le_refl _) q h) (fA_w (Nat.le_refl _)) (fun q _ h => fA_w (Nat.le_refl _) q h) (fun E9 ce9 q9 u9 t9 H1 locs ht9 hvm9 hpx9 hBX9 hz9 hk9 hS hce9 hcv9 hcl9 => ?_) (fun r9 u9 t9 H1 locs ht9 hvm9 hw9 hB9 hz9 hk9 hS => ?_)
  · obtain ⟨hE9, hP9, -⟩ := hBX9
    rw [ht9] at hP9
    have hO := one_kept hO hk9 (fun h => by have := one_lt hO; rcases h with h | h <;> (first | ((try clear hO); (try clear hP9); (try clear hE9); (try clear hz9); (try clear hcl9); (try clear hcv9); (try clear hce9); (try clear hpx9); (try clear q9); (try clear ce9); (try clear E9); (try clear htab); (try clear hsz); (try clear s₁); omega) | omega))
    have hP := hP9
    clear hP9 hk9
    simp only [List.mem_cons, List.not_mem_nil, or_false] at hE9
    subst hE9
    refine vx_catch (name := "java/util/NoSuchElementException") hown [] ⟨0, 9, 12, 20⟩ [] htab (fun z hz => by simp at hz) (by decide) (by decide) (hts _ k730) (va_Nw.use rfl (hEx.2.1 _ (by decide +kernel))) hce9 hcv9 hcl9 ?_
    clear hce9
    generalize H1 = H at hP hO hS ⊢
    refine W.widen (k := 1) (n := 6) (by (first | ((try clear hO); (try clear hP9); (try clear hE9); (try clear hz9); (try clear hcl9); (try clear hcv9); (try clear hce9); (try clear hpx9); (try clear q9); (try clear ce9); (try clear E9); (try clear htab); (try clear hsz); (try clear s₁); (try clear ho); omega) | omega)) (by (first | ((try clear hO); (try clear hP9); (try clear hE9); (try clear hz9); (try clear hcl9); (try clear hcv9); (try clear hce9); (try clear hpx9); (try clear q9); (try clear ce9); (try clear E9); (try clear htab); (try clear hsz); (try clear s₁); (try clear ho); omega) | omega)) ?_
    refine lv_astore_n (lv' := [(3, .ref q9), (0, .ref h0), (1, .int (iZ (nd))), (2, .ref o0)]) hx hb dL_unlike_12 rfl hl (by decide) rfl (fun ls hl => ?_)
    refine lv_iconst (v := iZ 1) hx hb dL_unlike_13 rfl ?_
    exact W.iret (v := (iZ 1)) hx hb hr (fun t8 ht8 hW8 => ⟨⟨(iZ 1), (u9, f), rfl, hpx9, by rw [ht8]; exact hP, by rw [ht8]; exact hO⟩, hS.F ht8⟩) hS.2.2 dL_unlike_14
  · obtain ⟨hP9, -⟩ := hB9
    rw [ht9] at hP9
    have hO := one_kept hO hk9 (fun h => by have := one_lt hO; rcases h with h | h <;> (first | ((try clear hO); (try clear hP9); (try clear hz9); (try clear hcl9); (try clear hcv9); (try clear hce9); (try clear hpx9); (try clear q9); (try clear ce9); (try clear E9); (try clear htab); (try clear hsz); (try clear s₁); omega) | omega))
    have hP := hP9
    clear hP9 hk9
    generalize H1 = H at hP hO hS ⊢
    refine W.widen (k := 1) (n := 6) (by (first | ((try clear hO); (try clear hP9); (try clear hz9); (try clear hcl9); (try clear hcv9); (try clear hce9); (try clear hpx9); (try clear q9); (try clear ce9); (try clear E9); (try clear htab); (try clear hsz); (try clear s₁); (try clear ho); omega) | omega)) (by (first | ((try clear hO); (try clear hP9); (try clear hz9); (try clear hcl9); (try clear hcv9); (try clear hce9); (try clear hpx9); (try clear q9); (try clear ce9); (try clear E9); (try clear htab); (try clear hsz); (try clear s₁); (try clear ho); omega) | omega)) ?_
    refine lv_i2l (v := r9.toInt64) hx hb dL_unlike_7 rfl ?_
    refine wo_last hx hb hKo hO hS (Or.inr (Or.inl rfl)) dL_unlike_8 (fun H2 locs f1 hO hq2 hS => ?_)
    have hP := fl_kept hP hq2 (fun k hk => by (first | ((try clear hq2); (try clear hO); (try clear f1); (try clear H2); (try clear hP9); (try clear hz9); (try clear hcl9); (try clear hcv9); (try clear hce9); (try clear hpx9); (try clear q9); (try clear ce9); (try clear E9); (try clear htab); (try clear hsz); (try clear s₁); omega) | omega))
    clear hq2
    generalize H2 = H at hP hO hS ⊢
    refine lv_goto (tgt := 15) hx hb dL_unlike_9 (by decide) ?_
    refine lv_iconst (v := iZ 0) hx hb dL_unlike_15 rfl ?_
    exact W.iret (v := (iZ 0)) hx hb hr (fun t8 ht8 hW8 => ⟨⟨(iZ 0), (u9.1, f1), rfl, hw9.2, by rw [ht8]; exact hP, by rw [ht8]; exact hO⟩, hS.F ht8⟩) hS.2.2 dL_unlike_16
set_option maxHeartbeats 4000000 in
set_option maxRecDepth 100000 in
theorem w_would (l : Launch) (hfl : l.stackTraces = false) (dC : Nat → ClassId) (dI : Nat → Nat → Nat) (cI cZ cII cIII cO : ClassId) (h0 o0 sz : Nat) (μ : va_M) (f : Nat → Int64) (pg : Int) (wh : Int) (T : List Tk) (hI : CI T μ) (h_pg : inR pg) (h_wh : inR wh) (ho : h0 + 233 ≤ o0) : Met l yL_would (Cond.codeWith yL_would cL_would 5 (some .int) [(0, 10, 13, 20), (0, 10, 17, 13)] :: wsG) ({ frames := 9, cells := 1, slots := 6, locals := 185 } : Room) (va_Pc [.ref h0, .int (iZ (pg)), .int (iZ (wh)), .ref o0] (fun U => U.heap.size = sz ∧ va_P (dC, dI) vwCl (fw (sE cI cZ cII cIII h0) h0 233 μ) U.heap ∧ va_P (dC, dI) vwCl [(o0, .inl (cO, 1, .inr (.inl f)))] U.heap ∧ va_K (dC, dI) vwCl (sT cI cZ cII cIII) U ∧ va_K (dC, dI) vwCl [(cO, .long)] U ∧ xM U ∧ xX (wA h0 o0 sz) U ∧ xNC U)) (va_Qi (fun (r9 : Int32) (u : va_M × (Nat → Int64)) => CI T u.1 ∧ SZ μ u.1) (fun u t => va_P (dC, dI) vwCl (fw (sE cI cZ cII cIII h0) h0 233 u.1) t.heap ∧ va_P (dC, dI) vwCl [(o0, .inl (cO, 1, .inr (.inl u.2)))] t.heap) (wA h0 o0 sz)) 1 6 (wA h0 o0 sz) := by
  refine va_MetW (hh := [(0, 10, 13, 20), (0, 10, 17, 13)]) (cc := cL_would) (maxL := 5) (ret := (some .int)) (by decide) rfl ?_
  intro p e s m args below meth c s₁ B hml hv
  obtain ⟨rfl, hsz, hP, hO, hK, hKo, hM, hEx, hNc⟩ := hv
  have hx := B.exec
  have hb := B.bytes
  have hr := B.returns
  have hts : ∀ w ∈ wsG, w.before _ s = true := fun w hw => atoms_spec (ws := (Cond.codeWith yL_would cL_would 5 (some .int) [(0, 10, 13, 20), (0, 10, 17, 13)] :: wsG)) B.pre w (List.mem_cons_of_mem _ hw)
  have htab := vx_table (x := yL_would) B (atoms_spec (ws := (Cond.codeWith yL_would cL_would 5 (some .int) [(0, 10, 13, 20), (0, 10, 17, 13)] :: wsG)) B.pre _ List.mem_cons_self)
  have hown : s.vm.findClass RL = some m.cls := findClass_of_methodNamed B.named
  have hlocks := B.notSynchronized
  subst hsz
  have hS : va_S (wA h0 o0 s.heap.size) s.heap s.heap [] := va_S.rf
  have hl := lv_entry ([.ref h0, .int (iZ (pg)), .int (iZ (wh)), .ref o0]) (n := 5) (Nat.le_of_ble_eq_true rfl)
  rw [lg_entry_eq]
  generalize (lg_sl ([.ref h0, .int (iZ (pg)), .int (iZ (wh)), .ref o0]) ++ List.replicate (5 - (lg_sl ([.ref h0, .int (iZ (pg)), .int (iZ (wh)), .ref o0])).length) Slot.unset).toArray = ls at hl ⊢
  have hl : lv_has ls 5 [(0, .ref h0), (1, .int (iZ (pg))), (2, .int (iZ (wh))), (3, .ref o0)] := hl
  refine lv_aload_n hx hb dL_would_0 rfl (lv_at hl 3 rfl) ?_
  refine lv_iconst (v := iZ 0) hx hb dL_would_1 rfl ?_
  refine lv_aload_n hx hb dL_would_2 rfl (lv_at hl 0 rfl) ?_
  refine lv_iload_n hx hb dL_would_3 rfl (lv_at hl 1 rfl) ?_
  refine lv_iload_n hx hb dL_would_4 rfl (lv_at hl 2 rfl) ?_
  refine vx_calli (vx_runV (As := [.int (iZ (pg)), .int (iZ (wh))]) (rest := [.int (iZ 0), .ref o0]) ⟨hx, hb, hml, hown, hts⟩ (q_would l hfl dC dI cI cZ cII cIII h0 s.heap.size μ pg wh T hI h_pg h_wh) (cwV 2 hts (gV_G k1015 k1016 k1017 k1 k1018) rfl rfl rfl (by decide +kernel) ⟨Nat.le_of_ble_eq_true rfl, Nat.le_of_ble_eq_true rfl⟩) ⟨fun a U g mk q => by obtain ⟨q0, q1, qP, qK, qM, qE⟩ := q; exact ⟨q0, q1, qP, va_K.moved (u := U) (U := U.calling g mk a) (Vm.Alike.refl U.vm) qK, qM, xX_call qE⟩, va_recv hK hP (ci := 9) (q0 := 0) rfl ((fw_get (by decide)).trans (by rw [sE_0]; rfl)), fun U hU hW => ⟨rfl, by rw [hU], by rw [hU]; exact hP, va_K.moved hW.alike hK, xM_warm hW hM, xX_at hEx hS (fA_w (Nat.le_refl _)) hU hW⟩⟩ rfl rfl hl.1 rfl (lv_room (Nat.le_of_ble_eq_true rfl)) dL_would_5 ⟨Nat.le_of_ble_eq_true rfl, Nat.le_of_ble_eq_true rfl⟩) hS (fun q _ h => fA_w (Nat.le_refl _) q h) (fA_w (Nat.le_refl _)) (fun q _ h => fA_w (Nat.le_refl _) q h) (fun E9 ce9 q9 u9 t9 H1 locs ht9 hvm9 hpx9 hBX9 hz9 hk9 hS hce9 hcv9 hcl9 => ?_) (fun r9 u9 t9 H1 locs ht9 hvm9 hw9 hB9 hz9 hk9 hS => ?_)
  · obtain ⟨hE9, hP9, -⟩ := hBX9
    rw [ht9] at hP9
    have hO := one_kept hO hk9 (fun h => by have := one_lt hO; rcases h with h | h <;> (first | ((try clear hO); (try clear hP9); (try clear hE9); (try clear hz9); (try clear hcl9); (try clear hcv9); (try clear hce9); (try clear hpx9); (try clear q9); (try clear ce9); (try clear E9); (try clear htab); (try clear hsz); (try clear s₁); omega) | omega))
    have hP := hP9
    clear hP9 hk9
    simp only [List.mem_cons, List.not_mem_nil, or_false] at hE9
    rcases hE9 with rfl | rfl
    · refine vx_catch (name := "java/util/NoSuchElementException") hown [] ⟨0, 10, 13, 20⟩ [⟨0, 10, 17, 13⟩] htab (fun z hz => by simp at hz) (by decide) (by decide) (hts _ k730) (va_Nw.use rfl (hEx.2.1 _ (by decide +kernel))) hce9 hcv9 hcl9 ?_
      clear hce9
      generalize H1 = H at hP hO hS ⊢
      refine W.widen (k := 1) (n := 6) (by (first | ((try clear hO); (try clear hP9); (try clear hE9); (try clear hz9); (try clear hcl9); (try clear hcv9); (try clear hce9); (try clear hpx9); (try clear q9); (try clear ce9); (try clear E9); (try clear htab); (try clear hsz); (try clear s₁); (try clear ho); omega) | omega)) (by (first | ((try clear hO); (try clear hP9); (try clear hE9); (try clear hz9); (try clear hcl9); (try clear hcv9); (try clear hce9); (try clear hpx9); (try clear q9); (try clear ce9); (try clear E9); (try clear htab); (try clear hsz); (try clear s₁); (try clear ho); omega) | omega)) ?_
      refine lv_astore (lv' := [(4, .ref q9), (0, .ref h0), (1, .int (iZ (pg))), (2, .int (iZ (wh))), (3, .ref o0)]) hx hb dL_would_13 hl (by decide) rfl (fun ls hl => ?_)
      refine lv_iconst (v := iZ 1) hx hb dL_would_15 rfl ?_
      exact W.iret (v := (iZ 1)) hx hb hr (fun t8 ht8 hW8 => ⟨⟨(iZ 1), (u9, f), rfl, hpx9, by rw [ht8]; exact hP, by rw [ht8]; exact hO⟩, hS.F ht8⟩) hS.2.2 dL_would_16
    · refine vx_catch (name := "java/lang/IllegalArgumentException") hown [⟨0, 10, 13, 20⟩] ⟨0, 10, 17, 13⟩ [] htab (fun z hz => by rw [List.mem_singleton.mp hz]; exact Or.inr ⟨by decide, "java/util/NoSuchElementException", hts _ k730, hNc.2.2⟩) (by decide) (by decide) (hts _ k590) (va_Nw.use rfl (hEx.2.1 _ (by decide +kernel))) hce9 hcv9 hcl9 ?_
      clear hce9
      generalize H1 = H at hP hO hS ⊢
      refine W.widen (k := 1) (n := 6) (by (first | ((try clear hO); (try clear hP9); (try clear hE9); (try clear hz9); (try clear hcl9); (try clear hcv9); (try clear hce9); (try clear hpx9); (try clear q9); (try clear ce9); (try clear E9); (try clear htab); (try clear hsz); (try clear s₁); (try clear ho); omega) | omega)) (by (first | ((try clear hO); (try clear hP9); (try clear hE9); (try clear hz9); (try clear hcl9); (try clear hcv9); (try clear hce9); (try clear hpx9); (try clear q9); (try clear ce9); (try clear E9); (try clear htab); (try clear hsz); (try clear s₁); (try clear ho); omega) | omega)) ?_
      refine lv_astore (lv' := [(4, .ref q9), (0, .ref h0), (1, .int (iZ (pg))), (2, .int (iZ (wh))), (3, .ref o0)]) hx hb dL_would_17 hl (by decide) rfl (fun ls hl => ?_)
      refine lv_iconst (v := iZ 2) hx hb dL_would_19 rfl ?_
      exact W.iret (v := (iZ 2)) hx hb hr (fun t8 ht8 hW8 => ⟨⟨(iZ 2), (u9, f), rfl, hpx9, by rw [ht8]; exact hP, by rw [ht8]; exact hO⟩, hS.F ht8⟩) hS.2.2 dL_would_20
  · obtain ⟨hP9, -⟩ := hB9
    rw [ht9] at hP9
    have hO := one_kept hO hk9 (fun h => by have := one_lt hO; rcases h with h | h <;> (first | ((try clear hO); (try clear hP9); (try clear hz9); (try clear hcl9); (try clear hcv9); (try clear hce9); (try clear hpx9); (try clear q9); (try clear ce9); (try clear E9); (try clear htab); (try clear hsz); (try clear s₁); omega) | omega))
    have hP := hP9
    clear hP9 hk9
    generalize H1 = H at hP hO hS ⊢
    refine W.widen (k := 1) (n := 6) (by (first | ((try clear hO); (try clear hP9); (try clear hz9); (try clear hcl9); (try clear hcv9); (try clear hce9); (try clear hpx9); (try clear q9); (try clear ce9); (try clear E9); (try clear htab); (try clear hsz); (try clear s₁); (try clear ho); omega) | omega)) (by (first | ((try clear hO); (try clear hP9); (try clear hz9); (try clear hcl9); (try clear hcv9); (try clear hce9); (try clear hpx9); (try clear q9); (try clear ce9); (try clear E9); (try clear htab); (try clear hsz); (try clear s₁); (try clear ho); omega) | omega)) ?_
    refine lv_i2l (v := r9.toInt64) hx hb dL_would_8 rfl ?_
    refine wo_last hx hb hKo hO hS (Or.inr (Or.inl rfl)) dL_would_9 (fun H2 locs f1 hO hq2 hS => ?_)
    have hP := fl_kept hP hq2 (fun k hk => by (first | ((try clear hq2); (try clear hO); (try clear f1); (try clear H2); (try clear hP9); (try clear hz9); (try clear hcl9); (try clear hcv9); (try clear hce9); (try clear hpx9); (try clear q9); (try clear ce9); (try clear E9); (try clear htab); (try clear hsz); (try clear s₁); omega) | omega))
    clear hq2
    generalize H2 = H at hP hO hS ⊢
    refine lv_goto (tgt := 21) hx hb dL_would_10 (by decide) ?_
    refine lv_iconst (v := iZ 0) hx hb dL_would_21 rfl ?_
    exact W.iret (v := (iZ 0)) hx hb hr (fun t8 ht8 hW8 => ⟨⟨(iZ 0), (u9.1, f1), rfl, hw9.2, by rw [ht8]; exact hP, by rw [ht8]; exact hO⟩, hS.F ht8⟩) hS.2.2 dL_would_22
set_option maxHeartbeats 4000000 in
set_option maxRecDepth 100000 in
theorem w_distance (l : Launch) (hfl : l.stackTraces = false) (dC : Nat → ClassId) (dI : Nat → Nat → Nat) (cI cZ cII cIII cO : ClassId) (h0 o0 sz : Nat) (μ : va_M) (f : Nat → Int64) (pg : Int) (ot : Int) (T : List Tk) (hI : CI T μ) (h_pg : inR pg) (h_ot : inR ot) (ho : h0 + 233 ≤ o0) : Met l yL_distance (Cond.codeWith yL_distance cL_distance 5 (some .int) [(0, 10, 13, 20)] :: wsG) ({ frames := 9, cells := 1, slots := 6, locals := 183 } : Room) (va_Pc [.ref h0, .int (iZ (pg)), .int (iZ (ot)), .ref o0] (fun U => U.heap.size = sz ∧ va_P (dC, dI) vwCl (fw (sE cI cZ cII cIII h0) h0 233 μ) U.heap ∧ va_P (dC, dI) vwCl [(o0, .inl (cO, 1, .inr (.inl f)))] U.heap ∧ va_K (dC, dI) vwCl (sT cI cZ cII cIII) U ∧ va_K (dC, dI) vwCl [(cO, .long)] U ∧ xM U ∧ xX (wA h0 o0 sz) U ∧ xNC U)) (va_Qi (fun (r9 : Int32) (u : va_M × (Nat → Int64)) => CI T u.1 ∧ SZ μ u.1) (fun u t => va_P (dC, dI) vwCl (fw (sE cI cZ cII cIII h0) h0 233 u.1) t.heap ∧ va_P (dC, dI) vwCl [(o0, .inl (cO, 1, .inr (.inl u.2)))] t.heap) (wA h0 o0 sz)) 1 6 (wA h0 o0 sz) := by
  refine va_MetW (hh := [(0, 10, 13, 20)]) (cc := cL_distance) (maxL := 5) (ret := (some .int)) (by decide) rfl ?_
  intro p e s m args below meth c s₁ B hml hv
  obtain ⟨rfl, hsz, hP, hO, hK, hKo, hM, hEx, hNc⟩ := hv
  have hx := B.exec
  have hb := B.bytes
  have hr := B.returns
  have hts : ∀ w ∈ wsG, w.before _ s = true := fun w hw => atoms_spec (ws := (Cond.codeWith yL_distance cL_distance 5 (some .int) [(0, 10, 13, 20)] :: wsG)) B.pre w (List.mem_cons_of_mem _ hw)
  have htab := vx_table (x := yL_distance) B (atoms_spec (ws := (Cond.codeWith yL_distance cL_distance 5 (some .int) [(0, 10, 13, 20)] :: wsG)) B.pre _ List.mem_cons_self)
  have hown : s.vm.findClass RL = some m.cls := findClass_of_methodNamed B.named
  have hlocks := B.notSynchronized
  subst hsz
  have hS : va_S (wA h0 o0 s.heap.size) s.heap s.heap [] := va_S.rf
  have hl := lv_entry ([.ref h0, .int (iZ (pg)), .int (iZ (ot)), .ref o0]) (n := 5) (Nat.le_of_ble_eq_true rfl)
  rw [lg_entry_eq]
  generalize (lg_sl ([.ref h0, .int (iZ (pg)), .int (iZ (ot)), .ref o0]) ++ List.replicate (5 - (lg_sl ([.ref h0, .int (iZ (pg)), .int (iZ (ot)), .ref o0])).length) Slot.unset).toArray = ls at hl ⊢
  have hl : lv_has ls 5 [(0, .ref h0), (1, .int (iZ (pg))), (2, .int (iZ (ot))), (3, .ref o0)] := hl
  refine lv_aload_n hx hb dL_distance_0 rfl (lv_at hl 3 rfl) ?_
  refine lv_iconst (v := iZ 0) hx hb dL_distance_1 rfl ?_
  refine lv_aload_n hx hb dL_distance_2 rfl (lv_at hl 0 rfl) ?_
  refine lv_iload_n hx hb dL_distance_3 rfl (lv_at hl 1 rfl) ?_
  refine lv_iload_n hx hb dL_distance_4 rfl (lv_at hl 2 rfl) ?_
  refine vx_calli (vx_runV (As := [.int (iZ (pg)), .int (iZ (ot))]) (rest := [.int (iZ 0), .ref o0]) ⟨hx, hb, hml, hown, hts⟩ (q_distance l hfl dC dI cI cZ cII cIII h0 s.heap.size μ pg ot T hI h_pg h_ot) (cwV 2 hts (gV_G k1022 k1023 k1024 k1 k1025) rfl rfl rfl (by decide +kernel) ⟨Nat.le_of_ble_eq_true rfl, Nat.le_of_ble_eq_true rfl⟩) ⟨fun a U g mk q => by obtain ⟨q0, q1, qP, qK, qM, qE⟩ := q; exact ⟨q0, q1, qP, va_K.moved (u := U) (U := U.calling g mk a) (Vm.Alike.refl U.vm) qK, qM, xX_call qE⟩, va_recv hK hP (ci := 9) (q0 := 0) rfl ((fw_get (by decide)).trans (by rw [sE_0]; rfl)), fun U hU hW => ⟨rfl, by rw [hU], by rw [hU]; exact hP, va_K.moved hW.alike hK, xM_warm hW hM, xX_at hEx hS (fA_w (Nat.le_refl _)) hU hW⟩⟩ rfl rfl hl.1 rfl (lv_room (Nat.le_of_ble_eq_true rfl)) dL_distance_5 ⟨Nat.le_of_ble_eq_true rfl, Nat.le_of_ble_eq_true rfl⟩) hS (fun q _ h => fA_w (Nat.le_refl _) q h) (fA_w (Nat.le_refl _)) (fun q _ h => fA_w (Nat.le_refl _) q h) (fun E9 ce9 q9 u9 t9 H1 locs ht9 hvm9 hpx9 hBX9 hz9 hk9 hS hce9 hcv9 hcl9 => ?_) (fun r9 u9 t9 H1 locs ht9 hvm9 hw9 hB9 hz9 hk9 hS => ?_)
  · obtain ⟨hE9, hP9, -⟩ := hBX9
    rw [ht9] at hP9
    have hO := one_kept hO hk9 (fun h => by have := one_lt hO; rcases h with h | h <;> (first | ((try clear hO); (try clear hP9); (try clear hE9); (try clear hz9); (try clear hcl9); (try clear hcv9); (try clear hce9); (try clear hpx9); (try clear q9); (try clear ce9); (try clear E9); (try clear htab); (try clear hsz); (try clear s₁); omega) | omega))
    have hP := hP9
    clear hP9 hk9
    simp only [List.mem_cons, List.not_mem_nil, or_false] at hE9
    subst hE9
    refine vx_catch (name := "java/util/NoSuchElementException") hown [] ⟨0, 10, 13, 20⟩ [] htab (fun z hz => by simp at hz) (by decide) (by decide) (hts _ k730) (va_Nw.use rfl (hEx.2.1 _ (by decide +kernel))) hce9 hcv9 hcl9 ?_
    clear hce9
    generalize H1 = H at hP hO hS ⊢
    refine W.widen (k := 1) (n := 6) (by (first | ((try clear hO); (try clear hP9); (try clear hE9); (try clear hz9); (try clear hcl9); (try clear hcv9); (try clear hce9); (try clear hpx9); (try clear q9); (try clear ce9); (try clear E9); (try clear htab); (try clear hsz); (try clear s₁); (try clear ho); omega) | omega)) (by (first | ((try clear hO); (try clear hP9); (try clear hE9); (try clear hz9); (try clear hcl9); (try clear hcv9); (try clear hce9); (try clear hpx9); (try clear q9); (try clear ce9); (try clear E9); (try clear htab); (try clear hsz); (try clear s₁); (try clear ho); omega) | omega)) ?_
    refine lv_astore (lv' := [(4, .ref q9), (0, .ref h0), (1, .int (iZ (pg))), (2, .int (iZ (ot))), (3, .ref o0)]) hx hb dL_distance_13 hl (by decide) rfl (fun ls hl => ?_)
    refine lv_iconst (v := iZ 1) hx hb dL_distance_15 rfl ?_
    exact W.iret (v := (iZ 1)) hx hb hr (fun t8 ht8 hW8 => ⟨⟨(iZ 1), (u9, f), rfl, hpx9, by rw [ht8]; exact hP, by rw [ht8]; exact hO⟩, hS.F ht8⟩) hS.2.2 dL_distance_16
  · obtain ⟨hP9, -⟩ := hB9
    rw [ht9] at hP9
    have hO := one_kept hO hk9 (fun h => by have := one_lt hO; rcases h with h | h <;> (first | ((try clear hO); (try clear hP9); (try clear hz9); (try clear hcl9); (try clear hcv9); (try clear hce9); (try clear hpx9); (try clear q9); (try clear ce9); (try clear E9); (try clear htab); (try clear hsz); (try clear s₁); omega) | omega))
    have hP := hP9
    clear hP9 hk9
    generalize H1 = H at hP hO hS ⊢
    refine W.widen (k := 1) (n := 6) (by (first | ((try clear hO); (try clear hP9); (try clear hz9); (try clear hcl9); (try clear hcv9); (try clear hce9); (try clear hpx9); (try clear q9); (try clear ce9); (try clear E9); (try clear htab); (try clear hsz); (try clear s₁); (try clear ho); omega) | omega)) (by (first | ((try clear hO); (try clear hP9); (try clear hz9); (try clear hcl9); (try clear hcv9); (try clear hce9); (try clear hpx9); (try clear q9); (try clear ce9); (try clear E9); (try clear htab); (try clear hsz); (try clear s₁); (try clear ho); omega) | omega)) ?_
    refine lv_i2l (v := r9.toInt64) hx hb dL_distance_8 rfl ?_
    refine wo_last hx hb hKo hO hS (Or.inr (Or.inl rfl)) dL_distance_9 (fun H2 locs f1 hO hq2 hS => ?_)
    have hP := fl_kept hP hq2 (fun k hk => by (first | ((try clear hq2); (try clear hO); (try clear f1); (try clear H2); (try clear hP9); (try clear hz9); (try clear hcl9); (try clear hcv9); (try clear hce9); (try clear hpx9); (try clear q9); (try clear ce9); (try clear E9); (try clear htab); (try clear hsz); (try clear s₁); omega) | omega))
    clear hq2
    generalize H2 = H at hP hO hS ⊢
    refine lv_goto (tgt := 17) hx hb dL_distance_10 (by decide) ?_
    refine lv_iconst (v := iZ 0) hx hb dL_distance_17 rfl ?_
    exact W.iret (v := (iZ 0)) hx hb hr (fun t8 ht8 hW8 => ⟨⟨(iZ 0), (u9.1, f1), rfl, hw9.2, by rw [ht8]; exact hP, by rw [ht8]; exact hO⟩, hS.F ht8⟩) hS.2.2 dL_distance_18
set_option maxHeartbeats 4000000 in
set_option maxRecDepth 100000 in
theorem w_nearest (l : Launch) (hfl : l.stackTraces = false) (dC : Nat → ClassId) (dI : Nat → Nat → Nat) (cI cZ cII cIII cO : ClassId) (h0 o0 sz : Nat) (μ : va_M) (f : Nat → Int64) (pg : Int) (T : List Tk) (hI : CI T μ) (h_pg : inR pg) (ho : h0 + 233 ≤ o0) : Met l yL_nearest (Cond.codeWith yL_nearest cL_nearest 4 (some .int) [(0, 9, 12, 20)] :: wsG) ({ frames := 9, cells := 1, slots := 6, locals := 186 } : Room) (va_Pc [.ref h0, .int (iZ (pg)), .ref o0] (fun U => U.heap.size = sz ∧ va_P (dC, dI) vwCl (fw (sE cI cZ cII cIII h0) h0 233 μ) U.heap ∧ va_P (dC, dI) vwCl [(o0, .inl (cO, 1, .inr (.inl f)))] U.heap ∧ va_K (dC, dI) vwCl (sT cI cZ cII cIII) U ∧ va_K (dC, dI) vwCl [(cO, .long)] U ∧ xM U ∧ xX (wA h0 o0 sz) U ∧ xNC U)) (va_Qi (fun (r9 : Int32) (u : va_M × (Nat → Int64)) => CI T u.1 ∧ SZ μ u.1) (fun u t => va_P (dC, dI) vwCl (fw (sE cI cZ cII cIII h0) h0 233 u.1) t.heap ∧ va_P (dC, dI) vwCl [(o0, .inl (cO, 1, .inr (.inl u.2)))] t.heap) (wA h0 o0 sz)) 1 6 (wA h0 o0 sz) := by
  refine va_MetW (hh := [(0, 9, 12, 20)]) (cc := cL_nearest) (maxL := 4) (ret := (some .int)) (by decide) rfl ?_
  intro p e s m args below meth c s₁ B hml hv
  obtain ⟨rfl, hsz, hP, hO, hK, hKo, hM, hEx, hNc⟩ := hv
  have hx := B.exec
  have hb := B.bytes
  have hr := B.returns
  have hts : ∀ w ∈ wsG, w.before _ s = true := fun w hw => atoms_spec (ws := (Cond.codeWith yL_nearest cL_nearest 4 (some .int) [(0, 9, 12, 20)] :: wsG)) B.pre w (List.mem_cons_of_mem _ hw)
  have htab := vx_table (x := yL_nearest) B (atoms_spec (ws := (Cond.codeWith yL_nearest cL_nearest 4 (some .int) [(0, 9, 12, 20)] :: wsG)) B.pre _ List.mem_cons_self)
  have hown : s.vm.findClass RL = some m.cls := findClass_of_methodNamed B.named
  have hlocks := B.notSynchronized
  subst hsz
  have hS : va_S (wA h0 o0 s.heap.size) s.heap s.heap [] := va_S.rf
  have hl := lv_entry ([.ref h0, .int (iZ (pg)), .ref o0]) (n := 4) (Nat.le_of_ble_eq_true rfl)
  rw [lg_entry_eq]
  generalize (lg_sl ([.ref h0, .int (iZ (pg)), .ref o0]) ++ List.replicate (4 - (lg_sl ([.ref h0, .int (iZ (pg)), .ref o0])).length) Slot.unset).toArray = ls at hl ⊢
  have hl : lv_has ls 4 [(0, .ref h0), (1, .int (iZ (pg))), (2, .ref o0)] := hl
  refine lv_aload_n hx hb dL_nearest_0 rfl (lv_at hl 2 rfl) ?_
  refine lv_iconst (v := iZ 0) hx hb dL_nearest_1 rfl ?_
  refine lv_aload_n hx hb dL_nearest_2 rfl (lv_at hl 0 rfl) ?_
  refine lv_iload_n hx hb dL_nearest_3 rfl (lv_at hl 1 rfl) ?_
  refine vx_calli (vx_runV (As := [.int (iZ (pg))]) (rest := [.int (iZ 0), .ref o0]) ⟨hx, hb, hml, hown, hts⟩ (q_nearest l hfl dC dI cI cZ cII cIII h0 s.heap.size μ pg T hI h_pg) (cwV 1 hts (gV_G k1033 k1034 k1035 k1 k1036) rfl rfl rfl (by decide +kernel) ⟨Nat.le_of_ble_eq_true rfl, Nat.le_of_ble_eq_true rfl⟩) ⟨fun a U g mk q => by obtain ⟨q0, q1, qP, qK, qM, qE⟩ := q; exact ⟨q0, q1, qP, va_K.moved (u := U) (U := U.calling g mk a) (Vm.Alike.refl U.vm) qK, qM, xX_call qE⟩, va_recv hK hP (ci := 9) (q0 := 0) rfl ((fw_get (by decide)).trans (by rw [sE_0]; rfl)), fun U hU hW => ⟨rfl, by rw [hU], by rw [hU]; exact hP, va_K.moved hW.alike hK, xM_warm hW hM, xX_at hEx hS (fA_w (Nat.le_refl _)) hU hW⟩⟩ rfl rfl hl.1 rfl (lv_room (Nat.le_of_ble_eq_true rfl)) dL_nearest_4 ⟨Nat.le_of_ble_eq_true rfl, Nat.le_of_ble_eq_true rfl⟩) hS (fun q _ h => fA_w (Nat.le_refl _) q h) (fA_w (Nat.le_refl _)) (fun q _ h => fA_w (Nat.le_refl _) q h) (fun E9 ce9 q9 u9 t9 H1 locs ht9 hvm9 hpx9 hBX9 hz9 hk9 hS hce9 hcv9 hcl9 => ?_) (fun r9 u9 t9 H1 locs ht9 hvm9 hw9 hB9 hz9 hk9 hS => ?_)
  · obtain ⟨hE9, hP9, -⟩ := hBX9
    rw [ht9] at hP9
    have hO := one_kept hO hk9 (fun h => by have := one_lt hO; rcases h with h | h <;> (first | ((try clear hO); (try clear hP9); (try clear hE9); (try clear hz9); (try clear hcl9); (try clear hcv9); (try clear hce9); (try clear hpx9); (try clear q9); (try clear ce9); (try clear E9); (try clear htab); (try clear hsz); (try clear s₁); omega) | omega))
    have hP := hP9
    clear hP9 hk9
    simp only [List.mem_cons, List.not_mem_nil, or_false] at hE9
    subst hE9
    refine vx_catch (name := "java/util/NoSuchElementException") hown [] ⟨0, 9, 12, 20⟩ [] htab (fun z hz => by simp at hz) (by decide) (by decide) (hts _ k730) (va_Nw.use rfl (hEx.2.1 _ (by decide +kernel))) hce9 hcv9 hcl9 ?_
    clear hce9
    generalize H1 = H at hP hO hS ⊢
    refine W.widen (k := 1) (n := 6) (by (first | ((try clear hO); (try clear hP9); (try clear hE9); (try clear hz9); (try clear hcl9); (try clear hcv9); (try clear hce9); (try clear hpx9); (try clear q9); (try clear ce9); (try clear E9); (try clear htab); (try clear hsz); (try clear s₁); (try clear ho); omega) | omega)) (by (first | ((try clear hO); (try clear hP9); (try clear hE9); (try clear hz9); (try clear hcl9); (try clear hcv9); (try clear hce9); (try clear hpx9); (try clear q9); (try clear ce9); (try clear E9); (try clear htab); (try clear hsz); (try clear s₁); (try clear ho); omega) | omega)) ?_
    refine lv_astore_n (lv' := [(3, .ref q9), (0, .ref h0), (1, .int (iZ (pg))), (2, .ref o0)]) hx hb dL_nearest_12 rfl hl (by decide) rfl (fun ls hl => ?_)
    refine lv_iconst (v := iZ 1) hx hb dL_nearest_13 rfl ?_
    exact W.iret (v := (iZ 1)) hx hb hr (fun t8 ht8 hW8 => ⟨⟨(iZ 1), (u9, f), rfl, hpx9, by rw [ht8]; exact hP, by rw [ht8]; exact hO⟩, hS.F ht8⟩) hS.2.2 dL_nearest_14
  · obtain ⟨hP9, -⟩ := hB9
    rw [ht9] at hP9
    have hO := one_kept hO hk9 (fun h => by have := one_lt hO; rcases h with h | h <;> (first | ((try clear hO); (try clear hP9); (try clear hz9); (try clear hcl9); (try clear hcv9); (try clear hce9); (try clear hpx9); (try clear q9); (try clear ce9); (try clear E9); (try clear htab); (try clear hsz); (try clear s₁); omega) | omega))
    have hP := hP9
    clear hP9 hk9
    generalize H1 = H at hP hO hS ⊢
    refine W.widen (k := 1) (n := 6) (by (first | ((try clear hO); (try clear hP9); (try clear hz9); (try clear hcl9); (try clear hcv9); (try clear hce9); (try clear hpx9); (try clear q9); (try clear ce9); (try clear E9); (try clear htab); (try clear hsz); (try clear s₁); (try clear ho); omega) | omega)) (by (first | ((try clear hO); (try clear hP9); (try clear hz9); (try clear hcl9); (try clear hcv9); (try clear hce9); (try clear hpx9); (try clear q9); (try clear ce9); (try clear E9); (try clear htab); (try clear hsz); (try clear s₁); (try clear ho); omega) | omega)) ?_
    refine lv_i2l (v := r9.toInt64) hx hb dL_nearest_7 rfl ?_
    refine wo_last hx hb hKo hO hS (Or.inr (Or.inl rfl)) dL_nearest_8 (fun H2 locs f1 hO hq2 hS => ?_)
    have hP := fl_kept hP hq2 (fun k hk => by (first | ((try clear hq2); (try clear hO); (try clear f1); (try clear H2); (try clear hP9); (try clear hz9); (try clear hcl9); (try clear hcv9); (try clear hce9); (try clear hpx9); (try clear q9); (try clear ce9); (try clear E9); (try clear htab); (try clear hsz); (try clear s₁); omega) | omega))
    clear hq2
    generalize H2 = H at hP hO hS ⊢
    refine lv_goto (tgt := 15) hx hb dL_nearest_9 (by decide) ?_
    refine lv_iconst (v := iZ 0) hx hb dL_nearest_15 rfl ?_
    exact W.iret (v := (iZ 0)) hx hb hr (fun t8 ht8 hW8 => ⟨⟨(iZ 0), (u9.1, f1), rfl, hw9.2, by rw [ht8]; exact hP, by rw [ht8]; exact hO⟩, hS.F ht8⟩) hS.2.2 dL_nearest_16
set_option maxHeartbeats 4000000 in
set_option maxRecDepth 100000 in
theorem w_orders (l : Launch) (hfl : l.stackTraces = false) (dC : Nat → ClassId) (dI : Nat → Nat → Nat) (cI cZ cII cIII cO : ClassId) (h0 o0 sz : Nat) (μ : va_M) (f : Nat → Int64) (wh : Int) (T : List Tk) (hI : CI T μ) (h_wh : inR wh) (ho : h0 + 233 ≤ o0) : Met l yL_orders (Cond.codeWith yL_orders cL_orders 4 (some .int) [(0, 9, 12, 13), (0, 9, 15, 15)] :: wsG) ({ frames := 9, cells := 1, slots := 6, locals := 211 } : Room) (va_Pc [.ref h0, .int (iZ (wh)), .ref o0] (fun U => U.heap.size = sz ∧ va_P (dC, dI) vwCl (fw (sE cI cZ cII cIII h0) h0 233 μ) U.heap ∧ va_P (dC, dI) vwCl [(o0, .inl (cO, 1, .inr (.inl f)))] U.heap ∧ va_K (dC, dI) vwCl (sT cI cZ cII cIII) U ∧ va_K (dC, dI) vwCl [(cO, .long)] U ∧ xM U ∧ xX (wA h0 o0 sz) U ∧ xNC U)) (va_Qi (fun (r9 : Int32) (u : va_M × (Nat → Int64)) => CI T u.1 ∧ SZ μ u.1) (fun u t => va_P (dC, dI) vwCl (fw (sE cI cZ cII cIII h0) h0 233 u.1) t.heap ∧ va_P (dC, dI) vwCl [(o0, .inl (cO, 1, .inr (.inl u.2)))] t.heap) (wA h0 o0 sz)) 1 6 (wA h0 o0 sz) := by
  refine va_MetW (hh := [(0, 9, 12, 13), (0, 9, 15, 15)]) (cc := cL_orders) (maxL := 4) (ret := (some .int)) (by decide) rfl ?_
  intro p e s m args below meth c s₁ B hml hv
  obtain ⟨rfl, hsz, hP, hO, hK, hKo, hM, hEx, hNc⟩ := hv
  have hx := B.exec
  have hb := B.bytes
  have hr := B.returns
  have hts : ∀ w ∈ wsG, w.before _ s = true := fun w hw => atoms_spec (ws := (Cond.codeWith yL_orders cL_orders 4 (some .int) [(0, 9, 12, 13), (0, 9, 15, 15)] :: wsG)) B.pre w (List.mem_cons_of_mem _ hw)
  have htab := vx_table (x := yL_orders) B (atoms_spec (ws := (Cond.codeWith yL_orders cL_orders 4 (some .int) [(0, 9, 12, 13), (0, 9, 15, 15)] :: wsG)) B.pre _ List.mem_cons_self)
  have hown : s.vm.findClass RL = some m.cls := findClass_of_methodNamed B.named
  have hlocks := B.notSynchronized
  subst hsz
  have hS : va_S (wA h0 o0 s.heap.size) s.heap s.heap [] := va_S.rf
  have hl := lv_entry ([.ref h0, .int (iZ (wh)), .ref o0]) (n := 4) (Nat.le_of_ble_eq_true rfl)
  rw [lg_entry_eq]
  generalize (lg_sl ([.ref h0, .int (iZ (wh)), .ref o0]) ++ List.replicate (4 - (lg_sl ([.ref h0, .int (iZ (wh)), .ref o0])).length) Slot.unset).toArray = ls at hl ⊢
  have hl : lv_has ls 4 [(0, .ref h0), (1, .int (iZ (wh))), (2, .ref o0)] := hl
  refine lv_aload_n hx hb dL_orders_0 rfl (lv_at hl 2 rfl) ?_
  refine lv_iconst (v := iZ 0) hx hb dL_orders_1 rfl ?_
  refine lv_aload_n hx hb dL_orders_2 rfl (lv_at hl 0 rfl) ?_
  refine lv_iload_n hx hb dL_orders_3 rfl (lv_at hl 1 rfl) ?_
  refine vx_calli (vx_runV (As := [.int (iZ (wh))]) (rest := [.int (iZ 0), .ref o0]) ⟨hx, hb, hml, hown, hts⟩ (q_orders l hfl dC dI cI cZ cII cIII h0 s.heap.size μ wh T hI h_wh) (cwV 1 hts (gV_G k1041 k1042 k1043 k1 k1044) rfl rfl rfl (by decide +kernel) ⟨Nat.le_of_ble_eq_true rfl, Nat.le_of_ble_eq_true rfl⟩) ⟨fun a U g mk q => by obtain ⟨q0, q1, qP, qK, qM, qE⟩ := q; exact ⟨q0, q1, qP, va_K.moved (u := U) (U := U.calling g mk a) (Vm.Alike.refl U.vm) qK, qM, xX_call qE⟩, va_recv hK hP (ci := 9) (q0 := 0) rfl ((fw_get (by decide)).trans (by rw [sE_0]; rfl)), fun U hU hW => ⟨rfl, by rw [hU], by rw [hU]; exact hP, va_K.moved hW.alike hK, xM_warm hW hM, xX_at hEx hS (fA_w (Nat.le_refl _)) hU hW⟩⟩ rfl rfl hl.1 rfl (lv_room (Nat.le_of_ble_eq_true rfl)) dL_orders_4 ⟨Nat.le_of_ble_eq_true rfl, Nat.le_of_ble_eq_true rfl⟩) hS (fun q _ h => fA_w (Nat.le_refl _) q h) (fA_w (Nat.le_refl _)) (fun q _ h => fA_w (Nat.le_refl _) q h) (fun E9 ce9 q9 u9 t9 H1 locs ht9 hvm9 hpx9 hBX9 hz9 hk9 hS hce9 hcv9 hcl9 => ?_) (fun r9 u9 t9 H1 locs ht9 hvm9 hw9 hB9 hz9 hk9 hS => ?_)
  · obtain ⟨hE9, hP9, -⟩ := hBX9
    rw [ht9] at hP9
    have hO := one_kept hO hk9 (fun h => by have := one_lt hO; rcases h with h | h <;> (first | ((try clear hO); (try clear hP9); (try clear hE9); (try clear hz9); (try clear hcl9); (try clear hcv9); (try clear hce9); (try clear hpx9); (try clear q9); (try clear ce9); (try clear E9); (try clear htab); (try clear hsz); (try clear s₁); omega) | omega))
    have hP := hP9
    clear hP9 hk9
    simp only [List.mem_cons, List.not_mem_nil, or_false] at hE9
    rcases hE9 with rfl | rfl
    · refine vx_catch (name := "java/lang/IllegalArgumentException") hown [] ⟨0, 9, 12, 13⟩ [⟨0, 9, 15, 15⟩] htab (fun z hz => by simp at hz) (by decide) (by decide) (hts _ k590) (va_Nw.use rfl (hEx.2.1 _ (by decide +kernel))) hce9 hcv9 hcl9 ?_
      clear hce9
      generalize H1 = H at hP hO hS ⊢
      refine W.widen (k := 1) (n := 6) (by (first | ((try clear hO); (try clear hP9); (try clear hE9); (try clear hz9); (try clear hcl9); (try clear hcv9); (try clear hce9); (try clear hpx9); (try clear q9); (try clear ce9); (try clear E9); (try clear htab); (try clear hsz); (try clear s₁); (try clear ho); omega) | omega)) (by (first | ((try clear hO); (try clear hP9); (try clear hE9); (try clear hz9); (try clear hcl9); (try clear hcv9); (try clear hce9); (try clear hpx9); (try clear q9); (try clear ce9); (try clear E9); (try clear htab); (try clear hsz); (try clear s₁); (try clear ho); omega) | omega)) ?_
      refine lv_astore_n (lv' := [(3, .ref q9), (0, .ref h0), (1, .int (iZ (wh))), (2, .ref o0)]) hx hb dL_orders_12 rfl hl (by decide) rfl (fun ls hl => ?_)
      refine lv_iconst (v := iZ 1) hx hb dL_orders_13 rfl ?_
      exact W.iret (v := (iZ 1)) hx hb hr (fun t8 ht8 hW8 => ⟨⟨(iZ 1), (u9, f), rfl, hpx9, by rw [ht8]; exact hP, by rw [ht8]; exact hO⟩, hS.F ht8⟩) hS.2.2 dL_orders_14
    · refine vx_catch (name := "java/lang/IllegalStateException") hown [⟨0, 9, 12, 13⟩] ⟨0, 9, 15, 15⟩ [] htab (fun z hz => by rw [List.mem_singleton.mp hz]; exact Or.inr ⟨by decide, "java/lang/IllegalArgumentException", hts _ k590, hNc.1⟩) (by decide) (by decide) (hts _ k591) (va_Nw.use rfl (hEx.2.1 _ (by decide +kernel))) hce9 hcv9 hcl9 ?_
      clear hce9
      generalize H1 = H at hP hO hS ⊢
      refine W.widen (k := 1) (n := 6) (by (first | ((try clear hO); (try clear hP9); (try clear hE9); (try clear hz9); (try clear hcl9); (try clear hcv9); (try clear hce9); (try clear hpx9); (try clear q9); (try clear ce9); (try clear E9); (try clear htab); (try clear hsz); (try clear s₁); (try clear ho); omega) | omega)) (by (first | ((try clear hO); (try clear hP9); (try clear hE9); (try clear hz9); (try clear hcl9); (try clear hcv9); (try clear hce9); (try clear hpx9); (try clear q9); (try clear ce9); (try clear E9); (try clear htab); (try clear hsz); (try clear s₁); (try clear ho); omega) | omega)) ?_
      refine lv_astore_n (lv' := [(3, .ref q9), (0, .ref h0), (1, .int (iZ (wh))), (2, .ref o0)]) hx hb dL_orders_15 rfl hl (by decide) rfl (fun ls hl => ?_)
      refine lv_iconst (v := iZ 2) hx hb dL_orders_16 rfl ?_
      exact W.iret (v := (iZ 2)) hx hb hr (fun t8 ht8 hW8 => ⟨⟨(iZ 2), (u9, f), rfl, hpx9, by rw [ht8]; exact hP, by rw [ht8]; exact hO⟩, hS.F ht8⟩) hS.2.2 dL_orders_17
  · obtain ⟨hP9, -⟩ := hB9
    rw [ht9] at hP9
    have hO := one_kept hO hk9 (fun h => by have := one_lt hO; rcases h with h | h <;> (first | ((try clear hO); (try clear hP9); (try clear hz9); (try clear hcl9); (try clear hcv9); (try clear hce9); (try clear hpx9); (try clear q9); (try clear ce9); (try clear E9); (try clear htab); (try clear hsz); (try clear s₁); omega) | omega))
    have hP := hP9
    clear hP9 hk9
    generalize H1 = H at hP hO hS ⊢
    refine W.widen (k := 1) (n := 6) (by (first | ((try clear hO); (try clear hP9); (try clear hz9); (try clear hcl9); (try clear hcv9); (try clear hce9); (try clear hpx9); (try clear q9); (try clear ce9); (try clear E9); (try clear htab); (try clear hsz); (try clear s₁); (try clear ho); omega) | omega)) (by (first | ((try clear hO); (try clear hP9); (try clear hz9); (try clear hcl9); (try clear hcv9); (try clear hce9); (try clear hpx9); (try clear q9); (try clear ce9); (try clear E9); (try clear htab); (try clear hsz); (try clear s₁); (try clear ho); omega) | omega)) ?_
    refine lv_i2l (v := r9.toInt64) hx hb dL_orders_7 rfl ?_
    refine wo_last hx hb hKo hO hS (Or.inr (Or.inl rfl)) dL_orders_8 (fun H2 locs f1 hO hq2 hS => ?_)
    have hP := fl_kept hP hq2 (fun k hk => by (first | ((try clear hq2); (try clear hO); (try clear f1); (try clear H2); (try clear hP9); (try clear hz9); (try clear hcl9); (try clear hcv9); (try clear hce9); (try clear hpx9); (try clear q9); (try clear ce9); (try clear E9); (try clear htab); (try clear hsz); (try clear s₁); omega) | omega))
    clear hq2
    generalize H2 = H at hP hO hS ⊢
    refine lv_goto (tgt := 18) hx hb dL_orders_9 (by decide) ?_
    refine lv_iconst (v := iZ 0) hx hb dL_orders_18 rfl ?_
    exact W.iret (v := (iZ 0)) hx hb hr (fun t8 ht8 hW8 => ⟨⟨(iZ 0), (u9.1, f1), rfl, hw9.2, by rw [ht8]; exact hP, by rw [ht8]; exact hO⟩, hS.F ht8⟩) hS.2.2 dL_orders_19
set_option maxHeartbeats 4000000 in
set_option maxRecDepth 100000 in
theorem w_firm (l : Launch) (hfl : l.stackTraces = false) (dC : Nat → ClassId) (dI : Nat → Nat → Nat) (cI cZ cII cIII cO : ClassId) (h0 o0 sz : Nat) (μ : va_M) (f : Nat → Int64) (wh : Int) (T : List Tk) (hI : CI T μ) (h_wh : inR wh) (ho : h0 + 233 ≤ o0) : Met l yL_firm (Cond.codeWith yL_firm cL_firm 4 (some .int) [(0, 9, 12, 13)] :: wsG) ({ frames := 8, cells := 1, slots := 6, locals := 131 } : Room) (va_Pc [.ref h0, .int (iZ (wh)), .ref o0] (fun U => U.heap.size = sz ∧ va_P (dC, dI) vwCl (fw (sE cI cZ cII cIII h0) h0 233 μ) U.heap ∧ va_P (dC, dI) vwCl [(o0, .inl (cO, 1, .inr (.inl f)))] U.heap ∧ va_K (dC, dI) vwCl (sT cI cZ cII cIII) U ∧ va_K (dC, dI) vwCl [(cO, .long)] U ∧ xM U ∧ xX (wA h0 o0 sz) U ∧ xNC U)) (va_Qi (fun (r9 : Int32) (u : va_M × (Nat → Int64)) => CI T u.1 ∧ SZ μ u.1) (fun u t => va_P (dC, dI) vwCl (fw (sE cI cZ cII cIII h0) h0 233 u.1) t.heap ∧ va_P (dC, dI) vwCl [(o0, .inl (cO, 1, .inr (.inl u.2)))] t.heap) (wA h0 o0 sz)) 1 6 (wA h0 o0 sz) := by
  refine va_MetW (hh := [(0, 9, 12, 13)]) (cc := cL_firm) (maxL := 4) (ret := (some .int)) (by decide) rfl ?_
  intro p e s m args below meth c s₁ B hml hv
  obtain ⟨rfl, hsz, hP, hO, hK, hKo, hM, hEx, hNc⟩ := hv
  have hx := B.exec
  have hb := B.bytes
  have hr := B.returns
  have hts : ∀ w ∈ wsG, w.before _ s = true := fun w hw => atoms_spec (ws := (Cond.codeWith yL_firm cL_firm 4 (some .int) [(0, 9, 12, 13)] :: wsG)) B.pre w (List.mem_cons_of_mem _ hw)
  have htab := vx_table (x := yL_firm) B (atoms_spec (ws := (Cond.codeWith yL_firm cL_firm 4 (some .int) [(0, 9, 12, 13)] :: wsG)) B.pre _ List.mem_cons_self)
  have hown : s.vm.findClass RL = some m.cls := findClass_of_methodNamed B.named
  have hlocks := B.notSynchronized
  subst hsz
  have hS : va_S (wA h0 o0 s.heap.size) s.heap s.heap [] := va_S.rf
  have hl := lv_entry ([.ref h0, .int (iZ (wh)), .ref o0]) (n := 4) (Nat.le_of_ble_eq_true rfl)
  rw [lg_entry_eq]
  generalize (lg_sl ([.ref h0, .int (iZ (wh)), .ref o0]) ++ List.replicate (4 - (lg_sl ([.ref h0, .int (iZ (wh)), .ref o0])).length) Slot.unset).toArray = ls at hl ⊢
  have hl : lv_has ls 4 [(0, .ref h0), (1, .int (iZ (wh))), (2, .ref o0)] := hl
  refine lv_aload_n hx hb dL_firm_0 rfl (lv_at hl 2 rfl) ?_
  refine lv_iconst (v := iZ 0) hx hb dL_firm_1 rfl ?_
  refine lv_aload_n hx hb dL_firm_2 rfl (lv_at hl 0 rfl) ?_
  refine lv_iload_n hx hb dL_firm_3 rfl (lv_at hl 1 rfl) ?_
  refine vx_calli (vx_runV (As := [.int (iZ (wh))]) (rest := [.int (iZ 0), .ref o0]) ⟨hx, hb, hml, hown, hts⟩ (q_firm l hfl dC dI cI cZ cII cIII h0 s.heap.size μ wh T hI h_wh) (cwV 1 hts (gV_G k1088 k1089 k1090 k1 k1091) rfl rfl rfl (by decide +kernel) ⟨Nat.le_of_ble_eq_true rfl, Nat.le_of_ble_eq_true rfl⟩) ⟨fun a U g mk q => by obtain ⟨q0, q1, qP, qK, qM, qE⟩ := q; exact ⟨q0, q1, qP, va_K.moved (u := U) (U := U.calling g mk a) (Vm.Alike.refl U.vm) qK, qM, xX_call qE⟩, va_recv hK hP (ci := 9) (q0 := 0) rfl ((fw_get (by decide)).trans (by rw [sE_0]; rfl)), fun U hU hW => ⟨rfl, by rw [hU], by rw [hU]; exact hP, va_K.moved hW.alike hK, xM_warm hW hM, xX_at hEx hS (fA_w (Nat.le_refl _)) hU hW⟩⟩ rfl rfl hl.1 rfl (lv_room (Nat.le_of_ble_eq_true rfl)) dL_firm_4 ⟨Nat.le_of_ble_eq_true rfl, Nat.le_of_ble_eq_true rfl⟩) hS (fun q _ h => fA_w (Nat.le_refl _) q h) (fA_w (Nat.le_refl _)) (fun q _ h => fA_w (Nat.le_refl _) q h) (fun E9 ce9 q9 u9 t9 H1 locs ht9 hvm9 hpx9 hBX9 hz9 hk9 hS hce9 hcv9 hcl9 => ?_) (fun r9 u9 t9 H1 locs ht9 hvm9 hw9 hB9 hz9 hk9 hS => ?_)
  · obtain ⟨hE9, hP9, -⟩ := hBX9
    rw [ht9] at hP9
    have hO := one_kept hO hk9 (fun h => by have := one_lt hO; rcases h with h | h <;> (first | ((try clear hO); (try clear hP9); (try clear hE9); (try clear hz9); (try clear hcl9); (try clear hcv9); (try clear hce9); (try clear hpx9); (try clear q9); (try clear ce9); (try clear E9); (try clear htab); (try clear hsz); (try clear s₁); omega) | omega))
    have hP := hP9
    clear hP9 hk9
    simp only [List.mem_cons, List.not_mem_nil, or_false] at hE9
    subst hE9
    refine vx_catch (name := "java/lang/IllegalArgumentException") hown [] ⟨0, 9, 12, 13⟩ [] htab (fun z hz => by simp at hz) (by decide) (by decide) (hts _ k590) (va_Nw.use rfl (hEx.2.1 _ (by decide +kernel))) hce9 hcv9 hcl9 ?_
    clear hce9
    generalize H1 = H at hP hO hS ⊢
    refine W.widen (k := 1) (n := 6) (by (first | ((try clear hO); (try clear hP9); (try clear hE9); (try clear hz9); (try clear hcl9); (try clear hcv9); (try clear hce9); (try clear hpx9); (try clear q9); (try clear ce9); (try clear E9); (try clear htab); (try clear hsz); (try clear s₁); (try clear ho); omega) | omega)) (by (first | ((try clear hO); (try clear hP9); (try clear hE9); (try clear hz9); (try clear hcl9); (try clear hcv9); (try clear hce9); (try clear hpx9); (try clear q9); (try clear ce9); (try clear E9); (try clear htab); (try clear hsz); (try clear s₁); (try clear ho); omega) | omega)) ?_
    refine lv_astore_n (lv' := [(3, .ref q9), (0, .ref h0), (1, .int (iZ (wh))), (2, .ref o0)]) hx hb dL_firm_12 rfl hl (by decide) rfl (fun ls hl => ?_)
    refine lv_iconst (v := iZ 1) hx hb dL_firm_13 rfl ?_
    exact W.iret (v := (iZ 1)) hx hb hr (fun t8 ht8 hW8 => ⟨⟨(iZ 1), (u9, f), rfl, hpx9, by rw [ht8]; exact hP, by rw [ht8]; exact hO⟩, hS.F ht8⟩) hS.2.2 dL_firm_14
  · obtain ⟨hP9, -⟩ := hB9
    rw [ht9] at hP9
    have hO := one_kept hO hk9 (fun h => by have := one_lt hO; rcases h with h | h <;> (first | ((try clear hO); (try clear hP9); (try clear hz9); (try clear hcl9); (try clear hcv9); (try clear hce9); (try clear hpx9); (try clear q9); (try clear ce9); (try clear E9); (try clear htab); (try clear hsz); (try clear s₁); omega) | omega))
    have hP := hP9
    clear hP9 hk9
    generalize H1 = H at hP hO hS ⊢
    refine W.widen (k := 1) (n := 6) (by (first | ((try clear hO); (try clear hP9); (try clear hz9); (try clear hcl9); (try clear hcv9); (try clear hce9); (try clear hpx9); (try clear q9); (try clear ce9); (try clear E9); (try clear htab); (try clear hsz); (try clear s₁); (try clear ho); omega) | omega)) (by (first | ((try clear hO); (try clear hP9); (try clear hz9); (try clear hcl9); (try clear hcv9); (try clear hce9); (try clear hpx9); (try clear q9); (try clear ce9); (try clear E9); (try clear htab); (try clear hsz); (try clear s₁); (try clear ho); omega) | omega)) ?_
    refine lv_i2l (v := r9.toInt64) hx hb dL_firm_7 rfl ?_
    refine wo_last hx hb hKo hO hS (Or.inr (Or.inl rfl)) dL_firm_8 (fun H2 locs f1 hO hq2 hS => ?_)
    have hP := fl_kept hP hq2 (fun k hk => by (first | ((try clear hq2); (try clear hO); (try clear f1); (try clear H2); (try clear hP9); (try clear hz9); (try clear hcl9); (try clear hcv9); (try clear hce9); (try clear hpx9); (try clear q9); (try clear ce9); (try clear E9); (try clear htab); (try clear hsz); (try clear s₁); omega) | omega))
    clear hq2
    generalize H2 = H at hP hO hS ⊢
    refine lv_goto (tgt := 15) hx hb dL_firm_9 (by decide) ?_
    refine lv_iconst (v := iZ 0) hx hb dL_firm_15 rfl ?_
    exact W.iret (v := (iZ 0)) hx hb hr (fun t8 ht8 hW8 => ⟨⟨(iZ 0), (u9.1, f1), rfl, hw9.2, by rw [ht8]; exact hP, by rw [ht8]; exact hO⟩, hS.F ht8⟩) hS.2.2 dL_firm_16
set_option maxHeartbeats 4000000 in
set_option maxRecDepth 100000 in
theorem w_alike (l : Launch) (hfl : l.stackTraces = false) (dC : Nat → ClassId) (dI : Nat → Nat → Nat) (cI cZ cII cIII cO : ClassId) (h0 o0 sz : Nat) (μ : va_M) (f : Nat → Int64) (nd : Int) (ne : Int) (T : List Tk) (hI : CI T μ) (h_nd : inR nd) (h_ne : inR ne) (ho : h0 + 233 ≤ o0) : Met l yL_alike (Cond.codeWith yL_alike cL_alike 5 (some .int) [(0, 17, 20, 20)] :: wsG) ({ frames := 9, cells := 1, slots := 6, locals := 157 } : Room) (va_Pc [.ref h0, .int (iZ (nd)), .int (iZ (ne)), .ref o0] (fun U => U.heap.size = sz ∧ va_P (dC, dI) vwCl (fw (sE cI cZ cII cIII h0) h0 233 μ) U.heap ∧ va_P (dC, dI) vwCl [(o0, .inl (cO, 1, .inr (.inl f)))] U.heap ∧ va_K (dC, dI) vwCl (sT cI cZ cII cIII) U ∧ va_K (dC, dI) vwCl [(cO, .long)] U ∧ xM U ∧ xX (wA h0 o0 sz) U ∧ xNC U)) (va_Qi (fun (r9 : Int32) (u : va_M × (Nat → Int64)) => CI T u.1 ∧ SZ μ u.1) (fun u t => va_P (dC, dI) vwCl (fw (sE cI cZ cII cIII h0) h0 233 u.1) t.heap ∧ va_P (dC, dI) vwCl [(o0, .inl (cO, 1, .inr (.inl u.2)))] t.heap) (wA h0 o0 sz)) 1 6 (wA h0 o0 sz) := by
  refine va_MetW (hh := [(0, 17, 20, 20)]) (cc := cL_alike) (maxL := 5) (ret := (some .int)) (by decide) rfl ?_
  intro p e s m args below meth c s₁ B hml hv
  obtain ⟨rfl, hsz, hP, hO, hK, hKo, hM, hEx, hNc⟩ := hv
  have hx := B.exec
  have hb := B.bytes
  have hr := B.returns
  have hts : ∀ w ∈ wsG, w.before _ s = true := fun w hw => atoms_spec (ws := (Cond.codeWith yL_alike cL_alike 5 (some .int) [(0, 17, 20, 20)] :: wsG)) B.pre w (List.mem_cons_of_mem _ hw)
  have htab := vx_table (x := yL_alike) B (atoms_spec (ws := (Cond.codeWith yL_alike cL_alike 5 (some .int) [(0, 17, 20, 20)] :: wsG)) B.pre _ List.mem_cons_self)
  have hown : s.vm.findClass RL = some m.cls := findClass_of_methodNamed B.named
  have hlocks := B.notSynchronized
  subst hsz
  have hS : va_S (wA h0 o0 s.heap.size) s.heap s.heap [] := va_S.rf
  have hl := lv_entry ([.ref h0, .int (iZ (nd)), .int (iZ (ne)), .ref o0]) (n := 5) (Nat.le_of_ble_eq_true rfl)
  rw [lg_entry_eq]
  generalize (lg_sl ([.ref h0, .int (iZ (nd)), .int (iZ (ne)), .ref o0]) ++ List.replicate (5 - (lg_sl ([.ref h0, .int (iZ (nd)), .int (iZ (ne)), .ref o0])).length) Slot.unset).toArray = ls at hl ⊢
  have hl : lv_has ls 5 [(0, .ref h0), (1, .int (iZ (nd))), (2, .int (iZ (ne))), (3, .ref o0)] := hl
  refine lv_aload_n hx hb dL_alike_0 rfl (lv_at hl 3 rfl) ?_
  refine lv_iconst (v := iZ 0) hx hb dL_alike_1 rfl ?_
  refine lv_aload_n hx hb dL_alike_2 rfl (lv_at hl 0 rfl) ?_
  refine lv_iload_n hx hb dL_alike_3 rfl (lv_at hl 1 rfl) ?_
  refine lv_iload_n hx hb dL_alike_4 rfl (lv_at hl 2 rfl) ?_
  refine vx_calli (vx_runV (As := [.int (iZ (nd)), .int (iZ (ne))]) (rest := [.int (iZ 0), .ref o0]) ⟨hx, hb, hml, hown, hts⟩ (q_alike l hfl dC dI cI cZ cII cIII h0 s.heap.size μ nd ne T hI h_nd h_ne) (cwV 2 hts (gV_G k1095 k1096 k1097 k1 k1098) rfl rfl rfl (by decide +kernel) ⟨Nat.le_of_ble_eq_true rfl, Nat.le_of_ble_eq_true rfl⟩) ⟨fun a U g mk q => by obtain ⟨q0, q1, qP, qK, qM, qE⟩ := q; exact ⟨q0, q1, qP, va_K.moved (u := U) (U := U.calling g mk a) (Vm.Alike.refl U.vm) qK, qM, xX_call qE⟩, va_recv hK hP (ci := 9) (q0 := 0) rfl ((fw_get (by decide)).trans (by rw [sE_0]; rfl)), fun U hU hW => ⟨rfl, by rw [hU], by rw [hU]; exact hP, va_K.moved hW.alike hK, xM_warm hW hM, xX_at hEx hS (fA_w (Nat.le_refl _)) hU hW⟩⟩ rfl rfl hl.1 rfl (lv_room (Nat.le_of_ble_eq_true rfl)) dL_alike_5 ⟨Nat.le_of_ble_eq_true rfl, Nat.le_of_ble_eq_true rfl⟩) hS (fun q _ h => fA_w (Nat.le_refl _) q h) (fA_w (Nat.le_refl _)) (fun q _ h => fA_w (Nat.le_refl _) q h) (fun E9 ce9 q9 u9 t9 H1 locs ht9 hvm9 hpx9 hBX9 hz9 hk9 hS hce9 hcv9 hcl9 => ?_) (fun r9 u9 t9 H1 locs ht9 hvm9 hw9 hB9 hz9 hk9 hS => ?_)
  · obtain ⟨hE9, hP9, -⟩ := hBX9
    rw [ht9] at hP9
    have hO := one_kept hO hk9 (fun h => by have := one_lt hO; rcases h with h | h <;> (first | ((try clear hO); (try clear hP9); (try clear hE9); (try clear hz9); (try clear hcl9); (try clear hcv9); (try clear hce9); (try clear hpx9); (try clear q9); (try clear ce9); (try clear E9); (try clear htab); (try clear hsz); (try clear s₁); omega) | omega))
    have hP := hP9
    clear hP9 hk9
    simp only [List.mem_cons, List.not_mem_nil, or_false] at hE9
    subst hE9
    refine vx_catch (name := "java/util/NoSuchElementException") hown [] ⟨0, 17, 20, 20⟩ [] htab (fun z hz => by simp at hz) (by decide) (by decide) (hts _ k730) (va_Nw.use rfl (hEx.2.1 _ (by decide +kernel))) hce9 hcv9 hcl9 ?_
    clear hce9
    generalize H1 = H at hP hO hS ⊢
    refine W.widen (k := 1) (n := 6) (by (first | ((try clear hO); (try clear hP9); (try clear hE9); (try clear hz9); (try clear hcl9); (try clear hcv9); (try clear hce9); (try clear hpx9); (try clear q9); (try clear ce9); (try clear E9); (try clear htab); (try clear hsz); (try clear s₁); (try clear ho); omega) | omega)) (by (first | ((try clear hO); (try clear hP9); (try clear hE9); (try clear hz9); (try clear hcl9); (try clear hcv9); (try clear hce9); (try clear hpx9); (try clear q9); (try clear ce9); (try clear E9); (try clear htab); (try clear hsz); (try clear s₁); (try clear ho); omega) | omega)) ?_
    refine lv_astore (lv' := [(4, .ref q9), (0, .ref h0), (1, .int (iZ (nd))), (2, .int (iZ (ne))), (3, .ref o0)]) hx hb dL_alike_20 hl (by decide) rfl (fun ls hl => ?_)
    refine lv_iconst (v := iZ 1) hx hb dL_alike_22 rfl ?_
    exact W.iret (v := (iZ 1)) hx hb hr (fun t8 ht8 hW8 => ⟨⟨(iZ 1), (u9, f), rfl, hpx9, by rw [ht8]; exact hP, by rw [ht8]; exact hO⟩, hS.F ht8⟩) hS.2.2 dL_alike_23
  · obtain ⟨hP9, -⟩ := hB9
    rw [ht9] at hP9
    have hO := one_kept hO hk9 (fun h => by have := one_lt hO; rcases h with h | h <;> (first | ((try clear hO); (try clear hP9); (try clear hz9); (try clear hcl9); (try clear hcv9); (try clear hce9); (try clear hpx9); (try clear q9); (try clear ce9); (try clear E9); (try clear htab); (try clear hsz); (try clear s₁); omega) | omega))
    have hP := hP9
    clear hP9 hk9
    generalize H1 = H at hP hO hS ⊢
    refine W.widen (k := 1) (n := 6) (by (first | ((try clear hO); (try clear hP9); (try clear hz9); (try clear hcl9); (try clear hcv9); (try clear hce9); (try clear hpx9); (try clear q9); (try clear ce9); (try clear E9); (try clear htab); (try clear hsz); (try clear s₁); (try clear ho); omega) | omega)) (by (first | ((try clear hO); (try clear hP9); (try clear hz9); (try clear hcl9); (try clear hcv9); (try clear hce9); (try clear hpx9); (try clear q9); (try clear ce9); (try clear E9); (try clear htab); (try clear hsz); (try clear s₁); (try clear ho); omega) | omega)) ?_
    refine lv_if_eq (tgt := 15) hx hb dL_alike_8 (by decide) (fun c9_ => ?_) (fun c9_ => ?_)
    · refine lv_lconst (v := 0) hx hb dL_alike_15 rfl ?_
      refine wo_last hx hb hKo hO hS (Or.inr (Or.inl rfl)) dL_alike_16 (fun H2 locs f1 hO hq2 hS => ?_)
      have hP := fl_kept hP hq2 (fun k hk => by (first | ((try clear hq2); (try clear hO); (try clear f1); (try clear H2); (try clear c9_); (try clear hP9); (try clear hz9); (try clear hcl9); (try clear hcv9); (try clear hce9); (try clear hpx9); (try clear q9); (try clear ce9); (try clear E9); (try clear htab); (try clear hsz); (try clear s₁); omega) | omega))
      clear hq2
      generalize H2 = H at hP hO hS ⊢
      refine lv_goto (tgt := 24) hx hb dL_alike_17 (by decide) ?_
      refine lv_iconst (v := iZ 0) hx hb dL_alike_24 rfl ?_
      exact W.iret (v := (iZ 0)) hx hb hr (fun t8 ht8 hW8 => ⟨⟨(iZ 0), (u9.1, f1), rfl, hw9.2, by rw [ht8]; exact hP, by rw [ht8]; exact hO⟩, hS.F ht8⟩) hS.2.2 dL_alike_25
    · refine lv_lconst (v := 1) hx hb dL_alike_11 rfl ?_
      refine lv_goto (tgt := 16) hx hb dL_alike_12 (by decide) ?_
      refine wo_last hx hb hKo hO hS (Or.inr (Or.inl rfl)) dL_alike_16 (fun H2 locs f1 hO hq2 hS => ?_)
      have hP := fl_kept hP hq2 (fun k hk => by (first | ((try clear hq2); (try clear hO); (try clear f1); (try clear H2); (try clear c9_); (try clear hP9); (try clear hz9); (try clear hcl9); (try clear hcv9); (try clear hce9); (try clear hpx9); (try clear q9); (try clear ce9); (try clear E9); (try clear htab); (try clear hsz); (try clear s₁); omega) | omega))
      clear hq2
      generalize H2 = H at hP hO hS ⊢
      refine lv_goto (tgt := 24) hx hb dL_alike_17 (by decide) ?_
      refine lv_iconst (v := iZ 0) hx hb dL_alike_24 rfl ?_
      exact W.iret (v := (iZ 0)) hx hb hr (fun t8 ht8 hW8 => ⟨⟨(iZ 0), (u9.1, f1), rfl, hw9.2, by rw [ht8]; exact hP, by rw [ht8]; exact hO⟩, hS.F ht8⟩) hS.2.2 dL_alike_25
set_option maxHeartbeats 4000000 in
set_option maxRecDepth 100000 in
theorem w_cuts (l : Launch) (hfl : l.stackTraces = false) (dC : Nat → ClassId) (dI : Nat → Nat → Nat) (cI cZ cII cIII cO : ClassId) (h0 o0 sz : Nat) (μ : va_M) (f : Nat → Int64) (pg : Int) (T : List Tk) (Wk : Rw) (hI : CI T μ) (h_pg : inR pg) (hWr : rowS μ 6 Wk) (hWw : rWF Wk) (hOF : rOF Wk) (ho : h0 + 233 ≤ o0) : Met l yL_cuts (Cond.codeWith yL_cuts cL_cuts 4 (some .int) [(0, 9, 12, 20)] :: wsG) ({ frames := 9, cells := 1, slots := 6, locals := 153 } : Room) (va_Pc [.ref h0, .int (iZ (pg)), .ref o0] (fun U => U.heap.size = sz ∧ va_P (dC, dI) vwCl (fw (sE cI cZ cII cIII h0) h0 233 μ) U.heap ∧ va_P (dC, dI) vwCl [(o0, .inl (cO, 1, .inr (.inl f)))] U.heap ∧ va_K (dC, dI) vwCl (sT cI cZ cII cIII) U ∧ va_K (dC, dI) vwCl [(cO, .long)] U ∧ xM U ∧ xX (wA h0 o0 sz) U ∧ xNC U)) (va_Qi (fun (r9 : Int32) (u : va_M × (Nat → Int64)) => CI T u.1 ∧ SZ μ u.1 ∧ ∃ cd z : Int, r9 = iZ cd ∧ (cd = cd2 (0 ≤ pg ∧ pg < μ 0 2) True ∧ (cd = 0 → cuR Wk (μ (113 + (pg).toNat * 15 + 2)) (μ (113 + (pg).toNat * 15) 2).toNat z)) ∧ (cd = 0 → u.2 0 = (iZ z).toInt64)) (fun u t => va_P (dC, dI) vwCl (fw (sE cI cZ cII cIII h0) h0 233 u.1) t.heap ∧ va_P (dC, dI) vwCl [(o0, .inl (cO, 1, .inr (.inl u.2)))] t.heap) (wA h0 o0 sz)) 1 6 (wA h0 o0 sz) := by
  refine va_MetW (hh := [(0, 9, 12, 20)]) (cc := cL_cuts) (maxL := 4) (ret := (some .int)) (by decide) rfl ?_
  intro p e s m args below meth c s₁ B hml hv
  obtain ⟨rfl, hsz, hP, hO, hK, hKo, hM, hEx, hNc⟩ := hv
  have hx := B.exec
  have hb := B.bytes
  have hr := B.returns
  have hts : ∀ w ∈ wsG, w.before _ s = true := fun w hw => atoms_spec (ws := (Cond.codeWith yL_cuts cL_cuts 4 (some .int) [(0, 9, 12, 20)] :: wsG)) B.pre w (List.mem_cons_of_mem _ hw)
  have htab := vx_table (x := yL_cuts) B (atoms_spec (ws := (Cond.codeWith yL_cuts cL_cuts 4 (some .int) [(0, 9, 12, 20)] :: wsG)) B.pre _ List.mem_cons_self)
  have hown : s.vm.findClass RL = some m.cls := findClass_of_methodNamed B.named
  have hlocks := B.notSynchronized
  subst hsz
  have hS : va_S (wA h0 o0 s.heap.size) s.heap s.heap [] := va_S.rf
  have hl := lv_entry ([.ref h0, .int (iZ (pg)), .ref o0]) (n := 4) (Nat.le_of_ble_eq_true rfl)
  rw [lg_entry_eq]
  generalize (lg_sl ([.ref h0, .int (iZ (pg)), .ref o0]) ++ List.replicate (4 - (lg_sl ([.ref h0, .int (iZ (pg)), .ref o0])).length) Slot.unset).toArray = ls at hl ⊢
  have hl : lv_has ls 4 [(0, .ref h0), (1, .int (iZ (pg))), (2, .ref o0)] := hl
  refine lv_aload_n hx hb dL_cuts_0 rfl (lv_at hl 2 rfl) ?_
  refine lv_iconst (v := iZ 0) hx hb dL_cuts_1 rfl ?_
  refine lv_aload_n hx hb dL_cuts_2 rfl (lv_at hl 0 rfl) ?_
  refine lv_iload_n hx hb dL_cuts_3 rfl (lv_at hl 1 rfl) ?_
  refine vx_calli (vx_runV (As := [.int (iZ (pg))]) (rest := [.int (iZ 0), .ref o0]) ⟨hx, hb, hml, hown, hts⟩ (t_cuts l hfl dC dI cI cZ cII cIII h0 s.heap.size μ pg T Wk hI h_pg hWr hWw hOF) (cwV 1 hts (gV_G k1104 k1105 k1106 k1 k1107) rfl rfl rfl (by decide +kernel) ⟨Nat.le_of_ble_eq_true rfl, Nat.le_of_ble_eq_true rfl⟩) ⟨fun a U g mk q => by obtain ⟨q0, q1, qP, qK, qM, qE⟩ := q; exact ⟨q0, q1, qP, va_K.moved (u := U) (U := U.calling g mk a) (Vm.Alike.refl U.vm) qK, qM, xX_call qE⟩, va_recv hK hP (ci := 9) (q0 := 0) rfl ((fw_get (by decide)).trans (by rw [sE_0]; rfl)), fun U hU hW => ⟨rfl, by rw [hU], by rw [hU]; exact hP, va_K.moved hW.alike hK, xM_warm hW hM, xX_at hEx hS (fA_w (Nat.le_refl _)) hU hW⟩⟩ rfl rfl hl.1 rfl (lv_room (Nat.le_of_ble_eq_true rfl)) dL_cuts_4 ⟨Nat.le_of_ble_eq_true rfl, Nat.le_of_ble_eq_true rfl⟩) hS (fun q _ h => fA_w (Nat.le_refl _) q h) (fA_w (Nat.le_refl _)) (fun q _ h => fA_w (Nat.le_refl _) q h) (fun E9 ce9 q9 u9 t9 H1 locs ht9 hvm9 hpx9 hBX9 hz9 hk9 hS hce9 hcv9 hcl9 => ?_) (fun r9 u9 t9 H1 locs ht9 hvm9 hw9 hB9 hz9 hk9 hS => ?_)
  · obtain ⟨hE9, hP9, -, hT9⟩ := hBX9
    rw [ht9] at hP9
    have hO := one_kept hO hk9 (fun h => by have := one_lt hO; rcases h with h | h <;> (first | ((try clear hO); (try clear hT9); (try clear hP9); (try clear hE9); (try clear hz9); (try clear hcl9); (try clear hcv9); (try clear hce9); (try clear hpx9); (try clear q9); (try clear ce9); (try clear E9); (try clear htab); (try clear hsz); (try clear s₁); omega) | omega))
    have hP := hP9
    clear hP9 hk9
    simp only [List.mem_cons, List.not_mem_nil, or_false] at hE9
    subst hE9
    refine vx_catch (name := "java/util/NoSuchElementException") hown [] ⟨0, 9, 12, 20⟩ [] htab (fun z hz => by simp at hz) (by decide) (by decide) (hts _ k730) (va_Nw.use rfl (hEx.2.1 _ (by decide +kernel))) hce9 hcv9 hcl9 ?_
    clear hce9
    generalize H1 = H at hP hO hS ⊢
    refine W.widen (k := 1) (n := 6) (by (first | ((try clear hO); (try clear hT9); (try clear hP9); (try clear hE9); (try clear hz9); (try clear hcl9); (try clear hcv9); (try clear hce9); (try clear hpx9); (try clear q9); (try clear ce9); (try clear E9); (try clear htab); (try clear hsz); (try clear s₁); (try clear ho); omega) | omega)) (by (first | ((try clear hO); (try clear hT9); (try clear hP9); (try clear hE9); (try clear hz9); (try clear hcl9); (try clear hcv9); (try clear hce9); (try clear hpx9); (try clear q9); (try clear ce9); (try clear E9); (try clear htab); (try clear hsz); (try clear s₁); (try clear ho); omega) | omega)) ?_
    refine lv_astore_n (lv' := [(3, .ref q9), (0, .ref h0), (1, .int (iZ (pg))), (2, .ref o0)]) hx hb dL_cuts_12 rfl hl (by decide) rfl (fun ls hl => ?_)
    refine lv_iconst (v := iZ 1) hx hb dL_cuts_13 rfl ?_
    exact W.iret (v := (iZ 1)) hx hb hr (fun t8 ht8 hW8 => ⟨⟨(iZ 1), (u9, f), rfl, ⟨hpx9.1, hpx9.2, 1, 0, rfl, ⟨(hT9.1 rfl).symm, fun h => absurd h (by decide)⟩, fun h => absurd h (by decide)⟩, by rw [ht8]; exact hP, by rw [ht8]; exact hO⟩, hS.F ht8⟩) hS.2.2 dL_cuts_14
  · obtain ⟨hP9, -⟩ := hB9
    rw [ht9] at hP9
    have hO := one_kept hO hk9 (fun h => by have := one_lt hO; rcases h with h | h <;> (first | ((try clear hO); (try clear hP9); (try clear hz9); (try clear hcl9); (try clear hcv9); (try clear hce9); (try clear hpx9); (try clear q9); (try clear ce9); (try clear E9); (try clear htab); (try clear hsz); (try clear s₁); omega) | omega))
    have hP := hP9
    clear hP9 hk9
    generalize H1 = H at hP hO hS ⊢
    refine W.widen (k := 1) (n := 6) (by (first | ((try clear hO); (try clear hP9); (try clear hz9); (try clear hcl9); (try clear hcv9); (try clear hce9); (try clear hpx9); (try clear q9); (try clear ce9); (try clear E9); (try clear htab); (try clear hsz); (try clear s₁); (try clear ho); omega) | omega)) (by (first | ((try clear hO); (try clear hP9); (try clear hz9); (try clear hcl9); (try clear hcv9); (try clear hce9); (try clear hpx9); (try clear q9); (try clear ce9); (try clear E9); (try clear htab); (try clear hsz); (try clear s₁); (try clear ho); omega) | omega)) ?_
    refine lv_i2l (v := r9.toInt64) hx hb dL_cuts_7 rfl ?_
    refine wo_last2 hx hb hKo hO hS (Or.inr (Or.inl rfl)) dL_cuts_8 (fun H2 locs hO hq2 hS => ?_)
    have hP := fl_kept hP hq2 (fun k hk => by (first | ((try clear hq2); (try clear hO); (try clear H2); (try clear hP9); (try clear hz9); (try clear hcl9); (try clear hcv9); (try clear hce9); (try clear hpx9); (try clear q9); (try clear ce9); (try clear E9); (try clear htab); (try clear hsz); (try clear s₁); omega) | omega))
    clear hq2
    generalize H2 = H at hP hO hS ⊢
    refine lv_goto (tgt := 15) hx hb dL_cuts_9 (by decide) ?_
    refine lv_iconst (v := iZ 0) hx hb dL_cuts_15 rfl ?_
    exact W.iret (v := (iZ 0)) hx hb hr (fun t8 ht8 hW8 => ⟨⟨(iZ 0), (u9.1, (vp_updL f (iZ 0).toNatClampNeg ((r9.toInt64)))), rfl, ⟨hw9.2.1, hw9.2.2.1, 0, u9.2, rfl, ⟨(cd2_0 hw9.2.2.2.1 trivial).symm, fun _ => hw9.2.2.2.2⟩, fun _ => (wo_get (f := f) (x := r9.toInt64)).trans (congrArg Int32.toInt64 hw9.1)⟩, by rw [ht8]; exact hP, by rw [ht8]; exact hO⟩, hS.F ht8⟩) hS.2.2 dL_cuts_16
set_option maxHeartbeats 4000000 in
set_option maxRecDepth 100000 in
theorem w_derived (l : Launch) (hfl : l.stackTraces = false) (dC : Nat → ClassId) (dI : Nat → Nat → Nat) (cI cZ cII cIII cO : ClassId) (h0 o0 sz : Nat) (μ : va_M) (f : Nat → Int64) (tn : Int) (T : List Tk) (hI : CI T μ) (h_tn : inR tn) (ho : h0 + 233 ≤ o0) : Met l yL_derived (Cond.codeWith yL_derived cL_derived 4 (some .int) [(0, 9, 12, 13)] :: wsG) ({ frames := 8, cells := 1, slots := 6, locals := 134 } : Room) (va_Pc [.ref h0, .int (iZ (tn)), .ref o0] (fun U => U.heap.size = sz ∧ va_P (dC, dI) vwCl (fw (sE cI cZ cII cIII h0) h0 233 μ) U.heap ∧ va_P (dC, dI) vwCl [(o0, .inl (cO, 1, .inr (.inl f)))] U.heap ∧ va_K (dC, dI) vwCl (sT cI cZ cII cIII) U ∧ va_K (dC, dI) vwCl [(cO, .long)] U ∧ xM U ∧ xX (wA h0 o0 sz) U ∧ xNC U)) (va_Qi (fun (r9 : Int32) (u : va_M × (Nat → Int64)) => CI T u.1 ∧ SZ μ u.1) (fun u t => va_P (dC, dI) vwCl (fw (sE cI cZ cII cIII h0) h0 233 u.1) t.heap ∧ va_P (dC, dI) vwCl [(o0, .inl (cO, 1, .inr (.inl u.2)))] t.heap) (wA h0 o0 sz)) 1 6 (wA h0 o0 sz) := by
  refine va_MetW (hh := [(0, 9, 12, 13)]) (cc := cL_derived) (maxL := 4) (ret := (some .int)) (by decide) rfl ?_
  intro p e s m args below meth c s₁ B hml hv
  obtain ⟨rfl, hsz, hP, hO, hK, hKo, hM, hEx, hNc⟩ := hv
  have hx := B.exec
  have hb := B.bytes
  have hr := B.returns
  have hts : ∀ w ∈ wsG, w.before _ s = true := fun w hw => atoms_spec (ws := (Cond.codeWith yL_derived cL_derived 4 (some .int) [(0, 9, 12, 13)] :: wsG)) B.pre w (List.mem_cons_of_mem _ hw)
  have htab := vx_table (x := yL_derived) B (atoms_spec (ws := (Cond.codeWith yL_derived cL_derived 4 (some .int) [(0, 9, 12, 13)] :: wsG)) B.pre _ List.mem_cons_self)
  have hown : s.vm.findClass RL = some m.cls := findClass_of_methodNamed B.named
  have hlocks := B.notSynchronized
  subst hsz
  have hS : va_S (wA h0 o0 s.heap.size) s.heap s.heap [] := va_S.rf
  have hl := lv_entry ([.ref h0, .int (iZ (tn)), .ref o0]) (n := 4) (Nat.le_of_ble_eq_true rfl)
  rw [lg_entry_eq]
  generalize (lg_sl ([.ref h0, .int (iZ (tn)), .ref o0]) ++ List.replicate (4 - (lg_sl ([.ref h0, .int (iZ (tn)), .ref o0])).length) Slot.unset).toArray = ls at hl ⊢
  have hl : lv_has ls 4 [(0, .ref h0), (1, .int (iZ (tn))), (2, .ref o0)] := hl
  refine lv_aload_n hx hb dL_derived_0 rfl (lv_at hl 2 rfl) ?_
  refine lv_iconst (v := iZ 0) hx hb dL_derived_1 rfl ?_
  refine lv_aload_n hx hb dL_derived_2 rfl (lv_at hl 0 rfl) ?_
  refine lv_iload_n hx hb dL_derived_3 rfl (lv_at hl 1 rfl) ?_
  refine vx_calli (vx_runV (As := [.int (iZ (tn))]) (rest := [.int (iZ 0), .ref o0]) ⟨hx, hb, hml, hown, hts⟩ (q_derived l hfl dC dI cI cZ cII cIII h0 s.heap.size μ tn T hI h_tn) (cwV 1 hts (gV_G k1111 k1112 k1113 k1 k1114) rfl rfl rfl (by decide +kernel) ⟨Nat.le_of_ble_eq_true rfl, Nat.le_of_ble_eq_true rfl⟩) ⟨fun a U g mk q => by obtain ⟨q0, q1, qP, qK, qM, qE⟩ := q; exact ⟨q0, q1, qP, va_K.moved (u := U) (U := U.calling g mk a) (Vm.Alike.refl U.vm) qK, qM, xX_call qE⟩, va_recv hK hP (ci := 9) (q0 := 0) rfl ((fw_get (by decide)).trans (by rw [sE_0]; rfl)), fun U hU hW => ⟨rfl, by rw [hU], by rw [hU]; exact hP, va_K.moved hW.alike hK, xM_warm hW hM, xX_at hEx hS (fA_w (Nat.le_refl _)) hU hW⟩⟩ rfl rfl hl.1 rfl (lv_room (Nat.le_of_ble_eq_true rfl)) dL_derived_4 ⟨Nat.le_of_ble_eq_true rfl, Nat.le_of_ble_eq_true rfl⟩) hS (fun q _ h => fA_w (Nat.le_refl _) q h) (fA_w (Nat.le_refl _)) (fun q _ h => fA_w (Nat.le_refl _) q h) (fun E9 ce9 q9 u9 t9 H1 locs ht9 hvm9 hpx9 hBX9 hz9 hk9 hS hce9 hcv9 hcl9 => ?_) (fun r9 u9 t9 H1 locs ht9 hvm9 hw9 hB9 hz9 hk9 hS => ?_)
  · obtain ⟨hE9, hP9, -⟩ := hBX9
    rw [ht9] at hP9
    have hO := one_kept hO hk9 (fun h => by have := one_lt hO; rcases h with h | h <;> (first | ((try clear hO); (try clear hP9); (try clear hE9); (try clear hz9); (try clear hcl9); (try clear hcv9); (try clear hce9); (try clear hpx9); (try clear q9); (try clear ce9); (try clear E9); (try clear htab); (try clear hsz); (try clear s₁); omega) | omega))
    have hP := hP9
    clear hP9 hk9
    simp only [List.mem_cons, List.not_mem_nil, or_false] at hE9
    subst hE9
    refine vx_catch (name := "java/lang/IllegalArgumentException") hown [] ⟨0, 9, 12, 13⟩ [] htab (fun z hz => by simp at hz) (by decide) (by decide) (hts _ k590) (va_Nw.use rfl (hEx.2.1 _ (by decide +kernel))) hce9 hcv9 hcl9 ?_
    clear hce9
    generalize H1 = H at hP hO hS ⊢
    refine W.widen (k := 1) (n := 6) (by (first | ((try clear hO); (try clear hP9); (try clear hE9); (try clear hz9); (try clear hcl9); (try clear hcv9); (try clear hce9); (try clear hpx9); (try clear q9); (try clear ce9); (try clear E9); (try clear htab); (try clear hsz); (try clear s₁); (try clear ho); omega) | omega)) (by (first | ((try clear hO); (try clear hP9); (try clear hE9); (try clear hz9); (try clear hcl9); (try clear hcv9); (try clear hce9); (try clear hpx9); (try clear q9); (try clear ce9); (try clear E9); (try clear htab); (try clear hsz); (try clear s₁); (try clear ho); omega) | omega)) ?_
    refine lv_astore_n (lv' := [(3, .ref q9), (0, .ref h0), (1, .int (iZ (tn))), (2, .ref o0)]) hx hb dL_derived_12 rfl hl (by decide) rfl (fun ls hl => ?_)
    refine lv_iconst (v := iZ 1) hx hb dL_derived_13 rfl ?_
    exact W.iret (v := (iZ 1)) hx hb hr (fun t8 ht8 hW8 => ⟨⟨(iZ 1), (u9, f), rfl, hpx9, by rw [ht8]; exact hP, by rw [ht8]; exact hO⟩, hS.F ht8⟩) hS.2.2 dL_derived_14
  · obtain ⟨hP9, -⟩ := hB9
    rw [ht9] at hP9
    have hO := one_kept hO hk9 (fun h => by have := one_lt hO; rcases h with h | h <;> (first | ((try clear hO); (try clear hP9); (try clear hz9); (try clear hcl9); (try clear hcv9); (try clear hce9); (try clear hpx9); (try clear q9); (try clear ce9); (try clear E9); (try clear htab); (try clear hsz); (try clear s₁); omega) | omega))
    have hP := hP9
    clear hP9 hk9
    generalize H1 = H at hP hO hS ⊢
    refine W.widen (k := 1) (n := 6) (by (first | ((try clear hO); (try clear hP9); (try clear hz9); (try clear hcl9); (try clear hcv9); (try clear hce9); (try clear hpx9); (try clear q9); (try clear ce9); (try clear E9); (try clear htab); (try clear hsz); (try clear s₁); (try clear ho); omega) | omega)) (by (first | ((try clear hO); (try clear hP9); (try clear hz9); (try clear hcl9); (try clear hcv9); (try clear hce9); (try clear hpx9); (try clear q9); (try clear ce9); (try clear E9); (try clear htab); (try clear hsz); (try clear s₁); (try clear ho); omega) | omega)) ?_
    refine lv_i2l (v := r9.toInt64) hx hb dL_derived_7 rfl ?_
    refine wo_last hx hb hKo hO hS (Or.inr (Or.inl rfl)) dL_derived_8 (fun H2 locs f1 hO hq2 hS => ?_)
    have hP := fl_kept hP hq2 (fun k hk => by (first | ((try clear hq2); (try clear hO); (try clear f1); (try clear H2); (try clear hP9); (try clear hz9); (try clear hcl9); (try clear hcv9); (try clear hce9); (try clear hpx9); (try clear q9); (try clear ce9); (try clear E9); (try clear htab); (try clear hsz); (try clear s₁); omega) | omega))
    clear hq2
    generalize H2 = H at hP hO hS ⊢
    refine lv_goto (tgt := 15) hx hb dL_derived_9 (by decide) ?_
    refine lv_iconst (v := iZ 0) hx hb dL_derived_15 rfl ?_
    exact W.iret (v := (iZ 0)) hx hb hr (fun t8 ht8 hW8 => ⟨⟨(iZ 0), (u9.1, f1), rfl, hw9.2, by rw [ht8]; exact hP, by rw [ht8]; exact hO⟩, hS.F ht8⟩) hS.2.2 dL_derived_16
set_option maxHeartbeats 4000000 in
set_option maxRecDepth 100000 in
theorem w_common (l : Launch) (hfl : l.stackTraces = false) (dC : Nat → ClassId) (dI : Nat → Nat → Nat) (cI cZ cII cIII cO : ClassId) (h0 o0 sz : Nat) (μ : va_M) (f : Nat → Int64) (pg : Int) (ot : Int) (T : List Tk) (hI : CI T μ) (h_pg : inR pg) (h_ot : inR ot) (ho : h0 + 233 ≤ o0) : Met l yL_common (Cond.codeWith yL_common cL_common 5 (some .int) [(0, 10, 13, 20)] :: wsG) ({ frames := 9, cells := 1, slots := 6, locals := 153 } : Room) (va_Pc [.ref h0, .int (iZ (pg)), .int (iZ (ot)), .ref o0] (fun U => U.heap.size = sz ∧ va_P (dC, dI) vwCl (fw (sE cI cZ cII cIII h0) h0 233 μ) U.heap ∧ va_P (dC, dI) vwCl [(o0, .inl (cO, 1, .inr (.inl f)))] U.heap ∧ va_K (dC, dI) vwCl (sT cI cZ cII cIII) U ∧ va_K (dC, dI) vwCl [(cO, .long)] U ∧ xM U ∧ xX (wA h0 o0 sz) U ∧ xNC U)) (va_Qi (fun (r9 : Int32) (u : va_M × (Nat → Int64)) => CI T u.1 ∧ SZ μ u.1) (fun u t => va_P (dC, dI) vwCl (fw (sE cI cZ cII cIII h0) h0 233 u.1) t.heap ∧ va_P (dC, dI) vwCl [(o0, .inl (cO, 1, .inr (.inl u.2)))] t.heap) (wA h0 o0 sz)) 1 6 (wA h0 o0 sz) := by
  refine va_MetW (hh := [(0, 10, 13, 20)]) (cc := cL_common) (maxL := 5) (ret := (some .int)) (by decide) rfl ?_
  intro p e s m args below meth c s₁ B hml hv
  obtain ⟨rfl, hsz, hP, hO, hK, hKo, hM, hEx, hNc⟩ := hv
  have hx := B.exec
  have hb := B.bytes
  have hr := B.returns
  have hts : ∀ w ∈ wsG, w.before _ s = true := fun w hw => atoms_spec (ws := (Cond.codeWith yL_common cL_common 5 (some .int) [(0, 10, 13, 20)] :: wsG)) B.pre w (List.mem_cons_of_mem _ hw)
  have htab := vx_table (x := yL_common) B (atoms_spec (ws := (Cond.codeWith yL_common cL_common 5 (some .int) [(0, 10, 13, 20)] :: wsG)) B.pre _ List.mem_cons_self)
  have hown : s.vm.findClass RL = some m.cls := findClass_of_methodNamed B.named
  have hlocks := B.notSynchronized
  subst hsz
  have hS : va_S (wA h0 o0 s.heap.size) s.heap s.heap [] := va_S.rf
  have hl := lv_entry ([.ref h0, .int (iZ (pg)), .int (iZ (ot)), .ref o0]) (n := 5) (Nat.le_of_ble_eq_true rfl)
  rw [lg_entry_eq]
  generalize (lg_sl ([.ref h0, .int (iZ (pg)), .int (iZ (ot)), .ref o0]) ++ List.replicate (5 - (lg_sl ([.ref h0, .int (iZ (pg)), .int (iZ (ot)), .ref o0])).length) Slot.unset).toArray = ls at hl ⊢
  have hl : lv_has ls 5 [(0, .ref h0), (1, .int (iZ (pg))), (2, .int (iZ (ot))), (3, .ref o0)] := hl
  refine lv_aload_n hx hb dL_common_0 rfl (lv_at hl 3 rfl) ?_
  refine lv_iconst (v := iZ 0) hx hb dL_common_1 rfl ?_
  refine lv_aload_n hx hb dL_common_2 rfl (lv_at hl 0 rfl) ?_
  refine lv_iload_n hx hb dL_common_3 rfl (lv_at hl 1 rfl) ?_
  refine lv_iload_n hx hb dL_common_4 rfl (lv_at hl 2 rfl) ?_
  refine vx_calli (vx_runV (As := [.int (iZ (pg)), .int (iZ (ot))]) (rest := [.int (iZ 0), .ref o0]) ⟨hx, hb, hml, hown, hts⟩ (q_common l hfl dC dI cI cZ cII cIII h0 s.heap.size μ pg ot T hI h_pg h_ot) (cwV 2 hts (gV_G k1118 k1119 k1120 k1 k1121) rfl rfl rfl (by decide +kernel) ⟨Nat.le_of_ble_eq_true rfl, Nat.le_of_ble_eq_true rfl⟩) ⟨fun a U g mk q => by obtain ⟨q0, q1, qP, qK, qM, qE⟩ := q; exact ⟨q0, q1, qP, va_K.moved (u := U) (U := U.calling g mk a) (Vm.Alike.refl U.vm) qK, qM, xX_call qE⟩, va_recv hK hP (ci := 9) (q0 := 0) rfl ((fw_get (by decide)).trans (by rw [sE_0]; rfl)), fun U hU hW => ⟨rfl, by rw [hU], by rw [hU]; exact hP, va_K.moved hW.alike hK, xM_warm hW hM, xX_at hEx hS (fA_w (Nat.le_refl _)) hU hW⟩⟩ rfl rfl hl.1 rfl (lv_room (Nat.le_of_ble_eq_true rfl)) dL_common_5 ⟨Nat.le_of_ble_eq_true rfl, Nat.le_of_ble_eq_true rfl⟩) hS (fun q _ h => fA_w (Nat.le_refl _) q h) (fA_w (Nat.le_refl _)) (fun q _ h => fA_w (Nat.le_refl _) q h) (fun E9 ce9 q9 u9 t9 H1 locs ht9 hvm9 hpx9 hBX9 hz9 hk9 hS hce9 hcv9 hcl9 => ?_) (fun r9 u9 t9 H1 locs ht9 hvm9 hw9 hB9 hz9 hk9 hS => ?_)
  · obtain ⟨hE9, hP9, -⟩ := hBX9
    rw [ht9] at hP9
    have hO := one_kept hO hk9 (fun h => by have := one_lt hO; rcases h with h | h <;> (first | ((try clear hO); (try clear hP9); (try clear hE9); (try clear hz9); (try clear hcl9); (try clear hcv9); (try clear hce9); (try clear hpx9); (try clear q9); (try clear ce9); (try clear E9); (try clear htab); (try clear hsz); (try clear s₁); omega) | omega))
    have hP := hP9
    clear hP9 hk9
    simp only [List.mem_cons, List.not_mem_nil, or_false] at hE9
    subst hE9
    refine vx_catch (name := "java/util/NoSuchElementException") hown [] ⟨0, 10, 13, 20⟩ [] htab (fun z hz => by simp at hz) (by decide) (by decide) (hts _ k730) (va_Nw.use rfl (hEx.2.1 _ (by decide +kernel))) hce9 hcv9 hcl9 ?_
    clear hce9
    generalize H1 = H at hP hO hS ⊢
    refine W.widen (k := 1) (n := 6) (by (first | ((try clear hO); (try clear hP9); (try clear hE9); (try clear hz9); (try clear hcl9); (try clear hcv9); (try clear hce9); (try clear hpx9); (try clear q9); (try clear ce9); (try clear E9); (try clear htab); (try clear hsz); (try clear s₁); (try clear ho); omega) | omega)) (by (first | ((try clear hO); (try clear hP9); (try clear hE9); (try clear hz9); (try clear hcl9); (try clear hcv9); (try clear hce9); (try clear hpx9); (try clear q9); (try clear ce9); (try clear E9); (try clear htab); (try clear hsz); (try clear s₁); (try clear ho); omega) | omega)) ?_
    refine lv_astore (lv' := [(4, .ref q9), (0, .ref h0), (1, .int (iZ (pg))), (2, .int (iZ (ot))), (3, .ref o0)]) hx hb dL_common_13 hl (by decide) rfl (fun ls hl => ?_)
    refine lv_iconst (v := iZ 1) hx hb dL_common_15 rfl ?_
    exact W.iret (v := (iZ 1)) hx hb hr (fun t8 ht8 hW8 => ⟨⟨(iZ 1), (u9, f), rfl, hpx9, by rw [ht8]; exact hP, by rw [ht8]; exact hO⟩, hS.F ht8⟩) hS.2.2 dL_common_16
  · obtain ⟨hP9, -⟩ := hB9
    rw [ht9] at hP9
    have hO := one_kept hO hk9 (fun h => by have := one_lt hO; rcases h with h | h <;> (first | ((try clear hO); (try clear hP9); (try clear hz9); (try clear hcl9); (try clear hcv9); (try clear hce9); (try clear hpx9); (try clear q9); (try clear ce9); (try clear E9); (try clear htab); (try clear hsz); (try clear s₁); omega) | omega))
    have hP := hP9
    clear hP9 hk9
    generalize H1 = H at hP hO hS ⊢
    refine W.widen (k := 1) (n := 6) (by (first | ((try clear hO); (try clear hP9); (try clear hz9); (try clear hcl9); (try clear hcv9); (try clear hce9); (try clear hpx9); (try clear q9); (try clear ce9); (try clear E9); (try clear htab); (try clear hsz); (try clear s₁); (try clear ho); omega) | omega)) (by (first | ((try clear hO); (try clear hP9); (try clear hz9); (try clear hcl9); (try clear hcv9); (try clear hce9); (try clear hpx9); (try clear q9); (try clear ce9); (try clear E9); (try clear htab); (try clear hsz); (try clear s₁); (try clear ho); omega) | omega)) ?_
    refine lv_i2l (v := r9.toInt64) hx hb dL_common_8 rfl ?_
    refine wo_last hx hb hKo hO hS (Or.inr (Or.inl rfl)) dL_common_9 (fun H2 locs f1 hO hq2 hS => ?_)
    have hP := fl_kept hP hq2 (fun k hk => by (first | ((try clear hq2); (try clear hO); (try clear f1); (try clear H2); (try clear hP9); (try clear hz9); (try clear hcl9); (try clear hcv9); (try clear hce9); (try clear hpx9); (try clear q9); (try clear ce9); (try clear E9); (try clear htab); (try clear hsz); (try clear s₁); omega) | omega))
    clear hq2
    generalize H2 = H at hP hO hS ⊢
    refine lv_goto (tgt := 17) hx hb dL_common_10 (by decide) ?_
    refine lv_iconst (v := iZ 0) hx hb dL_common_17 rfl ?_
    exact W.iret (v := (iZ 0)) hx hb hr (fun t8 ht8 hW8 => ⟨⟨(iZ 0), (u9.1, f1), rfl, hw9.2, by rw [ht8]; exact hP, by rw [ht8]; exact hO⟩, hS.F ht8⟩) hS.2.2 dL_common_18
set_option maxHeartbeats 4000000 in
set_option maxRecDepth 100000 in
theorem w_similar (l : Launch) (hfl : l.stackTraces = false) (dC : Nat → ClassId) (dI : Nat → Nat → Nat) (cI cZ cII cIII cO : ClassId) (h0 o0 sz : Nat) (μ : va_M) (f : Nat → Int64) (pg : Int) (ot : Int) (T : List Tk) (hI : CI T μ) (h_pg : inR pg) (h_ot : inR ot) (ho : h0 + 233 ≤ o0) : Met l yL_similar (Cond.codeWith yL_similar cL_similar 5 (some .int) [(0, 17, 20, 20)] :: wsG) ({ frames := 9, cells := 1, slots := 6, locals := 155 } : Room) (va_Pc [.ref h0, .int (iZ (pg)), .int (iZ (ot)), .ref o0] (fun U => U.heap.size = sz ∧ va_P (dC, dI) vwCl (fw (sE cI cZ cII cIII h0) h0 233 μ) U.heap ∧ va_P (dC, dI) vwCl [(o0, .inl (cO, 1, .inr (.inl f)))] U.heap ∧ va_K (dC, dI) vwCl (sT cI cZ cII cIII) U ∧ va_K (dC, dI) vwCl [(cO, .long)] U ∧ xM U ∧ xX (wA h0 o0 sz) U ∧ xNC U)) (va_Qi (fun (r9 : Int32) (u : va_M × (Nat → Int64)) => CI T u.1 ∧ SZ μ u.1) (fun u t => va_P (dC, dI) vwCl (fw (sE cI cZ cII cIII h0) h0 233 u.1) t.heap ∧ va_P (dC, dI) vwCl [(o0, .inl (cO, 1, .inr (.inl u.2)))] t.heap) (wA h0 o0 sz)) 1 6 (wA h0 o0 sz) := by
  refine va_MetW (hh := [(0, 17, 20, 20)]) (cc := cL_similar) (maxL := 5) (ret := (some .int)) (by decide) rfl ?_
  intro p e s m args below meth c s₁ B hml hv
  obtain ⟨rfl, hsz, hP, hO, hK, hKo, hM, hEx, hNc⟩ := hv
  have hx := B.exec
  have hb := B.bytes
  have hr := B.returns
  have hts : ∀ w ∈ wsG, w.before _ s = true := fun w hw => atoms_spec (ws := (Cond.codeWith yL_similar cL_similar 5 (some .int) [(0, 17, 20, 20)] :: wsG)) B.pre w (List.mem_cons_of_mem _ hw)
  have htab := vx_table (x := yL_similar) B (atoms_spec (ws := (Cond.codeWith yL_similar cL_similar 5 (some .int) [(0, 17, 20, 20)] :: wsG)) B.pre _ List.mem_cons_self)
  have hown : s.vm.findClass RL = some m.cls := findClass_of_methodNamed B.named
  have hlocks := B.notSynchronized
  subst hsz
  have hS : va_S (wA h0 o0 s.heap.size) s.heap s.heap [] := va_S.rf
  have hl := lv_entry ([.ref h0, .int (iZ (pg)), .int (iZ (ot)), .ref o0]) (n := 5) (Nat.le_of_ble_eq_true rfl)
  rw [lg_entry_eq]
  generalize (lg_sl ([.ref h0, .int (iZ (pg)), .int (iZ (ot)), .ref o0]) ++ List.replicate (5 - (lg_sl ([.ref h0, .int (iZ (pg)), .int (iZ (ot)), .ref o0])).length) Slot.unset).toArray = ls at hl ⊢
  have hl : lv_has ls 5 [(0, .ref h0), (1, .int (iZ (pg))), (2, .int (iZ (ot))), (3, .ref o0)] := hl
  refine lv_aload_n hx hb dL_similar_0 rfl (lv_at hl 3 rfl) ?_
  refine lv_iconst (v := iZ 0) hx hb dL_similar_1 rfl ?_
  refine lv_aload_n hx hb dL_similar_2 rfl (lv_at hl 0 rfl) ?_
  refine lv_iload_n hx hb dL_similar_3 rfl (lv_at hl 1 rfl) ?_
  refine lv_iload_n hx hb dL_similar_4 rfl (lv_at hl 2 rfl) ?_
  refine vx_calli (vx_runV (As := [.int (iZ (pg)), .int (iZ (ot))]) (rest := [.int (iZ 0), .ref o0]) ⟨hx, hb, hml, hown, hts⟩ (q_similar l hfl dC dI cI cZ cII cIII h0 s.heap.size μ pg ot T hI h_pg h_ot) (cwV 2 hts (gV_G k1131 k1132 k1133 k1 k1134) rfl rfl rfl (by decide +kernel) ⟨Nat.le_of_ble_eq_true rfl, Nat.le_of_ble_eq_true rfl⟩) ⟨fun a U g mk q => by obtain ⟨q0, q1, qP, qK, qM, qE⟩ := q; exact ⟨q0, q1, qP, va_K.moved (u := U) (U := U.calling g mk a) (Vm.Alike.refl U.vm) qK, qM, xX_call qE⟩, va_recv hK hP (ci := 9) (q0 := 0) rfl ((fw_get (by decide)).trans (by rw [sE_0]; rfl)), fun U hU hW => ⟨rfl, by rw [hU], by rw [hU]; exact hP, va_K.moved hW.alike hK, xM_warm hW hM, xX_at hEx hS (fA_w (Nat.le_refl _)) hU hW⟩⟩ rfl rfl hl.1 rfl (lv_room (Nat.le_of_ble_eq_true rfl)) dL_similar_5 ⟨Nat.le_of_ble_eq_true rfl, Nat.le_of_ble_eq_true rfl⟩) hS (fun q _ h => fA_w (Nat.le_refl _) q h) (fA_w (Nat.le_refl _)) (fun q _ h => fA_w (Nat.le_refl _) q h) (fun E9 ce9 q9 u9 t9 H1 locs ht9 hvm9 hpx9 hBX9 hz9 hk9 hS hce9 hcv9 hcl9 => ?_) (fun r9 u9 t9 H1 locs ht9 hvm9 hw9 hB9 hz9 hk9 hS => ?_)
  · obtain ⟨hE9, hP9, -⟩ := hBX9
    rw [ht9] at hP9
    have hO := one_kept hO hk9 (fun h => by have := one_lt hO; rcases h with h | h <;> (first | ((try clear hO); (try clear hP9); (try clear hE9); (try clear hz9); (try clear hcl9); (try clear hcv9); (try clear hce9); (try clear hpx9); (try clear q9); (try clear ce9); (try clear E9); (try clear htab); (try clear hsz); (try clear s₁); omega) | omega))
    have hP := hP9
    clear hP9 hk9
    simp only [List.mem_cons, List.not_mem_nil, or_false] at hE9
    subst hE9
    refine vx_catch (name := "java/util/NoSuchElementException") hown [] ⟨0, 17, 20, 20⟩ [] htab (fun z hz => by simp at hz) (by decide) (by decide) (hts _ k730) (va_Nw.use rfl (hEx.2.1 _ (by decide +kernel))) hce9 hcv9 hcl9 ?_
    clear hce9
    generalize H1 = H at hP hO hS ⊢
    refine W.widen (k := 1) (n := 6) (by (first | ((try clear hO); (try clear hP9); (try clear hE9); (try clear hz9); (try clear hcl9); (try clear hcv9); (try clear hce9); (try clear hpx9); (try clear q9); (try clear ce9); (try clear E9); (try clear htab); (try clear hsz); (try clear s₁); (try clear ho); omega) | omega)) (by (first | ((try clear hO); (try clear hP9); (try clear hE9); (try clear hz9); (try clear hcl9); (try clear hcv9); (try clear hce9); (try clear hpx9); (try clear q9); (try clear ce9); (try clear E9); (try clear htab); (try clear hsz); (try clear s₁); (try clear ho); omega) | omega)) ?_
    refine lv_astore (lv' := [(4, .ref q9), (0, .ref h0), (1, .int (iZ (pg))), (2, .int (iZ (ot))), (3, .ref o0)]) hx hb dL_similar_20 hl (by decide) rfl (fun ls hl => ?_)
    refine lv_iconst (v := iZ 1) hx hb dL_similar_22 rfl ?_
    exact W.iret (v := (iZ 1)) hx hb hr (fun t8 ht8 hW8 => ⟨⟨(iZ 1), (u9, f), rfl, hpx9, by rw [ht8]; exact hP, by rw [ht8]; exact hO⟩, hS.F ht8⟩) hS.2.2 dL_similar_23
  · obtain ⟨hP9, -⟩ := hB9
    rw [ht9] at hP9
    have hO := one_kept hO hk9 (fun h => by have := one_lt hO; rcases h with h | h <;> (first | ((try clear hO); (try clear hP9); (try clear hz9); (try clear hcl9); (try clear hcv9); (try clear hce9); (try clear hpx9); (try clear q9); (try clear ce9); (try clear E9); (try clear htab); (try clear hsz); (try clear s₁); omega) | omega))
    have hP := hP9
    clear hP9 hk9
    generalize H1 = H at hP hO hS ⊢
    refine W.widen (k := 1) (n := 6) (by (first | ((try clear hO); (try clear hP9); (try clear hz9); (try clear hcl9); (try clear hcv9); (try clear hce9); (try clear hpx9); (try clear q9); (try clear ce9); (try clear E9); (try clear htab); (try clear hsz); (try clear s₁); (try clear ho); omega) | omega)) (by (first | ((try clear hO); (try clear hP9); (try clear hz9); (try clear hcl9); (try clear hcv9); (try clear hce9); (try clear hpx9); (try clear q9); (try clear ce9); (try clear E9); (try clear htab); (try clear hsz); (try clear s₁); (try clear ho); omega) | omega)) ?_
    refine lv_if_eq (tgt := 15) hx hb dL_similar_8 (by decide) (fun c9_ => ?_) (fun c9_ => ?_)
    · refine lv_lconst (v := 0) hx hb dL_similar_15 rfl ?_
      refine wo_last hx hb hKo hO hS (Or.inr (Or.inl rfl)) dL_similar_16 (fun H2 locs f1 hO hq2 hS => ?_)
      have hP := fl_kept hP hq2 (fun k hk => by (first | ((try clear hq2); (try clear hO); (try clear f1); (try clear H2); (try clear c9_); (try clear hP9); (try clear hz9); (try clear hcl9); (try clear hcv9); (try clear hce9); (try clear hpx9); (try clear q9); (try clear ce9); (try clear E9); (try clear htab); (try clear hsz); (try clear s₁); omega) | omega))
      clear hq2
      generalize H2 = H at hP hO hS ⊢
      refine lv_goto (tgt := 24) hx hb dL_similar_17 (by decide) ?_
      refine lv_iconst (v := iZ 0) hx hb dL_similar_24 rfl ?_
      exact W.iret (v := (iZ 0)) hx hb hr (fun t8 ht8 hW8 => ⟨⟨(iZ 0), (u9.1, f1), rfl, hw9.2, by rw [ht8]; exact hP, by rw [ht8]; exact hO⟩, hS.F ht8⟩) hS.2.2 dL_similar_25
    · refine lv_lconst (v := 1) hx hb dL_similar_11 rfl ?_
      refine lv_goto (tgt := 16) hx hb dL_similar_12 (by decide) ?_
      refine wo_last hx hb hKo hO hS (Or.inr (Or.inl rfl)) dL_similar_16 (fun H2 locs f1 hO hq2 hS => ?_)
      have hP := fl_kept hP hq2 (fun k hk => by (first | ((try clear hq2); (try clear hO); (try clear f1); (try clear H2); (try clear c9_); (try clear hP9); (try clear hz9); (try clear hcl9); (try clear hcv9); (try clear hce9); (try clear hpx9); (try clear q9); (try clear ce9); (try clear E9); (try clear htab); (try clear hsz); (try clear s₁); omega) | omega))
      clear hq2
      generalize H2 = H at hP hO hS ⊢
      refine lv_goto (tgt := 24) hx hb dL_similar_17 (by decide) ?_
      refine lv_iconst (v := iZ 0) hx hb dL_similar_24 rfl ?_
      exact W.iret (v := (iZ 0)) hx hb hr (fun t8 ht8 hW8 => ⟨⟨(iZ 0), (u9.1, f1), rfl, hw9.2, by rw [ht8]; exact hP, by rw [ht8]; exact hO⟩, hS.F ht8⟩) hS.2.2 dL_similar_25
set_option maxHeartbeats 4000000 in
set_option maxRecDepth 100000 in
theorem w_step (l : Launch) (hfl : l.stackTraces = false) (dC : Nat → ClassId) (dI : Nat → Nat → Nat) (cI cZ cII cIII cO : ClassId) (h0 o0 sz : Nat) (μ : va_M) (f : Nat → Int64) (pg : Int) (kn : Int) (wh : Int) (T : List Tk) (hI : CI T μ) (h_pg : inR pg) (h_kn : inR kn) (h_wh : inR wh) (ho : h0 + 233 ≤ o0) : Met l yL_step (Cond.codeWith yL_step cL_step 6 (some .int) [(0, 12, 15, 20), (0, 12, 19, 13)] :: wsG) ({ frames := 9, cells := 1, slots := 6, locals := 154 } : Room) (va_Pc [.ref h0, .int (iZ (pg)), .int (iZ (kn)), .int (iZ (wh)), .ref o0] (fun U => U.heap.size = sz ∧ va_P (dC, dI) vwCl (fw (sE cI cZ cII cIII h0) h0 233 μ) U.heap ∧ va_P (dC, dI) vwCl [(o0, .inl (cO, 1, .inr (.inl f)))] U.heap ∧ va_K (dC, dI) vwCl (sT cI cZ cII cIII) U ∧ va_K (dC, dI) vwCl [(cO, .long)] U ∧ xM U ∧ xX (wA h0 o0 sz) U ∧ xNC U)) (va_Qi (fun (r9 : Int32) (u : va_M × (Nat → Int64)) => CI T u.1 ∧ SZ μ u.1) (fun u t => va_P (dC, dI) vwCl (fw (sE cI cZ cII cIII h0) h0 233 u.1) t.heap ∧ va_P (dC, dI) vwCl [(o0, .inl (cO, 1, .inr (.inl u.2)))] t.heap) (wA h0 o0 sz)) 1 6 (wA h0 o0 sz) := by
  refine va_MetW (hh := [(0, 12, 15, 20), (0, 12, 19, 13)]) (cc := cL_step) (maxL := 6) (ret := (some .int)) (by decide) rfl ?_
  intro p e s m args below meth c s₁ B hml hv
  obtain ⟨rfl, hsz, hP, hO, hK, hKo, hM, hEx, hNc⟩ := hv
  have hx := B.exec
  have hb := B.bytes
  have hr := B.returns
  have hts : ∀ w ∈ wsG, w.before _ s = true := fun w hw => atoms_spec (ws := (Cond.codeWith yL_step cL_step 6 (some .int) [(0, 12, 15, 20), (0, 12, 19, 13)] :: wsG)) B.pre w (List.mem_cons_of_mem _ hw)
  have htab := vx_table (x := yL_step) B (atoms_spec (ws := (Cond.codeWith yL_step cL_step 6 (some .int) [(0, 12, 15, 20), (0, 12, 19, 13)] :: wsG)) B.pre _ List.mem_cons_self)
  have hown : s.vm.findClass RL = some m.cls := findClass_of_methodNamed B.named
  have hlocks := B.notSynchronized
  subst hsz
  have hS : va_S (wA h0 o0 s.heap.size) s.heap s.heap [] := va_S.rf
  have hl := lv_entry ([.ref h0, .int (iZ (pg)), .int (iZ (kn)), .int (iZ (wh)), .ref o0]) (n := 6) (Nat.le_of_ble_eq_true rfl)
  rw [lg_entry_eq]
  generalize (lg_sl ([.ref h0, .int (iZ (pg)), .int (iZ (kn)), .int (iZ (wh)), .ref o0]) ++ List.replicate (6 - (lg_sl ([.ref h0, .int (iZ (pg)), .int (iZ (kn)), .int (iZ (wh)), .ref o0])).length) Slot.unset).toArray = ls at hl ⊢
  have hl : lv_has ls 6 [(0, .ref h0), (1, .int (iZ (pg))), (2, .int (iZ (kn))), (3, .int (iZ (wh))), (4, .ref o0)] := hl
  refine lv_aload hx hb dL_step_0 (lv_at hl 4 rfl) ?_
  refine lv_iconst (v := iZ 0) hx hb dL_step_2 rfl ?_
  refine lv_aload_n hx hb dL_step_3 rfl (lv_at hl 0 rfl) ?_
  refine lv_iload_n hx hb dL_step_4 rfl (lv_at hl 1 rfl) ?_
  refine lv_iload_n hx hb dL_step_5 rfl (lv_at hl 2 rfl) ?_
  refine lv_iload_n hx hb dL_step_6 rfl (lv_at hl 3 rfl) ?_
  refine vx_calli (vx_runV (As := [.int (iZ (pg)), .int (iZ (kn)), .int (iZ (wh))]) (rest := [.int (iZ 0), .ref o0]) ⟨hx, hb, hml, hown, hts⟩ (q_step l hfl dC dI cI cZ cII cIII h0 s.heap.size μ pg kn wh T hI h_pg h_kn h_wh) (cwV 3 hts (gV_G k1138 k1139 k1140 k1 k1141) rfl rfl rfl (by decide +kernel) ⟨Nat.le_of_ble_eq_true rfl, Nat.le_of_ble_eq_true rfl⟩) ⟨fun a U g mk q => by obtain ⟨q0, q1, qP, qK, qM, qE⟩ := q; exact ⟨q0, q1, qP, va_K.moved (u := U) (U := U.calling g mk a) (Vm.Alike.refl U.vm) qK, qM, xX_call qE⟩, va_recv hK hP (ci := 9) (q0 := 0) rfl ((fw_get (by decide)).trans (by rw [sE_0]; rfl)), fun U hU hW => ⟨rfl, by rw [hU], by rw [hU]; exact hP, va_K.moved hW.alike hK, xM_warm hW hM, xX_at hEx hS (fA_w (Nat.le_refl _)) hU hW⟩⟩ rfl rfl hl.1 rfl (lv_room (Nat.le_of_ble_eq_true rfl)) dL_step_7 ⟨Nat.le_of_ble_eq_true rfl, Nat.le_of_ble_eq_true rfl⟩) hS (fun q _ h => fA_w (Nat.le_refl _) q h) (fA_w (Nat.le_refl _)) (fun q _ h => fA_w (Nat.le_refl _) q h) (fun E9 ce9 q9 u9 t9 H1 locs ht9 hvm9 hpx9 hBX9 hz9 hk9 hS hce9 hcv9 hcl9 => ?_) (fun r9 u9 t9 H1 locs ht9 hvm9 hw9 hB9 hz9 hk9 hS => ?_)
  · obtain ⟨hE9, hP9, -⟩ := hBX9
    rw [ht9] at hP9
    have hO := one_kept hO hk9 (fun h => by have := one_lt hO; rcases h with h | h <;> (first | ((try clear hO); (try clear hP9); (try clear hE9); (try clear hz9); (try clear hcl9); (try clear hcv9); (try clear hce9); (try clear hpx9); (try clear q9); (try clear ce9); (try clear E9); (try clear htab); (try clear hsz); (try clear s₁); omega) | omega))
    have hP := hP9
    clear hP9 hk9
    simp only [List.mem_cons, List.not_mem_nil, or_false] at hE9
    rcases hE9 with rfl | rfl
    · refine vx_catch (name := "java/util/NoSuchElementException") hown [] ⟨0, 12, 15, 20⟩ [⟨0, 12, 19, 13⟩] htab (fun z hz => by simp at hz) (by decide) (by decide) (hts _ k730) (va_Nw.use rfl (hEx.2.1 _ (by decide +kernel))) hce9 hcv9 hcl9 ?_
      clear hce9
      generalize H1 = H at hP hO hS ⊢
      refine W.widen (k := 1) (n := 6) (by (first | ((try clear hO); (try clear hP9); (try clear hE9); (try clear hz9); (try clear hcl9); (try clear hcv9); (try clear hce9); (try clear hpx9); (try clear q9); (try clear ce9); (try clear E9); (try clear htab); (try clear hsz); (try clear s₁); (try clear ho); omega) | omega)) (by (first | ((try clear hO); (try clear hP9); (try clear hE9); (try clear hz9); (try clear hcl9); (try clear hcv9); (try clear hce9); (try clear hpx9); (try clear q9); (try clear ce9); (try clear E9); (try clear htab); (try clear hsz); (try clear s₁); (try clear ho); omega) | omega)) ?_
      refine lv_astore (lv' := [(5, .ref q9), (0, .ref h0), (1, .int (iZ (pg))), (2, .int (iZ (kn))), (3, .int (iZ (wh))), (4, .ref o0)]) hx hb dL_step_15 hl (by decide) rfl (fun ls hl => ?_)
      refine lv_iconst (v := iZ 1) hx hb dL_step_17 rfl ?_
      exact W.iret (v := (iZ 1)) hx hb hr (fun t8 ht8 hW8 => ⟨⟨(iZ 1), (u9, f), rfl, hpx9, by rw [ht8]; exact hP, by rw [ht8]; exact hO⟩, hS.F ht8⟩) hS.2.2 dL_step_18
    · refine vx_catch (name := "java/lang/IllegalArgumentException") hown [⟨0, 12, 15, 20⟩] ⟨0, 12, 19, 13⟩ [] htab (fun z hz => by rw [List.mem_singleton.mp hz]; exact Or.inr ⟨by decide, "java/util/NoSuchElementException", hts _ k730, hNc.2.2⟩) (by decide) (by decide) (hts _ k590) (va_Nw.use rfl (hEx.2.1 _ (by decide +kernel))) hce9 hcv9 hcl9 ?_
      clear hce9
      generalize H1 = H at hP hO hS ⊢
      refine W.widen (k := 1) (n := 6) (by (first | ((try clear hO); (try clear hP9); (try clear hE9); (try clear hz9); (try clear hcl9); (try clear hcv9); (try clear hce9); (try clear hpx9); (try clear q9); (try clear ce9); (try clear E9); (try clear htab); (try clear hsz); (try clear s₁); (try clear ho); omega) | omega)) (by (first | ((try clear hO); (try clear hP9); (try clear hE9); (try clear hz9); (try clear hcl9); (try clear hcv9); (try clear hce9); (try clear hpx9); (try clear q9); (try clear ce9); (try clear E9); (try clear htab); (try clear hsz); (try clear s₁); (try clear ho); omega) | omega)) ?_
      refine lv_astore (lv' := [(5, .ref q9), (0, .ref h0), (1, .int (iZ (pg))), (2, .int (iZ (kn))), (3, .int (iZ (wh))), (4, .ref o0)]) hx hb dL_step_19 hl (by decide) rfl (fun ls hl => ?_)
      refine lv_iconst (v := iZ 2) hx hb dL_step_21 rfl ?_
      exact W.iret (v := (iZ 2)) hx hb hr (fun t8 ht8 hW8 => ⟨⟨(iZ 2), (u9, f), rfl, hpx9, by rw [ht8]; exact hP, by rw [ht8]; exact hO⟩, hS.F ht8⟩) hS.2.2 dL_step_22
  · obtain ⟨hP9, -⟩ := hB9
    rw [ht9] at hP9
    have hO := one_kept hO hk9 (fun h => by have := one_lt hO; rcases h with h | h <;> (first | ((try clear hO); (try clear hP9); (try clear hz9); (try clear hcl9); (try clear hcv9); (try clear hce9); (try clear hpx9); (try clear q9); (try clear ce9); (try clear E9); (try clear htab); (try clear hsz); (try clear s₁); omega) | omega))
    have hP := hP9
    clear hP9 hk9
    generalize H1 = H at hP hO hS ⊢
    refine W.widen (k := 1) (n := 6) (by (first | ((try clear hO); (try clear hP9); (try clear hz9); (try clear hcl9); (try clear hcv9); (try clear hce9); (try clear hpx9); (try clear q9); (try clear ce9); (try clear E9); (try clear htab); (try clear hsz); (try clear s₁); (try clear ho); omega) | omega)) (by (first | ((try clear hO); (try clear hP9); (try clear hz9); (try clear hcl9); (try clear hcv9); (try clear hce9); (try clear hpx9); (try clear q9); (try clear ce9); (try clear E9); (try clear htab); (try clear hsz); (try clear s₁); (try clear ho); omega) | omega)) ?_
    refine lv_i2l (v := r9.toInt64) hx hb dL_step_10 rfl ?_
    refine wo_last hx hb hKo hO hS (Or.inr (Or.inl rfl)) dL_step_11 (fun H2 locs f1 hO hq2 hS => ?_)
    have hP := fl_kept hP hq2 (fun k hk => by (first | ((try clear hq2); (try clear hO); (try clear f1); (try clear H2); (try clear hP9); (try clear hz9); (try clear hcl9); (try clear hcv9); (try clear hce9); (try clear hpx9); (try clear q9); (try clear ce9); (try clear E9); (try clear htab); (try clear hsz); (try clear s₁); omega) | omega))
    clear hq2
    generalize H2 = H at hP hO hS ⊢
    refine lv_goto (tgt := 23) hx hb dL_step_12 (by decide) ?_
    refine lv_iconst (v := iZ 0) hx hb dL_step_23 rfl ?_
    exact W.iret (v := (iZ 0)) hx hb hr (fun t8 ht8 hW8 => ⟨⟨(iZ 0), (u9.1, f1), rfl, hw9.2, by rw [ht8]; exact hP, by rw [ht8]; exact hO⟩, hS.F ht8⟩) hS.2.2 dL_step_24
set_option maxHeartbeats 4000000 in
set_option maxRecDepth 100000 in
theorem w_users (l : Launch) (hfl : l.stackTraces = false) (dC : Nat → ClassId) (dI : Nat → Nat → Nat) (cI cZ cII cIII cO : ClassId) (h0 o0 sz : Nat) (μ : va_M) (f : Nat → Int64) (nd : Int) (T : List Tk) (hI : CI T μ) (h_nd : inR nd) (ho : h0 + 233 ≤ o0) : Met l yL_users (Cond.codeWith yL_users cL_users 4 (some .int) [(0, 9, 12, 20)] :: wsG) ({ frames := 9, cells := 1, slots := 6, locals := 187 } : Room) (va_Pc [.ref h0, .int (iZ (nd)), .ref o0] (fun U => U.heap.size = sz ∧ va_P (dC, dI) vwCl (fw (sE cI cZ cII cIII h0) h0 233 μ) U.heap ∧ va_P (dC, dI) vwCl [(o0, .inl (cO, 1, .inr (.inl f)))] U.heap ∧ va_K (dC, dI) vwCl (sT cI cZ cII cIII) U ∧ va_K (dC, dI) vwCl [(cO, .long)] U ∧ xM U ∧ xX (wA h0 o0 sz) U ∧ xNC U)) (va_Qi (fun (r9 : Int32) (u : va_M × (Nat → Int64)) => CI T u.1 ∧ SZ μ u.1) (fun u t => va_P (dC, dI) vwCl (fw (sE cI cZ cII cIII h0) h0 233 u.1) t.heap ∧ va_P (dC, dI) vwCl [(o0, .inl (cO, 1, .inr (.inl u.2)))] t.heap) (wA h0 o0 sz)) 1 6 (wA h0 o0 sz) := by
  refine va_MetW (hh := [(0, 9, 12, 20)]) (cc := cL_users) (maxL := 4) (ret := (some .int)) (by decide) rfl ?_
  intro p e s m args below meth c s₁ B hml hv
  obtain ⟨rfl, hsz, hP, hO, hK, hKo, hM, hEx, hNc⟩ := hv
  have hx := B.exec
  have hb := B.bytes
  have hr := B.returns
  have hts : ∀ w ∈ wsG, w.before _ s = true := fun w hw => atoms_spec (ws := (Cond.codeWith yL_users cL_users 4 (some .int) [(0, 9, 12, 20)] :: wsG)) B.pre w (List.mem_cons_of_mem _ hw)
  have htab := vx_table (x := yL_users) B (atoms_spec (ws := (Cond.codeWith yL_users cL_users 4 (some .int) [(0, 9, 12, 20)] :: wsG)) B.pre _ List.mem_cons_self)
  have hown : s.vm.findClass RL = some m.cls := findClass_of_methodNamed B.named
  have hlocks := B.notSynchronized
  subst hsz
  have hS : va_S (wA h0 o0 s.heap.size) s.heap s.heap [] := va_S.rf
  have hl := lv_entry ([.ref h0, .int (iZ (nd)), .ref o0]) (n := 4) (Nat.le_of_ble_eq_true rfl)
  rw [lg_entry_eq]
  generalize (lg_sl ([.ref h0, .int (iZ (nd)), .ref o0]) ++ List.replicate (4 - (lg_sl ([.ref h0, .int (iZ (nd)), .ref o0])).length) Slot.unset).toArray = ls at hl ⊢
  have hl : lv_has ls 4 [(0, .ref h0), (1, .int (iZ (nd))), (2, .ref o0)] := hl
  refine lv_aload_n hx hb dL_users_0 rfl (lv_at hl 2 rfl) ?_
  refine lv_iconst (v := iZ 0) hx hb dL_users_1 rfl ?_
  refine lv_aload_n hx hb dL_users_2 rfl (lv_at hl 0 rfl) ?_
  refine lv_iload_n hx hb dL_users_3 rfl (lv_at hl 1 rfl) ?_
  refine vx_calli (vx_runV (As := [.int (iZ (nd))]) (rest := [.int (iZ 0), .ref o0]) ⟨hx, hb, hml, hown, hts⟩ (q_users l hfl dC dI cI cZ cII cIII h0 s.heap.size μ nd T hI h_nd) (cwV 1 hts (gV_G k1145 k1146 k1147 k1 k1148) rfl rfl rfl (by decide +kernel) ⟨Nat.le_of_ble_eq_true rfl, Nat.le_of_ble_eq_true rfl⟩) ⟨fun a U g mk q => by obtain ⟨q0, q1, qP, qK, qM, qE⟩ := q; exact ⟨q0, q1, qP, va_K.moved (u := U) (U := U.calling g mk a) (Vm.Alike.refl U.vm) qK, qM, xX_call qE⟩, va_recv hK hP (ci := 9) (q0 := 0) rfl ((fw_get (by decide)).trans (by rw [sE_0]; rfl)), fun U hU hW => ⟨rfl, by rw [hU], by rw [hU]; exact hP, va_K.moved hW.alike hK, xM_warm hW hM, xX_at hEx hS (fA_w (Nat.le_refl _)) hU hW⟩⟩ rfl rfl hl.1 rfl (lv_room (Nat.le_of_ble_eq_true rfl)) dL_users_4 ⟨Nat.le_of_ble_eq_true rfl, Nat.le_of_ble_eq_true rfl⟩) hS (fun q _ h => fA_w (Nat.le_refl _) q h) (fA_w (Nat.le_refl _)) (fun q _ h => fA_w (Nat.le_refl _) q h) (fun E9 ce9 q9 u9 t9 H1 locs ht9 hvm9 hpx9 hBX9 hz9 hk9 hS hce9 hcv9 hcl9 => ?_) (fun r9 u9 t9 H1 locs ht9 hvm9 hw9 hB9 hz9 hk9 hS => ?_)
  · obtain ⟨hE9, hP9, -⟩ := hBX9
    rw [ht9] at hP9
    have hO := one_kept hO hk9 (fun h => by have := one_lt hO; rcases h with h | h <;> (first | ((try clear hO); (try clear hP9); (try clear hE9); (try clear hz9); (try clear hcl9); (try clear hcv9); (try clear hce9); (try clear hpx9); (try clear q9); (try clear ce9); (try clear E9); (try clear htab); (try clear hsz); (try clear s₁); omega) | omega))
    have hP := hP9
    clear hP9 hk9
    simp only [List.mem_cons, List.not_mem_nil, or_false] at hE9
    subst hE9
    refine vx_catch (name := "java/util/NoSuchElementException") hown [] ⟨0, 9, 12, 20⟩ [] htab (fun z hz => by simp at hz) (by decide) (by decide) (hts _ k730) (va_Nw.use rfl (hEx.2.1 _ (by decide +kernel))) hce9 hcv9 hcl9 ?_
    clear hce9
    generalize H1 = H at hP hO hS ⊢
    refine W.widen (k := 1) (n := 6) (by (first | ((try clear hO); (try clear hP9); (try clear hE9); (try clear hz9); (try clear hcl9); (try clear hcv9); (try clear hce9); (try clear hpx9); (try clear q9); (try clear ce9); (try clear E9); (try clear htab); (try clear hsz); (try clear s₁); (try clear ho); omega) | omega)) (by (first | ((try clear hO); (try clear hP9); (try clear hE9); (try clear hz9); (try clear hcl9); (try clear hcv9); (try clear hce9); (try clear hpx9); (try clear q9); (try clear ce9); (try clear E9); (try clear htab); (try clear hsz); (try clear s₁); (try clear ho); omega) | omega)) ?_
    refine lv_astore_n (lv' := [(3, .ref q9), (0, .ref h0), (1, .int (iZ (nd))), (2, .ref o0)]) hx hb dL_users_12 rfl hl (by decide) rfl (fun ls hl => ?_)
    refine lv_iconst (v := iZ 1) hx hb dL_users_13 rfl ?_
    exact W.iret (v := (iZ 1)) hx hb hr (fun t8 ht8 hW8 => ⟨⟨(iZ 1), (u9, f), rfl, hpx9, by rw [ht8]; exact hP, by rw [ht8]; exact hO⟩, hS.F ht8⟩) hS.2.2 dL_users_14
  · obtain ⟨hP9, -⟩ := hB9
    rw [ht9] at hP9
    have hO := one_kept hO hk9 (fun h => by have := one_lt hO; rcases h with h | h <;> (first | ((try clear hO); (try clear hP9); (try clear hz9); (try clear hcl9); (try clear hcv9); (try clear hce9); (try clear hpx9); (try clear q9); (try clear ce9); (try clear E9); (try clear htab); (try clear hsz); (try clear s₁); omega) | omega))
    have hP := hP9
    clear hP9 hk9
    generalize H1 = H at hP hO hS ⊢
    refine W.widen (k := 1) (n := 6) (by (first | ((try clear hO); (try clear hP9); (try clear hz9); (try clear hcl9); (try clear hcv9); (try clear hce9); (try clear hpx9); (try clear q9); (try clear ce9); (try clear E9); (try clear htab); (try clear hsz); (try clear s₁); (try clear ho); omega) | omega)) (by (first | ((try clear hO); (try clear hP9); (try clear hz9); (try clear hcl9); (try clear hcv9); (try clear hce9); (try clear hpx9); (try clear q9); (try clear ce9); (try clear E9); (try clear htab); (try clear hsz); (try clear s₁); (try clear ho); omega) | omega)) ?_
    refine lv_i2l (v := r9.toInt64) hx hb dL_users_7 rfl ?_
    refine wo_last hx hb hKo hO hS (Or.inr (Or.inl rfl)) dL_users_8 (fun H2 locs f1 hO hq2 hS => ?_)
    have hP := fl_kept hP hq2 (fun k hk => by (first | ((try clear hq2); (try clear hO); (try clear f1); (try clear H2); (try clear hP9); (try clear hz9); (try clear hcl9); (try clear hcv9); (try clear hce9); (try clear hpx9); (try clear q9); (try clear ce9); (try clear E9); (try clear htab); (try clear hsz); (try clear s₁); omega) | omega))
    clear hq2
    generalize H2 = H at hP hO hS ⊢
    refine lv_goto (tgt := 15) hx hb dL_users_9 (by decide) ?_
    refine lv_iconst (v := iZ 0) hx hb dL_users_15 rfl ?_
    exact W.iret (v := (iZ 0)) hx hb hr (fun t8 ht8 hW8 => ⟨⟨(iZ 0), (u9.1, f1), rfl, hw9.2, by rw [ht8]; exact hP, by rw [ht8]; exact hO⟩, hS.F ht8⟩) hS.2.2 dL_users_16
set_option maxHeartbeats 4000000 in
set_option maxRecDepth 100000 in
theorem w_greatest (l : Launch) (hfl : l.stackTraces = false) (dC : Nat → ClassId) (dI : Nat → Nat → Nat) (cI cZ cII cIII cO : ClassId) (h0 o0 sz : Nat) (μ : va_M) (f : Nat → Int64) (nd : Int) (T : List Tk) (hI : CI T μ) (h_nd : inR nd) (ho : h0 + 233 ≤ o0) : Met l yL_greatest (Cond.codeWith yL_greatest cL_greatest 4 (some .int) [(0, 9, 12, 20)] :: wsG) ({ frames := 9, cells := 1, slots := 6, locals := 187 } : Room) (va_Pc [.ref h0, .int (iZ (nd)), .ref o0] (fun U => U.heap.size = sz ∧ va_P (dC, dI) vwCl (fw (sE cI cZ cII cIII h0) h0 233 μ) U.heap ∧ va_P (dC, dI) vwCl [(o0, .inl (cO, 1, .inr (.inl f)))] U.heap ∧ va_K (dC, dI) vwCl (sT cI cZ cII cIII) U ∧ va_K (dC, dI) vwCl [(cO, .long)] U ∧ xM U ∧ xX (wA h0 o0 sz) U ∧ xNC U)) (va_Qi (fun (r9 : Int32) (u : va_M × (Nat → Int64)) => CI T u.1 ∧ SZ μ u.1) (fun u t => va_P (dC, dI) vwCl (fw (sE cI cZ cII cIII h0) h0 233 u.1) t.heap ∧ va_P (dC, dI) vwCl [(o0, .inl (cO, 1, .inr (.inl u.2)))] t.heap) (wA h0 o0 sz)) 1 6 (wA h0 o0 sz) := by
  refine va_MetW (hh := [(0, 9, 12, 20)]) (cc := cL_greatest) (maxL := 4) (ret := (some .int)) (by decide) rfl ?_
  intro p e s m args below meth c s₁ B hml hv
  obtain ⟨rfl, hsz, hP, hO, hK, hKo, hM, hEx, hNc⟩ := hv
  have hx := B.exec
  have hb := B.bytes
  have hr := B.returns
  have hts : ∀ w ∈ wsG, w.before _ s = true := fun w hw => atoms_spec (ws := (Cond.codeWith yL_greatest cL_greatest 4 (some .int) [(0, 9, 12, 20)] :: wsG)) B.pre w (List.mem_cons_of_mem _ hw)
  have htab := vx_table (x := yL_greatest) B (atoms_spec (ws := (Cond.codeWith yL_greatest cL_greatest 4 (some .int) [(0, 9, 12, 20)] :: wsG)) B.pre _ List.mem_cons_self)
  have hown : s.vm.findClass RL = some m.cls := findClass_of_methodNamed B.named
  have hlocks := B.notSynchronized
  subst hsz
  have hS : va_S (wA h0 o0 s.heap.size) s.heap s.heap [] := va_S.rf
  have hl := lv_entry ([.ref h0, .int (iZ (nd)), .ref o0]) (n := 4) (Nat.le_of_ble_eq_true rfl)
  rw [lg_entry_eq]
  generalize (lg_sl ([.ref h0, .int (iZ (nd)), .ref o0]) ++ List.replicate (4 - (lg_sl ([.ref h0, .int (iZ (nd)), .ref o0])).length) Slot.unset).toArray = ls at hl ⊢
  have hl : lv_has ls 4 [(0, .ref h0), (1, .int (iZ (nd))), (2, .ref o0)] := hl
  refine lv_aload_n hx hb dL_greatest_0 rfl (lv_at hl 2 rfl) ?_
  refine lv_iconst (v := iZ 0) hx hb dL_greatest_1 rfl ?_
  refine lv_aload_n hx hb dL_greatest_2 rfl (lv_at hl 0 rfl) ?_
  refine lv_iload_n hx hb dL_greatest_3 rfl (lv_at hl 1 rfl) ?_
  refine vx_calli (vx_runV (As := [.int (iZ (nd))]) (rest := [.int (iZ 0), .ref o0]) ⟨hx, hb, hml, hown, hts⟩ (q_greatest l hfl dC dI cI cZ cII cIII h0 s.heap.size μ nd T hI h_nd) (cwV 1 hts (gV_G k1152 k1153 k1154 k1 k1155) rfl rfl rfl (by decide +kernel) ⟨Nat.le_of_ble_eq_true rfl, Nat.le_of_ble_eq_true rfl⟩) ⟨fun a U g mk q => by obtain ⟨q0, q1, qP, qK, qM, qE⟩ := q; exact ⟨q0, q1, qP, va_K.moved (u := U) (U := U.calling g mk a) (Vm.Alike.refl U.vm) qK, qM, xX_call qE⟩, va_recv hK hP (ci := 9) (q0 := 0) rfl ((fw_get (by decide)).trans (by rw [sE_0]; rfl)), fun U hU hW => ⟨rfl, by rw [hU], by rw [hU]; exact hP, va_K.moved hW.alike hK, xM_warm hW hM, xX_at hEx hS (fA_w (Nat.le_refl _)) hU hW⟩⟩ rfl rfl hl.1 rfl (lv_room (Nat.le_of_ble_eq_true rfl)) dL_greatest_4 ⟨Nat.le_of_ble_eq_true rfl, Nat.le_of_ble_eq_true rfl⟩) hS (fun q _ h => fA_w (Nat.le_refl _) q h) (fA_w (Nat.le_refl _)) (fun q _ h => fA_w (Nat.le_refl _) q h) (fun E9 ce9 q9 u9 t9 H1 locs ht9 hvm9 hpx9 hBX9 hz9 hk9 hS hce9 hcv9 hcl9 => ?_) (fun r9 u9 t9 H1 locs ht9 hvm9 hw9 hB9 hz9 hk9 hS => ?_)
  · obtain ⟨hE9, hP9, -⟩ := hBX9
    rw [ht9] at hP9
    have hO := one_kept hO hk9 (fun h => by have := one_lt hO; rcases h with h | h <;> (first | ((try clear hO); (try clear hP9); (try clear hE9); (try clear hz9); (try clear hcl9); (try clear hcv9); (try clear hce9); (try clear hpx9); (try clear q9); (try clear ce9); (try clear E9); (try clear htab); (try clear hsz); (try clear s₁); omega) | omega))
    have hP := hP9
    clear hP9 hk9
    simp only [List.mem_cons, List.not_mem_nil, or_false] at hE9
    subst hE9
    refine vx_catch (name := "java/util/NoSuchElementException") hown [] ⟨0, 9, 12, 20⟩ [] htab (fun z hz => by simp at hz) (by decide) (by decide) (hts _ k730) (va_Nw.use rfl (hEx.2.1 _ (by decide +kernel))) hce9 hcv9 hcl9 ?_
    clear hce9
    generalize H1 = H at hP hO hS ⊢
    refine W.widen (k := 1) (n := 6) (by (first | ((try clear hO); (try clear hP9); (try clear hE9); (try clear hz9); (try clear hcl9); (try clear hcv9); (try clear hce9); (try clear hpx9); (try clear q9); (try clear ce9); (try clear E9); (try clear htab); (try clear hsz); (try clear s₁); (try clear ho); omega) | omega)) (by (first | ((try clear hO); (try clear hP9); (try clear hE9); (try clear hz9); (try clear hcl9); (try clear hcv9); (try clear hce9); (try clear hpx9); (try clear q9); (try clear ce9); (try clear E9); (try clear htab); (try clear hsz); (try clear s₁); (try clear ho); omega) | omega)) ?_
    refine lv_astore_n (lv' := [(3, .ref q9), (0, .ref h0), (1, .int (iZ (nd))), (2, .ref o0)]) hx hb dL_greatest_12 rfl hl (by decide) rfl (fun ls hl => ?_)
    refine lv_iconst (v := iZ 1) hx hb dL_greatest_13 rfl ?_
    exact W.iret (v := (iZ 1)) hx hb hr (fun t8 ht8 hW8 => ⟨⟨(iZ 1), (u9, f), rfl, hpx9, by rw [ht8]; exact hP, by rw [ht8]; exact hO⟩, hS.F ht8⟩) hS.2.2 dL_greatest_14
  · obtain ⟨hP9, -⟩ := hB9
    rw [ht9] at hP9
    have hO := one_kept hO hk9 (fun h => by have := one_lt hO; rcases h with h | h <;> (first | ((try clear hO); (try clear hP9); (try clear hz9); (try clear hcl9); (try clear hcv9); (try clear hce9); (try clear hpx9); (try clear q9); (try clear ce9); (try clear E9); (try clear htab); (try clear hsz); (try clear s₁); omega) | omega))
    have hP := hP9
    clear hP9 hk9
    generalize H1 = H at hP hO hS ⊢
    refine W.widen (k := 1) (n := 6) (by (first | ((try clear hO); (try clear hP9); (try clear hz9); (try clear hcl9); (try clear hcv9); (try clear hce9); (try clear hpx9); (try clear q9); (try clear ce9); (try clear E9); (try clear htab); (try clear hsz); (try clear s₁); (try clear ho); omega) | omega)) (by (first | ((try clear hO); (try clear hP9); (try clear hz9); (try clear hcl9); (try clear hcv9); (try clear hce9); (try clear hpx9); (try clear q9); (try clear ce9); (try clear E9); (try clear htab); (try clear hsz); (try clear s₁); (try clear ho); omega) | omega)) ?_
    refine lv_i2l (v := r9.toInt64) hx hb dL_greatest_7 rfl ?_
    refine wo_last hx hb hKo hO hS (Or.inr (Or.inl rfl)) dL_greatest_8 (fun H2 locs f1 hO hq2 hS => ?_)
    have hP := fl_kept hP hq2 (fun k hk => by (first | ((try clear hq2); (try clear hO); (try clear f1); (try clear H2); (try clear hP9); (try clear hz9); (try clear hcl9); (try clear hcv9); (try clear hce9); (try clear hpx9); (try clear q9); (try clear ce9); (try clear E9); (try clear htab); (try clear hsz); (try clear s₁); omega) | omega))
    clear hq2
    generalize H2 = H at hP hO hS ⊢
    refine lv_goto (tgt := 15) hx hb dL_greatest_9 (by decide) ?_
    refine lv_iconst (v := iZ 0) hx hb dL_greatest_15 rfl ?_
    exact W.iret (v := (iZ 0)) hx hb hr (fun t8 ht8 hW8 => ⟨⟨(iZ 0), (u9.1, f1), rfl, hw9.2, by rw [ht8]; exact hP, by rw [ht8]; exact hO⟩, hS.F ht8⟩) hS.2.2 dL_greatest_16

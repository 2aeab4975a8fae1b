theorem k0 : (Cond.initialized "PageSkeletonLaw") ∈ wsG := wsG_at 0 (by decide +kernel) (by decide +kernel)
theorem k378 : (Cond.methodLink "PageSkeletonLaw" (114 : Nat) ({ cls := "PageSkeleton", name := "feed", desc := "(IIIII)I" } : MethodName)) ∈ wsG := wsG_at 378 (by decide +kernel) (by decide +kernel)
theorem k379 : (Cond.instanceMethod ({ cls := "PageSkeleton", name := "feed", desc := "(IIIII)I" } : MethodName)) ∈ wsG := wsG_at 379 (by decide +kernel) (by decide +kernel)
theorem k380 : (Cond.selects "PageSkeleton" ({ cls := "PageSkeleton", name := "feed", desc := "(IIIII)I" } : MethodName) ({ cls := "PageSkeleton", name := "feed", desc := "(IIIII)I" } : MethodName)) ∈ wsG := wsG_at 380 (by decide +kernel) (by decide +kernel)
theorem k381 : (Cond.code ({ cls := "PageSkeleton", name := "feed", desc := "(IIIII)I" } : MethodName) prog_1_method_2_code (6 : Nat) (Option.some FieldType.int)) ∈ wsG := wsG_at 381 (by decide +kernel) (by decide +kernel)
theorem k386 : (Cond.methodLink "PageSkeletonLaw" (129 : Nat) ({ cls := "PageSkeleton", name := "fault", desc := "()I" } : MethodName)) ∈ wsG := wsG_at 386 (by decide +kernel) (by decide +kernel)
theorem k387 : (Cond.instanceMethod ({ cls := "PageSkeleton", name := "fault", desc := "()I" } : MethodName)) ∈ wsG := wsG_at 387 (by decide +kernel) (by decide +kernel)
theorem k388 : (Cond.selects "PageSkeleton" ({ cls := "PageSkeleton", name := "fault", desc := "()I" } : MethodName) ({ cls := "PageSkeleton", name := "fault", desc := "()I" } : MethodName)) ∈ wsG := wsG_at 388 (by decide +kernel) (by decide +kernel)
theorem k389 : (Cond.code ({ cls := "PageSkeleton", name := "fault", desc := "()I" } : MethodName) prog_1_method_4_code (1 : Nat) (Option.some FieldType.int)) ∈ wsG := wsG_at 389 (by decide +kernel) (by decide +kernel)
theorem k390 : (Cond.methodLink "PageSkeletonLaw" (136 : Nat) ({ cls := "PageSkeleton", name := "tidy", desc := "()I" } : MethodName)) ∈ wsG := wsG_at 390 (by decide +kernel) (by decide +kernel)
theorem k391 : (Cond.instanceMethod ({ cls := "PageSkeleton", name := "tidy", desc := "()I" } : MethodName)) ∈ wsG := wsG_at 391 (by decide +kernel) (by decide +kernel)
theorem k392 : (Cond.selects "PageSkeleton" ({ cls := "PageSkeleton", name := "tidy", desc := "()I" } : MethodName) ({ cls := "PageSkeleton", name := "tidy", desc := "()I" } : MethodName)) ∈ wsG := wsG_at 392 (by decide +kernel) (by decide +kernel)
theorem k393 : (Cond.code ({ cls := "PageSkeleton", name := "tidy", desc := "()I" } : MethodName) prog_1_method_6_code (2 : Nat) (Option.some FieldType.int)) ∈ wsG := wsG_at 393 (by decide +kernel) (by decide +kernel)
theorem k503 : (Cond.methodLink "PageSkeletonLaw" (143 : Nat) ({ cls := "PageSkeleton", name := "undo", desc := "()I" } : MethodName)) ∈ wsG := wsG_at 503 (by decide +kernel) (by decide +kernel)
theorem k504 : (Cond.instanceMethod ({ cls := "PageSkeleton", name := "undo", desc := "()I" } : MethodName)) ∈ wsG := wsG_at 504 (by decide +kernel) (by decide +kernel)
theorem k505 : (Cond.selects "PageSkeleton" ({ cls := "PageSkeleton", name := "undo", desc := "()I" } : MethodName) ({ cls := "PageSkeleton", name := "undo", desc := "()I" } : MethodName)) ∈ wsG := wsG_at 505 (by decide +kernel) (by decide +kernel)
theorem k506 : (Cond.code ({ cls := "PageSkeleton", name := "undo", desc := "()I" } : MethodName) prog_1_method_8_code (1 : Nat) (Option.some FieldType.int)) ∈ wsG := wsG_at 506 (by decide +kernel) (by decide +kernel)
theorem k517 : (Cond.methodLink "PageSkeletonLaw" (147 : Nat) ({ cls := "PageSkeleton", name := "clear", desc := "()I" } : MethodName)) ∈ wsG := wsG_at 517 (by decide +kernel) (by decide +kernel)
theorem k518 : (Cond.instanceMethod ({ cls := "PageSkeleton", name := "clear", desc := "()I" } : MethodName)) ∈ wsG := wsG_at 518 (by decide +kernel) (by decide +kernel)
theorem k519 : (Cond.selects "PageSkeleton" ({ cls := "PageSkeleton", name := "clear", desc := "()I" } : MethodName) ({ cls := "PageSkeleton", name := "clear", desc := "()I" } : MethodName)) ∈ wsG := wsG_at 519 (by decide +kernel) (by decide +kernel)
theorem k520 : (Cond.code ({ cls := "PageSkeleton", name := "clear", desc := "()I" } : MethodName) prog_1_method_9_code (2 : Nat) (Option.some FieldType.int)) ∈ wsG := wsG_at 520 (by decide +kernel) (by decide +kernel)
theorem k523 : (Cond.methodLink "PageSkeletonLaw" (207 : Nat) ({ cls := "PageSkeleton", name := "shortest", desc := "()I" } : MethodName)) ∈ wsG := wsG_at 523 (by decide +kernel) (by decide +kernel)
theorem k524 : (Cond.instanceMethod ({ cls := "PageSkeleton", name := "shortest", desc := "()I" } : MethodName)) ∈ wsG := wsG_at 524 (by decide +kernel) (by decide +kernel)
theorem k525 : (Cond.selects "PageSkeleton" ({ cls := "PageSkeleton", name := "shortest", desc := "()I" } : MethodName) ({ cls := "PageSkeleton", name := "shortest", desc := "()I" } : MethodName)) ∈ wsG := wsG_at 525 (by decide +kernel) (by decide +kernel)
theorem k526 : (Cond.code ({ cls := "PageSkeleton", name := "shortest", desc := "()I" } : MethodName) prog_1_method_28_code (1 : Nat) (Option.some FieldType.int)) ∈ wsG := wsG_at 526 (by decide +kernel) (by decide +kernel)
theorem k531 : (Cond.methodLink "PageSkeletonLaw" (238 : Nat) ({ cls := "PageSkeleton", name := "fitting", desc := "()I" } : MethodName)) ∈ wsG := wsG_at 531 (by decide +kernel) (by decide +kernel)
theorem k532 : (Cond.instanceMethod ({ cls := "PageSkeleton", name := "fitting", desc := "()I" } : MethodName)) ∈ wsG := wsG_at 532 (by decide +kernel) (by decide +kernel)
theorem k533 : (Cond.selects "PageSkeleton" ({ cls := "PageSkeleton", name := "fitting", desc := "()I" } : MethodName) ({ cls := "PageSkeleton", name := "fitting", desc := "()I" } : MethodName)) ∈ wsG := wsG_at 533 (by decide +kernel) (by decide +kernel)
theorem k534 : (Cond.code ({ cls := "PageSkeleton", name := "fitting", desc := "()I" } : MethodName) prog_1_method_38_code (3 : Nat) (Option.some FieldType.int)) ∈ wsG := wsG_at 534 (by decide +kernel) (by decide +kernel)
theorem k583 : (Cond.methodLink "PageSkeletonLaw" (242 : Nat) ({ cls := "PageSkeleton", name := "status", desc := "(I)I" } : MethodName)) ∈ wsG := wsG_at 583 (by decide +kernel) (by decide +kernel)
theorem k584 : (Cond.instanceMethod ({ cls := "PageSkeleton", name := "status", desc := "(I)I" } : MethodName)) ∈ wsG := wsG_at 584 (by decide +kernel) (by decide +kernel)
theorem k585 : (Cond.selects "PageSkeleton" ({ cls := "PageSkeleton", name := "status", desc := "(I)I" } : MethodName) ({ cls := "PageSkeleton", name := "status", desc := "(I)I" } : MethodName)) ∈ wsG := wsG_at 585 (by decide +kernel) (by decide +kernel)
theorem k586 : (Cond.code ({ cls := "PageSkeleton", name := "status", desc := "(I)I" } : MethodName) prog_1_method_39_code (2 : Nat) (Option.some FieldType.int)) ∈ wsG := wsG_at 586 (by decide +kernel) (by decide +kernel)
theorem k587 : (Cond.methodLink "PageSkeletonLaw" (119 : Nat) ({ cls := "PageSkeletonLaw", name := "page", desc := "(LPageSkeleton;I[J)I" } : MethodName)) ∈ wsG := wsG_at 587 (by decide +kernel) (by decide +kernel)
theorem k588 : (Cond.static ({ cls := "PageSkeletonLaw", name := "page", desc := "(LPageSkeleton;I[J)I" } : MethodName)) ∈ wsG := wsG_at 588 (by decide +kernel) (by decide +kernel)
theorem k589 : (Cond.codeWith ({ cls := "PageSkeletonLaw", name := "page", desc := "(LPageSkeleton;I[J)I" } : MethodName) method_3_code (4 : Nat) (Option.some FieldType.int) [((0 : Nat), (9 : Nat), (12 : Nat), (13 : Nat)), ((0 : Nat), (9 : Nat), (15 : Nat), (15 : Nat))]) ∈ wsG := wsG_at 589 (by decide +kernel) (by decide +kernel)
theorem k727 : (Cond.methodLink "PageSkeletonLaw" (133 : Nat) ({ cls := "PageSkeletonLaw", name := "lay", desc := "(LPageSkeleton;I[J)I" } : MethodName)) ∈ wsG := wsG_at 727 (by decide +kernel) (by decide +kernel)
theorem k728 : (Cond.static ({ cls := "PageSkeletonLaw", name := "lay", desc := "(LPageSkeleton;I[J)I" } : MethodName)) ∈ wsG := wsG_at 728 (by decide +kernel) (by decide +kernel)
theorem k729 : (Cond.codeWith ({ cls := "PageSkeletonLaw", name := "lay", desc := "(LPageSkeleton;I[J)I" } : MethodName) method_4_code (4 : Nat) (Option.some FieldType.int) [((0 : Nat), (9 : Nat), (12 : Nat), (20 : Nat)), ((0 : Nat), (9 : Nat), (15 : Nat), (15 : Nat))]) ∈ wsG := wsG_at 729 (by decide +kernel) (by decide +kernel)
theorem k837 : (Cond.methodLink "PageSkeletonLaw" (140 : Nat) ({ cls := "PageSkeletonLaw", name := "tidied", desc := "(LPageSkeleton;I[J)I" } : MethodName)) ∈ wsG := wsG_at 837 (by decide +kernel) (by decide +kernel)
theorem k838 : (Cond.static ({ cls := "PageSkeletonLaw", name := "tidied", desc := "(LPageSkeleton;I[J)I" } : MethodName)) ∈ wsG := wsG_at 838 (by decide +kernel) (by decide +kernel)
theorem k839 : (Cond.codeWith ({ cls := "PageSkeletonLaw", name := "tidied", desc := "(LPageSkeleton;I[J)I" } : MethodName) method_5_code (4 : Nat) (Option.some FieldType.int) [((0 : Nat), (9 : Nat), (12 : Nat), (13 : Nat))]) ∈ wsG := wsG_at 839 (by decide +kernel) (by decide +kernel)
theorem k849 : (Cond.methodLink "PageSkeletonLaw" (151 : Nat) ({ cls := "PageSkeletonLaw", name := "told", desc := "(LPageSkeleton;I[J)I" } : MethodName)) ∈ wsG := wsG_at 849 (by decide +kernel) (by decide +kernel)
theorem k850 : (Cond.static ({ cls := "PageSkeletonLaw", name := "told", desc := "(LPageSkeleton;I[J)I" } : MethodName)) ∈ wsG := wsG_at 850 (by decide +kernel) (by decide +kernel)
theorem k851 : (Cond.codeWith ({ cls := "PageSkeletonLaw", name := "told", desc := "(LPageSkeleton;I[J)I" } : MethodName) method_6_code (4 : Nat) (Option.some FieldType.int) [((0 : Nat), (9 : Nat), (12 : Nat), (13 : Nat))]) ∈ wsG := wsG_at 851 (by decide +kernel) (by decide +kernel)
theorem k860 : (Cond.methodLink "PageSkeletonLaw" (154 : Nat) ({ cls := "PageSkeletonLaw", name := "pageOf", desc := "(LPageSkeleton;II[J)I" } : MethodName)) ∈ wsG := wsG_at 860 (by decide +kernel) (by decide +kernel)
theorem k861 : (Cond.static ({ cls := "PageSkeletonLaw", name := "pageOf", desc := "(LPageSkeleton;II[J)I" } : MethodName)) ∈ wsG := wsG_at 861 (by decide +kernel) (by decide +kernel)
theorem k862 : (Cond.codeWith ({ cls := "PageSkeletonLaw", name := "pageOf", desc := "(LPageSkeleton;II[J)I" } : MethodName) method_7_code (5 : Nat) (Option.some FieldType.int) [((0 : Nat), (10 : Nat), (13 : Nat), (20 : Nat)), ((0 : Nat), (10 : Nat), (17 : Nat), (13 : Nat))]) ∈ wsG := wsG_at 862 (by decide +kernel) (by decide +kernel)
theorem k871 : (Cond.methodLink "PageSkeletonLaw" (158 : Nat) ({ cls := "PageSkeletonLaw", name := "token", desc := "(LPageSkeleton;II[J)I" } : MethodName)) ∈ wsG := wsG_at 871 (by decide +kernel) (by decide +kernel)
theorem k872 : (Cond.static ({ cls := "PageSkeletonLaw", name := "token", desc := "(LPageSkeleton;II[J)I" } : MethodName)) ∈ wsG := wsG_at 872 (by decide +kernel) (by decide +kernel)
theorem k873 : (Cond.codeWith ({ cls := "PageSkeletonLaw", name := "token", desc := "(LPageSkeleton;II[J)I" } : MethodName) method_8_code (5 : Nat) (Option.some FieldType.int) [((0 : Nat), (10 : Nat), (13 : Nat), (20 : Nat))]) ∈ wsG := wsG_at 873 (by decide +kernel) (by decide +kernel)
theorem k882 : (Cond.methodLink "PageSkeletonLaw" (161 : Nat) ({ cls := "PageSkeletonLaw", name := "tokenOf", desc := "(LPageSkeleton;II[J)I" } : MethodName)) ∈ wsG := wsG_at 882 (by decide +kernel) (by decide +kernel)
theorem k883 : (Cond.static ({ cls := "PageSkeletonLaw", name := "tokenOf", desc := "(LPageSkeleton;II[J)I" } : MethodName)) ∈ wsG := wsG_at 883 (by decide +kernel) (by decide +kernel)
theorem k884 : (Cond.codeWith ({ cls := "PageSkeletonLaw", name := "tokenOf", desc := "(LPageSkeleton;II[J)I" } : MethodName) method_9_code (5 : Nat) (Option.some FieldType.int) [((0 : Nat), (10 : Nat), (13 : Nat), (20 : Nat)), ((0 : Nat), (10 : Nat), (17 : Nat), (13 : Nat))]) ∈ wsG := wsG_at 884 (by decide +kernel) (by decide +kernel)
theorem k907 : (Cond.methodLink "PageSkeletonLaw" (164 : Nat) ({ cls := "PageSkeletonLaw", name := "node", desc := "(LPageSkeleton;II[J)I" } : MethodName)) ∈ wsG := wsG_at 907 (by decide +kernel) (by decide +kernel)
theorem k908 : (Cond.static ({ cls := "PageSkeletonLaw", name := "node", desc := "(LPageSkeleton;II[J)I" } : MethodName)) ∈ wsG := wsG_at 908 (by decide +kernel) (by decide +kernel)
theorem k909 : (Cond.codeWith ({ cls := "PageSkeletonLaw", name := "node", desc := "(LPageSkeleton;II[J)I" } : MethodName) method_10_code (5 : Nat) (Option.some FieldType.int) [((0 : Nat), (10 : Nat), (13 : Nat), (20 : Nat)), ((0 : Nat), (10 : Nat), (17 : Nat), (13 : Nat))]) ∈ wsG := wsG_at 909 (by decide +kernel) (by decide +kernel)
theorem k941 : (Cond.methodLink "PageSkeletonLaw" (167 : Nat) ({ cls := "PageSkeletonLaw", name := "pageNode", desc := "(LPageSkeleton;III[J)I" } : MethodName)) ∈ wsG := wsG_at 941 (by decide +kernel) (by decide +kernel)
theorem k942 : (Cond.static ({ cls := "PageSkeletonLaw", name := "pageNode", desc := "(LPageSkeleton;III[J)I" } : MethodName)) ∈ wsG := wsG_at 942 (by decide +kernel) (by decide +kernel)
theorem k943 : (Cond.codeWith ({ cls := "PageSkeletonLaw", name := "pageNode", desc := "(LPageSkeleton;III[J)I" } : MethodName) method_11_code (6 : Nat) (Option.some FieldType.int) [((0 : Nat), (12 : Nat), (15 : Nat), (20 : Nat)), ((0 : Nat), (12 : Nat), (19 : Nat), (13 : Nat))]) ∈ wsG := wsG_at 943 (by decide +kernel) (by decide +kernel)
theorem k948 : (Cond.methodLink "PageSkeletonLaw" (171 : Nat) ({ cls := "PageSkeletonLaw", name := "fits", desc := "(LPageSkeleton;I[J)I" } : MethodName)) ∈ wsG := wsG_at 948 (by decide +kernel) (by decide +kernel)
theorem k949 : (Cond.static ({ cls := "PageSkeletonLaw", name := "fits", desc := "(LPageSkeleton;I[J)I" } : MethodName)) ∈ wsG := wsG_at 949 (by decide +kernel) (by decide +kernel)
theorem k950 : (Cond.codeWith ({ cls := "PageSkeletonLaw", name := "fits", desc := "(LPageSkeleton;I[J)I" } : MethodName) method_12_code (4 : Nat) (Option.some FieldType.int) [((0 : Nat), (16 : Nat), (19 : Nat), (20 : Nat))]) ∈ wsG := wsG_at 950 (by decide +kernel) (by decide +kernel)
theorem k955 : (Cond.methodLink "PageSkeletonLaw" (174 : Nat) ({ cls := "PageSkeletonLaw", name := "reach", desc := "(LPageSkeleton;I[J)I" } : MethodName)) ∈ wsG := wsG_at 955 (by decide +kernel) (by decide +kernel)
theorem k956 : (Cond.static ({ cls := "PageSkeletonLaw", name := "reach", desc := "(LPageSkeleton;I[J)I" } : MethodName)) ∈ wsG := wsG_at 956 (by decide +kernel) (by decide +kernel)
theorem k957 : (Cond.codeWith ({ cls := "PageSkeletonLaw", name := "reach", desc := "(LPageSkeleton;I[J)I" } : MethodName) method_13_code (4 : Nat) (Option.some FieldType.int) [((0 : Nat), (9 : Nat), (12 : Nat), (20 : Nat))]) ∈ wsG := wsG_at 957 (by decide +kernel) (by decide +kernel)
theorem k962 : (Cond.methodLink "PageSkeletonLaw" (177 : Nat) ({ cls := "PageSkeletonLaw", name := "ways", desc := "(LPageSkeleton;I[J)I" } : MethodName)) ∈ wsG := wsG_at 962 (by decide +kernel) (by decide +kernel)
theorem k963 : (Cond.static ({ cls := "PageSkeletonLaw", name := "ways", desc := "(LPageSkeleton;I[J)I" } : MethodName)) ∈ wsG := wsG_at 963 (by decide +kernel) (by decide +kernel)
theorem k964 : (Cond.codeWith ({ cls := "PageSkeletonLaw", name := "ways", desc := "(LPageSkeleton;I[J)I" } : MethodName) method_14_code (4 : Nat) (Option.some FieldType.int) [((0 : Nat), (9 : Nat), (12 : Nat), (20 : Nat))]) ∈ wsG := wsG_at 964 (by decide +kernel) (by decide +kernel)
theorem k969 : (Cond.methodLink "PageSkeletonLaw" (180 : Nat) ({ cls := "PageSkeletonLaw", name := "times", desc := "(LPageSkeleton;II[J)I" } : MethodName)) ∈ wsG := wsG_at 969 (by decide +kernel) (by decide +kernel)
theorem k970 : (Cond.static ({ cls := "PageSkeletonLaw", name := "times", desc := "(LPageSkeleton;II[J)I" } : MethodName)) ∈ wsG := wsG_at 970 (by decide +kernel) (by decide +kernel)
theorem k971 : (Cond.codeWith ({ cls := "PageSkeletonLaw", name := "times", desc := "(LPageSkeleton;II[J)I" } : MethodName) method_15_code (5 : Nat) (Option.some FieldType.int) [((0 : Nat), (10 : Nat), (13 : Nat), (20 : Nat))]) ∈ wsG := wsG_at 971 (by decide +kernel) (by decide +kernel)
theorem k976 : (Cond.methodLink "PageSkeletonLaw" (183 : Nat) ({ cls := "PageSkeletonLaw", name := "passes", desc := "(LPageSkeleton;II[J)I" } : MethodName)) ∈ wsG := wsG_at 976 (by decide +kernel) (by decide +kernel)
theorem k977 : (Cond.static ({ cls := "PageSkeletonLaw", name := "passes", desc := "(LPageSkeleton;II[J)I" } : MethodName)) ∈ wsG := wsG_at 977 (by decide +kernel) (by decide +kernel)
theorem k978 : (Cond.codeWith ({ cls := "PageSkeletonLaw", name := "passes", desc := "(LPageSkeleton;II[J)I" } : MethodName) method_16_code (5 : Nat) (Option.some FieldType.int) [((0 : Nat), (10 : Nat), (13 : Nat), (20 : Nat))]) ∈ wsG := wsG_at 978 (by decide +kernel) (by decide +kernel)
theorem k987 : (Cond.methodLink "PageSkeletonLaw" (186 : Nat) ({ cls := "PageSkeletonLaw", name := "value", desc := "(LPageSkeleton;III[J)I" } : MethodName)) ∈ wsG := wsG_at 987 (by decide +kernel) (by decide +kernel)
theorem k988 : (Cond.static ({ cls := "PageSkeletonLaw", name := "value", desc := "(LPageSkeleton;III[J)I" } : MethodName)) ∈ wsG := wsG_at 988 (by decide +kernel) (by decide +kernel)
theorem k989 : (Cond.codeWith ({ cls := "PageSkeletonLaw", name := "value", desc := "(LPageSkeleton;III[J)I" } : MethodName) method_17_code (6 : Nat) (Option.some FieldType.int) [((0 : Nat), (12 : Nat), (15 : Nat), (20 : Nat))]) ∈ wsG := wsG_at 989 (by decide +kernel) (by decide +kernel)
theorem k994 : (Cond.methodLink "PageSkeletonLaw" (189 : Nat) ({ cls := "PageSkeletonLaw", name := "taker", desc := "(LPageSkeleton;II[J)I" } : MethodName)) ∈ wsG := wsG_at 994 (by decide +kernel) (by decide +kernel)
theorem k995 : (Cond.static ({ cls := "PageSkeletonLaw", name := "taker", desc := "(LPageSkeleton;II[J)I" } : MethodName)) ∈ wsG := wsG_at 995 (by decide +kernel) (by decide +kernel)
theorem k996 : (Cond.codeWith ({ cls := "PageSkeletonLaw", name := "taker", desc := "(LPageSkeleton;II[J)I" } : MethodName) method_18_code (5 : Nat) (Option.some FieldType.int) [((0 : Nat), (10 : Nat), (13 : Nat), (20 : Nat))]) ∈ wsG := wsG_at 996 (by decide +kernel) (by decide +kernel)
theorem k1001 : (Cond.methodLink "PageSkeletonLaw" (192 : Nat) ({ cls := "PageSkeletonLaw", name := "unlike", desc := "(LPageSkeleton;I[J)I" } : MethodName)) ∈ wsG := wsG_at 1001 (by decide +kernel) (by decide +kernel)
theorem k1002 : (Cond.static ({ cls := "PageSkeletonLaw", name := "unlike", desc := "(LPageSkeleton;I[J)I" } : MethodName)) ∈ wsG := wsG_at 1002 (by decide +kernel) (by decide +kernel)
theorem k1003 : (Cond.codeWith ({ cls := "PageSkeletonLaw", name := "unlike", desc := "(LPageSkeleton;I[J)I" } : MethodName) method_19_code (4 : Nat) (Option.some FieldType.int) [((0 : Nat), (9 : Nat), (12 : Nat), (20 : Nat))]) ∈ wsG := wsG_at 1003 (by decide +kernel) (by decide +kernel)
theorem k1012 : (Cond.methodLink "PageSkeletonLaw" (195 : Nat) ({ cls := "PageSkeletonLaw", name := "would", desc := "(LPageSkeleton;II[J)I" } : MethodName)) ∈ wsG := wsG_at 1012 (by decide +kernel) (by decide +kernel)
theorem k1013 : (Cond.static ({ cls := "PageSkeletonLaw", name := "would", desc := "(LPageSkeleton;II[J)I" } : MethodName)) ∈ wsG := wsG_at 1013 (by decide +kernel) (by decide +kernel)
theorem k1014 : (Cond.codeWith ({ cls := "PageSkeletonLaw", name := "would", desc := "(LPageSkeleton;II[J)I" } : MethodName) method_20_code (5 : Nat) (Option.some FieldType.int) [((0 : Nat), (10 : Nat), (13 : Nat), (20 : Nat)), ((0 : Nat), (10 : Nat), (17 : Nat), (13 : Nat))]) ∈ wsG := wsG_at 1014 (by decide +kernel) (by decide +kernel)
theorem k1019 : (Cond.methodLink "PageSkeletonLaw" (198 : Nat) ({ cls := "PageSkeletonLaw", name := "distance", desc := "(LPageSkeleton;II[J)I" } : MethodName)) ∈ wsG := wsG_at 1019 (by decide +kernel) (by decide +kernel)
theorem k1020 : (Cond.static ({ cls := "PageSkeletonLaw", name := "distance", desc := "(LPageSkeleton;II[J)I" } : MethodName)) ∈ wsG := wsG_at 1020 (by decide +kernel) (by decide +kernel)
theorem k1021 : (Cond.codeWith ({ cls := "PageSkeletonLaw", name := "distance", desc := "(LPageSkeleton;II[J)I" } : MethodName) method_21_code (5 : Nat) (Option.some FieldType.int) [((0 : Nat), (10 : Nat), (13 : Nat), (20 : Nat))]) ∈ wsG := wsG_at 1021 (by decide +kernel) (by decide +kernel)
theorem k1030 : (Cond.methodLink "PageSkeletonLaw" (201 : Nat) ({ cls := "PageSkeletonLaw", name := "nearest", desc := "(LPageSkeleton;I[J)I" } : MethodName)) ∈ wsG := wsG_at 1030 (by decide +kernel) (by decide +kernel)
theorem k1031 : (Cond.static ({ cls := "PageSkeletonLaw", name := "nearest", desc := "(LPageSkeleton;I[J)I" } : MethodName)) ∈ wsG := wsG_at 1031 (by decide +kernel) (by decide +kernel)
theorem k1032 : (Cond.codeWith ({ cls := "PageSkeletonLaw", name := "nearest", desc := "(LPageSkeleton;I[J)I" } : MethodName) method_22_code (4 : Nat) (Option.some FieldType.int) [((0 : Nat), (9 : Nat), (12 : Nat), (20 : Nat))]) ∈ wsG := wsG_at 1032 (by decide +kernel) (by decide +kernel)
theorem k1038 : (Cond.methodLink "PageSkeletonLaw" (204 : Nat) ({ cls := "PageSkeletonLaw", name := "orders", desc := "(LPageSkeleton;I[J)I" } : MethodName)) ∈ wsG := wsG_at 1038 (by decide +kernel) (by decide +kernel)
theorem k1039 : (Cond.static ({ cls := "PageSkeletonLaw", name := "orders", desc := "(LPageSkeleton;I[J)I" } : MethodName)) ∈ wsG := wsG_at 1039 (by decide +kernel) (by decide +kernel)
theorem k1040 : (Cond.codeWith ({ cls := "PageSkeletonLaw", name := "orders", desc := "(LPageSkeleton;I[J)I" } : MethodName) method_23_code (4 : Nat) (Option.some FieldType.int) [((0 : Nat), (9 : Nat), (12 : Nat), (13 : Nat)), ((0 : Nat), (9 : Nat), (15 : Nat), (15 : Nat))]) ∈ wsG := wsG_at 1040 (by decide +kernel) (by decide +kernel)
theorem k1085 : (Cond.methodLink "PageSkeletonLaw" (211 : Nat) ({ cls := "PageSkeletonLaw", name := "firm", desc := "(LPageSkeleton;I[J)I" } : MethodName)) ∈ wsG := wsG_at 1085 (by decide +kernel) (by decide +kernel)
theorem k1086 : (Cond.static ({ cls := "PageSkeletonLaw", name := "firm", desc := "(LPageSkeleton;I[J)I" } : MethodName)) ∈ wsG := wsG_at 1086 (by decide +kernel) (by decide +kernel)
theorem k1087 : (Cond.codeWith ({ cls := "PageSkeletonLaw", name := "firm", desc := "(LPageSkeleton;I[J)I" } : MethodName) method_24_code (4 : Nat) (Option.some FieldType.int) [((0 : Nat), (9 : Nat), (12 : Nat), (13 : Nat))]) ∈ wsG := wsG_at 1087 (by decide +kernel) (by decide +kernel)
theorem k1092 : (Cond.methodLink "PageSkeletonLaw" (214 : Nat) ({ cls := "PageSkeletonLaw", name := "alike", desc := "(LPageSkeleton;II[J)I" } : MethodName)) ∈ wsG := wsG_at 1092 (by decide +kernel) (by decide +kernel)
theorem k1093 : (Cond.static ({ cls := "PageSkeletonLaw", name := "alike", desc := "(LPageSkeleton;II[J)I" } : MethodName)) ∈ wsG := wsG_at 1093 (by decide +kernel) (by decide +kernel)
theorem k1094 : (Cond.codeWith ({ cls := "PageSkeletonLaw", name := "alike", desc := "(LPageSkeleton;II[J)I" } : MethodName) method_25_code (5 : Nat) (Option.some FieldType.int) [((0 : Nat), (17 : Nat), (20 : Nat), (20 : Nat))]) ∈ wsG := wsG_at 1094 (by decide +kernel) (by decide +kernel)
theorem k1101 : (Cond.methodLink "PageSkeletonLaw" (217 : Nat) ({ cls := "PageSkeletonLaw", name := "cuts", desc := "(LPageSkeleton;I[J)I" } : MethodName)) ∈ wsG := wsG_at 1101 (by decide +kernel) (by decide +kernel)
theorem k1102 : (Cond.static ({ cls := "PageSkeletonLaw", name := "cuts", desc := "(LPageSkeleton;I[J)I" } : MethodName)) ∈ wsG := wsG_at 1102 (by decide +kernel) (by decide +kernel)
theorem k1103 : (Cond.codeWith ({ cls := "PageSkeletonLaw", name := "cuts", desc := "(LPageSkeleton;I[J)I" } : MethodName) method_26_code (4 : Nat) (Option.some FieldType.int) [((0 : Nat), (9 : Nat), (12 : Nat), (20 : Nat))]) ∈ wsG := wsG_at 1103 (by decide +kernel) (by decide +kernel)
theorem k1108 : (Cond.methodLink "PageSkeletonLaw" (220 : Nat) ({ cls := "PageSkeletonLaw", name := "derived", desc := "(LPageSkeleton;I[J)I" } : MethodName)) ∈ wsG := wsG_at 1108 (by decide +kernel) (by decide +kernel)
theorem k1109 : (Cond.static ({ cls := "PageSkeletonLaw", name := "derived", desc := "(LPageSkeleton;I[J)I" } : MethodName)) ∈ wsG := wsG_at 1109 (by decide +kernel) (by decide +kernel)
theorem k1110 : (Cond.codeWith ({ cls := "PageSkeletonLaw", name := "derived", desc := "(LPageSkeleton;I[J)I" } : MethodName) method_27_code (4 : Nat) (Option.some FieldType.int) [((0 : Nat), (9 : Nat), (12 : Nat), (13 : Nat))]) ∈ wsG := wsG_at 1110 (by decide +kernel) (by decide +kernel)
theorem k1115 : (Cond.methodLink "PageSkeletonLaw" (223 : Nat) ({ cls := "PageSkeletonLaw", name := "common", desc := "(LPageSkeleton;II[J)I" } : MethodName)) ∈ wsG := wsG_at 1115 (by decide +kernel) (by decide +kernel)
theorem k1116 : (Cond.static ({ cls := "PageSkeletonLaw", name := "common", desc := "(LPageSkeleton;II[J)I" } : MethodName)) ∈ wsG := wsG_at 1116 (by decide +kernel) (by decide +kernel)
theorem k1117 : (Cond.codeWith ({ cls := "PageSkeletonLaw", name := "common", desc := "(LPageSkeleton;II[J)I" } : MethodName) method_28_code (5 : Nat) (Option.some FieldType.int) [((0 : Nat), (10 : Nat), (13 : Nat), (20 : Nat))]) ∈ wsG := wsG_at 1117 (by decide +kernel) (by decide +kernel)
theorem k1128 : (Cond.methodLink "PageSkeletonLaw" (226 : Nat) ({ cls := "PageSkeletonLaw", name := "similar", desc := "(LPageSkeleton;II[J)I" } : MethodName)) ∈ wsG := wsG_at 1128 (by decide +kernel) (by decide +kernel)
theorem k1129 : (Cond.static ({ cls := "PageSkeletonLaw", name := "similar", desc := "(LPageSkeleton;II[J)I" } : MethodName)) ∈ wsG := wsG_at 1129 (by decide +kernel) (by decide +kernel)
theorem k1130 : (Cond.codeWith ({ cls := "PageSkeletonLaw", name := "similar", desc := "(LPageSkeleton;II[J)I" } : MethodName) method_29_code (5 : Nat) (Option.some FieldType.int) [((0 : Nat), (17 : Nat), (20 : Nat), (20 : Nat))]) ∈ wsG := wsG_at 1130 (by decide +kernel) (by decide +kernel)
theorem k1135 : (Cond.methodLink "PageSkeletonLaw" (229 : Nat) ({ cls := "PageSkeletonLaw", name := "step", desc := "(LPageSkeleton;III[J)I" } : MethodName)) ∈ wsG := wsG_at 1135 (by decide +kernel) (by decide +kernel)
theorem k1136 : (Cond.static ({ cls := "PageSkeletonLaw", name := "step", desc := "(LPageSkeleton;III[J)I" } : MethodName)) ∈ wsG := wsG_at 1136 (by decide +kernel) (by decide +kernel)
theorem k1137 : (Cond.codeWith ({ cls := "PageSkeletonLaw", name := "step", desc := "(LPageSkeleton;III[J)I" } : MethodName) method_30_code (6 : Nat) (Option.some FieldType.int) [((0 : Nat), (12 : Nat), (15 : Nat), (20 : Nat)), ((0 : Nat), (12 : Nat), (19 : Nat), (13 : Nat))]) ∈ wsG := wsG_at 1137 (by decide +kernel) (by decide +kernel)
theorem k1142 : (Cond.methodLink "PageSkeletonLaw" (232 : Nat) ({ cls := "PageSkeletonLaw", name := "users", desc := "(LPageSkeleton;I[J)I" } : MethodName)) ∈ wsG := wsG_at 1142 (by decide +kernel) (by decide +kernel)
theorem k1143 : (Cond.static ({ cls := "PageSkeletonLaw", name := "users", desc := "(LPageSkeleton;I[J)I" } : MethodName)) ∈ wsG := wsG_at 1143 (by decide +kernel) (by decide +kernel)
theorem k1144 : (Cond.codeWith ({ cls := "PageSkeletonLaw", name := "users", desc := "(LPageSkeleton;I[J)I" } : MethodName) method_31_code (4 : Nat) (Option.some FieldType.int) [((0 : Nat), (9 : Nat), (12 : Nat), (20 : Nat))]) ∈ wsG := wsG_at 1144 (by decide +kernel) (by decide +kernel)
theorem k1149 : (Cond.methodLink "PageSkeletonLaw" (235 : Nat) ({ cls := "PageSkeletonLaw", name := "greatest", desc := "(LPageSkeleton;I[J)I" } : MethodName)) ∈ wsG := wsG_at 1149 (by decide +kernel) (by decide +kernel)
theorem k1150 : (Cond.static ({ cls := "PageSkeletonLaw", name := "greatest", desc := "(LPageSkeleton;I[J)I" } : MethodName)) ∈ wsG := wsG_at 1150 (by decide +kernel) (by decide +kernel)
theorem k1151 : (Cond.codeWith ({ cls := "PageSkeletonLaw", name := "greatest", desc := "(LPageSkeleton;I[J)I" } : MethodName) method_32_code (4 : Nat) (Option.some FieldType.int) [((0 : Nat), (9 : Nat), (12 : Nat), (20 : Nat))]) ∈ wsG := wsG_at 1151 (by decide +kernel) (by decide +kernel)
theorem k1327 : (Cond.methodLink "PageSkeletonLaw" (125 : Nat) ({ cls := "PageSkeletonModel", name := "thrown", desc := "()I" } : MethodName)) ∈ wsG := wsG_at 1327 (by decide +kernel) (by decide +kernel)
theorem k1328 : (Cond.instanceMethod ({ cls := "PageSkeletonModel", name := "thrown", desc := "()I" } : MethodName)) ∈ wsG := wsG_at 1328 (by decide +kernel) (by decide +kernel)
theorem k1329 : (Cond.selects "PageSkeletonModel" ({ cls := "PageSkeletonModel", name := "thrown", desc := "()I" } : MethodName) ({ cls := "PageSkeletonModel", name := "thrown", desc := "()I" } : MethodName)) ∈ wsG := wsG_at 1329 (by decide +kernel) (by decide +kernel)
theorem k1330 : (Cond.code ({ cls := "PageSkeletonModel", name := "thrown", desc := "()I" } : MethodName) prog_12_method_2_code (1 : Nat) (Option.some FieldType.int)) ∈ wsG := wsG_at 1330 (by decide +kernel) (by decide +kernel)
theorem k1331 : (Cond.methodLink "PageSkeletonLaw" (118 : Nat) ({ cls := "PageSkeletonModel", name := "feed", desc := "(IIIII)I" } : MethodName)) ∈ wsG := wsG_at 1331 (by decide +kernel) (by decide +kernel)
theorem k1332 : (Cond.instanceMethod ({ cls := "PageSkeletonModel", name := "feed", desc := "(IIIII)I" } : MethodName)) ∈ wsG := wsG_at 1332 (by decide +kernel) (by decide +kernel)
theorem k1333 : (Cond.selects "PageSkeletonModel" ({ cls := "PageSkeletonModel", name := "feed", desc := "(IIIII)I" } : MethodName) ({ cls := "PageSkeletonModel", name := "feed", desc := "(IIIII)I" } : MethodName)) ∈ wsG := wsG_at 1333 (by decide +kernel) (by decide +kernel)
theorem k1334 : (Cond.code ({ cls := "PageSkeletonModel", name := "feed", desc := "(IIIII)I" } : MethodName) prog_12_method_7_code (8 : Nat) (Option.some FieldType.int)) ∈ wsG := wsG_at 1334 (by decide +kernel) (by decide +kernel)
theorem k1335 : (Cond.methodLink "PageSkeletonLaw" (124 : Nat) ({ cls := "PageSkeletonModel", name := "page", desc := "(I)I" } : MethodName)) ∈ wsG := wsG_at 1335 (by decide +kernel) (by decide +kernel)
theorem k1336 : (Cond.instanceMethod ({ cls := "PageSkeletonModel", name := "page", desc := "(I)I" } : MethodName)) ∈ wsG := wsG_at 1336 (by decide +kernel) (by decide +kernel)
theorem k1337 : (Cond.selects "PageSkeletonModel" ({ cls := "PageSkeletonModel", name := "page", desc := "(I)I" } : MethodName) ({ cls := "PageSkeletonModel", name := "page", desc := "(I)I" } : MethodName)) ∈ wsG := wsG_at 1337 (by decide +kernel) (by decide +kernel)
theorem k1338 : (Cond.code ({ cls := "PageSkeletonModel", name := "page", desc := "(I)I" } : MethodName) prog_12_method_15_code (4 : Nat) (Option.some FieldType.int)) ∈ wsG := wsG_at 1338 (by decide +kernel) (by decide +kernel)
theorem k1432 : (Cond.methodLink "PageSkeletonLaw" (132 : Nat) ({ cls := "PageSkeletonModel", name := "fault", desc := "()I" } : MethodName)) ∈ wsG := wsG_at 1432 (by decide +kernel) (by decide +kernel)
theorem k1433 : (Cond.instanceMethod ({ cls := "PageSkeletonModel", name := "fault", desc := "()I" } : MethodName)) ∈ wsG := wsG_at 1433 (by decide +kernel) (by decide +kernel)
theorem k1434 : (Cond.selects "PageSkeletonModel" ({ cls := "PageSkeletonModel", name := "fault", desc := "()I" } : MethodName) ({ cls := "PageSkeletonModel", name := "fault", desc := "()I" } : MethodName)) ∈ wsG := wsG_at 1434 (by decide +kernel) (by decide +kernel)
theorem k1435 : (Cond.code ({ cls := "PageSkeletonModel", name := "fault", desc := "()I" } : MethodName) prog_12_method_16_code (1 : Nat) (Option.some FieldType.int)) ∈ wsG := wsG_at 1435 (by decide +kernel) (by decide +kernel)
theorem k1436 : (Cond.methodLink "PageSkeletonLaw" (139 : Nat) ({ cls := "PageSkeletonModel", name := "tidy", desc := "()I" } : MethodName)) ∈ wsG := wsG_at 1436 (by decide +kernel) (by decide +kernel)
theorem k1437 : (Cond.instanceMethod ({ cls := "PageSkeletonModel", name := "tidy", desc := "()I" } : MethodName)) ∈ wsG := wsG_at 1437 (by decide +kernel) (by decide +kernel)
theorem k1438 : (Cond.selects "PageSkeletonModel" ({ cls := "PageSkeletonModel", name := "tidy", desc := "()I" } : MethodName) ({ cls := "PageSkeletonModel", name := "tidy", desc := "()I" } : MethodName)) ∈ wsG := wsG_at 1438 (by decide +kernel) (by decide +kernel)
theorem k1439 : (Cond.code ({ cls := "PageSkeletonModel", name := "tidy", desc := "()I" } : MethodName) prog_12_method_49_code (2 : Nat) (Option.some FieldType.int)) ∈ wsG := wsG_at 1439 (by decide +kernel) (by decide +kernel)
theorem k1484 : (Cond.methodLink "PageSkeletonLaw" (142 : Nat) ({ cls := "PageSkeletonModel", name := "tidied", desc := "(I)I" } : MethodName)) ∈ wsG := wsG_at 1484 (by decide +kernel) (by decide +kernel)
theorem k1485 : (Cond.instanceMethod ({ cls := "PageSkeletonModel", name := "tidied", desc := "(I)I" } : MethodName)) ∈ wsG := wsG_at 1485 (by decide +kernel) (by decide +kernel)
theorem k1486 : (Cond.selects "PageSkeletonModel" ({ cls := "PageSkeletonModel", name := "tidied", desc := "(I)I" } : MethodName) ({ cls := "PageSkeletonModel", name := "tidied", desc := "(I)I" } : MethodName)) ∈ wsG := wsG_at 1486 (by decide +kernel) (by decide +kernel)
theorem k1487 : (Cond.code ({ cls := "PageSkeletonModel", name := "tidied", desc := "(I)I" } : MethodName) prog_12_method_51_code (3 : Nat) (Option.some FieldType.int)) ∈ wsG := wsG_at 1487 (by decide +kernel) (by decide +kernel)
theorem k1535 : (Cond.methodLink "PageSkeletonLaw" (135 : Nat) ({ cls := "PageSkeletonModel", name := "lay", desc := "(I)I" } : MethodName)) ∈ wsG := wsG_at 1535 (by decide +kernel) (by decide +kernel)
theorem k1536 : (Cond.instanceMethod ({ cls := "PageSkeletonModel", name := "lay", desc := "(I)I" } : MethodName)) ∈ wsG := wsG_at 1536 (by decide +kernel) (by decide +kernel)
theorem k1537 : (Cond.selects "PageSkeletonModel" ({ cls := "PageSkeletonModel", name := "lay", desc := "(I)I" } : MethodName) ({ cls := "PageSkeletonModel", name := "lay", desc := "(I)I" } : MethodName)) ∈ wsG := wsG_at 1537 (by decide +kernel) (by decide +kernel)
theorem k1538 : (Cond.code ({ cls := "PageSkeletonModel", name := "lay", desc := "(I)I" } : MethodName) prog_12_method_53_code (3 : Nat) (Option.some FieldType.int)) ∈ wsG := wsG_at 1538 (by decide +kernel) (by decide +kernel)
theorem k1568 : (Cond.methodLink "PageSkeletonLaw" (146 : Nat) ({ cls := "PageSkeletonModel", name := "undo", desc := "()I" } : MethodName)) ∈ wsG := wsG_at 1568 (by decide +kernel) (by decide +kernel)
theorem k1569 : (Cond.instanceMethod ({ cls := "PageSkeletonModel", name := "undo", desc := "()I" } : MethodName)) ∈ wsG := wsG_at 1569 (by decide +kernel) (by decide +kernel)
theorem k1570 : (Cond.selects "PageSkeletonModel" ({ cls := "PageSkeletonModel", name := "undo", desc := "()I" } : MethodName) ({ cls := "PageSkeletonModel", name := "undo", desc := "()I" } : MethodName)) ∈ wsG := wsG_at 1570 (by decide +kernel) (by decide +kernel)
theorem k1571 : (Cond.code ({ cls := "PageSkeletonModel", name := "undo", desc := "()I" } : MethodName) prog_12_method_56_code (1 : Nat) (Option.some FieldType.int)) ∈ wsG := wsG_at 1571 (by decide +kernel) (by decide +kernel)
theorem k1572 : (Cond.methodLink "PageSkeletonLaw" (150 : Nat) ({ cls := "PageSkeletonModel", name := "clear", desc := "()I" } : MethodName)) ∈ wsG := wsG_at 1572 (by decide +kernel) (by decide +kernel)
theorem k1573 : (Cond.instanceMethod ({ cls := "PageSkeletonModel", name := "clear", desc := "()I" } : MethodName)) ∈ wsG := wsG_at 1573 (by decide +kernel) (by decide +kernel)
theorem k1574 : (Cond.selects "PageSkeletonModel" ({ cls := "PageSkeletonModel", name := "clear", desc := "()I" } : MethodName) ({ cls := "PageSkeletonModel", name := "clear", desc := "()I" } : MethodName)) ∈ wsG := wsG_at 1574 (by decide +kernel) (by decide +kernel)
theorem k1575 : (Cond.code ({ cls := "PageSkeletonModel", name := "clear", desc := "()I" } : MethodName) prog_12_method_57_code (2 : Nat) (Option.some FieldType.int)) ∈ wsG := wsG_at 1575 (by decide +kernel) (by decide +kernel)
theorem k1576 : (Cond.methodLink "PageSkeletonLaw" (153 : Nat) ({ cls := "PageSkeletonModel", name := "told", desc := "(I)I" } : MethodName)) ∈ wsG := wsG_at 1576 (by decide +kernel) (by decide +kernel)
theorem k1577 : (Cond.instanceMethod ({ cls := "PageSkeletonModel", name := "told", desc := "(I)I" } : MethodName)) ∈ wsG := wsG_at 1577 (by decide +kernel) (by decide +kernel)
theorem k1578 : (Cond.selects "PageSkeletonModel" ({ cls := "PageSkeletonModel", name := "told", desc := "(I)I" } : MethodName) ({ cls := "PageSkeletonModel", name := "told", desc := "(I)I" } : MethodName)) ∈ wsG := wsG_at 1578 (by decide +kernel) (by decide +kernel)
theorem k1579 : (Cond.code ({ cls := "PageSkeletonModel", name := "told", desc := "(I)I" } : MethodName) prog_12_method_59_code (2 : Nat) (Option.some FieldType.int)) ∈ wsG := wsG_at 1579 (by decide +kernel) (by decide +kernel)
theorem k1584 : (Cond.methodLink "PageSkeletonLaw" (157 : Nat) ({ cls := "PageSkeletonModel", name := "pageOf", desc := "(II)I" } : MethodName)) ∈ wsG := wsG_at 1584 (by decide +kernel) (by decide +kernel)
theorem k1585 : (Cond.instanceMethod ({ cls := "PageSkeletonModel", name := "pageOf", desc := "(II)I" } : MethodName)) ∈ wsG := wsG_at 1585 (by decide +kernel) (by decide +kernel)
theorem k1586 : (Cond.selects "PageSkeletonModel" ({ cls := "PageSkeletonModel", name := "pageOf", desc := "(II)I" } : MethodName) ({ cls := "PageSkeletonModel", name := "pageOf", desc := "(II)I" } : MethodName)) ∈ wsG := wsG_at 1586 (by decide +kernel) (by decide +kernel)
theorem k1587 : (Cond.code ({ cls := "PageSkeletonModel", name := "pageOf", desc := "(II)I" } : MethodName) prog_12_method_64_code (4 : Nat) (Option.some FieldType.int)) ∈ wsG := wsG_at 1587 (by decide +kernel) (by decide +kernel)
theorem k1603 : (Cond.methodLink "PageSkeletonLaw" (160 : Nat) ({ cls := "PageSkeletonModel", name := "token", desc := "(II)I" } : MethodName)) ∈ wsG := wsG_at 1603 (by decide +kernel) (by decide +kernel)
theorem k1604 : (Cond.instanceMethod ({ cls := "PageSkeletonModel", name := "token", desc := "(II)I" } : MethodName)) ∈ wsG := wsG_at 1604 (by decide +kernel) (by decide +kernel)
theorem k1605 : (Cond.selects "PageSkeletonModel" ({ cls := "PageSkeletonModel", name := "token", desc := "(II)I" } : MethodName) ({ cls := "PageSkeletonModel", name := "token", desc := "(II)I" } : MethodName)) ∈ wsG := wsG_at 1605 (by decide +kernel) (by decide +kernel)
theorem k1606 : (Cond.code ({ cls := "PageSkeletonModel", name := "token", desc := "(II)I" } : MethodName) prog_12_method_65_code (4 : Nat) (Option.some FieldType.int)) ∈ wsG := wsG_at 1606 (by decide +kernel) (by decide +kernel)
theorem k1607 : (Cond.methodLink "PageSkeletonLaw" (163 : Nat) ({ cls := "PageSkeletonModel", name := "tokenOf", desc := "(II)I" } : MethodName)) ∈ wsG := wsG_at 1607 (by decide +kernel) (by decide +kernel)
theorem k1608 : (Cond.instanceMethod ({ cls := "PageSkeletonModel", name := "tokenOf", desc := "(II)I" } : MethodName)) ∈ wsG := wsG_at 1608 (by decide +kernel) (by decide +kernel)
theorem k1609 : (Cond.selects "PageSkeletonModel" ({ cls := "PageSkeletonModel", name := "tokenOf", desc := "(II)I" } : MethodName) ({ cls := "PageSkeletonModel", name := "tokenOf", desc := "(II)I" } : MethodName)) ∈ wsG := wsG_at 1609 (by decide +kernel) (by decide +kernel)
theorem k1610 : (Cond.code ({ cls := "PageSkeletonModel", name := "tokenOf", desc := "(II)I" } : MethodName) prog_12_method_68_code (3 : Nat) (Option.some FieldType.int)) ∈ wsG := wsG_at 1610 (by decide +kernel) (by decide +kernel)
theorem k1619 : (Cond.methodLink "PageSkeletonLaw" (166 : Nat) ({ cls := "PageSkeletonModel", name := "node", desc := "(II)I" } : MethodName)) ∈ wsG := wsG_at 1619 (by decide +kernel) (by decide +kernel)
theorem k1620 : (Cond.instanceMethod ({ cls := "PageSkeletonModel", name := "node", desc := "(II)I" } : MethodName)) ∈ wsG := wsG_at 1620 (by decide +kernel) (by decide +kernel)
theorem k1621 : (Cond.selects "PageSkeletonModel" ({ cls := "PageSkeletonModel", name := "node", desc := "(II)I" } : MethodName) ({ cls := "PageSkeletonModel", name := "node", desc := "(II)I" } : MethodName)) ∈ wsG := wsG_at 1621 (by decide +kernel) (by decide +kernel)
theorem k1622 : (Cond.code ({ cls := "PageSkeletonModel", name := "node", desc := "(II)I" } : MethodName) prog_12_method_71_code (3 : Nat) (Option.some FieldType.int)) ∈ wsG := wsG_at 1622 (by decide +kernel) (by decide +kernel)
theorem k1635 : (Cond.methodLink "PageSkeletonLaw" (170 : Nat) ({ cls := "PageSkeletonModel", name := "pageNode", desc := "(III)I" } : MethodName)) ∈ wsG := wsG_at 1635 (by decide +kernel) (by decide +kernel)
theorem k1636 : (Cond.instanceMethod ({ cls := "PageSkeletonModel", name := "pageNode", desc := "(III)I" } : MethodName)) ∈ wsG := wsG_at 1636 (by decide +kernel) (by decide +kernel)
theorem k1637 : (Cond.selects "PageSkeletonModel" ({ cls := "PageSkeletonModel", name := "pageNode", desc := "(III)I" } : MethodName) ({ cls := "PageSkeletonModel", name := "pageNode", desc := "(III)I" } : MethodName)) ∈ wsG := wsG_at 1637 (by decide +kernel) (by decide +kernel)
theorem k1638 : (Cond.code ({ cls := "PageSkeletonModel", name := "pageNode", desc := "(III)I" } : MethodName) prog_12_method_72_code (5 : Nat) (Option.some FieldType.int)) ∈ wsG := wsG_at 1638 (by decide +kernel) (by decide +kernel)
theorem k1639 : (Cond.methodLink "PageSkeletonLaw" (179 : Nat) ({ cls := "PageSkeletonModel", name := "ways", desc := "(I)I" } : MethodName)) ∈ wsG := wsG_at 1639 (by decide +kernel) (by decide +kernel)
theorem k1640 : (Cond.instanceMethod ({ cls := "PageSkeletonModel", name := "ways", desc := "(I)I" } : MethodName)) ∈ wsG := wsG_at 1640 (by decide +kernel) (by decide +kernel)
theorem k1641 : (Cond.selects "PageSkeletonModel" ({ cls := "PageSkeletonModel", name := "ways", desc := "(I)I" } : MethodName) ({ cls := "PageSkeletonModel", name := "ways", desc := "(I)I" } : MethodName)) ∈ wsG := wsG_at 1641 (by decide +kernel) (by decide +kernel)
theorem k1642 : (Cond.code ({ cls := "PageSkeletonModel", name := "ways", desc := "(I)I" } : MethodName) prog_12_method_80_code (2 : Nat) (Option.some FieldType.int)) ∈ wsG := wsG_at 1642 (by decide +kernel) (by decide +kernel)
theorem k1643 : (Cond.methodLink "PageSkeletonLaw" (173 : Nat) ({ cls := "PageSkeletonModel", name := "fits", desc := "(I)Z" } : MethodName)) ∈ wsG := wsG_at 1643 (by decide +kernel) (by decide +kernel)
theorem k1644 : (Cond.instanceMethod ({ cls := "PageSkeletonModel", name := "fits", desc := "(I)Z" } : MethodName)) ∈ wsG := wsG_at 1644 (by decide +kernel) (by decide +kernel)
theorem k1645 : (Cond.selects "PageSkeletonModel" ({ cls := "PageSkeletonModel", name := "fits", desc := "(I)Z" } : MethodName) ({ cls := "PageSkeletonModel", name := "fits", desc := "(I)Z" } : MethodName)) ∈ wsG := wsG_at 1645 (by decide +kernel) (by decide +kernel)
theorem k1646 : (Cond.code ({ cls := "PageSkeletonModel", name := "fits", desc := "(I)Z" } : MethodName) prog_12_method_82_code (2 : Nat) (Option.some FieldType.boolean)) ∈ wsG := wsG_at 1646 (by decide +kernel) (by decide +kernel)
theorem k1647 : (Cond.methodLink "PageSkeletonLaw" (241 : Nat) ({ cls := "PageSkeletonModel", name := "fitting", desc := "()I" } : MethodName)) ∈ wsG := wsG_at 1647 (by decide +kernel) (by decide +kernel)
theorem k1648 : (Cond.instanceMethod ({ cls := "PageSkeletonModel", name := "fitting", desc := "()I" } : MethodName)) ∈ wsG := wsG_at 1648 (by decide +kernel) (by decide +kernel)
theorem k1649 : (Cond.selects "PageSkeletonModel" ({ cls := "PageSkeletonModel", name := "fitting", desc := "()I" } : MethodName) ({ cls := "PageSkeletonModel", name := "fitting", desc := "()I" } : MethodName)) ∈ wsG := wsG_at 1649 (by decide +kernel) (by decide +kernel)
theorem k1650 : (Cond.code ({ cls := "PageSkeletonModel", name := "fitting", desc := "()I" } : MethodName) prog_12_method_83_code (3 : Nat) (Option.some FieldType.int)) ∈ wsG := wsG_at 1650 (by decide +kernel) (by decide +kernel)
theorem k1651 : (Cond.methodLink "PageSkeletonLaw" (176 : Nat) ({ cls := "PageSkeletonModel", name := "reach", desc := "(I)I" } : MethodName)) ∈ wsG := wsG_at 1651 (by decide +kernel) (by decide +kernel)
theorem k1652 : (Cond.instanceMethod ({ cls := "PageSkeletonModel", name := "reach", desc := "(I)I" } : MethodName)) ∈ wsG := wsG_at 1652 (by decide +kernel) (by decide +kernel)
theorem k1653 : (Cond.selects "PageSkeletonModel" ({ cls := "PageSkeletonModel", name := "reach", desc := "(I)I" } : MethodName) ({ cls := "PageSkeletonModel", name := "reach", desc := "(I)I" } : MethodName)) ∈ wsG := wsG_at 1653 (by decide +kernel) (by decide +kernel)
theorem k1654 : (Cond.code ({ cls := "PageSkeletonModel", name := "reach", desc := "(I)I" } : MethodName) prog_12_method_86_code (5 : Nat) (Option.some FieldType.int)) ∈ wsG := wsG_at 1654 (by decide +kernel) (by decide +kernel)
theorem k1663 : (Cond.methodLink "PageSkeletonLaw" (182 : Nat) ({ cls := "PageSkeletonModel", name := "times", desc := "(II)I" } : MethodName)) ∈ wsG := wsG_at 1663 (by decide +kernel) (by decide +kernel)
theorem k1664 : (Cond.instanceMethod ({ cls := "PageSkeletonModel", name := "times", desc := "(II)I" } : MethodName)) ∈ wsG := wsG_at 1664 (by decide +kernel) (by decide +kernel)
theorem k1665 : (Cond.selects "PageSkeletonModel" ({ cls := "PageSkeletonModel", name := "times", desc := "(II)I" } : MethodName) ({ cls := "PageSkeletonModel", name := "times", desc := "(II)I" } : MethodName)) ∈ wsG := wsG_at 1665 (by decide +kernel) (by decide +kernel)
theorem k1666 : (Cond.code ({ cls := "PageSkeletonModel", name := "times", desc := "(II)I" } : MethodName) prog_12_method_88_code (3 : Nat) (Option.some FieldType.int)) ∈ wsG := wsG_at 1666 (by decide +kernel) (by decide +kernel)
theorem k1671 : (Cond.methodLink "PageSkeletonLaw" (185 : Nat) ({ cls := "PageSkeletonModel", name := "passes", desc := "(II)I" } : MethodName)) ∈ wsG := wsG_at 1671 (by decide +kernel) (by decide +kernel)
theorem k1672 : (Cond.instanceMethod ({ cls := "PageSkeletonModel", name := "passes", desc := "(II)I" } : MethodName)) ∈ wsG := wsG_at 1672 (by decide +kernel) (by decide +kernel)
theorem k1673 : (Cond.selects "PageSkeletonModel" ({ cls := "PageSkeletonModel", name := "passes", desc := "(II)I" } : MethodName) ({ cls := "PageSkeletonModel", name := "passes", desc := "(II)I" } : MethodName)) ∈ wsG := wsG_at 1673 (by decide +kernel) (by decide +kernel)
theorem k1674 : (Cond.code ({ cls := "PageSkeletonModel", name := "passes", desc := "(II)I" } : MethodName) prog_12_method_89_code (3 : Nat) (Option.some FieldType.int)) ∈ wsG := wsG_at 1674 (by decide +kernel) (by decide +kernel)
theorem k1675 : (Cond.methodLink "PageSkeletonLaw" (188 : Nat) ({ cls := "PageSkeletonModel", name := "value", desc := "(III)I" } : MethodName)) ∈ wsG := wsG_at 1675 (by decide +kernel) (by decide +kernel)
theorem k1676 : (Cond.instanceMethod ({ cls := "PageSkeletonModel", name := "value", desc := "(III)I" } : MethodName)) ∈ wsG := wsG_at 1676 (by decide +kernel) (by decide +kernel)
theorem k1677 : (Cond.selects "PageSkeletonModel" ({ cls := "PageSkeletonModel", name := "value", desc := "(III)I" } : MethodName) ({ cls := "PageSkeletonModel", name := "value", desc := "(III)I" } : MethodName)) ∈ wsG := wsG_at 1677 (by decide +kernel) (by decide +kernel)
theorem k1678 : (Cond.code ({ cls := "PageSkeletonModel", name := "value", desc := "(III)I" } : MethodName) prog_12_method_90_code (6 : Nat) (Option.some FieldType.int)) ∈ wsG := wsG_at 1678 (by decide +kernel) (by decide +kernel)
theorem k1679 : (Cond.methodLink "PageSkeletonLaw" (191 : Nat) ({ cls := "PageSkeletonModel", name := "taker", desc := "(II)I" } : MethodName)) ∈ wsG := wsG_at 1679 (by decide +kernel) (by decide +kernel)
theorem k1680 : (Cond.instanceMethod ({ cls := "PageSkeletonModel", name := "taker", desc := "(II)I" } : MethodName)) ∈ wsG := wsG_at 1680 (by decide +kernel) (by decide +kernel)
theorem k1681 : (Cond.selects "PageSkeletonModel" ({ cls := "PageSkeletonModel", name := "taker", desc := "(II)I" } : MethodName) ({ cls := "PageSkeletonModel", name := "taker", desc := "(II)I" } : MethodName)) ∈ wsG := wsG_at 1681 (by decide +kernel) (by decide +kernel)
theorem k1682 : (Cond.code ({ cls := "PageSkeletonModel", name := "taker", desc := "(II)I" } : MethodName) prog_12_method_91_code (4 : Nat) (Option.some FieldType.int)) ∈ wsG := wsG_at 1682 (by decide +kernel) (by decide +kernel)
theorem k1683 : (Cond.methodLink "PageSkeletonLaw" (194 : Nat) ({ cls := "PageSkeletonModel", name := "unlike", desc := "(I)I" } : MethodName)) ∈ wsG := wsG_at 1683 (by decide +kernel) (by decide +kernel)
theorem k1684 : (Cond.instanceMethod ({ cls := "PageSkeletonModel", name := "unlike", desc := "(I)I" } : MethodName)) ∈ wsG := wsG_at 1684 (by decide +kernel) (by decide +kernel)
theorem k1685 : (Cond.selects "PageSkeletonModel" ({ cls := "PageSkeletonModel", name := "unlike", desc := "(I)I" } : MethodName) ({ cls := "PageSkeletonModel", name := "unlike", desc := "(I)I" } : MethodName)) ∈ wsG := wsG_at 1685 (by decide +kernel) (by decide +kernel)
theorem k1686 : (Cond.code ({ cls := "PageSkeletonModel", name := "unlike", desc := "(I)I" } : MethodName) prog_12_method_92_code (4 : Nat) (Option.some FieldType.int)) ∈ wsG := wsG_at 1686 (by decide +kernel) (by decide +kernel)
theorem k1687 : (Cond.methodLink "PageSkeletonLaw" (234 : Nat) ({ cls := "PageSkeletonModel", name := "users", desc := "(I)I" } : MethodName)) ∈ wsG := wsG_at 1687 (by decide +kernel) (by decide +kernel)
theorem k1688 : (Cond.instanceMethod ({ cls := "PageSkeletonModel", name := "users", desc := "(I)I" } : MethodName)) ∈ wsG := wsG_at 1688 (by decide +kernel) (by decide +kernel)
theorem k1689 : (Cond.selects "PageSkeletonModel" ({ cls := "PageSkeletonModel", name := "users", desc := "(I)I" } : MethodName) ({ cls := "PageSkeletonModel", name := "users", desc := "(I)I" } : MethodName)) ∈ wsG := wsG_at 1689 (by decide +kernel) (by decide +kernel)
theorem k1690 : (Cond.code ({ cls := "PageSkeletonModel", name := "users", desc := "(I)I" } : MethodName) prog_12_method_93_code (4 : Nat) (Option.some FieldType.int)) ∈ wsG := wsG_at 1690 (by decide +kernel) (by decide +kernel)
theorem k1691 : (Cond.methodLink "PageSkeletonLaw" (237 : Nat) ({ cls := "PageSkeletonModel", name := "greatest", desc := "(I)I" } : MethodName)) ∈ wsG := wsG_at 1691 (by decide +kernel) (by decide +kernel)
theorem k1692 : (Cond.instanceMethod ({ cls := "PageSkeletonModel", name := "greatest", desc := "(I)I" } : MethodName)) ∈ wsG := wsG_at 1692 (by decide +kernel) (by decide +kernel)
theorem k1693 : (Cond.selects "PageSkeletonModel" ({ cls := "PageSkeletonModel", name := "greatest", desc := "(I)I" } : MethodName) ({ cls := "PageSkeletonModel", name := "greatest", desc := "(I)I" } : MethodName)) ∈ wsG := wsG_at 1693 (by decide +kernel) (by decide +kernel)
theorem k1694 : (Cond.code ({ cls := "PageSkeletonModel", name := "greatest", desc := "(I)I" } : MethodName) prog_12_method_94_code (4 : Nat) (Option.some FieldType.int)) ∈ wsG := wsG_at 1694 (by decide +kernel) (by decide +kernel)
theorem k1695 : (Cond.methodLink "PageSkeletonLaw" (197 : Nat) ({ cls := "PageSkeletonModel", name := "would", desc := "(II)I" } : MethodName)) ∈ wsG := wsG_at 1695 (by decide +kernel) (by decide +kernel)
theorem k1696 : (Cond.instanceMethod ({ cls := "PageSkeletonModel", name := "would", desc := "(II)I" } : MethodName)) ∈ wsG := wsG_at 1696 (by decide +kernel) (by decide +kernel)
theorem k1697 : (Cond.selects "PageSkeletonModel" ({ cls := "PageSkeletonModel", name := "would", desc := "(II)I" } : MethodName) ({ cls := "PageSkeletonModel", name := "would", desc := "(II)I" } : MethodName)) ∈ wsG := wsG_at 1697 (by decide +kernel) (by decide +kernel)
theorem k1698 : (Cond.code ({ cls := "PageSkeletonModel", name := "would", desc := "(II)I" } : MethodName) prog_12_method_95_code (4 : Nat) (Option.some FieldType.int)) ∈ wsG := wsG_at 1698 (by decide +kernel) (by decide +kernel)
theorem k1699 : (Cond.methodLink "PageSkeletonLaw" (200 : Nat) ({ cls := "PageSkeletonModel", name := "distance", desc := "(II)I" } : MethodName)) ∈ wsG := wsG_at 1699 (by decide +kernel) (by decide +kernel)
theorem k1700 : (Cond.instanceMethod ({ cls := "PageSkeletonModel", name := "distance", desc := "(II)I" } : MethodName)) ∈ wsG := wsG_at 1700 (by decide +kernel) (by decide +kernel)
theorem k1701 : (Cond.selects "PageSkeletonModel" ({ cls := "PageSkeletonModel", name := "distance", desc := "(II)I" } : MethodName) ({ cls := "PageSkeletonModel", name := "distance", desc := "(II)I" } : MethodName)) ∈ wsG := wsG_at 1701 (by decide +kernel) (by decide +kernel)
theorem k1702 : (Cond.code ({ cls := "PageSkeletonModel", name := "distance", desc := "(II)I" } : MethodName) prog_12_method_97_code (3 : Nat) (Option.some FieldType.int)) ∈ wsG := wsG_at 1702 (by decide +kernel) (by decide +kernel)
theorem k1707 : (Cond.methodLink "PageSkeletonLaw" (203 : Nat) ({ cls := "PageSkeletonModel", name := "nearest", desc := "(I)I" } : MethodName)) ∈ wsG := wsG_at 1707 (by decide +kernel) (by decide +kernel)
theorem k1708 : (Cond.instanceMethod ({ cls := "PageSkeletonModel", name := "nearest", desc := "(I)I" } : MethodName)) ∈ wsG := wsG_at 1708 (by decide +kernel) (by decide +kernel)
theorem k1709 : (Cond.selects "PageSkeletonModel" ({ cls := "PageSkeletonModel", name := "nearest", desc := "(I)I" } : MethodName) ({ cls := "PageSkeletonModel", name := "nearest", desc := "(I)I" } : MethodName)) ∈ wsG := wsG_at 1709 (by decide +kernel) (by decide +kernel)
theorem k1710 : (Cond.code ({ cls := "PageSkeletonModel", name := "nearest", desc := "(I)I" } : MethodName) prog_12_method_98_code (6 : Nat) (Option.some FieldType.int)) ∈ wsG := wsG_at 1710 (by decide +kernel) (by decide +kernel)
theorem k1711 : (Cond.methodLink "PageSkeletonLaw" (206 : Nat) ({ cls := "PageSkeletonModel", name := "orders", desc := "(I)I" } : MethodName)) ∈ wsG := wsG_at 1711 (by decide +kernel) (by decide +kernel)
theorem k1712 : (Cond.instanceMethod ({ cls := "PageSkeletonModel", name := "orders", desc := "(I)I" } : MethodName)) ∈ wsG := wsG_at 1712 (by decide +kernel) (by decide +kernel)
theorem k1713 : (Cond.selects "PageSkeletonModel" ({ cls := "PageSkeletonModel", name := "orders", desc := "(I)I" } : MethodName) ({ cls := "PageSkeletonModel", name := "orders", desc := "(I)I" } : MethodName)) ∈ wsG := wsG_at 1713 (by decide +kernel) (by decide +kernel)
theorem k1714 : (Cond.code ({ cls := "PageSkeletonModel", name := "orders", desc := "(I)I" } : MethodName) prog_12_method_102_code (9 : Nat) (Option.some FieldType.int)) ∈ wsG := wsG_at 1714 (by decide +kernel) (by decide +kernel)
theorem k1727 : (Cond.methodLink "PageSkeletonLaw" (210 : Nat) ({ cls := "PageSkeletonModel", name := "shortest", desc := "()I" } : MethodName)) ∈ wsG := wsG_at 1727 (by decide +kernel) (by decide +kernel)
theorem k1728 : (Cond.instanceMethod ({ cls := "PageSkeletonModel", name := "shortest", desc := "()I" } : MethodName)) ∈ wsG := wsG_at 1728 (by decide +kernel) (by decide +kernel)
theorem k1729 : (Cond.selects "PageSkeletonModel" ({ cls := "PageSkeletonModel", name := "shortest", desc := "()I" } : MethodName) ({ cls := "PageSkeletonModel", name := "shortest", desc := "()I" } : MethodName)) ∈ wsG := wsG_at 1729 (by decide +kernel) (by decide +kernel)
theorem k1730 : (Cond.code ({ cls := "PageSkeletonModel", name := "shortest", desc := "()I" } : MethodName) prog_12_method_103_code (3 : Nat) (Option.some FieldType.int)) ∈ wsG := wsG_at 1730 (by decide +kernel) (by decide +kernel)
theorem k1731 : (Cond.methodLink "PageSkeletonLaw" (213 : Nat) ({ cls := "PageSkeletonModel", name := "firm", desc := "(I)I" } : MethodName)) ∈ wsG := wsG_at 1731 (by decide +kernel) (by decide +kernel)
theorem k1732 : (Cond.instanceMethod ({ cls := "PageSkeletonModel", name := "firm", desc := "(I)I" } : MethodName)) ∈ wsG := wsG_at 1732 (by decide +kernel) (by decide +kernel)
theorem k1733 : (Cond.selects "PageSkeletonModel" ({ cls := "PageSkeletonModel", name := "firm", desc := "(I)I" } : MethodName) ({ cls := "PageSkeletonModel", name := "firm", desc := "(I)I" } : MethodName)) ∈ wsG := wsG_at 1733 (by decide +kernel) (by decide +kernel)
theorem k1734 : (Cond.code ({ cls := "PageSkeletonModel", name := "firm", desc := "(I)I" } : MethodName) prog_12_method_104_code (6 : Nat) (Option.some FieldType.int)) ∈ wsG := wsG_at 1734 (by decide +kernel) (by decide +kernel)
theorem k1735 : (Cond.methodLink "PageSkeletonLaw" (216 : Nat) ({ cls := "PageSkeletonModel", name := "alike", desc := "(II)Z" } : MethodName)) ∈ wsG := wsG_at 1735 (by decide +kernel) (by decide +kernel)
theorem k1736 : (Cond.instanceMethod ({ cls := "PageSkeletonModel", name := "alike", desc := "(II)Z" } : MethodName)) ∈ wsG := wsG_at 1736 (by decide +kernel) (by decide +kernel)
theorem k1737 : (Cond.selects "PageSkeletonModel" ({ cls := "PageSkeletonModel", name := "alike", desc := "(II)Z" } : MethodName) ({ cls := "PageSkeletonModel", name := "alike", desc := "(II)Z" } : MethodName)) ∈ wsG := wsG_at 1737 (by decide +kernel) (by decide +kernel)
theorem k1738 : (Cond.code ({ cls := "PageSkeletonModel", name := "alike", desc := "(II)Z" } : MethodName) prog_12_method_105_code (3 : Nat) (Option.some FieldType.boolean)) ∈ wsG := wsG_at 1738 (by decide +kernel) (by decide +kernel)
theorem k1739 : (Cond.methodLink "PageSkeletonLaw" (219 : Nat) ({ cls := "PageSkeletonModel", name := "cuts", desc := "(I)I" } : MethodName)) ∈ wsG := wsG_at 1739 (by decide +kernel) (by decide +kernel)
theorem k1740 : (Cond.instanceMethod ({ cls := "PageSkeletonModel", name := "cuts", desc := "(I)I" } : MethodName)) ∈ wsG := wsG_at 1740 (by decide +kernel) (by decide +kernel)
theorem k1741 : (Cond.selects "PageSkeletonModel" ({ cls := "PageSkeletonModel", name := "cuts", desc := "(I)I" } : MethodName) ({ cls := "PageSkeletonModel", name := "cuts", desc := "(I)I" } : MethodName)) ∈ wsG := wsG_at 1741 (by decide +kernel) (by decide +kernel)
theorem k1742 : (Cond.code ({ cls := "PageSkeletonModel", name := "cuts", desc := "(I)I" } : MethodName) prog_12_method_107_code (8 : Nat) (Option.some FieldType.int)) ∈ wsG := wsG_at 1742 (by decide +kernel) (by decide +kernel)
theorem k1747 : (Cond.methodLink "PageSkeletonLaw" (222 : Nat) ({ cls := "PageSkeletonModel", name := "derived", desc := "(I)I" } : MethodName)) ∈ wsG := wsG_at 1747 (by decide +kernel) (by decide +kernel)
theorem k1748 : (Cond.instanceMethod ({ cls := "PageSkeletonModel", name := "derived", desc := "(I)I" } : MethodName)) ∈ wsG := wsG_at 1748 (by decide +kernel) (by decide +kernel)
theorem k1749 : (Cond.selects "PageSkeletonModel" ({ cls := "PageSkeletonModel", name := "derived", desc := "(I)I" } : MethodName) ({ cls := "PageSkeletonModel", name := "derived", desc := "(I)I" } : MethodName)) ∈ wsG := wsG_at 1749 (by decide +kernel) (by decide +kernel)
theorem k1750 : (Cond.code ({ cls := "PageSkeletonModel", name := "derived", desc := "(I)I" } : MethodName) prog_12_method_108_code (6 : Nat) (Option.some FieldType.int)) ∈ wsG := wsG_at 1750 (by decide +kernel) (by decide +kernel)
theorem k1751 : (Cond.methodLink "PageSkeletonLaw" (225 : Nat) ({ cls := "PageSkeletonModel", name := "common", desc := "(II)I" } : MethodName)) ∈ wsG := wsG_at 1751 (by decide +kernel) (by decide +kernel)
theorem k1752 : (Cond.instanceMethod ({ cls := "PageSkeletonModel", name := "common", desc := "(II)I" } : MethodName)) ∈ wsG := wsG_at 1752 (by decide +kernel) (by decide +kernel)
theorem k1753 : (Cond.selects "PageSkeletonModel" ({ cls := "PageSkeletonModel", name := "common", desc := "(II)I" } : MethodName) ({ cls := "PageSkeletonModel", name := "common", desc := "(II)I" } : MethodName)) ∈ wsG := wsG_at 1753 (by decide +kernel) (by decide +kernel)
theorem k1754 : (Cond.code ({ cls := "PageSkeletonModel", name := "common", desc := "(II)I" } : MethodName) prog_12_method_109_code (6 : Nat) (Option.some FieldType.int)) ∈ wsG := wsG_at 1754 (by decide +kernel) (by decide +kernel)
theorem k1755 : (Cond.methodLink "PageSkeletonLaw" (228 : Nat) ({ cls := "PageSkeletonModel", name := "similar", desc := "(II)Z" } : MethodName)) ∈ wsG := wsG_at 1755 (by decide +kernel) (by decide +kernel)
theorem k1756 : (Cond.instanceMethod ({ cls := "PageSkeletonModel", name := "similar", desc := "(II)Z" } : MethodName)) ∈ wsG := wsG_at 1756 (by decide +kernel) (by decide +kernel)
theorem k1757 : (Cond.selects "PageSkeletonModel" ({ cls := "PageSkeletonModel", name := "similar", desc := "(II)Z" } : MethodName) ({ cls := "PageSkeletonModel", name := "similar", desc := "(II)Z" } : MethodName)) ∈ wsG := wsG_at 1757 (by decide +kernel) (by decide +kernel)
theorem k1758 : (Cond.code ({ cls := "PageSkeletonModel", name := "similar", desc := "(II)Z" } : MethodName) prog_12_method_110_code (7 : Nat) (Option.some FieldType.boolean)) ∈ wsG := wsG_at 1758 (by decide +kernel) (by decide +kernel)
theorem k1759 : (Cond.methodLink "PageSkeletonLaw" (231 : Nat) ({ cls := "PageSkeletonModel", name := "step", desc := "(III)I" } : MethodName)) ∈ wsG := wsG_at 1759 (by decide +kernel) (by decide +kernel)
theorem k1760 : (Cond.instanceMethod ({ cls := "PageSkeletonModel", name := "step", desc := "(III)I" } : MethodName)) ∈ wsG := wsG_at 1760 (by decide +kernel) (by decide +kernel)
theorem k1761 : (Cond.selects "PageSkeletonModel" ({ cls := "PageSkeletonModel", name := "step", desc := "(III)I" } : MethodName) ({ cls := "PageSkeletonModel", name := "step", desc := "(III)I" } : MethodName)) ∈ wsG := wsG_at 1761 (by decide +kernel) (by decide +kernel)
theorem k1762 : (Cond.code ({ cls := "PageSkeletonModel", name := "step", desc := "(III)I" } : MethodName) prog_12_method_111_code (4 : Nat) (Option.some FieldType.int)) ∈ wsG := wsG_at 1762 (by decide +kernel) (by decide +kernel)
theorem k1763 : (Cond.methodLink "PageSkeletonLaw" (245 : Nat) ({ cls := "PageSkeletonModel", name := "status", desc := "(I)I" } : MethodName)) ∈ wsG := wsG_at 1763 (by decide +kernel) (by decide +kernel)
theorem k1764 : (Cond.instanceMethod ({ cls := "PageSkeletonModel", name := "status", desc := "(I)I" } : MethodName)) ∈ wsG := wsG_at 1764 (by decide +kernel) (by decide +kernel)
theorem k1765 : (Cond.selects "PageSkeletonModel" ({ cls := "PageSkeletonModel", name := "status", desc := "(I)I" } : MethodName) ({ cls := "PageSkeletonModel", name := "status", desc := "(I)I" } : MethodName)) ∈ wsG := wsG_at 1765 (by decide +kernel) (by decide +kernel)
theorem k1766 : (Cond.code ({ cls := "PageSkeletonModel", name := "status", desc := "(I)I" } : MethodName) prog_12_method_112_code (2 : Nat) (Option.some FieldType.int)) ∈ wsG := wsG_at 1766 (by decide +kernel) (by decide +kernel)
theorem dL_derived_7 : decode cL_derived 7 = .ok (.i2l, 1) := by decide +kernel
theorem dL_derived_8 : decode cL_derived 8 = .ok (.lastore, 1) := by decide +kernel
theorem dL_derived_9 : decode cL_derived 9 = .ok (.goto 6, 3) := by decide +kernel
theorem dL_derived_15 : decode cL_derived 15 = .ok (.iconst 0, 1) := by decide +kernel
theorem dL_derived_16 : decode cL_derived 16 = .ok (.ireturn, 1) := by decide +kernel
theorem dL_law_208 : decode cL_law 208 = .ok (.aload_n 1, 1) := by decide +kernel
theorem dL_law_209 : decode cL_law 209 = .ok (.aload_n 0, 1) := by decide +kernel
theorem dL_law_210 : decode cL_law 210 = .ok (.iload 4, 2) := by decide +kernel
theorem dL_law_212 : decode cL_law 212 = .ok (.iconst 1, 1) := by decide +kernel
theorem dL_law_213 : decode cL_law 213 = .ok (.iadd, 1) := by decide +kernel
theorem dL_law_214 : decode cL_law 214 = .ok (.iaload, 1) := by decide +kernel
theorem dL_law_215 : decode cL_law 215 = .ok (.aload_n 0, 1) := by decide +kernel
theorem dL_law_216 : decode cL_law 216 = .ok (.iload 4, 2) := by decide +kernel
theorem dL_law_218 : decode cL_law 218 = .ok (.iconst 2, 1) := by decide +kernel
theorem dL_law_219 : decode cL_law 219 = .ok (.iadd, 1) := by decide +kernel
theorem dL_law_220 : decode cL_law 220 = .ok (.iaload, 1) := by decide +kernel
theorem dL_law_221 : decode cL_law 221 = .ok (.aload_n 0, 1) := by decide +kernel
theorem dL_law_222 : decode cL_law 222 = .ok (.iload 4, 2) := by decide +kernel
theorem dL_law_224 : decode cL_law 224 = .ok (.iconst 3, 1) := by decide +kernel
theorem dL_law_225 : decode cL_law 225 = .ok (.iadd, 1) := by decide +kernel
theorem dL_law_226 : decode cL_law 226 = .ok (.iaload, 1) := by decide +kernel
theorem dL_law_227 : decode cL_law 227 = .ok (.aload_n 0, 1) := by decide +kernel
theorem dL_law_228 : decode cL_law 228 = .ok (.iload 4, 2) := by decide +kernel
theorem dL_law_230 : decode cL_law 230 = .ok (.iconst 4, 1) := by decide +kernel
theorem dL_law_231 : decode cL_law 231 = .ok (.iadd, 1) := by decide +kernel
theorem dL_law_232 : decode cL_law 232 = .ok (.iaload, 1) := by decide +kernel
theorem dL_law_233 : decode cL_law 233 = .ok (.aload_n 0, 1) := by decide +kernel
theorem dL_law_234 : decode cL_law 234 = .ok (.iload 4, 2) := by decide +kernel
theorem dL_law_236 : decode cL_law 236 = .ok (.iconst 5, 1) := by decide +kernel
theorem dL_law_237 : decode cL_law 237 = .ok (.iadd, 1) := by decide +kernel
theorem dL_law_238 : decode cL_law 238 = .ok (.iaload, 1) := by decide +kernel
theorem dL_law_239 : decode cL_law 239 = .ok (.invokevirtual 114, 3) := by decide +kernel
theorem dL_law_242 : decode cL_law 242 = .ok (.aload_n 2, 1) := by decide +kernel
theorem dL_law_243 : decode cL_law 243 = .ok (.aload_n 0, 1) := by decide +kernel
theorem dL_law_244 : decode cL_law 244 = .ok (.iload 4, 2) := by decide +kernel
theorem dL_law_246 : decode cL_law 246 = .ok (.iconst 1, 1) := by decide +kernel
theorem dL_law_247 : decode cL_law 247 = .ok (.iadd, 1) := by decide +kernel
theorem dL_law_248 : decode cL_law 248 = .ok (.iaload, 1) := by decide +kernel
theorem dL_law_249 : decode cL_law 249 = .ok (.aload_n 0, 1) := by decide +kernel
theorem dL_law_250 : decode cL_law 250 = .ok (.iload 4, 2) := by decide +kernel
theorem dL_law_252 : decode cL_law 252 = .ok (.iconst 2, 1) := by decide +kernel
theorem dL_law_253 : decode cL_law 253 = .ok (.iadd, 1) := by decide +kernel
theorem dL_law_254 : decode cL_law 254 = .ok (.iaload, 1) := by decide +kernel
theorem dL_law_255 : decode cL_law 255 = .ok (.aload_n 0, 1) := by decide +kernel
theorem dL_law_256 : decode cL_law 256 = .ok (.iload 4, 2) := by decide +kernel
theorem dL_law_258 : decode cL_law 258 = .ok (.iconst 3, 1) := by decide +kernel
theorem dL_law_259 : decode cL_law 259 = .ok (.iadd, 1) := by decide +kernel
theorem dL_law_260 : decode cL_law 260 = .ok (.iaload, 1) := by decide +kernel
theorem dL_law_261 : decode cL_law 261 = .ok (.aload_n 0, 1) := by decide +kernel
theorem dL_law_262 : decode cL_law 262 = .ok (.iload 4, 2) := by decide +kernel
theorem dL_law_264 : decode cL_law 264 = .ok (.iconst 4, 1) := by decide +kernel
theorem dL_law_265 : decode cL_law 265 = .ok (.iadd, 1) := by decide +kernel
theorem dL_law_266 : decode cL_law 266 = .ok (.iaload, 1) := by decide +kernel
theorem dL_law_267 : decode cL_law 267 = .ok (.aload_n 0, 1) := by decide +kernel
theorem dL_law_268 : decode cL_law 268 = .ok (.iload 4, 2) := by decide +kernel
theorem dL_law_270 : decode cL_law 270 = .ok (.iconst 5, 1) := by decide +kernel
theorem dL_law_271 : decode cL_law 271 = .ok (.iadd, 1) := by decide +kernel
theorem dL_law_272 : decode cL_law 272 = .ok (.iaload, 1) := by decide +kernel
theorem dL_law_273 : decode cL_law 273 = .ok (.invokevirtual 118, 3) := by decide +kernel
theorem dL_law_276 : decode cL_law 276 = .ok (.if_icmp .eq 2025, 3) := by decide +kernel
theorem dL_law_337 : decode cL_law 337 = .ok (.aload_n 1, 1) := by decide +kernel
theorem dL_law_338 : decode cL_law 338 = .ok (.invokevirtual 129, 3) := by decide +kernel
theorem dL_law_341 : decode cL_law 341 = .ok (.aload_n 2, 1) := by decide +kernel
theorem dL_law_342 : decode cL_law 342 = .ok (.invokevirtual 132, 3) := by decide +kernel
theorem dL_law_345 : decode cL_law 345 = .ok (.if_icmp .eq 1956, 3) := by decide +kernel
theorem dL_law_406 : decode cL_law 406 = .ok (.aload_n 1, 1) := by decide +kernel
theorem dL_law_407 : decode cL_law 407 = .ok (.invokevirtual 136, 3) := by decide +kernel
theorem dL_law_410 : decode cL_law 410 = .ok (.aload_n 2, 1) := by decide +kernel
theorem dL_law_411 : decode cL_law 411 = .ok (.invokevirtual 139, 3) := by decide +kernel
theorem dL_law_414 : decode cL_law 414 = .ok (.if_icmp .eq 1887, 3) := by decide +kernel
theorem dL_law_475 : decode cL_law 475 = .ok (.aload_n 1, 1) := by decide +kernel
theorem dL_law_476 : decode cL_law 476 = .ok (.invokevirtual 143, 3) := by decide +kernel
theorem dL_law_479 : decode cL_law 479 = .ok (.aload_n 2, 1) := by decide +kernel
theorem dL_law_480 : decode cL_law 480 = .ok (.invokevirtual 146, 3) := by decide +kernel
theorem dL_law_483 : decode cL_law 483 = .ok (.if_icmp .eq 1818, 3) := by decide +kernel
theorem dL_law_488 : decode cL_law 488 = .ok (.aload_n 1, 1) := by decide +kernel
theorem dL_law_489 : decode cL_law 489 = .ok (.invokevirtual 147, 3) := by decide +kernel
theorem dL_law_492 : decode cL_law 492 = .ok (.aload_n 2, 1) := by decide +kernel
theorem dL_law_493 : decode cL_law 493 = .ok (.invokevirtual 150, 3) := by decide +kernel
theorem dL_law_496 : decode cL_law 496 = .ok (.if_icmp .eq 1805, 3) := by decide +kernel
theorem dL_law_1672 : decode cL_law 1672 = .ok (.aload_n 1, 1) := by decide +kernel
theorem dL_law_1673 : decode cL_law 1673 = .ok (.invokevirtual 207, 3) := by decide +kernel
theorem dL_law_1676 : decode cL_law 1676 = .ok (.aload_n 2, 1) := by decide +kernel
theorem dL_law_1677 : decode cL_law 1677 = .ok (.invokevirtual 210, 3) := by decide +kernel
theorem dL_law_1680 : decode cL_law 1680 = .ok (.if_icmp .eq 621, 3) := by decide +kernel
theorem dL_law_2263 : decode cL_law 2263 = .ok (.aload_n 1, 1) := by decide +kernel
theorem dL_law_2264 : decode cL_law 2264 = .ok (.invokevirtual 238, 3) := by decide +kernel
theorem dL_law_2267 : decode cL_law 2267 = .ok (.aload_n 2, 1) := by decide +kernel
theorem dL_law_2268 : decode cL_law 2268 = .ok (.invokevirtual 241, 3) := by decide +kernel
theorem dL_law_2271 : decode cL_law 2271 = .ok (.if_icmp .eq 30, 3) := by decide +kernel
theorem dL_law_350 : decode cL_law 350 = .ok (.aload_n 1, 1) := by decide +kernel
theorem dL_law_351 : decode cL_law 351 = .ok (.aload_n 0, 1) := by decide +kernel
theorem dL_law_352 : decode cL_law 352 = .ok (.iload 4, 2) := by decide +kernel
theorem dL_law_354 : decode cL_law 354 = .ok (.iconst 1, 1) := by decide +kernel
theorem dL_law_355 : decode cL_law 355 = .ok (.iadd, 1) := by decide +kernel
theorem dL_law_356 : decode cL_law 356 = .ok (.iaload, 1) := by decide +kernel
theorem dL_law_357 : decode cL_law 357 = .ok (.aload_n 3, 1) := by decide +kernel
theorem dL_law_358 : decode cL_law 358 = .ok (.invokestatic 133, 3) := by decide +kernel
theorem dL_law_361 : decode cL_law 361 = .ok (.istore 5, 2) := by decide +kernel
theorem dL_law_363 : decode cL_law 363 = .ok (.aload_n 2, 1) := by decide +kernel
theorem dL_law_364 : decode cL_law 364 = .ok (.aload_n 0, 1) := by decide +kernel
theorem dL_law_365 : decode cL_law 365 = .ok (.iload 4, 2) := by decide +kernel
theorem dL_law_367 : decode cL_law 367 = .ok (.iconst 1, 1) := by decide +kernel
theorem dL_law_368 : decode cL_law 368 = .ok (.iadd, 1) := by decide +kernel
theorem dL_law_369 : decode cL_law 369 = .ok (.iaload, 1) := by decide +kernel
theorem dL_law_370 : decode cL_law 370 = .ok (.invokevirtual 135, 3) := by decide +kernel
theorem dL_law_373 : decode cL_law 373 = .ok (.istore 6, 2) := by decide +kernel
theorem dL_law_375 : decode cL_law 375 = .ok (.aload_n 2, 1) := by decide +kernel
theorem dL_law_376 : decode cL_law 376 = .ok (.invokevirtual 125, 3) := by decide +kernel
theorem dL_law_379 : decode cL_law 379 = .ok (.iload 5, 2) := by decide +kernel
theorem dL_law_381 : decode cL_law 381 = .ok (.if_icmp .eq 5, 3) := by decide +kernel
theorem dL_law_386 : decode cL_law 386 = .ok (.iload 5, 2) := by decide +kernel
theorem dL_law_388 : decode cL_law 388 = .ok (.ifCond .ne 15, 3) := by decide +kernel
theorem dL_law_403 : decode cL_law 403 = .ok (.goto 1898, 3) := by decide +kernel
theorem dL_law_557 : decode cL_law 557 = .ok (.aload_n 1, 1) := by decide +kernel
theorem dL_law_558 : decode cL_law 558 = .ok (.aload_n 0, 1) := by decide +kernel
theorem dL_law_559 : decode cL_law 559 = .ok (.iload 4, 2) := by decide +kernel
theorem dL_law_561 : decode cL_law 561 = .ok (.iconst 1, 1) := by decide +kernel
theorem dL_law_562 : decode cL_law 562 = .ok (.iadd, 1) := by decide +kernel
theorem dL_law_563 : decode cL_law 563 = .ok (.iaload, 1) := by decide +kernel
theorem dL_law_564 : decode cL_law 564 = .ok (.aload_n 0, 1) := by decide +kernel
theorem dL_law_565 : decode cL_law 565 = .ok (.iload 4, 2) := by decide +kernel
theorem dL_law_567 : decode cL_law 567 = .ok (.iconst 2, 1) := by decide +kernel
theorem dL_law_568 : decode cL_law 568 = .ok (.iadd, 1) := by decide +kernel
theorem dL_law_569 : decode cL_law 569 = .ok (.iaload, 1) := by decide +kernel
theorem dL_law_570 : decode cL_law 570 = .ok (.aload_n 3, 1) := by decide +kernel
theorem dL_law_571 : decode cL_law 571 = .ok (.invokestatic 154, 3) := by decide +kernel
theorem dL_law_574 : decode cL_law 574 = .ok (.istore 5, 2) := by decide +kernel
theorem dL_law_576 : decode cL_law 576 = .ok (.aload_n 2, 1) := by decide +kernel
theorem dL_law_577 : decode cL_law 577 = .ok (.aload_n 0, 1) := by decide +kernel
theorem dL_law_578 : decode cL_law 578 = .ok (.iload 4, 2) := by decide +kernel
theorem dL_law_580 : decode cL_law 580 = .ok (.iconst 1, 1) := by decide +kernel
theorem dL_law_581 : decode cL_law 581 = .ok (.iadd, 1) := by decide +kernel
theorem dL_law_582 : decode cL_law 582 = .ok (.iaload, 1) := by decide +kernel
theorem dL_law_583 : decode cL_law 583 = .ok (.aload_n 0, 1) := by decide +kernel
theorem dL_law_584 : decode cL_law 584 = .ok (.iload 4, 2) := by decide +kernel
theorem dL_law_586 : decode cL_law 586 = .ok (.iconst 2, 1) := by decide +kernel
theorem dL_law_587 : decode cL_law 587 = .ok (.iadd, 1) := by decide +kernel
theorem dL_law_588 : decode cL_law 588 = .ok (.iaload, 1) := by decide +kernel
theorem dL_law_589 : decode cL_law 589 = .ok (.invokevirtual 157, 3) := by decide +kernel
theorem dL_law_592 : decode cL_law 592 = .ok (.istore 6, 2) := by decide +kernel
theorem dL_law_594 : decode cL_law 594 = .ok (.aload_n 2, 1) := by decide +kernel
theorem dL_law_595 : decode cL_law 595 = .ok (.invokevirtual 125, 3) := by decide +kernel
theorem dL_law_598 : decode cL_law 598 = .ok (.iload 5, 2) := by decide +kernel
theorem dL_law_600 : decode cL_law 600 = .ok (.if_icmp .eq 5, 3) := by decide +kernel
theorem dL_law_605 : decode cL_law 605 = .ok (.iload 5, 2) := by decide +kernel
theorem dL_law_607 : decode cL_law 607 = .ok (.ifCond .ne 15, 3) := by decide +kernel
theorem dL_law_622 : decode cL_law 622 = .ok (.goto 1679, 3) := by decide +kernel
theorem dL_law_625 : decode cL_law 625 = .ok (.aload_n 1, 1) := by decide +kernel
theorem dL_law_626 : decode cL_law 626 = .ok (.aload_n 0, 1) := by decide +kernel
theorem dL_law_627 : decode cL_law 627 = .ok (.iload 4, 2) := by decide +kernel
theorem dL_law_629 : decode cL_law 629 = .ok (.iconst 1, 1) := by decide +kernel
theorem dL_law_630 : decode cL_law 630 = .ok (.iadd, 1) := by decide +kernel
theorem dL_law_631 : decode cL_law 631 = .ok (.iaload, 1) := by decide +kernel
theorem dL_law_632 : decode cL_law 632 = .ok (.aload_n 0, 1) := by decide +kernel
theorem dL_law_633 : decode cL_law 633 = .ok (.iload 4, 2) := by decide +kernel
theorem dL_law_635 : decode cL_law 635 = .ok (.iconst 2, 1) := by decide +kernel
theorem dL_law_636 : decode cL_law 636 = .ok (.iadd, 1) := by decide +kernel
theorem dL_law_637 : decode cL_law 637 = .ok (.iaload, 1) := by decide +kernel
theorem dL_law_638 : decode cL_law 638 = .ok (.aload_n 3, 1) := by decide +kernel
theorem dL_law_639 : decode cL_law 639 = .ok (.invokestatic 158, 3) := by decide +kernel
theorem dL_law_642 : decode cL_law 642 = .ok (.istore 5, 2) := by decide +kernel
theorem dL_law_644 : decode cL_law 644 = .ok (.aload_n 2, 1) := by decide +kernel
theorem dL_law_645 : decode cL_law 645 = .ok (.aload_n 0, 1) := by decide +kernel
theorem dL_law_646 : decode cL_law 646 = .ok (.iload 4, 2) := by decide +kernel
theorem dL_law_648 : decode cL_law 648 = .ok (.iconst 1, 1) := by decide +kernel
theorem dL_law_649 : decode cL_law 649 = .ok (.iadd, 1) := by decide +kernel
theorem dL_law_650 : decode cL_law 650 = .ok (.iaload, 1) := by decide +kernel
theorem dL_law_651 : decode cL_law 651 = .ok (.aload_n 0, 1) := by decide +kernel
theorem dL_law_652 : decode cL_law 652 = .ok (.iload 4, 2) := by decide +kernel
theorem dL_law_654 : decode cL_law 654 = .ok (.iconst 2, 1) := by decide +kernel
theorem dL_law_655 : decode cL_law 655 = .ok (.iadd, 1) := by decide +kernel
theorem dL_law_656 : decode cL_law 656 = .ok (.iaload, 1) := by decide +kernel
theorem dL_law_657 : decode cL_law 657 = .ok (.invokevirtual 160, 3) := by decide +kernel
theorem dL_law_660 : decode cL_law 660 = .ok (.istore 6, 2) := by decide +kernel
theorem dL_law_662 : decode cL_law 662 = .ok (.aload_n 2, 1) := by decide +kernel
theorem dL_law_663 : decode cL_law 663 = .ok (.invokevirtual 125, 3) := by decide +kernel
theorem dL_law_666 : decode cL_law 666 = .ok (.iload 5, 2) := by decide +kernel
theorem dL_law_668 : decode cL_law 668 = .ok (.if_icmp .eq 5, 3) := by decide +kernel
theorem dL_law_673 : decode cL_law 673 = .ok (.iload 5, 2) := by decide +kernel
theorem dL_law_675 : decode cL_law 675 = .ok (.ifCond .ne 15, 3) := by decide +kernel
theorem dL_law_690 : decode cL_law 690 = .ok (.goto 1611, 3) := by decide +kernel
theorem dL_law_693 : decode cL_law 693 = .ok (.aload_n 1, 1) := by decide +kernel
theorem dL_law_694 : decode cL_law 694 = .ok (.aload_n 0, 1) := by decide +kernel
theorem dL_law_695 : decode cL_law 695 = .ok (.iload 4, 2) := by decide +kernel
theorem dL_law_697 : decode cL_law 697 = .ok (.iconst 1, 1) := by decide +kernel
theorem dL_law_698 : decode cL_law 698 = .ok (.iadd, 1) := by decide +kernel
theorem dL_law_699 : decode cL_law 699 = .ok (.iaload, 1) := by decide +kernel
theorem dL_law_700 : decode cL_law 700 = .ok (.aload_n 0, 1) := by decide +kernel
theorem dL_law_701 : decode cL_law 701 = .ok (.iload 4, 2) := by decide +kernel
theorem dL_law_703 : decode cL_law 703 = .ok (.iconst 2, 1) := by decide +kernel
theorem dL_law_704 : decode cL_law 704 = .ok (.iadd, 1) := by decide +kernel
theorem dL_law_705 : decode cL_law 705 = .ok (.iaload, 1) := by decide +kernel
theorem dL_law_706 : decode cL_law 706 = .ok (.aload_n 3, 1) := by decide +kernel
theorem dL_law_707 : decode cL_law 707 = .ok (.invokestatic 161, 3) := by decide +kernel
theorem dL_law_710 : decode cL_law 710 = .ok (.istore 5, 2) := by decide +kernel
theorem dL_law_712 : decode cL_law 712 = .ok (.aload_n 2, 1) := by decide +kernel
theorem dL_law_713 : decode cL_law 713 = .ok (.aload_n 0, 1) := by decide +kernel
theorem dL_law_714 : decode cL_law 714 = .ok (.iload 4, 2) := by decide +kernel
theorem dL_law_716 : decode cL_law 716 = .ok (.iconst 1, 1) := by decide +kernel
theorem dL_law_717 : decode cL_law 717 = .ok (.iadd, 1) := by decide +kernel
theorem dL_law_718 : decode cL_law 718 = .ok (.iaload, 1) := by decide +kernel
theorem dL_law_719 : decode cL_law 719 = .ok (.aload_n 0, 1) := by decide +kernel
theorem dL_law_720 : decode cL_law 720 = .ok (.iload 4, 2) := by decide +kernel
theorem dL_law_722 : decode cL_law 722 = .ok (.iconst 2, 1) := by decide +kernel
theorem dL_law_723 : decode cL_law 723 = .ok (.iadd, 1) := by decide +kernel
theorem dL_law_724 : decode cL_law 724 = .ok (.iaload, 1) := by decide +kernel
theorem dL_law_725 : decode cL_law 725 = .ok (.invokevirtual 163, 3) := by decide +kernel
theorem dL_law_728 : decode cL_law 728 = .ok (.istore 6, 2) := by decide +kernel
theorem dL_law_730 : decode cL_law 730 = .ok (.aload_n 2, 1) := by decide +kernel
theorem dL_law_731 : decode cL_law 731 = .ok (.invokevirtual 125, 3) := by decide +kernel
theorem dL_law_734 : decode cL_law 734 = .ok (.iload 5, 2) := by decide +kernel
theorem dL_law_736 : decode cL_law 736 = .ok (.if_icmp .eq 5, 3) := by decide +kernel
theorem dL_law_741 : decode cL_law 741 = .ok (.iload 5, 2) := by decide +kernel
theorem dL_law_743 : decode cL_law 743 = .ok (.ifCond .ne 15, 3) := by decide +kernel
theorem dL_law_758 : decode cL_law 758 = .ok (.goto 1543, 3) := by decide +kernel
theorem dL_law_761 : decode cL_law 761 = .ok (.aload_n 1, 1) := by decide +kernel
theorem dL_law_762 : decode cL_law 762 = .ok (.aload_n 0, 1) := by decide +kernel
theorem dL_law_763 : decode cL_law 763 = .ok (.iload 4, 2) := by decide +kernel
theorem dL_law_765 : decode cL_law 765 = .ok (.iconst 1, 1) := by decide +kernel
theorem dL_law_766 : decode cL_law 766 = .ok (.iadd, 1) := by decide +kernel
theorem dL_law_767 : decode cL_law 767 = .ok (.iaload, 1) := by decide +kernel
theorem dL_law_768 : decode cL_law 768 = .ok (.aload_n 0, 1) := by decide +kernel
theorem dL_law_769 : decode cL_law 769 = .ok (.iload 4, 2) := by decide +kernel
theorem dL_law_771 : decode cL_law 771 = .ok (.iconst 2, 1) := by decide +kernel
theorem dL_law_772 : decode cL_law 772 = .ok (.iadd, 1) := by decide +kernel
theorem dL_law_773 : decode cL_law 773 = .ok (.iaload, 1) := by decide +kernel
theorem dL_law_774 : decode cL_law 774 = .ok (.aload_n 3, 1) := by decide +kernel
theorem dL_law_775 : decode cL_law 775 = .ok (.invokestatic 164, 3) := by decide +kernel
theorem dL_law_778 : decode cL_law 778 = .ok (.istore 5, 2) := by decide +kernel
theorem dL_law_780 : decode cL_law 780 = .ok (.aload_n 2, 1) := by decide +kernel
theorem dL_law_781 : decode cL_law 781 = .ok (.aload_n 0, 1) := by decide +kernel
theorem dL_law_782 : decode cL_law 782 = .ok (.iload 4, 2) := by decide +kernel
theorem dL_law_784 : decode cL_law 784 = .ok (.iconst 1, 1) := by decide +kernel
theorem dL_law_785 : decode cL_law 785 = .ok (.iadd, 1) := by decide +kernel
theorem dL_law_786 : decode cL_law 786 = .ok (.iaload, 1) := by decide +kernel
theorem dL_law_787 : decode cL_law 787 = .ok (.aload_n 0, 1) := by decide +kernel
theorem dL_law_788 : decode cL_law 788 = .ok (.iload 4, 2) := by decide +kernel
theorem dL_law_790 : decode cL_law 790 = .ok (.iconst 2, 1) := by decide +kernel
theorem dL_law_791 : decode cL_law 791 = .ok (.iadd, 1) := by decide +kernel
theorem dL_law_792 : decode cL_law 792 = .ok (.iaload, 1) := by decide +kernel
theorem dL_law_793 : decode cL_law 793 = .ok (.invokevirtual 166, 3) := by decide +kernel
theorem dL_law_796 : decode cL_law 796 = .ok (.istore 6, 2) := by decide +kernel
theorem dL_law_798 : decode cL_law 798 = .ok (.aload_n 2, 1) := by decide +kernel
theorem dL_law_799 : decode cL_law 799 = .ok (.invokevirtual 125, 3) := by decide +kernel
theorem dL_law_802 : decode cL_law 802 = .ok (.iload 5, 2) := by decide +kernel
theorem dL_law_804 : decode cL_law 804 = .ok (.if_icmp .eq 5, 3) := by decide +kernel
theorem dL_law_809 : decode cL_law 809 = .ok (.iload 5, 2) := by decide +kernel
theorem dL_law_811 : decode cL_law 811 = .ok (.ifCond .ne 15, 3) := by decide +kernel
theorem dL_law_826 : decode cL_law 826 = .ok (.goto 1475, 3) := by decide +kernel
theorem dL_law_829 : decode cL_law 829 = .ok (.aload_n 1, 1) := by decide +kernel
theorem dL_law_830 : decode cL_law 830 = .ok (.aload_n 0, 1) := by decide +kernel
theorem dL_law_831 : decode cL_law 831 = .ok (.iload 4, 2) := by decide +kernel
theorem dL_law_833 : decode cL_law 833 = .ok (.iconst 1, 1) := by decide +kernel
theorem dL_law_834 : decode cL_law 834 = .ok (.iadd, 1) := by decide +kernel
theorem dL_law_835 : decode cL_law 835 = .ok (.iaload, 1) := by decide +kernel
theorem dL_law_836 : decode cL_law 836 = .ok (.aload_n 0, 1) := by decide +kernel
theorem dL_law_837 : decode cL_law 837 = .ok (.iload 4, 2) := by decide +kernel
theorem dL_law_839 : decode cL_law 839 = .ok (.iconst 2, 1) := by decide +kernel
theorem dL_law_840 : decode cL_law 840 = .ok (.iadd, 1) := by decide +kernel
theorem dL_law_841 : decode cL_law 841 = .ok (.iaload, 1) := by decide +kernel
theorem dL_law_842 : decode cL_law 842 = .ok (.aload_n 0, 1) := by decide +kernel
theorem dL_law_843 : decode cL_law 843 = .ok (.iload 4, 2) := by decide +kernel
theorem dL_law_845 : decode cL_law 845 = .ok (.iconst 3, 1) := by decide +kernel
theorem dL_law_846 : decode cL_law 846 = .ok (.iadd, 1) := by decide +kernel
theorem dL_law_847 : decode cL_law 847 = .ok (.iaload, 1) := by decide +kernel
theorem dL_law_848 : decode cL_law 848 = .ok (.aload_n 3, 1) := by decide +kernel
theorem dL_law_849 : decode cL_law 849 = .ok (.invokestatic 167, 3) := by decide +kernel
theorem dL_law_852 : decode cL_law 852 = .ok (.istore 5, 2) := by decide +kernel
theorem dL_law_854 : decode cL_law 854 = .ok (.aload_n 2, 1) := by decide +kernel
theorem dL_law_855 : decode cL_law 855 = .ok (.aload_n 0, 1) := by decide +kernel
theorem dL_law_856 : decode cL_law 856 = .ok (.iload 4, 2) := by decide +kernel
theorem dL_law_858 : decode cL_law 858 = .ok (.iconst 1, 1) := by decide +kernel
theorem dL_law_859 : decode cL_law 859 = .ok (.iadd, 1) := by decide +kernel
theorem dL_law_860 : decode cL_law 860 = .ok (.iaload, 1) := by decide +kernel
theorem dL_law_861 : decode cL_law 861 = .ok (.aload_n 0, 1) := by decide +kernel
theorem dL_law_862 : decode cL_law 862 = .ok (.iload 4, 2) := by decide +kernel
theorem dL_law_864 : decode cL_law 864 = .ok (.iconst 2, 1) := by decide +kernel
theorem dL_law_865 : decode cL_law 865 = .ok (.iadd, 1) := by decide +kernel
theorem dL_law_866 : decode cL_law 866 = .ok (.iaload, 1) := by decide +kernel
theorem dL_law_867 : decode cL_law 867 = .ok (.aload_n 0, 1) := by decide +kernel
theorem dL_law_868 : decode cL_law 868 = .ok (.iload 4, 2) := by decide +kernel
theorem dL_law_870 : decode cL_law 870 = .ok (.iconst 3, 1) := by decide +kernel
theorem dL_law_871 : decode cL_law 871 = .ok (.iadd, 1) := by decide +kernel
theorem dL_law_872 : decode cL_law 872 = .ok (.iaload, 1) := by decide +kernel
theorem dL_law_873 : decode cL_law 873 = .ok (.invokevirtual 170, 3) := by decide +kernel
theorem dL_law_876 : decode cL_law 876 = .ok (.istore 6, 2) := by decide +kernel
theorem dL_law_878 : decode cL_law 878 = .ok (.aload_n 2, 1) := by decide +kernel
theorem dL_law_879 : decode cL_law 879 = .ok (.invokevirtual 125, 3) := by decide +kernel
theorem dL_law_882 : decode cL_law 882 = .ok (.iload 5, 2) := by decide +kernel
theorem dL_law_884 : decode cL_law 884 = .ok (.if_icmp .eq 5, 3) := by decide +kernel
theorem dL_law_889 : decode cL_law 889 = .ok (.iload 5, 2) := by decide +kernel
theorem dL_law_891 : decode cL_law 891 = .ok (.ifCond .ne 15, 3) := by decide +kernel
theorem dL_law_906 : decode cL_law 906 = .ok (.goto 1395, 3) := by decide +kernel
theorem dL_law_909 : decode cL_law 909 = .ok (.aload_n 1, 1) := by decide +kernel
theorem dL_law_910 : decode cL_law 910 = .ok (.aload_n 0, 1) := by decide +kernel
theorem dL_law_911 : decode cL_law 911 = .ok (.iload 4, 2) := by decide +kernel
theorem dL_law_913 : decode cL_law 913 = .ok (.iconst 1, 1) := by decide +kernel
theorem dL_law_914 : decode cL_law 914 = .ok (.iadd, 1) := by decide +kernel
theorem dL_law_915 : decode cL_law 915 = .ok (.iaload, 1) := by decide +kernel
theorem dL_law_916 : decode cL_law 916 = .ok (.aload_n 3, 1) := by decide +kernel
theorem dL_law_917 : decode cL_law 917 = .ok (.invokestatic 171, 3) := by decide +kernel
theorem dL_law_920 : decode cL_law 920 = .ok (.istore 5, 2) := by decide +kernel
theorem dL_law_922 : decode cL_law 922 = .ok (.aload_n 2, 1) := by decide +kernel
theorem dL_law_923 : decode cL_law 923 = .ok (.aload_n 0, 1) := by decide +kernel
theorem dL_law_924 : decode cL_law 924 = .ok (.iload 4, 2) := by decide +kernel
theorem dL_law_926 : decode cL_law 926 = .ok (.iconst 1, 1) := by decide +kernel
theorem dL_law_927 : decode cL_law 927 = .ok (.iadd, 1) := by decide +kernel
theorem dL_law_928 : decode cL_law 928 = .ok (.iaload, 1) := by decide +kernel
theorem dL_law_929 : decode cL_law 929 = .ok (.invokevirtual 173, 3) := by decide +kernel
theorem dL_law_932 : decode cL_law 932 = .ok (.istore 6, 2) := by decide +kernel
theorem dL_law_934 : decode cL_law 934 = .ok (.aload_n 2, 1) := by decide +kernel
theorem dL_law_935 : decode cL_law 935 = .ok (.invokevirtual 125, 3) := by decide +kernel
theorem dL_law_938 : decode cL_law 938 = .ok (.iload 5, 2) := by decide +kernel
theorem dL_law_940 : decode cL_law 940 = .ok (.if_icmp .eq 5, 3) := by decide +kernel
theorem dL_law_945 : decode cL_law 945 = .ok (.iload 5, 2) := by decide +kernel
theorem dL_law_947 : decode cL_law 947 = .ok (.ifCond .ne 22, 3) := by decide +kernel
theorem dL_law_969 : decode cL_law 969 = .ok (.goto 1332, 3) := by decide +kernel
theorem dL_law_972 : decode cL_law 972 = .ok (.aload_n 1, 1) := by decide +kernel
theorem dL_law_973 : decode cL_law 973 = .ok (.aload_n 0, 1) := by decide +kernel
theorem dL_law_974 : decode cL_law 974 = .ok (.iload 4, 2) := by decide +kernel
theorem dL_law_976 : decode cL_law 976 = .ok (.iconst 1, 1) := by decide +kernel
theorem dL_law_977 : decode cL_law 977 = .ok (.iadd, 1) := by decide +kernel
theorem dL_law_978 : decode cL_law 978 = .ok (.iaload, 1) := by decide +kernel
theorem dL_law_979 : decode cL_law 979 = .ok (.aload_n 3, 1) := by decide +kernel
theorem dL_law_980 : decode cL_law 980 = .ok (.invokestatic 174, 3) := by decide +kernel
theorem dL_law_983 : decode cL_law 983 = .ok (.istore 5, 2) := by decide +kernel
theorem dL_law_985 : decode cL_law 985 = .ok (.aload_n 2, 1) := by decide +kernel
theorem dL_law_986 : decode cL_law 986 = .ok (.aload_n 0, 1) := by decide +kernel
theorem dL_law_987 : decode cL_law 987 = .ok (.iload 4, 2) := by decide +kernel
theorem dL_law_989 : decode cL_law 989 = .ok (.iconst 1, 1) := by decide +kernel
theorem dL_law_990 : decode cL_law 990 = .ok (.iadd, 1) := by decide +kernel
theorem dL_law_991 : decode cL_law 991 = .ok (.iaload, 1) := by decide +kernel
theorem dL_law_992 : decode cL_law 992 = .ok (.invokevirtual 176, 3) := by decide +kernel
theorem dL_law_995 : decode cL_law 995 = .ok (.istore 6, 2) := by decide +kernel
theorem dL_law_997 : decode cL_law 997 = .ok (.aload_n 2, 1) := by decide +kernel
theorem dL_law_998 : decode cL_law 998 = .ok (.invokevirtual 125, 3) := by decide +kernel
theorem dL_law_1001 : decode cL_law 1001 = .ok (.iload 5, 2) := by decide +kernel
theorem dL_law_1003 : decode cL_law 1003 = .ok (.if_icmp .eq 5, 3) := by decide +kernel
theorem dL_law_1008 : decode cL_law 1008 = .ok (.iload 5, 2) := by decide +kernel
theorem dL_law_1010 : decode cL_law 1010 = .ok (.ifCond .ne 15, 3) := by decide +kernel
theorem dL_law_1025 : decode cL_law 1025 = .ok (.goto 1276, 3) := by decide +kernel
theorem dL_law_1028 : decode cL_law 1028 = .ok (.aload_n 1, 1) := by decide +kernel
theorem dL_law_1029 : decode cL_law 1029 = .ok (.aload_n 0, 1) := by decide +kernel
theorem dL_law_1030 : decode cL_law 1030 = .ok (.iload 4, 2) := by decide +kernel
theorem dL_law_1032 : decode cL_law 1032 = .ok (.iconst 1, 1) := by decide +kernel
theorem dL_law_1033 : decode cL_law 1033 = .ok (.iadd, 1) := by decide +kernel
theorem dL_law_1034 : decode cL_law 1034 = .ok (.iaload, 1) := by decide +kernel
theorem dL_law_1035 : decode cL_law 1035 = .ok (.aload_n 3, 1) := by decide +kernel
theorem dL_law_1036 : decode cL_law 1036 = .ok (.invokestatic 177, 3) := by decide +kernel
theorem dL_law_1039 : decode cL_law 1039 = .ok (.istore 5, 2) := by decide +kernel
theorem dL_law_1041 : decode cL_law 1041 = .ok (.aload_n 2, 1) := by decide +kernel
theorem dL_law_1042 : decode cL_law 1042 = .ok (.aload_n 0, 1) := by decide +kernel
theorem dL_law_1043 : decode cL_law 1043 = .ok (.iload 4, 2) := by decide +kernel
theorem dL_law_1045 : decode cL_law 1045 = .ok (.iconst 1, 1) := by decide +kernel
theorem dL_law_1046 : decode cL_law 1046 = .ok (.iadd, 1) := by decide +kernel
theorem dL_law_1047 : decode cL_law 1047 = .ok (.iaload, 1) := by decide +kernel
theorem dL_law_1048 : decode cL_law 1048 = .ok (.invokevirtual 179, 3) := by decide +kernel
theorem dL_law_1051 : decode cL_law 1051 = .ok (.istore 6, 2) := by decide +kernel
theorem dL_law_1053 : decode cL_law 1053 = .ok (.aload_n 2, 1) := by decide +kernel
theorem dL_law_1054 : decode cL_law 1054 = .ok (.invokevirtual 125, 3) := by decide +kernel
theorem dL_law_1057 : decode cL_law 1057 = .ok (.iload 5, 2) := by decide +kernel
theorem dL_law_1059 : decode cL_law 1059 = .ok (.if_icmp .eq 5, 3) := by decide +kernel
theorem dL_law_1064 : decode cL_law 1064 = .ok (.iload 5, 2) := by decide +kernel
theorem dL_law_1066 : decode cL_law 1066 = .ok (.ifCond .ne 15, 3) := by decide +kernel
theorem dL_law_1081 : decode cL_law 1081 = .ok (.goto 1220, 3) := by decide +kernel
theorem dL_law_1084 : decode cL_law 1084 = .ok (.aload_n 1, 1) := by decide +kernel
theorem dL_law_1085 : decode cL_law 1085 = .ok (.aload_n 0, 1) := by decide +kernel
theorem dL_law_1086 : decode cL_law 1086 = .ok (.iload 4, 2) := by decide +kernel
theorem dL_law_1088 : decode cL_law 1088 = .ok (.iconst 1, 1) := by decide +kernel
theorem dL_law_1089 : decode cL_law 1089 = .ok (.iadd, 1) := by decide +kernel
theorem dL_law_1090 : decode cL_law 1090 = .ok (.iaload, 1) := by decide +kernel
theorem dL_law_1091 : decode cL_law 1091 = .ok (.aload_n 0, 1) := by decide +kernel
theorem dL_law_1092 : decode cL_law 1092 = .ok (.iload 4, 2) := by decide +kernel
theorem dL_law_1094 : decode cL_law 1094 = .ok (.iconst 2, 1) := by decide +kernel
theorem dL_law_1095 : decode cL_law 1095 = .ok (.iadd, 1) := by decide +kernel
theorem dL_law_1096 : decode cL_law 1096 = .ok (.iaload, 1) := by decide +kernel
theorem dL_law_1097 : decode cL_law 1097 = .ok (.aload_n 3, 1) := by decide +kernel
theorem dL_law_1098 : decode cL_law 1098 = .ok (.invokestatic 180, 3) := by decide +kernel
theorem dL_law_1101 : decode cL_law 1101 = .ok (.istore 5, 2) := by decide +kernel
theorem dL_law_1103 : decode cL_law 1103 = .ok (.aload_n 2, 1) := by decide +kernel
theorem dL_law_1104 : decode cL_law 1104 = .ok (.aload_n 0, 1) := by decide +kernel
theorem dL_law_1105 : decode cL_law 1105 = .ok (.iload 4, 2) := by decide +kernel
theorem dL_law_1107 : decode cL_law 1107 = .ok (.iconst 1, 1) := by decide +kernel
theorem dL_law_1108 : decode cL_law 1108 = .ok (.iadd, 1) := by decide +kernel
theorem dL_law_1109 : decode cL_law 1109 = .ok (.iaload, 1) := by decide +kernel
theorem dL_law_1110 : decode cL_law 1110 = .ok (.aload_n 0, 1) := by decide +kernel
theorem dL_law_1111 : decode cL_law 1111 = .ok (.iload 4, 2) := by decide +kernel
theorem dL_law_1113 : decode cL_law 1113 = .ok (.iconst 2, 1) := by decide +kernel
theorem dL_law_1114 : decode cL_law 1114 = .ok (.iadd, 1) := by decide +kernel
theorem dL_law_1115 : decode cL_law 1115 = .ok (.iaload, 1) := by decide +kernel
theorem dL_law_1116 : decode cL_law 1116 = .ok (.invokevirtual 182, 3) := by decide +kernel
theorem dL_law_1119 : decode cL_law 1119 = .ok (.istore 6, 2) := by decide +kernel
theorem dL_law_1121 : decode cL_law 1121 = .ok (.aload_n 2, 1) := by decide +kernel
theorem dL_law_1122 : decode cL_law 1122 = .ok (.invokevirtual 125, 3) := by decide +kernel
theorem dL_law_1125 : decode cL_law 1125 = .ok (.iload 5, 2) := by decide +kernel
theorem dL_law_1127 : decode cL_law 1127 = .ok (.if_icmp .eq 5, 3) := by decide +kernel
theorem dL_law_1132 : decode cL_law 1132 = .ok (.iload 5, 2) := by decide +kernel
theorem dL_law_1134 : decode cL_law 1134 = .ok (.ifCond .ne 15, 3) := by decide +kernel
theorem dL_law_1149 : decode cL_law 1149 = .ok (.goto 1152, 3) := by decide +kernel
theorem dL_law_1152 : decode cL_law 1152 = .ok (.aload_n 1, 1) := by decide +kernel
theorem dL_law_1153 : decode cL_law 1153 = .ok (.aload_n 0, 1) := by decide +kernel
theorem dL_law_1154 : decode cL_law 1154 = .ok (.iload 4, 2) := by decide +kernel
theorem dL_law_1156 : decode cL_law 1156 = .ok (.iconst 1, 1) := by decide +kernel
theorem dL_law_1157 : decode cL_law 1157 = .ok (.iadd, 1) := by decide +kernel
theorem dL_law_1158 : decode cL_law 1158 = .ok (.iaload, 1) := by decide +kernel
theorem dL_law_1159 : decode cL_law 1159 = .ok (.aload_n 0, 1) := by decide +kernel
theorem dL_law_1160 : decode cL_law 1160 = .ok (.iload 4, 2) := by decide +kernel
theorem dL_law_1162 : decode cL_law 1162 = .ok (.iconst 2, 1) := by decide +kernel
theorem dL_law_1163 : decode cL_law 1163 = .ok (.iadd, 1) := by decide +kernel
theorem dL_law_1164 : decode cL_law 1164 = .ok (.iaload, 1) := by decide +kernel
theorem dL_law_1165 : decode cL_law 1165 = .ok (.aload_n 3, 1) := by decide +kernel
theorem dL_law_1166 : decode cL_law 1166 = .ok (.invokestatic 183, 3) := by decide +kernel
theorem dL_law_1169 : decode cL_law 1169 = .ok (.istore 5, 2) := by decide +kernel
theorem dL_law_1171 : decode cL_law 1171 = .ok (.aload_n 2, 1) := by decide +kernel
theorem dL_law_1172 : decode cL_law 1172 = .ok (.aload_n 0, 1) := by decide +kernel
theorem dL_law_1173 : decode cL_law 1173 = .ok (.iload 4, 2) := by decide +kernel
theorem dL_law_1175 : decode cL_law 1175 = .ok (.iconst 1, 1) := by decide +kernel
theorem dL_law_1176 : decode cL_law 1176 = .ok (.iadd, 1) := by decide +kernel
theorem dL_law_1177 : decode cL_law 1177 = .ok (.iaload, 1) := by decide +kernel
theorem dL_law_1178 : decode cL_law 1178 = .ok (.aload_n 0, 1) := by decide +kernel
theorem dL_law_1179 : decode cL_law 1179 = .ok (.iload 4, 2) := by decide +kernel
theorem dL_law_1181 : decode cL_law 1181 = .ok (.iconst 2, 1) := by decide +kernel
theorem dL_law_1182 : decode cL_law 1182 = .ok (.iadd, 1) := by decide +kernel
theorem dL_law_1183 : decode cL_law 1183 = .ok (.iaload, 1) := by decide +kernel
theorem dL_law_1184 : decode cL_law 1184 = .ok (.invokevirtual 185, 3) := by decide +kernel
theorem dL_law_1187 : decode cL_law 1187 = .ok (.istore 6, 2) := by decide +kernel
theorem dL_law_1189 : decode cL_law 1189 = .ok (.aload_n 2, 1) := by decide +kernel
theorem dL_law_1190 : decode cL_law 1190 = .ok (.invokevirtual 125, 3) := by decide +kernel
theorem dL_law_1193 : decode cL_law 1193 = .ok (.iload 5, 2) := by decide +kernel
theorem dL_law_1195 : decode cL_law 1195 = .ok (.if_icmp .eq 5, 3) := by decide +kernel
theorem dL_law_1200 : decode cL_law 1200 = .ok (.iload 5, 2) := by decide +kernel
theorem dL_law_1202 : decode cL_law 1202 = .ok (.ifCond .ne 15, 3) := by decide +kernel
theorem dL_law_1217 : decode cL_law 1217 = .ok (.goto 1084, 3) := by decide +kernel
theorem dL_law_1220 : decode cL_law 1220 = .ok (.aload_n 1, 1) := by decide +kernel
theorem dL_law_1221 : decode cL_law 1221 = .ok (.aload_n 0, 1) := by decide +kernel
theorem dL_law_1222 : decode cL_law 1222 = .ok (.iload 4, 2) := by decide +kernel
theorem dL_law_1224 : decode cL_law 1224 = .ok (.iconst 1, 1) := by decide +kernel
theorem dL_law_1225 : decode cL_law 1225 = .ok (.iadd, 1) := by decide +kernel
theorem dL_law_1226 : decode cL_law 1226 = .ok (.iaload, 1) := by decide +kernel
theorem dL_law_1227 : decode cL_law 1227 = .ok (.aload_n 0, 1) := by decide +kernel
theorem dL_law_1228 : decode cL_law 1228 = .ok (.iload 4, 2) := by decide +kernel
theorem dL_law_1230 : decode cL_law 1230 = .ok (.iconst 2, 1) := by decide +kernel
theorem dL_law_1231 : decode cL_law 1231 = .ok (.iadd, 1) := by decide +kernel
theorem dL_law_1232 : decode cL_law 1232 = .ok (.iaload, 1) := by decide +kernel
theorem dL_law_1233 : decode cL_law 1233 = .ok (.aload_n 0, 1) := by decide +kernel
theorem dL_law_1234 : decode cL_law 1234 = .ok (.iload 4, 2) := by decide +kernel
theorem dL_law_1236 : decode cL_law 1236 = .ok (.iconst 3, 1) := by decide +kernel
theorem dL_law_1237 : decode cL_law 1237 = .ok (.iadd, 1) := by decide +kernel
theorem dL_law_1238 : decode cL_law 1238 = .ok (.iaload, 1) := by decide +kernel
theorem dL_law_1239 : decode cL_law 1239 = .ok (.aload_n 3, 1) := by decide +kernel
theorem dL_law_1240 : decode cL_law 1240 = .ok (.invokestatic 186, 3) := by decide +kernel
theorem dL_law_1243 : decode cL_law 1243 = .ok (.istore 5, 2) := by decide +kernel
theorem dL_law_1245 : decode cL_law 1245 = .ok (.aload_n 2, 1) := by decide +kernel
theorem dL_law_1246 : decode cL_law 1246 = .ok (.aload_n 0, 1) := by decide +kernel
theorem dL_law_1247 : decode cL_law 1247 = .ok (.iload 4, 2) := by decide +kernel
theorem dL_law_1249 : decode cL_law 1249 = .ok (.iconst 1, 1) := by decide +kernel
theorem dL_law_1250 : decode cL_law 1250 = .ok (.iadd, 1) := by decide +kernel
theorem dL_law_1251 : decode cL_law 1251 = .ok (.iaload, 1) := by decide +kernel
theorem dL_law_1252 : decode cL_law 1252 = .ok (.aload_n 0, 1) := by decide +kernel
theorem dL_law_1253 : decode cL_law 1253 = .ok (.iload 4, 2) := by decide +kernel
theorem dL_law_1255 : decode cL_law 1255 = .ok (.iconst 2, 1) := by decide +kernel
theorem dL_law_1256 : decode cL_law 1256 = .ok (.iadd, 1) := by decide +kernel
theorem dL_law_1257 : decode cL_law 1257 = .ok (.iaload, 1) := by decide +kernel
theorem dL_law_1258 : decode cL_law 1258 = .ok (.aload_n 0, 1) := by decide +kernel
theorem dL_law_1259 : decode cL_law 1259 = .ok (.iload 4, 2) := by decide +kernel
theorem dL_law_1261 : decode cL_law 1261 = .ok (.iconst 3, 1) := by decide +kernel
theorem dL_law_1262 : decode cL_law 1262 = .ok (.iadd, 1) := by decide +kernel
theorem dL_law_1263 : decode cL_law 1263 = .ok (.iaload, 1) := by decide +kernel
theorem dL_law_1264 : decode cL_law 1264 = .ok (.invokevirtual 188, 3) := by decide +kernel
theorem dL_law_1267 : decode cL_law 1267 = .ok (.istore 6, 2) := by decide +kernel
theorem dL_law_1269 : decode cL_law 1269 = .ok (.aload_n 2, 1) := by decide +kernel
theorem dL_law_1270 : decode cL_law 1270 = .ok (.invokevirtual 125, 3) := by decide +kernel
theorem dL_law_1273 : decode cL_law 1273 = .ok (.iload 5, 2) := by decide +kernel
theorem dL_law_1275 : decode cL_law 1275 = .ok (.if_icmp .eq 5, 3) := by decide +kernel
theorem dL_law_1280 : decode cL_law 1280 = .ok (.iload 5, 2) := by decide +kernel
theorem dL_law_1282 : decode cL_law 1282 = .ok (.ifCond .ne 15, 3) := by decide +kernel
theorem dL_law_1297 : decode cL_law 1297 = .ok (.goto 1004, 3) := by decide +kernel
theorem dL_law_1300 : decode cL_law 1300 = .ok (.aload_n 1, 1) := by decide +kernel
theorem dL_law_1301 : decode cL_law 1301 = .ok (.aload_n 0, 1) := by decide +kernel
theorem dL_law_1302 : decode cL_law 1302 = .ok (.iload 4, 2) := by decide +kernel
theorem dL_law_1304 : decode cL_law 1304 = .ok (.iconst 1, 1) := by decide +kernel
theorem dL_law_1305 : decode cL_law 1305 = .ok (.iadd, 1) := by decide +kernel
theorem dL_law_1306 : decode cL_law 1306 = .ok (.iaload, 1) := by decide +kernel
theorem dL_law_1307 : decode cL_law 1307 = .ok (.aload_n 0, 1) := by decide +kernel
theorem dL_law_1308 : decode cL_law 1308 = .ok (.iload 4, 2) := by decide +kernel
theorem dL_law_1310 : decode cL_law 1310 = .ok (.iconst 2, 1) := by decide +kernel
theorem dL_law_1311 : decode cL_law 1311 = .ok (.iadd, 1) := by decide +kernel
theorem dL_law_1312 : decode cL_law 1312 = .ok (.iaload, 1) := by decide +kernel
theorem dL_law_1313 : decode cL_law 1313 = .ok (.aload_n 3, 1) := by decide +kernel
theorem dL_law_1314 : decode cL_law 1314 = .ok (.invokestatic 189, 3) := by decide +kernel
theorem dL_law_1317 : decode cL_law 1317 = .ok (.istore 5, 2) := by decide +kernel
theorem dL_law_1319 : decode cL_law 1319 = .ok (.aload_n 2, 1) := by decide +kernel
theorem dL_law_1320 : decode cL_law 1320 = .ok (.aload_n 0, 1) := by decide +kernel
theorem dL_law_1321 : decode cL_law 1321 = .ok (.iload 4, 2) := by decide +kernel
theorem dL_law_1323 : decode cL_law 1323 = .ok (.iconst 1, 1) := by decide +kernel
theorem dL_law_1324 : decode cL_law 1324 = .ok (.iadd, 1) := by decide +kernel
theorem dL_law_1325 : decode cL_law 1325 = .ok (.iaload, 1) := by decide +kernel
theorem dL_law_1326 : decode cL_law 1326 = .ok (.aload_n 0, 1) := by decide +kernel
theorem dL_law_1327 : decode cL_law 1327 = .ok (.iload 4, 2) := by decide +kernel
theorem dL_law_1329 : decode cL_law 1329 = .ok (.iconst 2, 1) := by decide +kernel
theorem dL_law_1330 : decode cL_law 1330 = .ok (.iadd, 1) := by decide +kernel
theorem dL_law_1331 : decode cL_law 1331 = .ok (.iaload, 1) := by decide +kernel
theorem dL_law_1332 : decode cL_law 1332 = .ok (.invokevirtual 191, 3) := by decide +kernel
theorem dL_law_1335 : decode cL_law 1335 = .ok (.istore 6, 2) := by decide +kernel
theorem dL_law_1337 : decode cL_law 1337 = .ok (.aload_n 2, 1) := by decide +kernel
theorem dL_law_1338 : decode cL_law 1338 = .ok (.invokevirtual 125, 3) := by decide +kernel
theorem dL_law_1341 : decode cL_law 1341 = .ok (.iload 5, 2) := by decide +kernel
theorem dL_law_1343 : decode cL_law 1343 = .ok (.if_icmp .eq 5, 3) := by decide +kernel
theorem dL_law_1348 : decode cL_law 1348 = .ok (.iload 5, 2) := by decide +kernel
theorem dL_law_1350 : decode cL_law 1350 = .ok (.ifCond .ne 15, 3) := by decide +kernel
theorem dL_law_1365 : decode cL_law 1365 = .ok (.goto 936, 3) := by decide +kernel
theorem dL_law_1368 : decode cL_law 1368 = .ok (.aload_n 1, 1) := by decide +kernel
theorem dL_law_1369 : decode cL_law 1369 = .ok (.aload_n 0, 1) := by decide +kernel
theorem dL_law_1370 : decode cL_law 1370 = .ok (.iload 4, 2) := by decide +kernel
theorem dL_law_1372 : decode cL_law 1372 = .ok (.iconst 1, 1) := by decide +kernel
theorem dL_law_1373 : decode cL_law 1373 = .ok (.iadd, 1) := by decide +kernel
theorem dL_law_1374 : decode cL_law 1374 = .ok (.iaload, 1) := by decide +kernel
theorem dL_law_1375 : decode cL_law 1375 = .ok (.aload_n 3, 1) := by decide +kernel
theorem dL_law_1376 : decode cL_law 1376 = .ok (.invokestatic 192, 3) := by decide +kernel
theorem dL_law_1379 : decode cL_law 1379 = .ok (.istore 5, 2) := by decide +kernel
theorem dL_law_1381 : decode cL_law 1381 = .ok (.aload_n 2, 1) := by decide +kernel
theorem dL_law_1382 : decode cL_law 1382 = .ok (.aload_n 0, 1) := by decide +kernel
theorem dL_law_1383 : decode cL_law 1383 = .ok (.iload 4, 2) := by decide +kernel
theorem dL_law_1385 : decode cL_law 1385 = .ok (.iconst 1, 1) := by decide +kernel
theorem dL_law_1386 : decode cL_law 1386 = .ok (.iadd, 1) := by decide +kernel
theorem dL_law_1387 : decode cL_law 1387 = .ok (.iaload, 1) := by decide +kernel
theorem dL_law_1388 : decode cL_law 1388 = .ok (.invokevirtual 194, 3) := by decide +kernel
theorem dL_law_1391 : decode cL_law 1391 = .ok (.istore 6, 2) := by decide +kernel
theorem dL_law_1393 : decode cL_law 1393 = .ok (.aload_n 2, 1) := by decide +kernel
theorem dL_law_1394 : decode cL_law 1394 = .ok (.invokevirtual 125, 3) := by decide +kernel
theorem dL_law_1397 : decode cL_law 1397 = .ok (.iload 5, 2) := by decide +kernel
theorem dL_law_1399 : decode cL_law 1399 = .ok (.if_icmp .eq 5, 3) := by decide +kernel
theorem dL_law_1404 : decode cL_law 1404 = .ok (.iload 5, 2) := by decide +kernel
theorem dL_law_1406 : decode cL_law 1406 = .ok (.ifCond .ne 15, 3) := by decide +kernel
theorem dL_law_1421 : decode cL_law 1421 = .ok (.goto 880, 3) := by decide +kernel
theorem dL_law_1424 : decode cL_law 1424 = .ok (.aload_n 1, 1) := by decide +kernel
theorem dL_law_1425 : decode cL_law 1425 = .ok (.aload_n 0, 1) := by decide +kernel
theorem dL_law_1426 : decode cL_law 1426 = .ok (.iload 4, 2) := by decide +kernel
theorem dL_law_1428 : decode cL_law 1428 = .ok (.iconst 1, 1) := by decide +kernel
theorem dL_law_1429 : decode cL_law 1429 = .ok (.iadd, 1) := by decide +kernel
theorem dL_law_1430 : decode cL_law 1430 = .ok (.iaload, 1) := by decide +kernel
theorem dL_law_1431 : decode cL_law 1431 = .ok (.aload_n 0, 1) := by decide +kernel
theorem dL_law_1432 : decode cL_law 1432 = .ok (.iload 4, 2) := by decide +kernel
theorem dL_law_1434 : decode cL_law 1434 = .ok (.iconst 2, 1) := by decide +kernel
theorem dL_law_1435 : decode cL_law 1435 = .ok (.iadd, 1) := by decide +kernel
theorem dL_law_1436 : decode cL_law 1436 = .ok (.iaload, 1) := by decide +kernel
theorem dL_law_1437 : decode cL_law 1437 = .ok (.aload_n 3, 1) := by decide +kernel
theorem dL_law_1438 : decode cL_law 1438 = .ok (.invokestatic 195, 3) := by decide +kernel
theorem dL_law_1441 : decode cL_law 1441 = .ok (.istore 5, 2) := by decide +kernel
theorem dL_law_1443 : decode cL_law 1443 = .ok (.aload_n 2, 1) := by decide +kernel
theorem dL_law_1444 : decode cL_law 1444 = .ok (.aload_n 0, 1) := by decide +kernel
theorem dL_law_1445 : decode cL_law 1445 = .ok (.iload 4, 2) := by decide +kernel
theorem dL_law_1447 : decode cL_law 1447 = .ok (.iconst 1, 1) := by decide +kernel
theorem dL_law_1448 : decode cL_law 1448 = .ok (.iadd, 1) := by decide +kernel
theorem dL_law_1449 : decode cL_law 1449 = .ok (.iaload, 1) := by decide +kernel
theorem dL_law_1450 : decode cL_law 1450 = .ok (.aload_n 0, 1) := by decide +kernel
theorem dL_law_1451 : decode cL_law 1451 = .ok (.iload 4, 2) := by decide +kernel
theorem dL_law_1453 : decode cL_law 1453 = .ok (.iconst 2, 1) := by decide +kernel
theorem dL_law_1454 : decode cL_law 1454 = .ok (.iadd, 1) := by decide +kernel
theorem dL_law_1455 : decode cL_law 1455 = .ok (.iaload, 1) := by decide +kernel
theorem dL_law_1456 : decode cL_law 1456 = .ok (.invokevirtual 197, 3) := by decide +kernel
theorem dL_law_1459 : decode cL_law 1459 = .ok (.istore 6, 2) := by decide +kernel
theorem dL_law_1461 : decode cL_law 1461 = .ok (.aload_n 2, 1) := by decide +kernel
theorem dL_law_1462 : decode cL_law 1462 = .ok (.invokevirtual 125, 3) := by decide +kernel
theorem dL_law_1465 : decode cL_law 1465 = .ok (.iload 5, 2) := by decide +kernel
theorem dL_law_1467 : decode cL_law 1467 = .ok (.if_icmp .eq 5, 3) := by decide +kernel
theorem dL_law_1472 : decode cL_law 1472 = .ok (.iload 5, 2) := by decide +kernel
theorem dL_law_1474 : decode cL_law 1474 = .ok (.ifCond .ne 15, 3) := by decide +kernel
theorem dL_law_1489 : decode cL_law 1489 = .ok (.goto 812, 3) := by decide +kernel
theorem dL_law_1492 : decode cL_law 1492 = .ok (.aload_n 1, 1) := by decide +kernel
theorem dL_law_1493 : decode cL_law 1493 = .ok (.aload_n 0, 1) := by decide +kernel
theorem dL_law_1494 : decode cL_law 1494 = .ok (.iload 4, 2) := by decide +kernel
theorem dL_law_1496 : decode cL_law 1496 = .ok (.iconst 1, 1) := by decide +kernel
theorem dL_law_1497 : decode cL_law 1497 = .ok (.iadd, 1) := by decide +kernel
theorem dL_law_1498 : decode cL_law 1498 = .ok (.iaload, 1) := by decide +kernel
theorem dL_law_1499 : decode cL_law 1499 = .ok (.aload_n 0, 1) := by decide +kernel
theorem dL_law_1500 : decode cL_law 1500 = .ok (.iload 4, 2) := by decide +kernel
theorem dL_law_1502 : decode cL_law 1502 = .ok (.iconst 2, 1) := by decide +kernel
theorem dL_law_1503 : decode cL_law 1503 = .ok (.iadd, 1) := by decide +kernel
theorem dL_law_1504 : decode cL_law 1504 = .ok (.iaload, 1) := by decide +kernel
theorem dL_law_1505 : decode cL_law 1505 = .ok (.aload_n 3, 1) := by decide +kernel
theorem dL_law_1506 : decode cL_law 1506 = .ok (.invokestatic 198, 3) := by decide +kernel
theorem dL_law_1509 : decode cL_law 1509 = .ok (.istore 5, 2) := by decide +kernel
theorem dL_law_1511 : decode cL_law 1511 = .ok (.aload_n 2, 1) := by decide +kernel
theorem dL_law_1512 : decode cL_law 1512 = .ok (.aload_n 0, 1) := by decide +kernel
theorem dL_law_1513 : decode cL_law 1513 = .ok (.iload 4, 2) := by decide +kernel
theorem dL_law_1515 : decode cL_law 1515 = .ok (.iconst 1, 1) := by decide +kernel
theorem dL_law_1516 : decode cL_law 1516 = .ok (.iadd, 1) := by decide +kernel
theorem dL_law_1517 : decode cL_law 1517 = .ok (.iaload, 1) := by decide +kernel
theorem dL_law_1518 : decode cL_law 1518 = .ok (.aload_n 0, 1) := by decide +kernel
theorem dL_law_1519 : decode cL_law 1519 = .ok (.iload 4, 2) := by decide +kernel
theorem dL_law_1521 : decode cL_law 1521 = .ok (.iconst 2, 1) := by decide +kernel
theorem dL_law_1522 : decode cL_law 1522 = .ok (.iadd, 1) := by decide +kernel
theorem dL_law_1523 : decode cL_law 1523 = .ok (.iaload, 1) := by decide +kernel
theorem dL_law_1524 : decode cL_law 1524 = .ok (.invokevirtual 200, 3) := by decide +kernel
theorem dL_law_1527 : decode cL_law 1527 = .ok (.istore 6, 2) := by decide +kernel
theorem dL_law_1529 : decode cL_law 1529 = .ok (.aload_n 2, 1) := by decide +kernel
theorem dL_law_1530 : decode cL_law 1530 = .ok (.invokevirtual 125, 3) := by decide +kernel
theorem dL_law_1533 : decode cL_law 1533 = .ok (.iload 5, 2) := by decide +kernel
theorem dL_law_1535 : decode cL_law 1535 = .ok (.if_icmp .eq 5, 3) := by decide +kernel
theorem dL_law_1540 : decode cL_law 1540 = .ok (.iload 5, 2) := by decide +kernel
theorem dL_law_1542 : decode cL_law 1542 = .ok (.ifCond .ne 15, 3) := by decide +kernel
theorem dL_law_1557 : decode cL_law 1557 = .ok (.goto 744, 3) := by decide +kernel
theorem dL_law_1560 : decode cL_law 1560 = .ok (.aload_n 1, 1) := by decide +kernel
theorem dL_law_1561 : decode cL_law 1561 = .ok (.aload_n 0, 1) := by decide +kernel
theorem dL_law_1562 : decode cL_law 1562 = .ok (.iload 4, 2) := by decide +kernel
theorem dL_law_1564 : decode cL_law 1564 = .ok (.iconst 1, 1) := by decide +kernel
theorem dL_law_1565 : decode cL_law 1565 = .ok (.iadd, 1) := by decide +kernel
theorem dL_law_1566 : decode cL_law 1566 = .ok (.iaload, 1) := by decide +kernel
theorem dL_law_1567 : decode cL_law 1567 = .ok (.aload_n 3, 1) := by decide +kernel
theorem dL_law_1568 : decode cL_law 1568 = .ok (.invokestatic 201, 3) := by decide +kernel
theorem dL_law_1571 : decode cL_law 1571 = .ok (.istore 5, 2) := by decide +kernel
theorem dL_law_1573 : decode cL_law 1573 = .ok (.aload_n 2, 1) := by decide +kernel
theorem dL_law_1574 : decode cL_law 1574 = .ok (.aload_n 0, 1) := by decide +kernel
theorem dL_law_1575 : decode cL_law 1575 = .ok (.iload 4, 2) := by decide +kernel
theorem dL_law_1577 : decode cL_law 1577 = .ok (.iconst 1, 1) := by decide +kernel
theorem dL_law_1578 : decode cL_law 1578 = .ok (.iadd, 1) := by decide +kernel
theorem dL_law_1579 : decode cL_law 1579 = .ok (.iaload, 1) := by decide +kernel
theorem dL_law_1580 : decode cL_law 1580 = .ok (.invokevirtual 203, 3) := by decide +kernel
theorem dL_law_1583 : decode cL_law 1583 = .ok (.istore 6, 2) := by decide +kernel
theorem dL_law_1585 : decode cL_law 1585 = .ok (.aload_n 2, 1) := by decide +kernel
theorem dL_law_1586 : decode cL_law 1586 = .ok (.invokevirtual 125, 3) := by decide +kernel
theorem dL_law_1589 : decode cL_law 1589 = .ok (.iload 5, 2) := by decide +kernel
theorem dL_law_1591 : decode cL_law 1591 = .ok (.if_icmp .eq 5, 3) := by decide +kernel
theorem dL_law_1596 : decode cL_law 1596 = .ok (.iload 5, 2) := by decide +kernel
theorem dL_law_1598 : decode cL_law 1598 = .ok (.ifCond .ne 15, 3) := by decide +kernel
theorem dL_law_1613 : decode cL_law 1613 = .ok (.goto 688, 3) := by decide +kernel
theorem dL_law_1741 : decode cL_law 1741 = .ok (.aload_n 1, 1) := by decide +kernel
theorem dL_law_1742 : decode cL_law 1742 = .ok (.aload_n 0, 1) := by decide +kernel
theorem dL_law_1743 : decode cL_law 1743 = .ok (.iload 4, 2) := by decide +kernel
theorem dL_law_1745 : decode cL_law 1745 = .ok (.iconst 1, 1) := by decide +kernel
theorem dL_law_1746 : decode cL_law 1746 = .ok (.iadd, 1) := by decide +kernel
theorem dL_law_1747 : decode cL_law 1747 = .ok (.iaload, 1) := by decide +kernel
theorem dL_law_1748 : decode cL_law 1748 = .ok (.aload_n 0, 1) := by decide +kernel
theorem dL_law_1749 : decode cL_law 1749 = .ok (.iload 4, 2) := by decide +kernel
theorem dL_law_1751 : decode cL_law 1751 = .ok (.iconst 2, 1) := by decide +kernel
theorem dL_law_1752 : decode cL_law 1752 = .ok (.iadd, 1) := by decide +kernel
theorem dL_law_1753 : decode cL_law 1753 = .ok (.iaload, 1) := by decide +kernel
theorem dL_law_1754 : decode cL_law 1754 = .ok (.aload_n 3, 1) := by decide +kernel
theorem dL_law_1755 : decode cL_law 1755 = .ok (.invokestatic 214, 3) := by decide +kernel
theorem dL_law_1758 : decode cL_law 1758 = .ok (.istore 5, 2) := by decide +kernel
theorem dL_law_1760 : decode cL_law 1760 = .ok (.aload_n 2, 1) := by decide +kernel
theorem dL_law_1761 : decode cL_law 1761 = .ok (.aload_n 0, 1) := by decide +kernel
theorem dL_law_1762 : decode cL_law 1762 = .ok (.iload 4, 2) := by decide +kernel
theorem dL_law_1764 : decode cL_law 1764 = .ok (.iconst 1, 1) := by decide +kernel
theorem dL_law_1765 : decode cL_law 1765 = .ok (.iadd, 1) := by decide +kernel
theorem dL_law_1766 : decode cL_law 1766 = .ok (.iaload, 1) := by decide +kernel
theorem dL_law_1767 : decode cL_law 1767 = .ok (.aload_n 0, 1) := by decide +kernel
theorem dL_law_1768 : decode cL_law 1768 = .ok (.iload 4, 2) := by decide +kernel
theorem dL_law_1770 : decode cL_law 1770 = .ok (.iconst 2, 1) := by decide +kernel
theorem dL_law_1771 : decode cL_law 1771 = .ok (.iadd, 1) := by decide +kernel
theorem dL_law_1772 : decode cL_law 1772 = .ok (.iaload, 1) := by decide +kernel
theorem dL_law_1773 : decode cL_law 1773 = .ok (.invokevirtual 216, 3) := by decide +kernel
theorem dL_law_1776 : decode cL_law 1776 = .ok (.istore 6, 2) := by decide +kernel
theorem dL_law_1778 : decode cL_law 1778 = .ok (.aload_n 2, 1) := by decide +kernel
theorem dL_law_1779 : decode cL_law 1779 = .ok (.invokevirtual 125, 3) := by decide +kernel
theorem dL_law_1782 : decode cL_law 1782 = .ok (.iload 5, 2) := by decide +kernel
theorem dL_law_1784 : decode cL_law 1784 = .ok (.if_icmp .eq 5, 3) := by decide +kernel
theorem dL_law_1789 : decode cL_law 1789 = .ok (.iload 5, 2) := by decide +kernel
theorem dL_law_1791 : decode cL_law 1791 = .ok (.ifCond .ne 22, 3) := by decide +kernel
theorem dL_law_1813 : decode cL_law 1813 = .ok (.goto 488, 3) := by decide +kernel
theorem dL_law_1816 : decode cL_law 1816 = .ok (.aload_n 1, 1) := by decide +kernel
theorem dL_law_1817 : decode cL_law 1817 = .ok (.aload_n 0, 1) := by decide +kernel
theorem dL_law_1818 : decode cL_law 1818 = .ok (.iload 4, 2) := by decide +kernel
theorem dL_law_1820 : decode cL_law 1820 = .ok (.iconst 1, 1) := by decide +kernel
theorem dL_law_1821 : decode cL_law 1821 = .ok (.iadd, 1) := by decide +kernel
theorem dL_law_1822 : decode cL_law 1822 = .ok (.iaload, 1) := by decide +kernel
theorem dL_law_1823 : decode cL_law 1823 = .ok (.aload_n 3, 1) := by decide +kernel
theorem dL_law_1824 : decode cL_law 1824 = .ok (.invokestatic 217, 3) := by decide +kernel
theorem dL_law_1827 : decode cL_law 1827 = .ok (.istore 5, 2) := by decide +kernel
theorem dL_law_1829 : decode cL_law 1829 = .ok (.aload_n 2, 1) := by decide +kernel
theorem dL_law_1830 : decode cL_law 1830 = .ok (.aload_n 0, 1) := by decide +kernel
theorem dL_law_1831 : decode cL_law 1831 = .ok (.iload 4, 2) := by decide +kernel
theorem dL_law_1833 : decode cL_law 1833 = .ok (.iconst 1, 1) := by decide +kernel
theorem dL_law_1834 : decode cL_law 1834 = .ok (.iadd, 1) := by decide +kernel
theorem dL_law_1835 : decode cL_law 1835 = .ok (.iaload, 1) := by decide +kernel
theorem dL_law_1836 : decode cL_law 1836 = .ok (.invokevirtual 219, 3) := by decide +kernel
theorem dL_law_1839 : decode cL_law 1839 = .ok (.istore 6, 2) := by decide +kernel
theorem dL_law_1841 : decode cL_law 1841 = .ok (.aload_n 2, 1) := by decide +kernel
theorem dL_law_1842 : decode cL_law 1842 = .ok (.invokevirtual 125, 3) := by decide +kernel
theorem dL_law_1845 : decode cL_law 1845 = .ok (.iload 5, 2) := by decide +kernel
theorem dL_law_1847 : decode cL_law 1847 = .ok (.if_icmp .eq 5, 3) := by decide +kernel
theorem dL_law_1852 : decode cL_law 1852 = .ok (.iload 5, 2) := by decide +kernel
theorem dL_law_1854 : decode cL_law 1854 = .ok (.ifCond .ne 15, 3) := by decide +kernel
theorem dL_law_1869 : decode cL_law 1869 = .ok (.goto 432, 3) := by decide +kernel
theorem dL_law_1928 : decode cL_law 1928 = .ok (.aload_n 1, 1) := by decide +kernel
theorem dL_law_1929 : decode cL_law 1929 = .ok (.aload_n 0, 1) := by decide +kernel
theorem dL_law_1930 : decode cL_law 1930 = .ok (.iload 4, 2) := by decide +kernel
theorem dL_law_1932 : decode cL_law 1932 = .ok (.iconst 1, 1) := by decide +kernel
theorem dL_law_1933 : decode cL_law 1933 = .ok (.iadd, 1) := by decide +kernel
theorem dL_law_1934 : decode cL_law 1934 = .ok (.iaload, 1) := by decide +kernel
theorem dL_law_1935 : decode cL_law 1935 = .ok (.aload_n 0, 1) := by decide +kernel
theorem dL_law_1936 : decode cL_law 1936 = .ok (.iload 4, 2) := by decide +kernel
theorem dL_law_1938 : decode cL_law 1938 = .ok (.iconst 2, 1) := by decide +kernel
theorem dL_law_1939 : decode cL_law 1939 = .ok (.iadd, 1) := by decide +kernel
theorem dL_law_1940 : decode cL_law 1940 = .ok (.iaload, 1) := by decide +kernel
theorem dL_law_1941 : decode cL_law 1941 = .ok (.aload_n 3, 1) := by decide +kernel
theorem dL_law_1942 : decode cL_law 1942 = .ok (.invokestatic 223, 3) := by decide +kernel
theorem dL_law_1945 : decode cL_law 1945 = .ok (.istore 5, 2) := by decide +kernel
theorem dL_law_1947 : decode cL_law 1947 = .ok (.aload_n 2, 1) := by decide +kernel
theorem dL_law_1948 : decode cL_law 1948 = .ok (.aload_n 0, 1) := by decide +kernel
theorem dL_law_1949 : decode cL_law 1949 = .ok (.iload 4, 2) := by decide +kernel
theorem dL_law_1951 : decode cL_law 1951 = .ok (.iconst 1, 1) := by decide +kernel
theorem dL_law_1952 : decode cL_law 1952 = .ok (.iadd, 1) := by decide +kernel
theorem dL_law_1953 : decode cL_law 1953 = .ok (.iaload, 1) := by decide +kernel
theorem dL_law_1954 : decode cL_law 1954 = .ok (.aload_n 0, 1) := by decide +kernel
theorem dL_law_1955 : decode cL_law 1955 = .ok (.iload 4, 2) := by decide +kernel
theorem dL_law_1957 : decode cL_law 1957 = .ok (.iconst 2, 1) := by decide +kernel
theorem dL_law_1958 : decode cL_law 1958 = .ok (.iadd, 1) := by decide +kernel
theorem dL_law_1959 : decode cL_law 1959 = .ok (.iaload, 1) := by decide +kernel
theorem dL_law_1960 : decode cL_law 1960 = .ok (.invokevirtual 225, 3) := by decide +kernel
theorem dL_law_1963 : decode cL_law 1963 = .ok (.istore 6, 2) := by decide +kernel
theorem dL_law_1965 : decode cL_law 1965 = .ok (.aload_n 2, 1) := by decide +kernel
theorem dL_law_1966 : decode cL_law 1966 = .ok (.invokevirtual 125, 3) := by decide +kernel
theorem dL_law_1969 : decode cL_law 1969 = .ok (.iload 5, 2) := by decide +kernel
theorem dL_law_1971 : decode cL_law 1971 = .ok (.if_icmp .eq 5, 3) := by decide +kernel
theorem dL_law_1976 : decode cL_law 1976 = .ok (.iload 5, 2) := by decide +kernel
theorem dL_law_1978 : decode cL_law 1978 = .ok (.ifCond .ne 15, 3) := by decide +kernel
theorem dL_law_1993 : decode cL_law 1993 = .ok (.goto 308, 3) := by decide +kernel
theorem dL_law_1996 : decode cL_law 1996 = .ok (.aload_n 1, 1) := by decide +kernel
theorem dL_law_1997 : decode cL_law 1997 = .ok (.aload_n 0, 1) := by decide +kernel
theorem dL_law_1998 : decode cL_law 1998 = .ok (.iload 4, 2) := by decide +kernel
theorem dL_law_2000 : decode cL_law 2000 = .ok (.iconst 1, 1) := by decide +kernel
theorem dL_law_2001 : decode cL_law 2001 = .ok (.iadd, 1) := by decide +kernel
theorem dL_law_2002 : decode cL_law 2002 = .ok (.iaload, 1) := by decide +kernel
theorem dL_law_2003 : decode cL_law 2003 = .ok (.aload_n 0, 1) := by decide +kernel
theorem dL_law_2004 : decode cL_law 2004 = .ok (.iload 4, 2) := by decide +kernel
theorem dL_law_2006 : decode cL_law 2006 = .ok (.iconst 2, 1) := by decide +kernel
theorem dL_law_2007 : decode cL_law 2007 = .ok (.iadd, 1) := by decide +kernel
theorem dL_law_2008 : decode cL_law 2008 = .ok (.iaload, 1) := by decide +kernel
theorem dL_law_2009 : decode cL_law 2009 = .ok (.aload_n 3, 1) := by decide +kernel
theorem dL_law_2010 : decode cL_law 2010 = .ok (.invokestatic 226, 3) := by decide +kernel
theorem dL_law_2013 : decode cL_law 2013 = .ok (.istore 5, 2) := by decide +kernel
theorem dL_law_2015 : decode cL_law 2015 = .ok (.aload_n 2, 1) := by decide +kernel
theorem dL_law_2016 : decode cL_law 2016 = .ok (.aload_n 0, 1) := by decide +kernel
theorem dL_law_2017 : decode cL_law 2017 = .ok (.iload 4, 2) := by decide +kernel
theorem dL_law_2019 : decode cL_law 2019 = .ok (.iconst 1, 1) := by decide +kernel
theorem dL_law_2020 : decode cL_law 2020 = .ok (.iadd, 1) := by decide +kernel
theorem dL_law_2021 : decode cL_law 2021 = .ok (.iaload, 1) := by decide +kernel
theorem dL_law_2022 : decode cL_law 2022 = .ok (.aload_n 0, 1) := by decide +kernel
theorem dL_law_2023 : decode cL_law 2023 = .ok (.iload 4, 2) := by decide +kernel
theorem dL_law_2025 : decode cL_law 2025 = .ok (.iconst 2, 1) := by decide +kernel
theorem dL_law_2026 : decode cL_law 2026 = .ok (.iadd, 1) := by decide +kernel
theorem dL_law_2027 : decode cL_law 2027 = .ok (.iaload, 1) := by decide +kernel
theorem dL_law_2028 : decode cL_law 2028 = .ok (.invokevirtual 228, 3) := by decide +kernel
theorem dL_law_2031 : decode cL_law 2031 = .ok (.istore 6, 2) := by decide +kernel
theorem dL_law_2033 : decode cL_law 2033 = .ok (.aload_n 2, 1) := by decide +kernel
theorem dL_law_2034 : decode cL_law 2034 = .ok (.invokevirtual 125, 3) := by decide +kernel
theorem dL_law_2037 : decode cL_law 2037 = .ok (.iload 5, 2) := by decide +kernel
theorem dL_law_2039 : decode cL_law 2039 = .ok (.if_icmp .eq 5, 3) := by decide +kernel
theorem dL_law_2044 : decode cL_law 2044 = .ok (.iload 5, 2) := by decide +kernel
theorem dL_law_2046 : decode cL_law 2046 = .ok (.ifCond .ne 22, 3) := by decide +kernel
theorem dL_law_2068 : decode cL_law 2068 = .ok (.goto 233, 3) := by decide +kernel
theorem dL_law_2071 : decode cL_law 2071 = .ok (.aload_n 1, 1) := by decide +kernel
theorem dL_law_2072 : decode cL_law 2072 = .ok (.aload_n 0, 1) := by decide +kernel
theorem dL_law_2073 : decode cL_law 2073 = .ok (.iload 4, 2) := by decide +kernel
theorem dL_law_2075 : decode cL_law 2075 = .ok (.iconst 1, 1) := by decide +kernel
theorem dL_law_2076 : decode cL_law 2076 = .ok (.iadd, 1) := by decide +kernel
theorem dL_law_2077 : decode cL_law 2077 = .ok (.iaload, 1) := by decide +kernel
theorem dL_law_2078 : decode cL_law 2078 = .ok (.aload_n 0, 1) := by decide +kernel
theorem dL_law_2079 : decode cL_law 2079 = .ok (.iload 4, 2) := by decide +kernel
theorem dL_law_2081 : decode cL_law 2081 = .ok (.iconst 2, 1) := by decide +kernel
theorem dL_law_2082 : decode cL_law 2082 = .ok (.iadd, 1) := by decide +kernel
theorem dL_law_2083 : decode cL_law 2083 = .ok (.iaload, 1) := by decide +kernel
theorem dL_law_2084 : decode cL_law 2084 = .ok (.aload_n 0, 1) := by decide +kernel
theorem dL_law_2085 : decode cL_law 2085 = .ok (.iload 4, 2) := by decide +kernel
theorem dL_law_2087 : decode cL_law 2087 = .ok (.iconst 3, 1) := by decide +kernel
theorem dL_law_2088 : decode cL_law 2088 = .ok (.iadd, 1) := by decide +kernel
theorem dL_law_2089 : decode cL_law 2089 = .ok (.iaload, 1) := by decide +kernel
theorem dL_law_2090 : decode cL_law 2090 = .ok (.aload_n 3, 1) := by decide +kernel
theorem dL_law_2091 : decode cL_law 2091 = .ok (.invokestatic 229, 3) := by decide +kernel
theorem dL_law_2094 : decode cL_law 2094 = .ok (.istore 5, 2) := by decide +kernel
theorem dL_law_2096 : decode cL_law 2096 = .ok (.aload_n 2, 1) := by decide +kernel
theorem dL_law_2097 : decode cL_law 2097 = .ok (.aload_n 0, 1) := by decide +kernel
theorem dL_law_2098 : decode cL_law 2098 = .ok (.iload 4, 2) := by decide +kernel
theorem dL_law_2100 : decode cL_law 2100 = .ok (.iconst 1, 1) := by decide +kernel
theorem dL_law_2101 : decode cL_law 2101 = .ok (.iadd, 1) := by decide +kernel
theorem dL_law_2102 : decode cL_law 2102 = .ok (.iaload, 1) := by decide +kernel
theorem dL_law_2103 : decode cL_law 2103 = .ok (.aload_n 0, 1) := by decide +kernel
theorem dL_law_2104 : decode cL_law 2104 = .ok (.iload 4, 2) := by decide +kernel
theorem dL_law_2106 : decode cL_law 2106 = .ok (.iconst 2, 1) := by decide +kernel
theorem dL_law_2107 : decode cL_law 2107 = .ok (.iadd, 1) := by decide +kernel
theorem dL_law_2108 : decode cL_law 2108 = .ok (.iaload, 1) := by decide +kernel
theorem dL_law_2109 : decode cL_law 2109 = .ok (.aload_n 0, 1) := by decide +kernel
theorem dL_law_2110 : decode cL_law 2110 = .ok (.iload 4, 2) := by decide +kernel
theorem dL_law_2112 : decode cL_law 2112 = .ok (.iconst 3, 1) := by decide +kernel
theorem dL_law_2113 : decode cL_law 2113 = .ok (.iadd, 1) := by decide +kernel
theorem dL_law_2114 : decode cL_law 2114 = .ok (.iaload, 1) := by decide +kernel
theorem dL_law_2115 : decode cL_law 2115 = .ok (.invokevirtual 231, 3) := by decide +kernel
theorem dL_law_2118 : decode cL_law 2118 = .ok (.istore 6, 2) := by decide +kernel
theorem dL_law_2120 : decode cL_law 2120 = .ok (.aload_n 2, 1) := by decide +kernel
theorem dL_law_2121 : decode cL_law 2121 = .ok (.invokevirtual 125, 3) := by decide +kernel
theorem dL_law_2124 : decode cL_law 2124 = .ok (.iload 5, 2) := by decide +kernel
theorem dL_law_2126 : decode cL_law 2126 = .ok (.if_icmp .eq 5, 3) := by decide +kernel
theorem dL_law_2131 : decode cL_law 2131 = .ok (.iload 5, 2) := by decide +kernel
theorem dL_law_2133 : decode cL_law 2133 = .ok (.ifCond .ne 15, 3) := by decide +kernel
theorem dL_law_2148 : decode cL_law 2148 = .ok (.goto 153, 3) := by decide +kernel
theorem dL_law_2151 : decode cL_law 2151 = .ok (.aload_n 1, 1) := by decide +kernel
theorem dL_law_2152 : decode cL_law 2152 = .ok (.aload_n 0, 1) := by decide +kernel
theorem dL_law_2153 : decode cL_law 2153 = .ok (.iload 4, 2) := by decide +kernel
theorem dL_law_2155 : decode cL_law 2155 = .ok (.iconst 1, 1) := by decide +kernel
theorem dL_law_2156 : decode cL_law 2156 = .ok (.iadd, 1) := by decide +kernel
theorem dL_law_2157 : decode cL_law 2157 = .ok (.iaload, 1) := by decide +kernel
theorem dL_law_2158 : decode cL_law 2158 = .ok (.aload_n 3, 1) := by decide +kernel
theorem dL_law_2159 : decode cL_law 2159 = .ok (.invokestatic 232, 3) := by decide +kernel
theorem dL_law_2162 : decode cL_law 2162 = .ok (.istore 5, 2) := by decide +kernel
theorem dL_law_2164 : decode cL_law 2164 = .ok (.aload_n 2, 1) := by decide +kernel
theorem dL_law_2165 : decode cL_law 2165 = .ok (.aload_n 0, 1) := by decide +kernel
theorem dL_law_2166 : decode cL_law 2166 = .ok (.iload 4, 2) := by decide +kernel
theorem dL_law_2168 : decode cL_law 2168 = .ok (.iconst 1, 1) := by decide +kernel
theorem dL_law_2169 : decode cL_law 2169 = .ok (.iadd, 1) := by decide +kernel
theorem dL_law_2170 : decode cL_law 2170 = .ok (.iaload, 1) := by decide +kernel
theorem dL_law_2171 : decode cL_law 2171 = .ok (.invokevirtual 234, 3) := by decide +kernel
theorem dL_law_2174 : decode cL_law 2174 = .ok (.istore 6, 2) := by decide +kernel
theorem dL_law_2176 : decode cL_law 2176 = .ok (.aload_n 2, 1) := by decide +kernel
theorem dL_law_2177 : decode cL_law 2177 = .ok (.invokevirtual 125, 3) := by decide +kernel
theorem dL_law_2180 : decode cL_law 2180 = .ok (.iload 5, 2) := by decide +kernel
theorem dL_law_2182 : decode cL_law 2182 = .ok (.if_icmp .eq 5, 3) := by decide +kernel
theorem dL_law_2187 : decode cL_law 2187 = .ok (.iload 5, 2) := by decide +kernel
theorem dL_law_2189 : decode cL_law 2189 = .ok (.ifCond .ne 15, 3) := by decide +kernel
theorem dL_law_2204 : decode cL_law 2204 = .ok (.goto 97, 3) := by decide +kernel
theorem dL_law_2207 : decode cL_law 2207 = .ok (.aload_n 1, 1) := by decide +kernel
theorem dL_law_2208 : decode cL_law 2208 = .ok (.aload_n 0, 1) := by decide +kernel
theorem dL_law_2209 : decode cL_law 2209 = .ok (.iload 4, 2) := by decide +kernel
theorem dL_law_2211 : decode cL_law 2211 = .ok (.iconst 1, 1) := by decide +kernel
theorem dL_law_2212 : decode cL_law 2212 = .ok (.iadd, 1) := by decide +kernel
theorem dL_law_2213 : decode cL_law 2213 = .ok (.iaload, 1) := by decide +kernel
theorem dL_law_2214 : decode cL_law 2214 = .ok (.aload_n 3, 1) := by decide +kernel
theorem dL_law_2215 : decode cL_law 2215 = .ok (.invokestatic 235, 3) := by decide +kernel
theorem dL_law_2218 : decode cL_law 2218 = .ok (.istore 5, 2) := by decide +kernel
theorem dL_law_2220 : decode cL_law 2220 = .ok (.aload_n 2, 1) := by decide +kernel
theorem dL_law_2221 : decode cL_law 2221 = .ok (.aload_n 0, 1) := by decide +kernel
theorem dL_law_2222 : decode cL_law 2222 = .ok (.iload 4, 2) := by decide +kernel
theorem dL_law_2224 : decode cL_law 2224 = .ok (.iconst 1, 1) := by decide +kernel
theorem dL_law_2225 : decode cL_law 2225 = .ok (.iadd, 1) := by decide +kernel
theorem dL_law_2226 : decode cL_law 2226 = .ok (.iaload, 1) := by decide +kernel
theorem dL_law_2227 : decode cL_law 2227 = .ok (.invokevirtual 237, 3) := by decide +kernel
theorem dL_law_2230 : decode cL_law 2230 = .ok (.istore 6, 2) := by decide +kernel
theorem dL_law_2232 : decode cL_law 2232 = .ok (.aload_n 2, 1) := by decide +kernel
theorem dL_law_2233 : decode cL_law 2233 = .ok (.invokevirtual 125, 3) := by decide +kernel
theorem dL_law_2236 : decode cL_law 2236 = .ok (.iload 5, 2) := by decide +kernel
theorem dL_law_2238 : decode cL_law 2238 = .ok (.if_icmp .eq 5, 3) := by decide +kernel
theorem dL_law_2243 : decode cL_law 2243 = .ok (.iload 5, 2) := by decide +kernel
theorem dL_law_2245 : decode cL_law 2245 = .ok (.ifCond .ne 15, 3) := by decide +kernel
theorem dL_law_2260 : decode cL_law 2260 = .ok (.goto 41, 3) := by decide +kernel
theorem dL_law_281 : decode cL_law 281 = .ok (.aload_n 1, 1) := by decide +kernel
theorem dL_law_282 : decode cL_law 282 = .ok (.aload_n 0, 1) := by decide +kernel
theorem dL_law_283 : decode cL_law 283 = .ok (.iload 4, 2) := by decide +kernel
theorem dL_law_285 : decode cL_law 285 = .ok (.iconst 1, 1) := by decide +kernel
theorem dL_law_286 : decode cL_law 286 = .ok (.iadd, 1) := by decide +kernel
theorem dL_law_287 : decode cL_law 287 = .ok (.iaload, 1) := by decide +kernel
theorem dL_law_288 : decode cL_law 288 = .ok (.aload_n 3, 1) := by decide +kernel
theorem dL_law_289 : decode cL_law 289 = .ok (.invokestatic 119, 3) := by decide +kernel
theorem dL_law_292 : decode cL_law 292 = .ok (.istore 5, 2) := by decide +kernel
theorem dL_law_294 : decode cL_law 294 = .ok (.aload_n 2, 1) := by decide +kernel
theorem dL_law_295 : decode cL_law 295 = .ok (.aload_n 0, 1) := by decide +kernel
theorem dL_law_296 : decode cL_law 296 = .ok (.iload 4, 2) := by decide +kernel
theorem dL_law_298 : decode cL_law 298 = .ok (.iconst 1, 1) := by decide +kernel
theorem dL_law_299 : decode cL_law 299 = .ok (.iadd, 1) := by decide +kernel
theorem dL_law_300 : decode cL_law 300 = .ok (.iaload, 1) := by decide +kernel
theorem dL_law_301 : decode cL_law 301 = .ok (.invokevirtual 124, 3) := by decide +kernel
theorem dL_law_304 : decode cL_law 304 = .ok (.istore 6, 2) := by decide +kernel
theorem dL_law_306 : decode cL_law 306 = .ok (.aload_n 2, 1) := by decide +kernel
theorem dL_law_307 : decode cL_law 307 = .ok (.invokevirtual 125, 3) := by decide +kernel
theorem dL_law_310 : decode cL_law 310 = .ok (.iload 5, 2) := by decide +kernel
theorem dL_law_312 : decode cL_law 312 = .ok (.if_icmp .eq 5, 3) := by decide +kernel
theorem dL_law_317 : decode cL_law 317 = .ok (.iload 5, 2) := by decide +kernel
theorem dL_law_319 : decode cL_law 319 = .ok (.ifCond .ne 15, 3) := by decide +kernel
theorem dL_law_322 : decode cL_law 322 = .ok (.aload_n 3, 1) := by decide +kernel
theorem dL_law_323 : decode cL_law 323 = .ok (.iconst 0, 1) := by decide +kernel
theorem dL_law_324 : decode cL_law 324 = .ok (.laload, 1) := by decide +kernel
theorem dL_law_325 : decode cL_law 325 = .ok (.iload 6, 2) := by decide +kernel
theorem dL_law_327 : decode cL_law 327 = .ok (.i2l, 1) := by decide +kernel
theorem dL_law_328 : decode cL_law 328 = .ok (.lcmp, 1) := by decide +kernel
theorem dL_law_329 : decode cL_law 329 = .ok (.ifCond .eq 5, 3) := by decide +kernel
theorem dL_law_334 : decode cL_law 334 = .ok (.goto 1967, 3) := by decide +kernel
theorem dL_law_419 : decode cL_law 419 = .ok (.aload_n 1, 1) := by decide +kernel
theorem dL_law_420 : decode cL_law 420 = .ok (.aload_n 0, 1) := by decide +kernel
theorem dL_law_421 : decode cL_law 421 = .ok (.iload 4, 2) := by decide +kernel
theorem dL_law_423 : decode cL_law 423 = .ok (.iconst 1, 1) := by decide +kernel
theorem dL_law_424 : decode cL_law 424 = .ok (.iadd, 1) := by decide +kernel
theorem dL_law_425 : decode cL_law 425 = .ok (.iaload, 1) := by decide +kernel
theorem dL_law_426 : decode cL_law 426 = .ok (.aload_n 3, 1) := by decide +kernel
theorem dL_law_427 : decode cL_law 427 = .ok (.invokestatic 140, 3) := by decide +kernel
theorem dL_law_430 : decode cL_law 430 = .ok (.istore 5, 2) := by decide +kernel
theorem dL_law_432 : decode cL_law 432 = .ok (.aload_n 2, 1) := by decide +kernel
theorem dL_law_433 : decode cL_law 433 = .ok (.aload_n 0, 1) := by decide +kernel
theorem dL_law_434 : decode cL_law 434 = .ok (.iload 4, 2) := by decide +kernel
theorem dL_law_436 : decode cL_law 436 = .ok (.iconst 1, 1) := by decide +kernel
theorem dL_law_437 : decode cL_law 437 = .ok (.iadd, 1) := by decide +kernel
theorem dL_law_438 : decode cL_law 438 = .ok (.iaload, 1) := by decide +kernel
theorem dL_law_439 : decode cL_law 439 = .ok (.invokevirtual 142, 3) := by decide +kernel
theorem dL_law_442 : decode cL_law 442 = .ok (.istore 6, 2) := by decide +kernel
theorem dL_law_444 : decode cL_law 444 = .ok (.aload_n 2, 1) := by decide +kernel
theorem dL_law_445 : decode cL_law 445 = .ok (.invokevirtual 125, 3) := by decide +kernel
theorem dL_law_448 : decode cL_law 448 = .ok (.iload 5, 2) := by decide +kernel
theorem dL_law_450 : decode cL_law 450 = .ok (.if_icmp .eq 5, 3) := by decide +kernel
theorem dL_law_455 : decode cL_law 455 = .ok (.iload 5, 2) := by decide +kernel
theorem dL_law_457 : decode cL_law 457 = .ok (.ifCond .ne 15, 3) := by decide +kernel
theorem dL_law_460 : decode cL_law 460 = .ok (.aload_n 3, 1) := by decide +kernel
theorem dL_law_461 : decode cL_law 461 = .ok (.iconst 0, 1) := by decide +kernel
theorem dL_law_462 : decode cL_law 462 = .ok (.laload, 1) := by decide +kernel
theorem dL_law_463 : decode cL_law 463 = .ok (.iload 6, 2) := by decide +kernel
theorem dL_law_465 : decode cL_law 465 = .ok (.i2l, 1) := by decide +kernel
theorem dL_law_466 : decode cL_law 466 = .ok (.lcmp, 1) := by decide +kernel
theorem dL_law_467 : decode cL_law 467 = .ok (.ifCond .eq 5, 3) := by decide +kernel
theorem dL_law_472 : decode cL_law 472 = .ok (.goto 1829, 3) := by decide +kernel
theorem dL_law_501 : decode cL_law 501 = .ok (.aload_n 1, 1) := by decide +kernel
theorem dL_law_502 : decode cL_law 502 = .ok (.aload_n 0, 1) := by decide +kernel
theorem dL_law_503 : decode cL_law 503 = .ok (.iload 4, 2) := by decide +kernel
theorem dL_law_505 : decode cL_law 505 = .ok (.iconst 1, 1) := by decide +kernel
theorem dL_law_506 : decode cL_law 506 = .ok (.iadd, 1) := by decide +kernel
theorem dL_law_507 : decode cL_law 507 = .ok (.iaload, 1) := by decide +kernel
theorem dL_law_508 : decode cL_law 508 = .ok (.aload_n 3, 1) := by decide +kernel
theorem dL_law_509 : decode cL_law 509 = .ok (.invokestatic 151, 3) := by decide +kernel
theorem dL_law_512 : decode cL_law 512 = .ok (.istore 5, 2) := by decide +kernel
theorem dL_law_514 : decode cL_law 514 = .ok (.aload_n 2, 1) := by decide +kernel
theorem dL_law_515 : decode cL_law 515 = .ok (.aload_n 0, 1) := by decide +kernel
theorem dL_law_516 : decode cL_law 516 = .ok (.iload 4, 2) := by decide +kernel
theorem dL_law_518 : decode cL_law 518 = .ok (.iconst 1, 1) := by decide +kernel
theorem dL_law_519 : decode cL_law 519 = .ok (.iadd, 1) := by decide +kernel
theorem dL_law_520 : decode cL_law 520 = .ok (.iaload, 1) := by decide +kernel
theorem dL_law_521 : decode cL_law 521 = .ok (.invokevirtual 153, 3) := by decide +kernel
theorem dL_law_524 : decode cL_law 524 = .ok (.istore 6, 2) := by decide +kernel
theorem dL_law_526 : decode cL_law 526 = .ok (.aload_n 2, 1) := by decide +kernel
theorem dL_law_527 : decode cL_law 527 = .ok (.invokevirtual 125, 3) := by decide +kernel
theorem dL_law_530 : decode cL_law 530 = .ok (.iload 5, 2) := by decide +kernel
theorem dL_law_532 : decode cL_law 532 = .ok (.if_icmp .eq 5, 3) := by decide +kernel
theorem dL_law_537 : decode cL_law 537 = .ok (.iload 5, 2) := by decide +kernel
theorem dL_law_539 : decode cL_law 539 = .ok (.ifCond .ne 15, 3) := by decide +kernel
theorem dL_law_542 : decode cL_law 542 = .ok (.aload_n 3, 1) := by decide +kernel
theorem dL_law_543 : decode cL_law 543 = .ok (.iconst 0, 1) := by decide +kernel
theorem dL_law_544 : decode cL_law 544 = .ok (.laload, 1) := by decide +kernel
theorem dL_law_545 : decode cL_law 545 = .ok (.iload 6, 2) := by decide +kernel
theorem dL_law_547 : decode cL_law 547 = .ok (.i2l, 1) := by decide +kernel
theorem dL_law_548 : decode cL_law 548 = .ok (.lcmp, 1) := by decide +kernel
theorem dL_law_549 : decode cL_law 549 = .ok (.ifCond .eq 5, 3) := by decide +kernel
theorem dL_law_554 : decode cL_law 554 = .ok (.goto 1747, 3) := by decide +kernel
theorem dL_law_1685 : decode cL_law 1685 = .ok (.aload_n 1, 1) := by decide +kernel
theorem dL_law_1686 : decode cL_law 1686 = .ok (.aload_n 0, 1) := by decide +kernel
theorem dL_law_1687 : decode cL_law 1687 = .ok (.iload 4, 2) := by decide +kernel
theorem dL_law_1689 : decode cL_law 1689 = .ok (.iconst 1, 1) := by decide +kernel
theorem dL_law_1690 : decode cL_law 1690 = .ok (.iadd, 1) := by decide +kernel
theorem dL_law_1691 : decode cL_law 1691 = .ok (.iaload, 1) := by decide +kernel
theorem dL_law_1692 : decode cL_law 1692 = .ok (.aload_n 3, 1) := by decide +kernel
theorem dL_law_1693 : decode cL_law 1693 = .ok (.invokestatic 211, 3) := by decide +kernel
theorem dL_law_1696 : decode cL_law 1696 = .ok (.istore 5, 2) := by decide +kernel
theorem dL_law_1698 : decode cL_law 1698 = .ok (.aload_n 2, 1) := by decide +kernel
theorem dL_law_1699 : decode cL_law 1699 = .ok (.aload_n 0, 1) := by decide +kernel
theorem dL_law_1700 : decode cL_law 1700 = .ok (.iload 4, 2) := by decide +kernel
theorem dL_law_1702 : decode cL_law 1702 = .ok (.iconst 1, 1) := by decide +kernel
theorem dL_law_1703 : decode cL_law 1703 = .ok (.iadd, 1) := by decide +kernel
theorem dL_law_1704 : decode cL_law 1704 = .ok (.iaload, 1) := by decide +kernel
theorem dL_law_1705 : decode cL_law 1705 = .ok (.invokevirtual 213, 3) := by decide +kernel
theorem dL_law_1708 : decode cL_law 1708 = .ok (.istore 6, 2) := by decide +kernel
theorem dL_law_1710 : decode cL_law 1710 = .ok (.aload_n 2, 1) := by decide +kernel
theorem dL_law_1711 : decode cL_law 1711 = .ok (.invokevirtual 125, 3) := by decide +kernel
theorem dL_law_1714 : decode cL_law 1714 = .ok (.iload 5, 2) := by decide +kernel
theorem dL_law_1716 : decode cL_law 1716 = .ok (.if_icmp .eq 5, 3) := by decide +kernel
theorem dL_law_1721 : decode cL_law 1721 = .ok (.iload 5, 2) := by decide +kernel
theorem dL_law_1723 : decode cL_law 1723 = .ok (.ifCond .ne 15, 3) := by decide +kernel
theorem dL_law_1726 : decode cL_law 1726 = .ok (.aload_n 3, 1) := by decide +kernel
theorem dL_law_1727 : decode cL_law 1727 = .ok (.iconst 0, 1) := by decide +kernel
theorem dL_law_1728 : decode cL_law 1728 = .ok (.laload, 1) := by decide +kernel
theorem dL_law_1729 : decode cL_law 1729 = .ok (.iload 6, 2) := by decide +kernel
theorem dL_law_1731 : decode cL_law 1731 = .ok (.i2l, 1) := by decide +kernel
theorem dL_law_1732 : decode cL_law 1732 = .ok (.lcmp, 1) := by decide +kernel
theorem dL_law_1733 : decode cL_law 1733 = .ok (.ifCond .eq 5, 3) := by decide +kernel
theorem dL_law_1738 : decode cL_law 1738 = .ok (.goto 563, 3) := by decide +kernel
theorem dL_law_1616 : decode cL_law 1616 = .ok (.aload_n 1, 1) := by decide +kernel
theorem dL_law_1617 : decode cL_law 1617 = .ok (.aload_n 0, 1) := by decide +kernel
theorem dL_law_1618 : decode cL_law 1618 = .ok (.iload 4, 2) := by decide +kernel
theorem dL_law_1620 : decode cL_law 1620 = .ok (.iconst 1, 1) := by decide +kernel
theorem dL_law_1621 : decode cL_law 1621 = .ok (.iadd, 1) := by decide +kernel
theorem dL_law_1622 : decode cL_law 1622 = .ok (.iaload, 1) := by decide +kernel
theorem dL_law_1623 : decode cL_law 1623 = .ok (.aload_n 3, 1) := by decide +kernel
theorem dL_law_1624 : decode cL_law 1624 = .ok (.invokestatic 204, 3) := by decide +kernel
theorem dL_law_1627 : decode cL_law 1627 = .ok (.istore 5, 2) := by decide +kernel
theorem dL_law_1629 : decode cL_law 1629 = .ok (.aload_n 2, 1) := by decide +kernel
theorem dL_law_1630 : decode cL_law 1630 = .ok (.aload_n 0, 1) := by decide +kernel
theorem dL_law_1631 : decode cL_law 1631 = .ok (.iload 4, 2) := by decide +kernel
theorem dL_law_1633 : decode cL_law 1633 = .ok (.iconst 1, 1) := by decide +kernel
theorem dL_law_1634 : decode cL_law 1634 = .ok (.iadd, 1) := by decide +kernel
theorem dL_law_1635 : decode cL_law 1635 = .ok (.iaload, 1) := by decide +kernel
theorem dL_law_1636 : decode cL_law 1636 = .ok (.invokevirtual 206, 3) := by decide +kernel
theorem dL_law_1639 : decode cL_law 1639 = .ok (.istore 6, 2) := by decide +kernel
theorem dL_law_1641 : decode cL_law 1641 = .ok (.aload_n 2, 1) := by decide +kernel
theorem dL_law_1642 : decode cL_law 1642 = .ok (.invokevirtual 125, 3) := by decide +kernel
theorem dL_law_1645 : decode cL_law 1645 = .ok (.iload 5, 2) := by decide +kernel
theorem dL_law_1647 : decode cL_law 1647 = .ok (.if_icmp .eq 5, 3) := by decide +kernel
theorem dL_law_1652 : decode cL_law 1652 = .ok (.iload 5, 2) := by decide +kernel
theorem dL_law_1654 : decode cL_law 1654 = .ok (.ifCond .ne 15, 3) := by decide +kernel
theorem dL_law_1669 : decode cL_law 1669 = .ok (.goto 632, 3) := by decide +kernel
theorem dL_law_2276 : decode cL_law 2276 = .ok (.aload_n 1, 1) := by decide +kernel
theorem dL_law_2277 : decode cL_law 2277 = .ok (.aload_n 0, 1) := by decide +kernel
theorem dL_law_2278 : decode cL_law 2278 = .ok (.iload 4, 2) := by decide +kernel
theorem dL_law_2280 : decode cL_law 2280 = .ok (.iconst 1, 1) := by decide +kernel
theorem dL_law_2281 : decode cL_law 2281 = .ok (.iadd, 1) := by decide +kernel
theorem dL_law_2282 : decode cL_law 2282 = .ok (.iaload, 1) := by decide +kernel
theorem dL_law_2283 : decode cL_law 2283 = .ok (.invokevirtual 242, 3) := by decide +kernel
theorem dL_law_2286 : decode cL_law 2286 = .ok (.aload_n 2, 1) := by decide +kernel
theorem dL_law_2287 : decode cL_law 2287 = .ok (.aload_n 0, 1) := by decide +kernel
theorem dL_law_2288 : decode cL_law 2288 = .ok (.iload 4, 2) := by decide +kernel
theorem dL_law_2290 : decode cL_law 2290 = .ok (.iconst 1, 1) := by decide +kernel
theorem dL_law_2291 : decode cL_law 2291 = .ok (.iadd, 1) := by decide +kernel
theorem dL_law_2292 : decode cL_law 2292 = .ok (.iaload, 1) := by decide +kernel
theorem dL_law_2293 : decode cL_law 2293 = .ok (.invokevirtual 245, 3) := by decide +kernel
theorem dL_law_2296 : decode cL_law 2296 = .ok (.if_icmp .eq 5, 3) := by decide +kernel
theorem dL_law_1872 : decode cL_law 1872 = .ok (.aload_n 1, 1) := by decide +kernel
theorem dL_law_1873 : decode cL_law 1873 = .ok (.aload_n 0, 1) := by decide +kernel
theorem dL_law_1874 : decode cL_law 1874 = .ok (.iload 4, 2) := by decide +kernel
theorem dL_law_1876 : decode cL_law 1876 = .ok (.iconst 1, 1) := by decide +kernel
theorem dL_law_1877 : decode cL_law 1877 = .ok (.iadd, 1) := by decide +kernel
theorem dL_law_1878 : decode cL_law 1878 = .ok (.iaload, 1) := by decide +kernel
theorem dL_law_1879 : decode cL_law 1879 = .ok (.aload_n 3, 1) := by decide +kernel
theorem dL_law_1880 : decode cL_law 1880 = .ok (.invokestatic 220, 3) := by decide +kernel
theorem dL_law_1883 : decode cL_law 1883 = .ok (.istore 5, 2) := by decide +kernel
theorem dL_law_1885 : decode cL_law 1885 = .ok (.aload_n 2, 1) := by decide +kernel
theorem dL_law_1886 : decode cL_law 1886 = .ok (.aload_n 0, 1) := by decide +kernel
theorem dL_law_1887 : decode cL_law 1887 = .ok (.iload 4, 2) := by decide +kernel
theorem dL_law_1889 : decode cL_law 1889 = .ok (.iconst 1, 1) := by decide +kernel
theorem dL_law_1890 : decode cL_law 1890 = .ok (.iadd, 1) := by decide +kernel
theorem dL_law_1891 : decode cL_law 1891 = .ok (.iaload, 1) := by decide +kernel
theorem dL_law_1892 : decode cL_law 1892 = .ok (.invokevirtual 222, 3) := by decide +kernel
theorem dL_law_1895 : decode cL_law 1895 = .ok (.istore 6, 2) := by decide +kernel
theorem dL_law_1897 : decode cL_law 1897 = .ok (.aload_n 2, 1) := by decide +kernel
theorem dL_law_1898 : decode cL_law 1898 = .ok (.invokevirtual 125, 3) := by decide +kernel
theorem dL_law_1901 : decode cL_law 1901 = .ok (.iload 5, 2) := by decide +kernel
theorem dL_law_1903 : decode cL_law 1903 = .ok (.if_icmp .eq 5, 3) := by decide +kernel
theorem dL_law_1908 : decode cL_law 1908 = .ok (.iload 5, 2) := by decide +kernel
theorem dL_law_1910 : decode cL_law 1910 = .ok (.ifCond .ne 15, 3) := by decide +kernel
theorem dL_law_1913 : decode cL_law 1913 = .ok (.aload_n 3, 1) := by decide +kernel
theorem dL_law_1914 : decode cL_law 1914 = .ok (.iconst 0, 1) := by decide +kernel
theorem dL_law_1915 : decode cL_law 1915 = .ok (.laload, 1) := by decide +kernel
theorem dL_law_1916 : decode cL_law 1916 = .ok (.iload 6, 2) := by decide +kernel
theorem dL_law_1918 : decode cL_law 1918 = .ok (.i2l, 1) := by decide +kernel
theorem dL_law_1919 : decode cL_law 1919 = .ok (.lcmp, 1) := by decide +kernel
theorem dL_law_1920 : decode cL_law 1920 = .ok (.ifCond .eq 5, 3) := by decide +kernel
theorem dL_law_1925 : decode cL_law 1925 = .ok (.goto 376, 3) := by decide +kernel
set_option maxHeartbeats 4000000 in
set_option maxRecDepth 100000 in
theorem w_derived (l : Launch) (hfl : l.stackTraces = false) (dC : Nat → ClassId) (dI : Nat → Nat → Nat) (sz : Nat) (h0 : Nat) (w1 : Nat) (w6 : Nat) (w8 : Nat) (w15 : Nat) (w22 : Nat) (w26 : Nat) (w31 : Nat) (w35 : Nat) (w40 : Nat) (w48 : Nat) (w50 : Nat) (w52 : Nat) (w36 : Nat) (w37 : Nat) (w9 : Nat) (w10 : Nat) (w11 : Nat) (w12 : Nat) (w13 : Nat) (d38 : ClassId) (d39 : ClassId) (o0 : Nat) (co : ClassId) (n0 : Nat) (hn : n0 ≤ 60) : Met l yL_derived (Cond.codeWith yL_derived cL_derived 4 (some .int) [(0, 9, 12, 13)] :: wsG) ({ frames := 4, cells := 0, slots := 0, locals := 109 } : Room) (va_Pc [.ref h0, .int (nI n0), .ref o0] (fun U => U.heap.size = sz ∧ va_P (dC, dI) vwCl [(h0, .inr (9, [.ref w1, .ref w6, .int 0, .ref w8, .ref w15, .int 0, .int 0, .ref w22, .ref w26, .ref w31, .ref w35, .ref w40, .ref w48, .ref w50, .ref w52])), (w35, .inr (8, [.ref w36, .ref w37])), (w36, .inl (d38, 67161, .inl (fun _ => 0))), (w37, .inl (d39, 1101, .inl (fun _ => 0))), (w8, .inr (4, [.ref w9, .ref w10, .ref w11, .ref w12, .ref w13, .int 0, .int 0, .int 0])), (o0, .inl (co, 1, .inr (.inl (fun _ => 0))))] U.heap ∧ va_K (dC, dI) vwCl [(d38, .int), (d39, .int), (co, .long)] U ∧ va_D (fun _ => True) [(h0, .inr (9, [.ref w1, .ref w6, .int 0, .ref w8, .ref w15, .int 0, .int 0, .ref w22, .ref w26, .ref w31, .ref w35, .ref w40, .ref w48, .ref w50, .ref w52])), (w35, .inr (8, [.ref w36, .ref w37])), (w36, .inl (d38, 67161, .inl (fun _ => 0))), (w37, .inl (d39, 1101, .inl (fun _ => 0))), (w8, .inr (4, [.ref w9, .ref w10, .ref w11, .ref w12, .ref w13, .int 0, .int 0, .int 0])), (o0, .inl (co, 1, .inr (.inl (fun _ => 0))))] ∧ xX (va_A [(h0, .inr (9, [.ref w1, .ref w6, .int 0, .ref w8, .ref w15, .int 0, .int 0, .ref w22, .ref w26, .ref w31, .ref w35, .ref w40, .ref w48, .ref w50, .ref w52])), (w35, .inr (8, [.ref w36, .ref w37])), (w36, .inl (d38, 67161, .inl (fun _ => 0))), (w37, .inl (d39, 1101, .inl (fun _ => 0))), (w8, .inr (4, [.ref w9, .ref w10, .ref w11, .ref w12, .ref w13, .int 0, .int 0, .int 0])), (o0, .inl (co, 1, .inr (.inl (fun _ => 0))))] sz) U)) (va_Qi (fun (r : Int32) (_ : Unit) => r = 0) (fun (_ : Unit) (t : State) => va_P (dC, dI) vwCl [(o0, .inl (co, 1, .inr (.inl (vp_updL (fun _ => 0) (0 : Int32).toNatClampNeg (((if nI 0 = nI n0 then (1 : Int32) else 0).toInt64))))))] t.heap ∧ va_K (dC, dI) vwCl [(co, .long)] t ∧ va_D (va_A [(h0, .inr (9, [.ref w1, .ref w6, .int 0, .ref w8, .ref w15, .int 0, .int 0, .ref w22, .ref w26, .ref w31, .ref w35, .ref w40, .ref w48, .ref w50, .ref w52])), (w35, .inr (8, [.ref w36, .ref w37])), (w36, .inl (d38, 67161, .inl (fun _ => 0))), (w37, .inl (d39, 1101, .inl (fun _ => 0))), (w8, .inr (4, [.ref w9, .ref w10, .ref w11, .ref w12, .ref w13, .int 0, .int 0, .int 0])), (o0, .inl (co, 1, .inr (.inl (fun _ => 0))))] sz) [(o0, .inl (co, 1, .inr (.inl (vp_updL (fun _ => 0) (0 : Int32).toNatClampNeg (((if nI 0 = nI n0 then (1 : Int32) else 0).toInt64))))))]) (va_A [(h0, .inr (9, [.ref w1, .ref w6, .int 0, .ref w8, .ref w15, .int 0, .int 0, .ref w22, .ref w26, .ref w31, .ref w35, .ref w40, .ref w48, .ref w50, .ref w52])), (w35, .inr (8, [.ref w36, .ref w37])), (w36, .inl (d38, 67161, .inl (fun _ => 0))), (w37, .inl (d39, 1101, .inl (fun _ => 0))), (w8, .inr (4, [.ref w9, .ref w10, .ref w11, .ref w12, .ref w13, .int 0, .int 0, .int 0])), (o0, .inl (co, 1, .inr (.inl (fun _ => 0))))] sz)) 0 0 (va_A [(h0, .inr (9, [.ref w1, .ref w6, .int 0, .ref w8, .ref w15, .int 0, .int 0, .ref w22, .ref w26, .ref w31, .ref w35, .ref w40, .ref w48, .ref w50, .ref w52])), (w35, .inr (8, [.ref w36, .ref w37])), (w36, .inl (d38, 67161, .inl (fun _ => 0))), (w37, .inl (d39, 1101, .inl (fun _ => 0))), (w8, .inr (4, [.ref w9, .ref w10, .ref w11, .ref w12, .ref w13, .int 0, .int 0, .int 0])), (o0, .inl (co, 1, .inr (.inl (fun _ => 0))))] sz) := by
  refine va_MetW (hh := [(0, 9, 12, 13)]) (cc := cL_derived) (maxL := 4) (ret := (some .int)) (by decide) rfl ?_
  intro p e s m args below meth c s₁ B hml hv
  obtain ⟨rfl, hsz, hP, hK, hD0, hEx⟩ := hv
  have hx := B.exec
  have hb := B.bytes
  have hr := B.returns
  have hts : ∀ w ∈ wsG, w.before _ s = true := fun w hw => atoms_spec (ws := (Cond.codeWith yL_derived cL_derived 4 (some .int) [(0, 9, 12, 13)] :: wsG)) B.pre w (List.mem_cons_of_mem _ hw)
  have htab := vx_table (x := yL_derived) B (atoms_spec (ws := (Cond.codeWith yL_derived cL_derived 4 (some .int) [(0, 9, 12, 13)] :: wsG)) B.pre _ List.mem_cons_self)
  have hown : s.vm.findClass RL = some m.cls := findClass_of_methodNamed B.named
  have hlocks := B.notSynchronized
  subst hsz
  have hD := hD0.self (sz := s.heap.size)
  generalize hAe : va_A [(h0, .inr (9, [.ref w1, .ref w6, .int 0, .ref w8, .ref w15, .int 0, .int 0, .ref w22, .ref w26, .ref w31, .ref w35, .ref w40, .ref w48, .ref w50, .ref w52])), (w35, .inr (8, [.ref w36, .ref w37])), (w36, .inl (d38, 67161, .inl (fun _ => 0))), (w37, .inl (d39, 1101, .inl (fun _ => 0))), (w8, .inr (4, [.ref w9, .ref w10, .ref w11, .ref w12, .ref w13, .int 0, .int 0, .int 0])), (o0, .inl (co, 1, .inr (.inl (fun _ => 0))))] s.heap.size = A at hD hEx ⊢
  have hEx : xX A s := hEx
  have hA : ∀ q : Nat, s.heap.size ≤ q → A q := fun q h => by rw [← hAe]; exact Or.inr h
  have hS : va_S A s.heap s.heap [] := va_S.rf
  have hl := lv_entry ([.ref h0, .int (nI n0), .ref o0]) (n := 4) (Nat.le_of_ble_eq_true rfl)
  rw [lg_entry_eq]
  generalize (lg_sl ([.ref h0, .int (nI n0), .ref o0]) ++ List.replicate (4 - (lg_sl ([.ref h0, .int (nI n0), .ref o0])).length) Slot.unset).toArray = ls at hl ⊢
  have hl : lv_has ls 4 [(0, .ref h0), (1, .int (nI n0)), (2, .ref o0)] := hl
  refine lv_aload_n hx hb dL_derived_0 rfl (lv_at hl 2 rfl) ?_
  refine lv_iconst (v := 0) hx hb dL_derived_1 (by decide) ?_
  refine lv_aload_n hx hb dL_derived_2 rfl (lv_at hl 0 rfl) ?_
  refine lv_iload_n hx hb dL_derived_3 rfl (lv_at hl 1 rfl) ?_
  have hPc := hP.sub (ws' := [(h0, .inr (9, [.ref w1, .ref w6, .int 0, .ref w8, .ref w15, .int 0, .int 0, .ref w22, .ref w26, .ref w31, .ref w35, .ref w40, .ref w48, .ref w50, .ref w52])), (w35, .inr (8, [.ref w36, .ref w37])), (w36, .inl (d38, 67161, .inl (fun _ => 0))), (w37, .inl (d39, 1101, .inl (fun _ => 0))), (w8, .inr (4, [.ref w9, .ref w10, .ref w11, .ref w12, .ref w13, .int 0, .int 0, .int 0]))]) [0, 1, 2, 3, 4] rfl
  have hDc := hD.sub (ws' := [(h0, .inr (9, [.ref w1, .ref w6, .int 0, .ref w8, .ref w15, .int 0, .int 0, .ref w22, .ref w26, .ref w31, .ref w35, .ref w40, .ref w48, .ref w50, .ref w52])), (w35, .inr (8, [.ref w36, .ref w37])), (w36, .inl (d38, 67161, .inl (fun _ => 0))), (w37, .inl (d39, 1101, .inl (fun _ => 0))), (w8, .inr (4, [.ref w9, .ref w10, .ref w11, .ref w12, .ref w13, .int 0, .int 0, .int 0]))]) [0, 1, 2, 3, 4] (by decide) rfl
  have hKc := hK.sub (tys' := [(d38, .int), (d39, .int)]) [0, 1] rfl
  have hFc := va_free (wc := [(h0, .inr (9, [.ref w1, .ref w6, .int 0, .ref w8, .ref w15, .int 0, .int 0, .ref w22, .ref w26, .ref w31, .ref w35, .ref w40, .ref w48, .ref w50, .ref w52])), (w35, .inr (8, [.ref w36, .ref w37])), (w36, .inl (d38, 67161, .inl (fun _ => 0))), (w37, .inl (d39, 1101, .inl (fun _ => 0))), (w8, .inr (4, [.ref w9, .ref w10, .ref w11, .ref w12, .ref w13, .int 0, .int 0, .int 0]))]) hD hS hA [0, 1, 2, 3, 4] rfl
  refine va_calli (va_runV (As := [.int (nI n0)]) (rest := [.int 0, .ref o0]) ⟨hx, hb, hml, hown, hts⟩ (c_derived l dC dI s.heap.size (h0) (w1) (w6) (w8) (w15) (w22) (w26) (w31) (w35) (w40) (w48) (w50) (w52) (w36) (w37) (w9) (w10) (w11) (w12) (w13) (d38) (d39) (n0) (hn)) (cwV 1 hts (gV_G k1111 k1112 k1113 k1 k1114) rfl rfl rfl (by decide +kernel) ⟨Nat.le_of_ble_eq_true rfl, Nat.le_of_ble_eq_true rfl⟩) ⟨fun a U g mk q => by obtain ⟨q0, q1, qP, qK, qD⟩ := q; exact ⟨q0, q1, qP, va_K.moved (u := U) (U := U.calling g mk a) (Vm.Alike.refl U.vm) qK, qD⟩, va_recv hKc hPc (ci := 9) (q0 := 0) rfl rfl, fun U hU hW => ⟨rfl, by rw [hU], by rw [hU]; exact hPc, va_K.moved hW.alike hKc, hDc.weaken (fun _ _ _ _ => trivial)⟩⟩ rfl rfl hl.1 rfl (lv_room (Nat.le_of_ble_eq_true rfl)) dL_derived_4 ⟨Nat.le_of_ble_eq_true rfl, Nat.le_of_ble_eq_true rfl⟩) hS (fun q _ h => hFc q h) hFc (fun r1 u t H1 locs ht hvm hw hB hz1 hk1 hS => ?_)
  obtain ⟨hP1, hK1, hD1⟩ := hB
  rw [ht] at hP1
  have hK1 := va_K.moved hvm.symm hK1
  try dsimp only at hw
  obtain ⟨hP, hD⟩ := va_join (wr := [(o0, .inl (co, 1, .inr (.inl (fun _ => 0))))]) (w1 := []) hP hD [0, 1, 2, 3, 4] [5] rfl rfl (by decide) (by decide) hk1 hFc hP1 hD1
  have hK := hK.app hK1
  generalize H1 = H at hP hS ⊢
  have hP : va_P (dC, dI) vwCl [(o0, .inl (co, 1, .inr (.inl (fun _ => 0))))] H := hP
  have hD : va_D A [(o0, .inl (co, 1, .inr (.inl (fun _ => 0))))] := hD
  have hK : va_K (dC, dI) vwCl [(d38, .int), (d39, .int), (co, .long)] s := hK
  refine W.widen (k := 0) (n := 0) (by omega) (by omega) ?_
  obtain rfl : r1 = (if nI 0 = nI n0 then (1 : Int32) else 0) := hw
  refine lv_i2l (v := (if nI 0 = nI n0 then (1 : Int32) else 0).toInt64) hx hb dL_derived_7 rfl ?_
  refine va_last hx hb hK hP hD hS 0 2 rfl rfl (by unfold vp_in; decide +kernel) dL_derived_8 (fun H locs hP hD hS => ?_)
  have hP : va_P (dC, dI) vwCl [(o0, .inl (co, 1, .inr (.inl (vp_updL (fun _ => 0) (0 : Int32).toNatClampNeg (((if nI 0 = nI n0 then (1 : Int32) else 0).toInt64))))))] H := hP
  have hD : va_D A [(o0, .inl (co, 1, .inr (.inl (vp_updL (fun _ => 0) (0 : Int32).toNatClampNeg (((if nI 0 = nI n0 then (1 : Int32) else 0).toInt64))))))] := hD
  refine lv_goto (tgt := 15) hx hb dL_derived_9 (by decide) ?_
  refine lv_iconst (v := 0) hx hb dL_derived_15 (by decide) ?_
  have hP9 := hP.sub (ws' := [(o0, .inl (co, 1, .inr (.inl (vp_updL (fun _ => 0) (0 : Int32).toNatClampNeg (((if nI 0 = nI n0 then (1 : Int32) else 0).toInt64))))))]) [0] rfl
  have hD9 := hD.sub (ws' := [(o0, .inl (co, 1, .inr (.inl (vp_updL (fun _ => 0) (0 : Int32).toNatClampNeg (((if nI 0 = nI n0 then (1 : Int32) else 0).toInt64))))))]) [0] (by decide) rfl
  have hK9 := hK.sub (tys' := [(co, .long)]) [2] rfl
  refine W.widen (k := 0) (n := 0) (by omega) (by omega) ?_
  exact W.iret (v := 0) hx hb hr (fun t ht hW => ⟨⟨0, (), rfl, rfl, by rw [ht]; exact hP9, va_K.moved hW.alike hK9, hD9⟩, hS.F ht⟩) hS.2.2 dL_derived_16

set_option maxRecDepth 100000 in
theorem k104 : (Cond.fieldLink "PageSkeleton" (140 : Nat) "PageSkeleton$Row" "overfull" "Z") ∈ wsG := wsG_a1 104 rfl rfl
set_option maxRecDepth 100000 in
theorem k236 : (Cond.fieldLink "PageSkeleton" (254 : Nat) "PageSkeleton$Orders" "pageCount" "I") ∈ wsG := wsG_a1 236 rfl rfl
set_option maxRecDepth 100000 in
theorem k238 : (Cond.fieldLink "PageSkeleton" (261 : Nat) "PageSkeleton$Orders" "answers" "[I") ∈ wsG := wsG_a1 238 rfl rfl
set_option maxRecDepth 100000 in
theorem k394 : (Cond.methodLink "PageSkeleton" (152 : Nat) ({ cls := "PageSkeleton", name := "tryToTidy", desc := "()I" } : MethodName)) ∈ wsG := wsG_a2 154 rfl rfl
set_option maxRecDepth 100000 in
theorem k396 : (Cond.instanceMethod ({ cls := "PageSkeleton", name := "tryToTidy", desc := "()I" } : MethodName)) ∈ wsG := wsG_a2 156 rfl rfl
set_option maxRecDepth 100000 in
theorem k397 : (Cond.code ({ cls := "PageSkeleton", name := "tryToTidy", desc := "()I" } : MethodName) prog_1_method_47_code (1 : Nat) (Option.some FieldType.int)) ∈ wsG := wsG_a2 157 rfl rfl
set_option maxRecDepth 100000 in
theorem k495 : (Cond.methodLink "PageSkeleton" (144 : Nat) ({ cls := "PageSkeleton$Past", name := "save", desc := "(LPageSkeleton$Row;I)V" } : MethodName)) ∈ wsG := wsG_a3 15 rfl rfl
set_option maxRecDepth 100000 in
theorem k496 : (Cond.instanceMethod ({ cls := "PageSkeleton$Past", name := "save", desc := "(LPageSkeleton$Row;I)V" } : MethodName)) ∈ wsG := wsG_a3 16 rfl rfl
set_option maxRecDepth 100000 in
theorem k497 : (Cond.selects "PageSkeleton$Past" ({ cls := "PageSkeleton$Past", name := "save", desc := "(LPageSkeleton$Row;I)V" } : MethodName) ({ cls := "PageSkeleton$Past", name := "save", desc := "(LPageSkeleton$Row;I)V" } : MethodName)) ∈ wsG := wsG_a3 17 rfl rfl
set_option maxRecDepth 100000 in
theorem k498 : (Cond.code ({ cls := "PageSkeleton$Past", name := "save", desc := "(LPageSkeleton$Row;I)V" } : MethodName) prog_5_method_2_code (3 : Nat) (Option.none : Option Jvm.ClassFile.FieldType)) ∈ wsG := wsG_a3 18 rfl rfl
set_option maxRecDepth 100000 in
theorem k507 : (Cond.methodLink "PageSkeleton" (165 : Nat) ({ cls := "PageSkeleton$Past", name := "restore", desc := "(LPageSkeleton$Row;)I" } : MethodName)) ∈ wsG := wsG_a3 27 rfl rfl
set_option maxRecDepth 100000 in
theorem k508 : (Cond.instanceMethod ({ cls := "PageSkeleton$Past", name := "restore", desc := "(LPageSkeleton$Row;)I" } : MethodName)) ∈ wsG := wsG_a3 28 rfl rfl
set_option maxRecDepth 100000 in
theorem k509 : (Cond.selects "PageSkeleton$Past" ({ cls := "PageSkeleton$Past", name := "restore", desc := "(LPageSkeleton$Row;)I" } : MethodName) ({ cls := "PageSkeleton$Past", name := "restore", desc := "(LPageSkeleton$Row;)I" } : MethodName)) ∈ wsG := wsG_a3 29 rfl rfl
set_option maxRecDepth 100000 in
theorem k510 : (Cond.code ({ cls := "PageSkeleton$Past", name := "restore", desc := "(LPageSkeleton$Row;)I" } : MethodName) prog_5_method_3_code (2 : Nat) (Option.some FieldType.int)) ∈ wsG := wsG_a3 30 rfl rfl
set_option maxRecDepth 100000 in
theorem k521 : (Cond.methodLink "PageSkeleton" (168 : Nat) ({ cls := "PageSkeleton$Row", name := "empty", desc := "()V" } : MethodName)) ∈ wsG := wsG_a3 41 rfl rfl
set_option maxRecDepth 100000 in
theorem k522 : (Cond.methodLink "PageSkeleton" (171 : Nat) ({ cls := "PageSkeleton$Row", name := "seal", desc := "()V" } : MethodName)) ∈ wsG := wsG_a3 42 rfl rfl
set_option maxRecDepth 100000 in
theorem k663 : (Cond.methodLink "PageSkeleton" (106 : Nat) ({ cls := "PageSkeleton", name := "needState", desc := "(Z)V" } : MethodName)) ∈ wsG := wsG_a3 183 rfl rfl
set_option maxRecDepth 100000 in
theorem k665 : (Cond.instanceMethod ({ cls := "PageSkeleton", name := "needState", desc := "(Z)V" } : MethodName)) ∈ wsG := wsG_a3 185 rfl rfl
set_option maxRecDepth 100000 in
theorem k666 : (Cond.code ({ cls := "PageSkeleton", name := "needState", desc := "(Z)V" } : MethodName) prog_1_method_42_code (2 : Nat) (Option.none : Option Jvm.ClassFile.FieldType)) ∈ wsG := wsG_a3 186 rfl rfl
set_option maxRecDepth 100000 in
theorem k758 : (Cond.methodLink "PageSkeleton" (133 : Nat) ({ cls := "PageSkeleton", name := "tryToLay", desc := "(I)I" } : MethodName)) ∈ wsG := wsG_a4 38 rfl rfl
set_option maxRecDepth 100000 in
theorem k760 : (Cond.instanceMethod ({ cls := "PageSkeleton", name := "tryToLay", desc := "(I)I" } : MethodName)) ∈ wsG := wsG_a4 40 rfl rfl
set_option maxRecDepth 100000 in
theorem k761 : (Cond.code ({ cls := "PageSkeleton", name := "tryToLay", desc := "(I)I" } : MethodName) prog_1_method_46_code (4 : Nat) (Option.some FieldType.int)) ∈ wsG := wsG_a4 41 rfl rfl
set_option maxRecDepth 100000 in
theorem k844 : (Cond.methodLink "PageSkeleton" (158 : Nat) ({ cls := "PageSkeleton", name := "countFitting", desc := "(LPageSkeleton$Row;)I" } : MethodName)) ∈ wsG := wsG_a4 124 rfl rfl
set_option maxRecDepth 100000 in
theorem k846 : (Cond.instanceMethod ({ cls := "PageSkeleton", name := "countFitting", desc := "(LPageSkeleton$Row;)I" } : MethodName)) ∈ wsG := wsG_a4 126 rfl rfl
set_option maxRecDepth 100000 in
theorem k847 : (Cond.code ({ cls := "PageSkeleton", name := "countFitting", desc := "(LPageSkeleton$Row;)I" } : MethodName) prog_1_method_50_code (4 : Nat) (Option.some FieldType.int)) ∈ wsG := wsG_a4 127 rfl rfl
set_option maxRecDepth 100000 in
theorem k1026 : (Cond.methodLink "PageSkeleton" (250 : Nat) ({ cls := "PageSkeleton", name := "costBetween", desc := "(II)I" } : MethodName)) ∈ wsG := wsG_a5 66 rfl rfl
set_option maxRecDepth 100000 in
theorem k1028 : (Cond.instanceMethod ({ cls := "PageSkeleton", name := "costBetween", desc := "(II)I" } : MethodName)) ∈ wsG := wsG_a5 68 rfl rfl
set_option maxRecDepth 100000 in
theorem k1029 : (Cond.code ({ cls := "PageSkeleton", name := "costBetween", desc := "(II)I" } : MethodName) prog_1_method_48_code (3 : Nat) (Option.some FieldType.int)) ∈ wsG := wsG_a5 69 rfl rfl
set_option maxRecDepth 100000 in
theorem k1045 : (Cond.methodLink "PageSkeleton" (257 : Nat) ({ cls := "PageSkeleton$Orders", name := "goThroughAll", desc := "([LPageSkeleton$Leaf;ILPageSkeleton$Layer;)V" } : MethodName)) ∈ wsG := wsG_a5 85 rfl rfl
set_option maxRecDepth 100000 in
theorem k1046 : (Cond.instanceMethod ({ cls := "PageSkeleton$Orders", name := "goThroughAll", desc := "([LPageSkeleton$Leaf;ILPageSkeleton$Layer;)V" } : MethodName)) ∈ wsG := wsG_a5 86 rfl rfl
set_option maxRecDepth 100000 in
theorem k1047 : (Cond.selects "PageSkeleton$Orders" ({ cls := "PageSkeleton$Orders", name := "goThroughAll", desc := "([LPageSkeleton$Leaf;ILPageSkeleton$Layer;)V" } : MethodName) ({ cls := "PageSkeleton$Orders", name := "goThroughAll", desc := "([LPageSkeleton$Leaf;ILPageSkeleton$Layer;)V" } : MethodName)) ∈ wsG := wsG_a5 87 rfl rfl
set_option maxRecDepth 100000 in
theorem k1048 : (Cond.code ({ cls := "PageSkeleton$Orders", name := "goThroughAll", desc := "([LPageSkeleton$Leaf;ILPageSkeleton$Layer;)V" } : MethodName) prog_4_method_2_code (8 : Nat) (Option.none : Option Jvm.ClassFile.FieldType)) ∈ wsG := wsG_a5 88 rfl rfl
set_option maxRecDepth 100000 in
theorem k1122 : (Cond.methodLink "PageSkeleton" (278 : Nat) ({ cls := "PageSkeleton$Leaf", name := "longestCommon", desc := "(LPageSkeleton$Leaf;)I" } : MethodName)) ∈ wsG := wsG_a5 162 rfl rfl
set_option maxRecDepth 100000 in
theorem k1123 : (Cond.instanceMethod ({ cls := "PageSkeleton$Leaf", name := "longestCommon", desc := "(LPageSkeleton$Leaf;)I" } : MethodName)) ∈ wsG := wsG_a5 163 rfl rfl
set_option maxRecDepth 100000 in
theorem k1124 : (Cond.selects "PageSkeleton$Leaf" ({ cls := "PageSkeleton$Leaf", name := "longestCommon", desc := "(LPageSkeleton$Leaf;)I" } : MethodName) ({ cls := "PageSkeleton$Leaf", name := "longestCommon", desc := "(LPageSkeleton$Leaf;)I" } : MethodName)) ∈ wsG := wsG_a5 164 rfl rfl
set_option maxRecDepth 100000 in
theorem k1125 : (Cond.code ({ cls := "PageSkeleton$Leaf", name := "longestCommon", desc := "(LPageSkeleton$Leaf;)I" } : MethodName) prog_3_method_5_code (6 : Nat) (Option.some FieldType.int)) ∈ wsG := wsG_a5 165 rfl rfl
set_option maxRecDepth 100000 in
theorem k1156 : (Cond.methodLink "PageSkeleton" (291 : Nat) ({ cls := "java/lang/Math", name := "max", desc := "(II)I" } : MethodName)) ∈ wsG := wsG_a5 196 rfl rfl
set_option maxRecDepth 100000 in
theorem ks_yX9_costBetween : Cond.selects RX9 yX9_costBetween yX9_costBetween ∈ wsG := wsG_p 40 rfl rfl
set_option maxRecDepth 100000 in
theorem ks_yX9_needState : Cond.selects RX9 yX9_needState yX9_needState ∈ wsG := wsG_p 14 rfl rfl
set_option maxRecDepth 100000 in
theorem ks_yX9_tryToLay : Cond.selects RX9 yX9_tryToLay yX9_tryToLay ∈ wsG := wsG_p 23 rfl rfl
set_option maxRecDepth 100000 in
theorem ks_yX9_tryToTidy : Cond.selects RX9 yX9_tryToTidy yX9_tryToTidy ∈ wsG := wsG_p 0 rfl rfl
set_option maxRecDepth 100000 in
theorem ks_yX9_countFitting : Cond.selects RX9 yX9_countFitting yX9_countFitting ∈ wsG := wsG_p 31 rfl rfl
theorem dX9_clear_0 : decode cX9_clear 0 = .ok (.aload_n 0, 1) := by decide +kernel
theorem dX9_clear_1 : decode cX9_clear 1 = .ok (.getfield 31, 3) := by decide +kernel
theorem dX9_clear_4 : decode cX9_clear 4 = .ok (.invokevirtual 136, 3) := by decide +kernel
theorem dX9_clear_7 : decode cX9_clear 7 = .ok (.istore_n 1, 1) := by decide +kernel
theorem dX9_clear_8 : decode cX9_clear 8 = .ok (.aload_n 0, 1) := by decide +kernel
theorem dX9_clear_9 : decode cX9_clear 9 = .ok (.getfield 31, 3) := by decide +kernel
theorem dX9_clear_12 : decode cX9_clear 12 = .ok (.invokevirtual 168, 3) := by decide +kernel
theorem dX9_clear_15 : decode cX9_clear 15 = .ok (.aload_n 0, 1) := by decide +kernel
theorem dX9_clear_16 : decode cX9_clear 16 = .ok (.getfield 31, 3) := by decide +kernel
theorem dX9_clear_19 : decode cX9_clear 19 = .ok (.invokevirtual 171, 3) := by decide +kernel
theorem dX9_clear_22 : decode cX9_clear 22 = .ok (.aload_n 0, 1) := by decide +kernel
theorem dX9_clear_23 : decode cX9_clear 23 = .ok (.getfield 47, 3) := by decide +kernel
theorem dX9_clear_26 : decode cX9_clear 26 = .ok (.iconst 0, 1) := by decide +kernel
theorem dX9_clear_27 : decode cX9_clear 27 = .ok (.putfield 162, 3) := by decide +kernel
theorem dX9_clear_30 : decode cX9_clear 30 = .ok (.aload_n 0, 1) := by decide +kernel
theorem dX9_clear_31 : decode cX9_clear 31 = .ok (.dup, 1) := by decide +kernel
theorem dX9_clear_32 : decode cX9_clear 32 = .ok (.getfield 41, 3) := by decide +kernel
theorem dX9_clear_35 : decode cX9_clear 35 = .ok (.iconst 1, 1) := by decide +kernel
theorem dX9_clear_36 : decode cX9_clear 36 = .ok (.iadd, 1) := by decide +kernel
theorem dX9_clear_37 : decode cX9_clear 37 = .ok (.putfield 41, 3) := by decide +kernel
theorem dX9_clear_40 : decode cX9_clear 40 = .ok (.iload_n 1, 1) := by decide +kernel
theorem dX9_clear_41 : decode cX9_clear 41 = .ok (.ireturn, 1) := by decide +kernel
theorem dX9_common_0 : decode cX9_common 0 = .ok (.aload_n 0, 1) := by decide +kernel
theorem dX9_common_1 : decode cX9_common 1 = .ok (.iload_n 1, 1) := by decide +kernel
theorem dX9_common_2 : decode cX9_common 2 = .ok (.invokevirtual 130, 3) := by decide +kernel
theorem dX9_common_5 : decode cX9_common 5 = .ok (.aload_n 0, 1) := by decide +kernel
theorem dX9_common_6 : decode cX9_common 6 = .ok (.iload_n 2, 1) := by decide +kernel
theorem dX9_common_7 : decode cX9_common 7 = .ok (.invokevirtual 130, 3) := by decide +kernel
theorem dX9_common_10 : decode cX9_common 10 = .ok (.aload_n 0, 1) := by decide +kernel
theorem dX9_common_11 : decode cX9_common 11 = .ok (.getfield 18, 3) := by decide +kernel
theorem dX9_common_14 : decode cX9_common 14 = .ok (.iload_n 1, 1) := by decide +kernel
theorem dX9_common_15 : decode cX9_common 15 = .ok (.aaload, 1) := by decide +kernel
theorem dX9_common_16 : decode cX9_common 16 = .ok (.aload_n 0, 1) := by decide +kernel
theorem dX9_common_17 : decode cX9_common 17 = .ok (.getfield 18, 3) := by decide +kernel
theorem dX9_common_20 : decode cX9_common 20 = .ok (.iload_n 2, 1) := by decide +kernel
theorem dX9_common_21 : decode cX9_common 21 = .ok (.aaload, 1) := by decide +kernel
theorem dX9_common_22 : decode cX9_common 22 = .ok (.invokevirtual 278, 3) := by decide +kernel
theorem dX9_common_25 : decode cX9_common 25 = .ok (.ireturn, 1) := by decide +kernel
theorem dX9_derived_0 : decode cX9_derived 0 = .ok (.aload_n 0, 1) := by decide +kernel
theorem dX9_derived_1 : decode cX9_derived 1 = .ok (.iload_n 1, 1) := by decide +kernel
theorem dX9_derived_2 : decode cX9_derived 2 = .ok (.ifCond .lt 13, 3) := by decide +kernel
theorem dX9_derived_5 : decode cX9_derived 5 = .ok (.iload_n 1, 1) := by decide +kernel
theorem dX9_derived_6 : decode cX9_derived 6 = .ok (.bipush 60, 2) := by decide +kernel
theorem dX9_derived_8 : decode cX9_derived 8 = .ok (.if_icmp .gt 7, 3) := by decide +kernel
theorem dX9_derived_11 : decode cX9_derived 11 = .ok (.iconst 1, 1) := by decide +kernel
theorem dX9_derived_12 : decode cX9_derived 12 = .ok (.goto 4, 3) := by decide +kernel
theorem dX9_derived_15 : decode cX9_derived 15 = .ok (.iconst 0, 1) := by decide +kernel
theorem dX9_derived_16 : decode cX9_derived 16 = .ok (.invokevirtual 102, 3) := by decide +kernel
theorem dX9_derived_19 : decode cX9_derived 19 = .ok (.aload_n 0, 1) := by decide +kernel
theorem dX9_derived_20 : decode cX9_derived 20 = .ok (.getfield 68, 3) := by decide +kernel
theorem dX9_derived_23 : decode cX9_derived 23 = .ok (.aload_n 0, 1) := by decide +kernel
theorem dX9_derived_24 : decode cX9_derived 24 = .ok (.getfield 31, 3) := by decide +kernel
theorem dX9_derived_27 : decode cX9_derived 27 = .ok (.aload_n 0, 1) := by decide +kernel
theorem dX9_derived_28 : decode cX9_derived 28 = .ok (.getfield 79, 3) := by decide +kernel
theorem dX9_derived_31 : decode cX9_derived 31 = .ok (.iload_n 1, 1) := by decide +kernel
theorem dX9_derived_32 : decode cX9_derived 32 = .ok (.iconst 0, 1) := by decide +kernel
theorem dX9_derived_33 : decode cX9_derived 33 = .ok (.invokevirtual 228, 3) := by decide +kernel
theorem dX9_derived_36 : decode cX9_derived 36 = .ok (.ireturn, 1) := by decide +kernel
theorem dX9_distance_0 : decode cX9_distance 0 = .ok (.aload_n 0, 1) := by decide +kernel
theorem dX9_distance_1 : decode cX9_distance 1 = .ok (.iload_n 1, 1) := by decide +kernel
theorem dX9_distance_2 : decode cX9_distance 2 = .ok (.invokevirtual 130, 3) := by decide +kernel
theorem dX9_distance_5 : decode cX9_distance 5 = .ok (.aload_n 0, 1) := by decide +kernel
theorem dX9_distance_6 : decode cX9_distance 6 = .ok (.iload_n 2, 1) := by decide +kernel
theorem dX9_distance_7 : decode cX9_distance 7 = .ok (.invokevirtual 130, 3) := by decide +kernel
theorem dX9_distance_10 : decode cX9_distance 10 = .ok (.aload_n 0, 1) := by decide +kernel
theorem dX9_distance_11 : decode cX9_distance 11 = .ok (.iload_n 1, 1) := by decide +kernel
theorem dX9_distance_12 : decode cX9_distance 12 = .ok (.iload_n 2, 1) := by decide +kernel
theorem dX9_distance_13 : decode cX9_distance 13 = .ok (.invokevirtual 250, 3) := by decide +kernel
theorem dX9_distance_16 : decode cX9_distance 16 = .ok (.ireturn, 1) := by decide +kernel
theorem dX9_fitting_0 : decode cX9_fitting 0 = .ok (.iconst 0, 1) := by decide +kernel
theorem dX9_fitting_1 : decode cX9_fitting 1 = .ok (.istore_n 1, 1) := by decide +kernel
theorem dX9_fitting_2 : decode cX9_fitting 2 = .ok (.iconst 0, 1) := by decide +kernel
theorem dX9_fitting_3 : decode cX9_fitting 3 = .ok (.istore_n 2, 1) := by decide +kernel
theorem dX9_fitting_4 : decode cX9_fitting 4 = .ok (.iload_n 2, 1) := by decide +kernel
theorem dX9_fitting_5 : decode cX9_fitting 5 = .ok (.aload_n 0, 1) := by decide +kernel
theorem dX9_fitting_6 : decode cX9_fitting 6 = .ok (.getfield 22, 3) := by decide +kernel
theorem dX9_fitting_9 : decode cX9_fitting 9 = .ok (.if_icmp .ge 26, 3) := by decide +kernel
theorem dX9_fitting_12 : decode cX9_fitting 12 = .ok (.aload_n 0, 1) := by decide +kernel
theorem dX9_fitting_13 : decode cX9_fitting 13 = .ok (.iload_n 2, 1) := by decide +kernel
theorem dX9_fitting_14 : decode cX9_fitting 14 = .ok (.invokevirtual 215, 3) := by decide +kernel
theorem dX9_fitting_17 : decode cX9_fitting 17 = .ok (.invokevirtual 219, 3) := by decide +kernel
theorem dX9_fitting_20 : decode cX9_fitting 20 = .ok (.ifCond .eq 9, 3) := by decide +kernel
theorem dX9_fitting_23 : decode cX9_fitting 23 = .ok (.iload_n 1, 1) := by decide +kernel
theorem dX9_fitting_24 : decode cX9_fitting 24 = .ok (.iconst 1, 1) := by decide +kernel
theorem dX9_fitting_25 : decode cX9_fitting 25 = .ok (.iload_n 2, 1) := by decide +kernel
theorem dX9_fitting_26 : decode cX9_fitting 26 = .ok (.ishl, 1) := by decide +kernel
theorem dX9_fitting_27 : decode cX9_fitting 27 = .ok (.ior, 1) := by decide +kernel
theorem dX9_fitting_28 : decode cX9_fitting 28 = .ok (.istore_n 1, 1) := by decide +kernel
theorem dX9_fitting_29 : decode cX9_fitting 29 = .ok (.iinc 2 1, 3) := by decide +kernel
theorem dX9_fitting_32 : decode cX9_fitting 32 = .ok (.goto (-28), 3) := by decide +kernel
theorem dX9_fitting_35 : decode cX9_fitting 35 = .ok (.iload_n 1, 1) := by decide +kernel
theorem dX9_fitting_36 : decode cX9_fitting 36 = .ok (.ireturn, 1) := by decide +kernel
theorem dX9_greatest_0 : decode cX9_greatest 0 = .ok (.aload_n 0, 1) := by decide +kernel
theorem dX9_greatest_1 : decode cX9_greatest 1 = .ok (.aload_n 0, 1) := by decide +kernel
theorem dX9_greatest_2 : decode cX9_greatest 2 = .ok (.getfield 31, 3) := by decide +kernel
theorem dX9_greatest_5 : decode cX9_greatest 5 = .ok (.iload_n 1, 1) := by decide +kernel
theorem dX9_greatest_6 : decode cX9_greatest 6 = .ok (.invokevirtual 209, 3) := by decide +kernel
theorem dX9_greatest_9 : decode cX9_greatest 9 = .ok (.iconst (-1), 1) := by decide +kernel
theorem dX9_greatest_10 : decode cX9_greatest 10 = .ok (.istore_n 2, 1) := by decide +kernel
theorem dX9_greatest_11 : decode cX9_greatest 11 = .ok (.iconst 0, 1) := by decide +kernel
theorem dX9_greatest_12 : decode cX9_greatest 12 = .ok (.istore_n 3, 1) := by decide +kernel
theorem dX9_greatest_13 : decode cX9_greatest 13 = .ok (.iload_n 3, 1) := by decide +kernel
theorem dX9_greatest_14 : decode cX9_greatest 14 = .ok (.aload_n 0, 1) := by decide +kernel
theorem dX9_greatest_15 : decode cX9_greatest 15 = .ok (.getfield 22, 3) := by decide +kernel
theorem dX9_greatest_18 : decode cX9_greatest 18 = .ok (.if_icmp .ge 36, 3) := by decide +kernel
theorem dX9_greatest_21 : decode cX9_greatest 21 = .ok (.aload_n 0, 1) := by decide +kernel
theorem dX9_greatest_22 : decode cX9_greatest 22 = .ok (.iload_n 3, 1) := by decide +kernel
theorem dX9_greatest_23 : decode cX9_greatest 23 = .ok (.invokevirtual 215, 3) := by decide +kernel
theorem dX9_greatest_26 : decode cX9_greatest 26 = .ok (.astore 4, 2) := by decide +kernel
theorem dX9_greatest_28 : decode cX9_greatest 28 = .ok (.aload 4, 2) := by decide +kernel
theorem dX9_greatest_30 : decode cX9_greatest 30 = .ok (.invokevirtual 219, 3) := by decide +kernel
theorem dX9_greatest_33 : decode cX9_greatest 33 = .ok (.ifCond .eq 15, 3) := by decide +kernel
theorem dX9_greatest_36 : decode cX9_greatest 36 = .ok (.iload_n 2, 1) := by decide +kernel
theorem dX9_greatest_37 : decode cX9_greatest 37 = .ok (.aload 4, 2) := by decide +kernel
theorem dX9_greatest_39 : decode cX9_greatest 39 = .ok (.getfield 235, 3) := by decide +kernel
theorem dX9_greatest_42 : decode cX9_greatest 42 = .ok (.iload_n 1, 1) := by decide +kernel
theorem dX9_greatest_43 : decode cX9_greatest 43 = .ok (.iaload, 1) := by decide +kernel
theorem dX9_greatest_44 : decode cX9_greatest 44 = .ok (.invokestatic 291, 3) := by decide +kernel
theorem dX9_greatest_47 : decode cX9_greatest 47 = .ok (.istore_n 2, 1) := by decide +kernel
theorem dX9_greatest_48 : decode cX9_greatest 48 = .ok (.iinc 3 1, 3) := by decide +kernel
theorem dX9_greatest_51 : decode cX9_greatest 51 = .ok (.goto (-38), 3) := by decide +kernel
theorem dX9_greatest_54 : decode cX9_greatest 54 = .ok (.iload_n 2, 1) := by decide +kernel
theorem dX9_greatest_55 : decode cX9_greatest 55 = .ok (.ireturn, 1) := by decide +kernel
theorem dX9_lay_0 : decode cX9_lay 0 = .ok (.aload_n 0, 1) := by decide +kernel
theorem dX9_lay_1 : decode cX9_lay 1 = .ok (.iload_n 1, 1) := by decide +kernel
theorem dX9_lay_2 : decode cX9_lay 2 = .ok (.invokevirtual 130, 3) := by decide +kernel
theorem dX9_lay_5 : decode cX9_lay 5 = .ok (.aload_n 0, 1) := by decide +kernel
theorem dX9_lay_6 : decode cX9_lay 6 = .ok (.iload_n 1, 1) := by decide +kernel
theorem dX9_lay_7 : decode cX9_lay 7 = .ok (.invokevirtual 133, 3) := by decide +kernel
theorem dX9_lay_10 : decode cX9_lay 10 = .ok (.istore_n 2, 1) := by decide +kernel
theorem dX9_lay_11 : decode cX9_lay 11 = .ok (.aload_n 0, 1) := by decide +kernel
theorem dX9_lay_12 : decode cX9_lay 12 = .ok (.aload_n 0, 1) := by decide +kernel
theorem dX9_lay_13 : decode cX9_lay 13 = .ok (.getfield 35, 3) := by decide +kernel
theorem dX9_lay_16 : decode cX9_lay 16 = .ok (.invokevirtual 136, 3) := by decide +kernel
theorem dX9_lay_19 : decode cX9_lay 19 = .ok (.sipush 160, 3) := by decide +kernel
theorem dX9_lay_22 : decode cX9_lay 22 = .ok (.if_icmp .gt 17, 3) := by decide +kernel
theorem dX9_lay_25 : decode cX9_lay 25 = .ok (.aload_n 0, 1) := by decide +kernel
theorem dX9_lay_26 : decode cX9_lay 26 = .ok (.getfield 35, 3) := by decide +kernel
theorem dX9_lay_29 : decode cX9_lay 29 = .ok (.getfield 140, 3) := by decide +kernel
theorem dX9_lay_32 : decode cX9_lay 32 = .ok (.ifCond .ne 7, 3) := by decide +kernel
theorem dX9_lay_35 : decode cX9_lay 35 = .ok (.iconst 1, 1) := by decide +kernel
theorem dX9_lay_36 : decode cX9_lay 36 = .ok (.goto 4, 3) := by decide +kernel
theorem dX9_lay_39 : decode cX9_lay 39 = .ok (.iconst 0, 1) := by decide +kernel
theorem dX9_lay_40 : decode cX9_lay 40 = .ok (.invokevirtual 106, 3) := by decide +kernel
theorem dX9_lay_43 : decode cX9_lay 43 = .ok (.aload_n 0, 1) := by decide +kernel
theorem dX9_lay_44 : decode cX9_lay 44 = .ok (.getfield 47, 3) := by decide +kernel
theorem dX9_lay_47 : decode cX9_lay 47 = .ok (.aload_n 0, 1) := by decide +kernel
theorem dX9_lay_48 : decode cX9_lay 48 = .ok (.getfield 31, 3) := by decide +kernel
theorem dX9_lay_51 : decode cX9_lay 51 = .ok (.aload_n 0, 1) := by decide +kernel
theorem dX9_lay_52 : decode cX9_lay 52 = .ok (.getfield 38, 3) := by decide +kernel
theorem dX9_lay_55 : decode cX9_lay 55 = .ok (.invokevirtual 144, 3) := by decide +kernel
theorem dX9_lay_58 : decode cX9_lay 58 = .ok (.aload_n 0, 1) := by decide +kernel
theorem dX9_lay_59 : decode cX9_lay 59 = .ok (.getfield 31, 3) := by decide +kernel
theorem dX9_lay_62 : decode cX9_lay 62 = .ok (.aload_n 0, 1) := by decide +kernel
theorem dX9_lay_63 : decode cX9_lay 63 = .ok (.getfield 35, 3) := by decide +kernel
theorem dX9_lay_66 : decode cX9_lay 66 = .ok (.invokevirtual 148, 3) := by decide +kernel
theorem dX9_lay_69 : decode cX9_lay 69 = .ok (.aload_n 0, 1) := by decide +kernel
theorem dX9_lay_70 : decode cX9_lay 70 = .ok (.dup, 1) := by decide +kernel
theorem dX9_lay_71 : decode cX9_lay 71 = .ok (.getfield 38, 3) := by decide +kernel
theorem dX9_lay_74 : decode cX9_lay 74 = .ok (.iload_n 2, 1) := by decide +kernel
theorem dX9_lay_75 : decode cX9_lay 75 = .ok (.iadd, 1) := by decide +kernel
theorem dX9_lay_76 : decode cX9_lay 76 = .ok (.putfield 38, 3) := by decide +kernel
theorem dX9_lay_79 : decode cX9_lay 79 = .ok (.aload_n 0, 1) := by decide +kernel
theorem dX9_lay_80 : decode cX9_lay 80 = .ok (.dup, 1) := by decide +kernel
theorem dX9_lay_81 : decode cX9_lay 81 = .ok (.getfield 41, 3) := by decide +kernel
theorem dX9_lay_84 : decode cX9_lay 84 = .ok (.iconst 1, 1) := by decide +kernel
theorem dX9_lay_85 : decode cX9_lay 85 = .ok (.iadd, 1) := by decide +kernel
theorem dX9_lay_86 : decode cX9_lay 86 = .ok (.putfield 41, 3) := by decide +kernel
theorem dX9_lay_89 : decode cX9_lay 89 = .ok (.iload_n 2, 1) := by decide +kernel
theorem dX9_lay_90 : decode cX9_lay 90 = .ok (.ireturn, 1) := by decide +kernel
theorem dX9_nearest_0 : decode cX9_nearest 0 = .ok (.aload_n 0, 1) := by decide +kernel
theorem dX9_nearest_1 : decode cX9_nearest 1 = .ok (.iload_n 1, 1) := by decide +kernel
theorem dX9_nearest_2 : decode cX9_nearest 2 = .ok (.invokevirtual 130, 3) := by decide +kernel
theorem dX9_nearest_5 : decode cX9_nearest 5 = .ok (.iconst (-1), 1) := by decide +kernel
theorem dX9_nearest_6 : decode cX9_nearest 6 = .ok (.istore_n 2, 1) := by decide +kernel
theorem dX9_nearest_7 : decode cX9_nearest 7 = .ok (.ldc 253, 2) := by decide +kernel
theorem dX9_nearest_9 : decode cX9_nearest 9 = .ok (.istore_n 3, 1) := by decide +kernel
theorem dX9_nearest_10 : decode cX9_nearest 10 = .ok (.iconst 0, 1) := by decide +kernel
theorem dX9_nearest_11 : decode cX9_nearest 11 = .ok (.istore 4, 2) := by decide +kernel
theorem dX9_nearest_13 : decode cX9_nearest 13 = .ok (.iload 4, 2) := by decide +kernel
theorem dX9_nearest_15 : decode cX9_nearest 15 = .ok (.aload_n 0, 1) := by decide +kernel
theorem dX9_nearest_16 : decode cX9_nearest 16 = .ok (.getfield 22, 3) := by decide +kernel
theorem dX9_nearest_19 : decode cX9_nearest 19 = .ok (.if_icmp .ge 36, 3) := by decide +kernel
theorem dX9_nearest_22 : decode cX9_nearest 22 = .ok (.iload 4, 2) := by decide +kernel
theorem dX9_nearest_24 : decode cX9_nearest 24 = .ok (.iload_n 1, 1) := by decide +kernel
theorem dX9_nearest_25 : decode cX9_nearest 25 = .ok (.if_icmp .eq 24, 3) := by decide +kernel
theorem dX9_nearest_28 : decode cX9_nearest 28 = .ok (.aload_n 0, 1) := by decide +kernel
theorem dX9_nearest_29 : decode cX9_nearest 29 = .ok (.iload_n 1, 1) := by decide +kernel
theorem dX9_nearest_30 : decode cX9_nearest 30 = .ok (.iload 4, 2) := by decide +kernel
theorem dX9_nearest_32 : decode cX9_nearest 32 = .ok (.invokevirtual 250, 3) := by decide +kernel
theorem dX9_nearest_35 : decode cX9_nearest 35 = .ok (.istore 5, 2) := by decide +kernel
theorem dX9_nearest_37 : decode cX9_nearest 37 = .ok (.iload 5, 2) := by decide +kernel
theorem dX9_nearest_39 : decode cX9_nearest 39 = .ok (.iload_n 3, 1) := by decide +kernel
theorem dX9_nearest_40 : decode cX9_nearest 40 = .ok (.if_icmp .ge 9, 3) := by decide +kernel
theorem dX9_nearest_43 : decode cX9_nearest 43 = .ok (.iload 5, 2) := by decide +kernel
theorem dX9_nearest_45 : decode cX9_nearest 45 = .ok (.istore_n 3, 1) := by decide +kernel
theorem dX9_nearest_46 : decode cX9_nearest 46 = .ok (.iload 4, 2) := by decide +kernel
theorem dX9_nearest_48 : decode cX9_nearest 48 = .ok (.istore_n 2, 1) := by decide +kernel
theorem dX9_nearest_49 : decode cX9_nearest 49 = .ok (.iinc 4 1, 3) := by decide +kernel
theorem dX9_nearest_52 : decode cX9_nearest 52 = .ok (.goto (-39), 3) := by decide +kernel
theorem dX9_nearest_55 : decode cX9_nearest 55 = .ok (.iload_n 2, 1) := by decide +kernel
theorem dX9_nearest_56 : decode cX9_nearest 56 = .ok (.ireturn, 1) := by decide +kernel
theorem dX9_orders_0 : decode cX9_orders 0 = .ok (.aload_n 0, 1) := by decide +kernel
theorem dX9_orders_1 : decode cX9_orders 1 = .ok (.iload_n 1, 1) := by decide +kernel
theorem dX9_orders_2 : decode cX9_orders 2 = .ok (.ifCond .lt 12, 3) := by decide +kernel
theorem dX9_orders_5 : decode cX9_orders 5 = .ok (.iload_n 1, 1) := by decide +kernel
theorem dX9_orders_6 : decode cX9_orders 6 = .ok (.iconst 3, 1) := by decide +kernel
theorem dX9_orders_7 : decode cX9_orders 7 = .ok (.if_icmp .gt 7, 3) := by decide +kernel
theorem dX9_orders_10 : decode cX9_orders 10 = .ok (.iconst 1, 1) := by decide +kernel
theorem dX9_orders_11 : decode cX9_orders 11 = .ok (.goto 4, 3) := by decide +kernel
theorem dX9_orders_14 : decode cX9_orders 14 = .ok (.iconst 0, 1) := by decide +kernel
theorem dX9_orders_15 : decode cX9_orders 15 = .ok (.invokevirtual 102, 3) := by decide +kernel
theorem dX9_orders_18 : decode cX9_orders 18 = .ok (.aload_n 0, 1) := by decide +kernel
theorem dX9_orders_19 : decode cX9_orders 19 = .ok (.aload_n 0, 1) := by decide +kernel
theorem dX9_orders_20 : decode cX9_orders 20 = .ok (.getfield 22, 3) := by decide +kernel
theorem dX9_orders_23 : decode cX9_orders 23 = .ok (.iconst 1, 1) := by decide +kernel
theorem dX9_orders_24 : decode cX9_orders 24 = .ok (.if_icmp .lt 15, 3) := by decide +kernel
theorem dX9_orders_27 : decode cX9_orders 27 = .ok (.aload_n 0, 1) := by decide +kernel
theorem dX9_orders_28 : decode cX9_orders 28 = .ok (.getfield 22, 3) := by decide +kernel
theorem dX9_orders_31 : decode cX9_orders 31 = .ok (.iconst 4, 1) := by decide +kernel
theorem dX9_orders_32 : decode cX9_orders 32 = .ok (.if_icmp .gt 7, 3) := by decide +kernel
theorem dX9_orders_35 : decode cX9_orders 35 = .ok (.iconst 1, 1) := by decide +kernel
theorem dX9_orders_36 : decode cX9_orders 36 = .ok (.goto 4, 3) := by decide +kernel
theorem dX9_orders_39 : decode cX9_orders 39 = .ok (.iconst 0, 1) := by decide +kernel
theorem dX9_orders_40 : decode cX9_orders 40 = .ok (.invokevirtual 106, 3) := by decide +kernel
theorem dX9_orders_43 : decode cX9_orders 43 = .ok (.aload_n 0, 1) := by decide +kernel
theorem dX9_orders_44 : decode cX9_orders 44 = .ok (.getfield 75, 3) := by decide +kernel
theorem dX9_orders_47 : decode cX9_orders 47 = .ok (.getfield 254, 3) := by decide +kernel
theorem dX9_orders_50 : decode cX9_orders 50 = .ok (.aload_n 0, 1) := by decide +kernel
theorem dX9_orders_51 : decode cX9_orders 51 = .ok (.getfield 22, 3) := by decide +kernel
theorem dX9_orders_54 : decode cX9_orders 54 = .ok (.if_icmp .eq 22, 3) := by decide +kernel
theorem dX9_orders_57 : decode cX9_orders 57 = .ok (.aload_n 0, 1) := by decide +kernel
theorem dX9_orders_58 : decode cX9_orders 58 = .ok (.getfield 75, 3) := by decide +kernel
theorem dX9_orders_61 : decode cX9_orders 61 = .ok (.aload_n 0, 1) := by decide +kernel
theorem dX9_orders_62 : decode cX9_orders 62 = .ok (.getfield 18, 3) := by decide +kernel
theorem dX9_orders_65 : decode cX9_orders 65 = .ok (.aload_n 0, 1) := by decide +kernel
theorem dX9_orders_66 : decode cX9_orders 66 = .ok (.getfield 22, 3) := by decide +kernel
theorem dX9_orders_69 : decode cX9_orders 69 = .ok (.aload_n 0, 1) := by decide +kernel
theorem dX9_orders_70 : decode cX9_orders 70 = .ok (.getfield 61, 3) := by decide +kernel
theorem dX9_orders_73 : decode cX9_orders 73 = .ok (.invokevirtual 257, 3) := by decide +kernel
theorem dX9_orders_76 : decode cX9_orders 76 = .ok (.aload_n 0, 1) := by decide +kernel
theorem dX9_orders_77 : decode cX9_orders 77 = .ok (.getfield 75, 3) := by decide +kernel
theorem dX9_orders_80 : decode cX9_orders 80 = .ok (.getfield 261, 3) := by decide +kernel
theorem dX9_orders_83 : decode cX9_orders 83 = .ok (.iload_n 1, 1) := by decide +kernel
theorem dX9_orders_84 : decode cX9_orders 84 = .ok (.iaload, 1) := by decide +kernel
theorem dX9_orders_85 : decode cX9_orders 85 = .ok (.ireturn, 1) := by decide +kernel
theorem dX9_tidied_0 : decode cX9_tidied 0 = .ok (.aload_n 0, 1) := by decide +kernel
theorem dX9_tidied_1 : decode cX9_tidied 1 = .ok (.iload_n 1, 1) := by decide +kernel
theorem dX9_tidied_2 : decode cX9_tidied 2 = .ok (.ifCond .lt 12, 3) := by decide +kernel
theorem dX9_tidied_5 : decode cX9_tidied 5 = .ok (.iload_n 1, 1) := by decide +kernel
theorem dX9_tidied_6 : decode cX9_tidied 6 = .ok (.iconst 3, 1) := by decide +kernel
theorem dX9_tidied_7 : decode cX9_tidied 7 = .ok (.if_icmp .gt 7, 3) := by decide +kernel
theorem dX9_tidied_10 : decode cX9_tidied 10 = .ok (.iconst 1, 1) := by decide +kernel
theorem dX9_tidied_11 : decode cX9_tidied 11 = .ok (.goto 4, 3) := by decide +kernel
theorem dX9_tidied_14 : decode cX9_tidied 14 = .ok (.iconst 0, 1) := by decide +kernel
theorem dX9_tidied_15 : decode cX9_tidied 15 = .ok (.invokevirtual 102, 3) := by decide +kernel
theorem dX9_tidied_18 : decode cX9_tidied 18 = .ok (.aload_n 0, 1) := by decide +kernel
theorem dX9_tidied_19 : decode cX9_tidied 19 = .ok (.invokevirtual 152, 3) := by decide +kernel
theorem dX9_tidied_22 : decode cX9_tidied 22 = .ok (.istore_n 2, 1) := by decide +kernel
theorem dX9_tidied_23 : decode cX9_tidied 23 = .ok (.iload_n 1, 1) := by decide +kernel
theorem dX9_tidied_24 : decode cX9_tidied 24 = .ok (.tableswitch 46 0 2 #[28, 30, 38], 28) := by decide +kernel
theorem dX9_tidied_52 : decode cX9_tidied 52 = .ok (.iload_n 2, 1) := by decide +kernel
theorem dX9_tidied_53 : decode cX9_tidied 53 = .ok (.ireturn, 1) := by decide +kernel
theorem dX9_tidied_54 : decode cX9_tidied 54 = .ok (.aload_n 0, 1) := by decide +kernel
theorem dX9_tidied_55 : decode cX9_tidied 55 = .ok (.getfield 35, 3) := by decide +kernel
theorem dX9_tidied_58 : decode cX9_tidied 58 = .ok (.invokevirtual 136, 3) := by decide +kernel
theorem dX9_tidied_61 : decode cX9_tidied 61 = .ok (.ireturn, 1) := by decide +kernel
theorem dX9_tidied_62 : decode cX9_tidied 62 = .ok (.aload_n 0, 1) := by decide +kernel
theorem dX9_tidied_63 : decode cX9_tidied 63 = .ok (.getfield 35, 3) := by decide +kernel
theorem dX9_tidied_66 : decode cX9_tidied 66 = .ok (.getfield 155, 3) := by decide +kernel
theorem dX9_tidied_69 : decode cX9_tidied 69 = .ok (.ireturn, 1) := by decide +kernel
theorem dX9_tidied_70 : decode cX9_tidied 70 = .ok (.aload_n 0, 1) := by decide +kernel
theorem dX9_tidied_71 : decode cX9_tidied 71 = .ok (.aload_n 0, 1) := by decide +kernel
theorem dX9_tidied_72 : decode cX9_tidied 72 = .ok (.getfield 35, 3) := by decide +kernel
theorem dX9_tidied_75 : decode cX9_tidied 75 = .ok (.invokevirtual 158, 3) := by decide +kernel
theorem dX9_tidied_78 : decode cX9_tidied 78 = .ok (.ireturn, 1) := by decide +kernel
theorem dX9_tidy_0 : decode cX9_tidy 0 = .ok (.aload_n 0, 1) := by decide +kernel
theorem dX9_tidy_1 : decode cX9_tidy 1 = .ok (.invokevirtual 152, 3) := by decide +kernel
theorem dX9_tidy_4 : decode cX9_tidy 4 = .ok (.istore_n 1, 1) := by decide +kernel
theorem dX9_tidy_5 : decode cX9_tidy 5 = .ok (.iload_n 1, 1) := by decide +kernel
theorem dX9_tidy_6 : decode cX9_tidy 6 = .ok (.ifCond .le 39, 3) := by decide +kernel
theorem dX9_tidy_9 : decode cX9_tidy 9 = .ok (.aload_n 0, 1) := by decide +kernel
theorem dX9_tidy_10 : decode cX9_tidy 10 = .ok (.getfield 47, 3) := by decide +kernel
theorem dX9_tidy_13 : decode cX9_tidy 13 = .ok (.aload_n 0, 1) := by decide +kernel
theorem dX9_tidy_14 : decode cX9_tidy 14 = .ok (.getfield 31, 3) := by decide +kernel
theorem dX9_tidy_17 : decode cX9_tidy 17 = .ok (.aload_n 0, 1) := by decide +kernel
theorem dX9_tidy_18 : decode cX9_tidy 18 = .ok (.getfield 38, 3) := by decide +kernel
theorem dX9_tidy_21 : decode cX9_tidy 21 = .ok (.invokevirtual 144, 3) := by decide +kernel
theorem dX9_tidy_24 : decode cX9_tidy 24 = .ok (.aload_n 0, 1) := by decide +kernel
theorem dX9_tidy_25 : decode cX9_tidy 25 = .ok (.getfield 31, 3) := by decide +kernel
theorem dX9_tidy_28 : decode cX9_tidy 28 = .ok (.aload_n 0, 1) := by decide +kernel
theorem dX9_tidy_29 : decode cX9_tidy 29 = .ok (.getfield 35, 3) := by decide +kernel
theorem dX9_tidy_32 : decode cX9_tidy 32 = .ok (.invokevirtual 148, 3) := by decide +kernel
theorem dX9_tidy_35 : decode cX9_tidy 35 = .ok (.aload_n 0, 1) := by decide +kernel
theorem dX9_tidy_36 : decode cX9_tidy 36 = .ok (.dup, 1) := by decide +kernel
theorem dX9_tidy_37 : decode cX9_tidy 37 = .ok (.getfield 41, 3) := by decide +kernel
theorem dX9_tidy_40 : decode cX9_tidy 40 = .ok (.iconst 1, 1) := by decide +kernel
theorem dX9_tidy_41 : decode cX9_tidy 41 = .ok (.iadd, 1) := by decide +kernel
theorem dX9_tidy_42 : decode cX9_tidy 42 = .ok (.putfield 41, 3) := by decide +kernel
theorem dX9_tidy_45 : decode cX9_tidy 45 = .ok (.iload_n 1, 1) := by decide +kernel
theorem dX9_tidy_46 : decode cX9_tidy 46 = .ok (.ireturn, 1) := by decide +kernel
theorem dX9_undo_0 : decode cX9_undo 0 = .ok (.aload_n 0, 1) := by decide +kernel
theorem dX9_undo_1 : decode cX9_undo 1 = .ok (.getfield 47, 3) := by decide +kernel
theorem dX9_undo_4 : decode cX9_undo 4 = .ok (.getfield 162, 3) := by decide +kernel
theorem dX9_undo_7 : decode cX9_undo 7 = .ok (.ifCond .ne 5, 3) := by decide +kernel
theorem dX9_undo_10 : decode cX9_undo 10 = .ok (.iconst (-1), 1) := by decide +kernel
theorem dX9_undo_11 : decode cX9_undo 11 = .ok (.ireturn, 1) := by decide +kernel
theorem dX9_undo_12 : decode cX9_undo 12 = .ok (.aload_n 0, 1) := by decide +kernel
theorem dX9_undo_13 : decode cX9_undo 13 = .ok (.aload_n 0, 1) := by decide +kernel
theorem dX9_undo_14 : decode cX9_undo 14 = .ok (.getfield 47, 3) := by decide +kernel
theorem dX9_undo_17 : decode cX9_undo 17 = .ok (.aload_n 0, 1) := by decide +kernel
theorem dX9_undo_18 : decode cX9_undo 18 = .ok (.getfield 31, 3) := by decide +kernel
theorem dX9_undo_21 : decode cX9_undo 21 = .ok (.invokevirtual 165, 3) := by decide +kernel
theorem dX9_undo_24 : decode cX9_undo 24 = .ok (.putfield 38, 3) := by decide +kernel
theorem dX9_undo_27 : decode cX9_undo 27 = .ok (.aload_n 0, 1) := by decide +kernel
theorem dX9_undo_28 : decode cX9_undo 28 = .ok (.dup, 1) := by decide +kernel
theorem dX9_undo_29 : decode cX9_undo 29 = .ok (.getfield 41, 3) := by decide +kernel
theorem dX9_undo_32 : decode cX9_undo 32 = .ok (.iconst 1, 1) := by decide +kernel
theorem dX9_undo_33 : decode cX9_undo 33 = .ok (.iadd, 1) := by decide +kernel
theorem dX9_undo_34 : decode cX9_undo 34 = .ok (.putfield 41, 3) := by decide +kernel
theorem dX9_undo_37 : decode cX9_undo 37 = .ok (.aload_n 0, 1) := by decide +kernel
theorem dX9_undo_38 : decode cX9_undo 38 = .ok (.getfield 31, 3) := by decide +kernel
theorem dX9_undo_41 : decode cX9_undo 41 = .ok (.invokevirtual 136, 3) := by decide +kernel
theorem dX9_undo_44 : decode cX9_undo 44 = .ok (.ireturn, 1) := by decide +kernel
theorem dX9_users_0 : decode cX9_users 0 = .ok (.aload_n 0, 1) := by decide +kernel
theorem dX9_users_1 : decode cX9_users 1 = .ok (.aload_n 0, 1) := by decide +kernel
theorem dX9_users_2 : decode cX9_users 2 = .ok (.getfield 31, 3) := by decide +kernel
theorem dX9_users_5 : decode cX9_users 5 = .ok (.iload_n 1, 1) := by decide +kernel
theorem dX9_users_6 : decode cX9_users 6 = .ok (.invokevirtual 209, 3) := by decide +kernel
theorem dX9_users_9 : decode cX9_users 9 = .ok (.iconst 0, 1) := by decide +kernel
theorem dX9_users_10 : decode cX9_users 10 = .ok (.istore_n 2, 1) := by decide +kernel
theorem dX9_users_11 : decode cX9_users 11 = .ok (.iconst 0, 1) := by decide +kernel
theorem dX9_users_12 : decode cX9_users 12 = .ok (.istore_n 3, 1) := by decide +kernel
theorem dX9_users_13 : decode cX9_users 13 = .ok (.iload_n 3, 1) := by decide +kernel
theorem dX9_users_14 : decode cX9_users 14 = .ok (.aload_n 0, 1) := by decide +kernel
theorem dX9_users_15 : decode cX9_users 15 = .ok (.getfield 22, 3) := by decide +kernel
theorem dX9_users_18 : decode cX9_users 18 = .ok (.if_icmp .ge 40, 3) := by decide +kernel
theorem dX9_users_21 : decode cX9_users 21 = .ok (.aload_n 0, 1) := by decide +kernel
theorem dX9_users_22 : decode cX9_users 22 = .ok (.iload_n 3, 1) := by decide +kernel
theorem dX9_users_23 : decode cX9_users 23 = .ok (.invokevirtual 215, 3) := by decide +kernel
theorem dX9_users_26 : decode cX9_users 26 = .ok (.astore 4, 2) := by decide +kernel
theorem dX9_users_28 : decode cX9_users 28 = .ok (.aload 4, 2) := by decide +kernel
theorem dX9_users_30 : decode cX9_users 30 = .ok (.invokevirtual 219, 3) := by decide +kernel
theorem dX9_users_33 : decode cX9_users 33 = .ok (.ifCond .eq 19, 3) := by decide +kernel
theorem dX9_users_36 : decode cX9_users 36 = .ok (.aload 4, 2) := by decide +kernel
theorem dX9_users_38 : decode cX9_users 38 = .ok (.getfield 235, 3) := by decide +kernel
theorem dX9_users_41 : decode cX9_users 41 = .ok (.iload_n 1, 1) := by decide +kernel
theorem dX9_users_42 : decode cX9_users 42 = .ok (.iaload, 1) := by decide +kernel
theorem dX9_users_43 : decode cX9_users 43 = .ok (.ifCond .le 9, 3) := by decide +kernel
theorem dX9_users_46 : decode cX9_users 46 = .ok (.iload_n 2, 1) := by decide +kernel
theorem dX9_users_47 : decode cX9_users 47 = .ok (.iconst 1, 1) := by decide +kernel
theorem dX9_users_48 : decode cX9_users 48 = .ok (.iload_n 3, 1) := by decide +kernel
theorem dX9_users_49 : decode cX9_users 49 = .ok (.ishl, 1) := by decide +kernel
theorem dX9_users_50 : decode cX9_users 50 = .ok (.ior, 1) := by decide +kernel
theorem dX9_users_51 : decode cX9_users 51 = .ok (.istore_n 2, 1) := by decide +kernel
theorem dX9_users_52 : decode cX9_users 52 = .ok (.iinc 3 1, 3) := by decide +kernel
theorem dX9_users_55 : decode cX9_users 55 = .ok (.goto (-42), 3) := by decide +kernel
theorem dX9_users_58 : decode cX9_users 58 = .ok (.iload_n 2, 1) := by decide +kernel
theorem dX9_users_59 : decode cX9_users 59 = .ok (.ireturn, 1) := by decide +kernel
theorem dX9_would_0 : decode cX9_would 0 = .ok (.aload_n 0, 1) := by decide +kernel
theorem dX9_would_1 : decode cX9_would 1 = .ok (.iload_n 1, 1) := by decide +kernel
theorem dX9_would_2 : decode cX9_would 2 = .ok (.invokevirtual 130, 3) := by decide +kernel
theorem dX9_would_5 : decode cX9_would 5 = .ok (.aload_n 0, 1) := by decide +kernel
theorem dX9_would_6 : decode cX9_would 6 = .ok (.iload_n 2, 1) := by decide +kernel
theorem dX9_would_7 : decode cX9_would 7 = .ok (.ifCond .lt 12, 3) := by decide +kernel
theorem dX9_would_10 : decode cX9_would 10 = .ok (.iload_n 2, 1) := by decide +kernel
theorem dX9_would_11 : decode cX9_would 11 = .ok (.iconst 2, 1) := by decide +kernel
theorem dX9_would_12 : decode cX9_would 12 = .ok (.if_icmp .gt 7, 3) := by decide +kernel
theorem dX9_would_15 : decode cX9_would 15 = .ok (.iconst 1, 1) := by decide +kernel
theorem dX9_would_16 : decode cX9_would 16 = .ok (.goto 4, 3) := by decide +kernel
theorem dX9_would_19 : decode cX9_would 19 = .ok (.iconst 0, 1) := by decide +kernel
theorem dX9_would_20 : decode cX9_would 20 = .ok (.invokevirtual 102, 3) := by decide +kernel
theorem dX9_would_23 : decode cX9_would 23 = .ok (.aload_n 0, 1) := by decide +kernel
theorem dX9_would_24 : decode cX9_would 24 = .ok (.iload_n 1, 1) := by decide +kernel
theorem dX9_would_25 : decode cX9_would 25 = .ok (.invokevirtual 133, 3) := by decide +kernel
theorem dX9_would_28 : decode cX9_would 28 = .ok (.istore_n 3, 1) := by decide +kernel
theorem dX9_would_29 : decode cX9_would 29 = .ok (.iload_n 2, 1) := by decide +kernel
theorem dX9_would_30 : decode cX9_would 30 = .ok (.lookupswitch 36 #[(0, 26), (1, 28)], 26) := by decide +kernel
theorem dX9_would_56 : decode cX9_would 56 = .ok (.iload_n 3, 1) := by decide +kernel
theorem dX9_would_57 : decode cX9_would 57 = .ok (.ireturn, 1) := by decide +kernel
theorem dX9_would_58 : decode cX9_would 58 = .ok (.aload_n 0, 1) := by decide +kernel
theorem dX9_would_59 : decode cX9_would 59 = .ok (.getfield 35, 3) := by decide +kernel
theorem dX9_would_62 : decode cX9_would 62 = .ok (.invokevirtual 136, 3) := by decide +kernel
theorem dX9_would_65 : decode cX9_would 65 = .ok (.ireturn, 1) := by decide +kernel
theorem dX9_would_66 : decode cX9_would 66 = .ok (.aload_n 0, 1) := by decide +kernel
theorem dX9_would_67 : decode cX9_would 67 = .ok (.getfield 35, 3) := by decide +kernel
theorem dX9_would_70 : decode cX9_would 70 = .ok (.getfield 155, 3) := by decide +kernel
theorem dX9_would_73 : decode cX9_would 73 = .ok (.ireturn, 1) := by decide +kernel
/-! public methods that change something -/
theorem rG_sz {μ : va_M} {q rm : Nat} (h : rG μ q rm) : 0 ≤ μ (q + 3) (μ q 5).toNat ∧ μ (q + 3) (μ q 5).toNat ≤ rm := by
  have hl := rG_len h
  have a := rG_ah h (i := (μ q 5).toNat) (by omega)
  have b := aL_b (μ (q + 1)) 0 (μ q 5).toNat
  have e0 : aL (μ (q + 1)) 0 = 0 := rfl
  rw [Nat.zero_add] at b
  omega
theorem CI_r12 {T : List Tk} {μ u : va_M} (hI : CI T μ) (h : CI0 T u) (hf : fr (fun x _ => 12 ≤ x ∧ x ≤ 44 ∧ x ≠ 37) μ u) : CI T u ∧ SY μ u := ⟨CI_up h hI (fun x y q n => hf _ _ (by unfold Zc at q; omega)), fun x y q => hf _ _ (by omega)⟩

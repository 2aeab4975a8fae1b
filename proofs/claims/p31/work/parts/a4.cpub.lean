set_option maxRecDepth 100000 in
theorem k40 : (Cond.fieldLink "PageSkeleton" (174 : Nat) "PageSkeleton$Texts" "tokens" "I") ∈ wsG := wsG_a1 40 rfl rfl
set_option maxRecDepth 100000 in
theorem k46 : (Cond.fieldLink "PageSkeleton" (127 : Nat) "PageSkeleton$Texts" "faultPlace" "I") ∈ wsG := wsG_a1 46 rfl rfl
set_option maxRecDepth 100000 in
theorem k91 : (Cond.fieldLink "PageSkeleton" (268 : Nat) "PageSkeleton$Row" "place" "[I") ∈ wsG := wsG_a1 91 rfl rfl
set_option maxRecDepth 100000 in
theorem k135 : (Cond.fieldLink "PageSkeleton" (162 : Nat) "PageSkeleton$Past" "count" "I") ∈ wsG := wsG_a1 135 rfl rfl
set_option maxRecDepth 100000 in
theorem k275 : (Cond.fieldLink "PageSkeleton" (232 : Nat) "PageSkeleton$Walk" "wayCount" "I") ∈ wsG := wsG_a2 35 rfl rfl
set_option maxRecDepth 100000 in
theorem k278 : (Cond.fieldLink "PageSkeleton" (244 : Nat) "PageSkeleton$Walk" "takers" "[I") ∈ wsG := wsG_a2 38 rfl rfl
set_option maxRecDepth 100000 in
theorem k281 : (Cond.fieldLink "PageSkeleton" (235 : Nat) "PageSkeleton$Walk" "there" "[I") ∈ wsG := wsG_a2 41 rfl rfl
set_option maxRecDepth 100000 in
theorem k284 : (Cond.fieldLink "PageSkeleton" (241 : Nat) "PageSkeleton$Walk" "passed" "[I") ∈ wsG := wsG_a2 44 rfl rfl
set_option maxRecDepth 100000 in
theorem k297 : (Cond.fieldLink "PageSkeleton" (191 : Nat) "PageSkeleton$Leaf" "tokens" "[I") ∈ wsG := wsG_a2 57 rfl rfl
set_option maxRecDepth 100000 in
theorem k306 : (Cond.fieldLink "PageSkeleton" (288 : Nat) "PageSkeleton$Leaf" "steps" "[I") ∈ wsG := wsG_a2 66 rfl rfl
set_option maxRecDepth 100000 in
theorem k308 : (Cond.fieldLink "PageSkeleton" (285 : Nat) "PageSkeleton$Leaf" "stepCount" "I") ∈ wsG := wsG_a2 68 rfl rfl
set_option maxRecDepth 100000 in
theorem k513 : (Cond.methodLink "PageSkeleton" (136 : Nat) ({ cls := "PageSkeleton$Row", name := "size", desc := "()I" } : MethodName)) ∈ wsG := wsG_a3 33 rfl rfl
set_option maxRecDepth 100000 in
theorem k514 : (Cond.instanceMethod ({ cls := "PageSkeleton$Row", name := "size", desc := "()I" } : MethodName)) ∈ wsG := wsG_a3 34 rfl rfl
set_option maxRecDepth 100000 in
theorem k515 : (Cond.selects "PageSkeleton$Row" ({ cls := "PageSkeleton$Row", name := "size", desc := "()I" } : MethodName) ({ cls := "PageSkeleton$Row", name := "size", desc := "()I" } : MethodName)) ∈ wsG := wsG_a3 35 rfl rfl
set_option maxRecDepth 100000 in
theorem k516 : (Cond.code ({ cls := "PageSkeleton$Row", name := "size", desc := "()I" } : MethodName) prog_6_method_8_code (1 : Nat) (Option.some FieldType.int)) ∈ wsG := wsG_a3 36 rfl rfl
set_option maxRecDepth 100000 in
theorem k527 : (Cond.methodLink "PageSkeleton" (264 : Nat) ({ cls := "PageSkeleton$Row", name := "countLeaves", desc := "(ZZZ)I" } : MethodName)) ∈ wsG := wsG_a3 47 rfl rfl
set_option maxRecDepth 100000 in
theorem k528 : (Cond.instanceMethod ({ cls := "PageSkeleton$Row", name := "countLeaves", desc := "(ZZZ)I" } : MethodName)) ∈ wsG := wsG_a3 48 rfl rfl
set_option maxRecDepth 100000 in
theorem k529 : (Cond.selects "PageSkeleton$Row" ({ cls := "PageSkeleton$Row", name := "countLeaves", desc := "(ZZZ)I" } : MethodName) ({ cls := "PageSkeleton$Row", name := "countLeaves", desc := "(ZZZ)I" } : MethodName)) ∈ wsG := wsG_a3 49 rfl rfl
set_option maxRecDepth 100000 in
theorem k530 : (Cond.code ({ cls := "PageSkeleton$Row", name := "countLeaves", desc := "(ZZZ)I" } : MethodName) prog_6_method_20_code (8 : Nat) (Option.some FieldType.int)) ∈ wsG := wsG_a3 50 rfl rfl
set_option maxRecDepth 100000 in
theorem k535 : (Cond.methodLink "PageSkeleton" (215 : Nat) ({ cls := "PageSkeleton", name := "walkOf", desc := "(I)LPageSkeleton$Walk;" } : MethodName)) ∈ wsG := wsG_a3 55 rfl rfl
set_option maxRecDepth 100000 in
theorem k537 : (Cond.instanceMethod ({ cls := "PageSkeleton", name := "walkOf", desc := "(I)LPageSkeleton$Walk;" } : MethodName)) ∈ wsG := wsG_a3 57 rfl rfl
set_option maxRecDepth 100000 in
theorem k538 : (Cond.code ({ cls := "PageSkeleton", name := "walkOf", desc := "(I)LPageSkeleton$Walk;" } : MethodName) prog_1_method_49_code (3 : Nat) (Option.some (FieldType.object "PageSkeleton$Walk"))) ∈ wsG := wsG_a3 58 rfl rfl
set_option maxRecDepth 100000 in
theorem k579 : (Cond.methodLink "PageSkeleton" (219 : Nat) ({ cls := "PageSkeleton$Walk", name := "isThrough", desc := "()Z" } : MethodName)) ∈ wsG := wsG_a3 99 rfl rfl
set_option maxRecDepth 100000 in
theorem k580 : (Cond.instanceMethod ({ cls := "PageSkeleton$Walk", name := "isThrough", desc := "()Z" } : MethodName)) ∈ wsG := wsG_a3 100 rfl rfl
set_option maxRecDepth 100000 in
theorem k581 : (Cond.selects "PageSkeleton$Walk" ({ cls := "PageSkeleton$Walk", name := "isThrough", desc := "()Z" } : MethodName) ({ cls := "PageSkeleton$Walk", name := "isThrough", desc := "()Z" } : MethodName)) ∈ wsG := wsG_a3 101 rfl rfl
set_option maxRecDepth 100000 in
theorem k582 : (Cond.code ({ cls := "PageSkeleton$Walk", name := "isThrough", desc := "()Z" } : MethodName) prog_9_method_2_code (1 : Nat) (Option.some FieldType.boolean)) ∈ wsG := wsG_a3 102 rfl rfl
set_option maxRecDepth 100000 in
theorem k596 : (Cond.methodLink "PageSkeleton" (102 : Nat) ({ cls := "PageSkeleton", name := "needArgument", desc := "(Z)V" } : MethodName)) ∈ wsG := wsG_a3 116 rfl rfl
set_option maxRecDepth 100000 in
theorem k598 : (Cond.instanceMethod ({ cls := "PageSkeleton", name := "needArgument", desc := "(Z)V" } : MethodName)) ∈ wsG := wsG_a3 118 rfl rfl
set_option maxRecDepth 100000 in
theorem k599 : (Cond.code ({ cls := "PageSkeleton", name := "needArgument", desc := "(Z)V" } : MethodName) prog_1_method_41_code (2 : Nat) (Option.none : Option Jvm.ClassFile.FieldType)) ∈ wsG := wsG_a3 119 rfl rfl
set_option maxRecDepth 100000 in
theorem k856 : (Cond.methodLink "PageSkeleton" (177 : Nat) ({ cls := "PageSkeleton$Row", name := "countOf", desc := "(I)I" } : MethodName)) ∈ wsG := wsG_a4 136 rfl rfl
set_option maxRecDepth 100000 in
theorem k857 : (Cond.instanceMethod ({ cls := "PageSkeleton$Row", name := "countOf", desc := "(I)I" } : MethodName)) ∈ wsG := wsG_a4 137 rfl rfl
set_option maxRecDepth 100000 in
theorem k858 : (Cond.selects "PageSkeleton$Row" ({ cls := "PageSkeleton$Row", name := "countOf", desc := "(I)I" } : MethodName) ({ cls := "PageSkeleton$Row", name := "countOf", desc := "(I)I" } : MethodName)) ∈ wsG := wsG_a4 138 rfl rfl
set_option maxRecDepth 100000 in
theorem k859 : (Cond.code ({ cls := "PageSkeleton$Row", name := "countOf", desc := "(I)I" } : MethodName) prog_6_method_13_code (4 : Nat) (Option.some FieldType.int)) ∈ wsG := wsG_a4 139 rfl rfl
set_option maxRecDepth 100000 in
theorem k867 : (Cond.methodLink "PageSkeleton" (184 : Nat) ({ cls := "PageSkeleton$Row", name := "deepestRepeat", desc := "()I" } : MethodName)) ∈ wsG := wsG_a4 147 rfl rfl
set_option maxRecDepth 100000 in
theorem k868 : (Cond.instanceMethod ({ cls := "PageSkeleton$Row", name := "deepestRepeat", desc := "()I" } : MethodName)) ∈ wsG := wsG_a4 148 rfl rfl
set_option maxRecDepth 100000 in
theorem k869 : (Cond.selects "PageSkeleton$Row" ({ cls := "PageSkeleton$Row", name := "deepestRepeat", desc := "()I" } : MethodName) ({ cls := "PageSkeleton$Row", name := "deepestRepeat", desc := "()I" } : MethodName)) ∈ wsG := wsG_a4 149 rfl rfl
set_option maxRecDepth 100000 in
theorem k870 : (Cond.code ({ cls := "PageSkeleton$Row", name := "deepestRepeat", desc := "()I" } : MethodName) prog_6_method_19_code (4 : Nat) (Option.some FieldType.int)) ∈ wsG := wsG_a4 150 rfl rfl
set_option maxRecDepth 100000 in
theorem k878 : (Cond.methodLink "PageSkeleton" (187 : Nat) ({ cls := "PageSkeleton", name := "needPlace", desc := "(II)V" } : MethodName)) ∈ wsG := wsG_a4 158 rfl rfl
set_option maxRecDepth 100000 in
theorem k880 : (Cond.instanceMethod ({ cls := "PageSkeleton", name := "needPlace", desc := "(II)V" } : MethodName)) ∈ wsG := wsG_a4 160 rfl rfl
set_option maxRecDepth 100000 in
theorem k881 : (Cond.code ({ cls := "PageSkeleton", name := "needPlace", desc := "(II)V" } : MethodName) prog_1_method_44_code (3 : Nat) (Option.none : Option Jvm.ClassFile.FieldType)) ∈ wsG := wsG_a4 161 rfl rfl
set_option maxRecDepth 100000 in
theorem k914 : (Cond.methodLink "PageSkeleton" (209 : Nat) ({ cls := "PageSkeleton", name := "needNode", desc := "(LPageSkeleton$Row;I)V" } : MethodName)) ∈ wsG := wsG_a4 194 rfl rfl
set_option maxRecDepth 100000 in
theorem k916 : (Cond.instanceMethod ({ cls := "PageSkeleton", name := "needNode", desc := "(LPageSkeleton$Row;I)V" } : MethodName)) ∈ wsG := wsG_a4 196 rfl rfl
set_option maxRecDepth 100000 in
theorem k917 : (Cond.code ({ cls := "PageSkeleton", name := "needNode", desc := "(LPageSkeleton$Row;I)V" } : MethodName) prog_1_method_45_code (3 : Nat) (Option.none : Option Jvm.ClassFile.FieldType)) ∈ wsG := wsG_a4 197 rfl rfl
set_option maxRecDepth 100000 in
theorem k918 : (Cond.methodLink "PageSkeleton" (212 : Nat) ({ cls := "PageSkeleton$Row", name := "tellNode", desc := "(II)I" } : MethodName)) ∈ wsG := wsG_a4 198 rfl rfl
set_option maxRecDepth 100000 in
theorem k919 : (Cond.instanceMethod ({ cls := "PageSkeleton$Row", name := "tellNode", desc := "(II)I" } : MethodName)) ∈ wsG := wsG_a4 199 rfl rfl
set_option maxRecDepth 100000 in
theorem k920 : (Cond.selects "PageSkeleton$Row" ({ cls := "PageSkeleton$Row", name := "tellNode", desc := "(II)I" } : MethodName) ({ cls := "PageSkeleton$Row", name := "tellNode", desc := "(II)I" } : MethodName)) ∈ wsG := wsG_a4 200 rfl rfl
set_option maxRecDepth 100000 in
theorem k921 : (Cond.code ({ cls := "PageSkeleton$Row", name := "tellNode", desc := "(II)I" } : MethodName) prog_6_method_21_code (4 : Nat) (Option.some FieldType.int)) ∈ wsG := wsG_a4 201 rfl rfl
set_option maxRecDepth 100000 in
theorem k983 : (Cond.methodLink "PageSkeleton" (238 : Nat) ({ cls := "PageSkeleton$Row", name := "codeOf", desc := "(I)I" } : MethodName)) ∈ wsG := wsG_a5 23 rfl rfl
set_option maxRecDepth 100000 in
theorem k984 : (Cond.instanceMethod ({ cls := "PageSkeleton$Row", name := "codeOf", desc := "(I)I" } : MethodName)) ∈ wsG := wsG_a5 24 rfl rfl
set_option maxRecDepth 100000 in
theorem k985 : (Cond.selects "PageSkeleton$Row" ({ cls := "PageSkeleton$Row", name := "codeOf", desc := "(I)I" } : MethodName) ({ cls := "PageSkeleton$Row", name := "codeOf", desc := "(I)I" } : MethodName)) ∈ wsG := wsG_a5 25 rfl rfl
set_option maxRecDepth 100000 in
theorem k986 : (Cond.code ({ cls := "PageSkeleton$Row", name := "codeOf", desc := "(I)I" } : MethodName) prog_6_method_12_code (2 : Nat) (Option.some FieldType.int)) ∈ wsG := wsG_a5 26 rfl rfl
set_option maxRecDepth 100000 in
theorem k1037 : (Cond.constant "PageSkeleton" (253 : Nat) (1000000 : Int32)) ∈ wsG := wsG_a5 77 rfl rfl
set_option maxRecDepth 100000 in
theorem k1099 : (Cond.methodLink "PageSkeleton" (271 : Nat) ({ cls := "PageSkeleton$Row", name := "after", desc := "(I)I" } : MethodName)) ∈ wsG := wsG_a5 139 rfl rfl
set_option maxRecDepth 100000 in
theorem k1100 : (Cond.methodLink "PageSkeleton" (274 : Nat) ({ cls := "PageSkeleton$Row", name := "matches", desc := "(ILPageSkeleton$Row;II)Z" } : MethodName)) ∈ wsG := wsG_a5 140 rfl rfl
set_option maxRecDepth 100000 in
theorem ks_yX9_needArgument : Cond.selects RX9 yX9_needArgument yX9_needArgument ∈ wsG := wsG_p 12 rfl rfl
set_option maxRecDepth 100000 in
theorem ks_yX9_needPlace : Cond.selects RX9 yX9_needPlace yX9_needPlace ∈ wsG := wsG_p 32 rfl rfl
set_option maxRecDepth 100000 in
theorem ks_yX9_needNode : Cond.selects RX9 yX9_needNode yX9_needNode ∈ wsG := wsG_p 34 rfl rfl
set_option maxRecDepth 100000 in
theorem ks_yX9_walkOf : Cond.selects RX9 yX9_walkOf yX9_walkOf ∈ wsG := wsG_p 8 rfl rfl
theorem dX9_alike_0 : decode cX9_alike 0 = .ok (.aload_n 0, 1) := by decide +kernel
theorem dX9_alike_1 : decode cX9_alike 1 = .ok (.aload_n 0, 1) := by decide +kernel
theorem dX9_alike_2 : decode cX9_alike 2 = .ok (.getfield 31, 3) := by decide +kernel
theorem dX9_alike_5 : decode cX9_alike 5 = .ok (.iload_n 1, 1) := by decide +kernel
theorem dX9_alike_6 : decode cX9_alike 6 = .ok (.invokevirtual 209, 3) := by decide +kernel
theorem dX9_alike_9 : decode cX9_alike 9 = .ok (.aload_n 0, 1) := by decide +kernel
theorem dX9_alike_10 : decode cX9_alike 10 = .ok (.aload_n 0, 1) := by decide +kernel
theorem dX9_alike_11 : decode cX9_alike 11 = .ok (.getfield 31, 3) := by decide +kernel
theorem dX9_alike_14 : decode cX9_alike 14 = .ok (.iload_n 2, 1) := by decide +kernel
theorem dX9_alike_15 : decode cX9_alike 15 = .ok (.invokevirtual 209, 3) := by decide +kernel
theorem dX9_alike_18 : decode cX9_alike 18 = .ok (.aload_n 0, 1) := by decide +kernel
theorem dX9_alike_19 : decode cX9_alike 19 = .ok (.getfield 31, 3) := by decide +kernel
theorem dX9_alike_22 : decode cX9_alike 22 = .ok (.getfield 268, 3) := by decide +kernel
theorem dX9_alike_25 : decode cX9_alike 25 = .ok (.iload_n 1, 1) := by decide +kernel
theorem dX9_alike_26 : decode cX9_alike 26 = .ok (.iaload, 1) := by decide +kernel
theorem dX9_alike_27 : decode cX9_alike 27 = .ok (.istore_n 3, 1) := by decide +kernel
theorem dX9_alike_28 : decode cX9_alike 28 = .ok (.aload_n 0, 1) := by decide +kernel
theorem dX9_alike_29 : decode cX9_alike 29 = .ok (.getfield 31, 3) := by decide +kernel
theorem dX9_alike_32 : decode cX9_alike 32 = .ok (.getfield 268, 3) := by decide +kernel
theorem dX9_alike_35 : decode cX9_alike 35 = .ok (.iload_n 2, 1) := by decide +kernel
theorem dX9_alike_36 : decode cX9_alike 36 = .ok (.iaload, 1) := by decide +kernel
theorem dX9_alike_37 : decode cX9_alike 37 = .ok (.istore 4, 2) := by decide +kernel
theorem dX9_alike_39 : decode cX9_alike 39 = .ok (.aload_n 0, 1) := by decide +kernel
theorem dX9_alike_40 : decode cX9_alike 40 = .ok (.getfield 31, 3) := by decide +kernel
theorem dX9_alike_43 : decode cX9_alike 43 = .ok (.iload_n 3, 1) := by decide +kernel
theorem dX9_alike_44 : decode cX9_alike 44 = .ok (.invokevirtual 271, 3) := by decide +kernel
theorem dX9_alike_47 : decode cX9_alike 47 = .ok (.iload_n 3, 1) := by decide +kernel
theorem dX9_alike_48 : decode cX9_alike 48 = .ok (.isub, 1) := by decide +kernel
theorem dX9_alike_49 : decode cX9_alike 49 = .ok (.istore 5, 2) := by decide +kernel
theorem dX9_alike_51 : decode cX9_alike 51 = .ok (.iload 5, 2) := by decide +kernel
theorem dX9_alike_53 : decode cX9_alike 53 = .ok (.aload_n 0, 1) := by decide +kernel
theorem dX9_alike_54 : decode cX9_alike 54 = .ok (.getfield 31, 3) := by decide +kernel
theorem dX9_alike_57 : decode cX9_alike 57 = .ok (.iload 4, 2) := by decide +kernel
theorem dX9_alike_59 : decode cX9_alike 59 = .ok (.invokevirtual 271, 3) := by decide +kernel
theorem dX9_alike_62 : decode cX9_alike 62 = .ok (.iload 4, 2) := by decide +kernel
theorem dX9_alike_64 : decode cX9_alike 64 = .ok (.isub, 1) := by decide +kernel
theorem dX9_alike_65 : decode cX9_alike 65 = .ok (.if_icmp .ne 26, 3) := by decide +kernel
theorem dX9_alike_68 : decode cX9_alike 68 = .ok (.aload_n 0, 1) := by decide +kernel
theorem dX9_alike_69 : decode cX9_alike 69 = .ok (.getfield 31, 3) := by decide +kernel
theorem dX9_alike_72 : decode cX9_alike 72 = .ok (.iload_n 3, 1) := by decide +kernel
theorem dX9_alike_73 : decode cX9_alike 73 = .ok (.aload_n 0, 1) := by decide +kernel
theorem dX9_alike_74 : decode cX9_alike 74 = .ok (.getfield 31, 3) := by decide +kernel
theorem dX9_alike_77 : decode cX9_alike 77 = .ok (.iload 4, 2) := by decide +kernel
theorem dX9_alike_79 : decode cX9_alike 79 = .ok (.iload 5, 2) := by decide +kernel
theorem dX9_alike_81 : decode cX9_alike 81 = .ok (.invokevirtual 274, 3) := by decide +kernel
theorem dX9_alike_84 : decode cX9_alike 84 = .ok (.ifCond .eq 7, 3) := by decide +kernel
theorem dX9_alike_87 : decode cX9_alike 87 = .ok (.iconst 1, 1) := by decide +kernel
theorem dX9_alike_88 : decode cX9_alike 88 = .ok (.goto 4, 3) := by decide +kernel
theorem dX9_alike_91 : decode cX9_alike 91 = .ok (.iconst 0, 1) := by decide +kernel
theorem dX9_alike_92 : decode cX9_alike 92 = .ok (.ireturn, 1) := by decide +kernel
theorem dX9_cuts_0 : decode cX9_cuts 0 = .ok (.aload_n 0, 1) := by decide +kernel
theorem dX9_cuts_1 : decode cX9_cuts 1 = .ok (.iload_n 1, 1) := by decide +kernel
theorem dX9_cuts_2 : decode cX9_cuts 2 = .ok (.invokevirtual 130, 3) := by decide +kernel
theorem dX9_cuts_5 : decode cX9_cuts 5 = .ok (.aload_n 0, 1) := by decide +kernel
theorem dX9_cuts_6 : decode cX9_cuts 6 = .ok (.getfield 68, 3) := by decide +kernel
theorem dX9_cuts_9 : decode cX9_cuts 9 = .ok (.aload_n 0, 1) := by decide +kernel
theorem dX9_cuts_10 : decode cX9_cuts 10 = .ok (.getfield 31, 3) := by decide +kernel
theorem dX9_cuts_13 : decode cX9_cuts 13 = .ok (.aload_n 0, 1) := by decide +kernel
theorem dX9_cuts_14 : decode cX9_cuts 14 = .ok (.getfield 18, 3) := by decide +kernel
theorem dX9_cuts_17 : decode cX9_cuts 17 = .ok (.iload_n 1, 1) := by decide +kernel
theorem dX9_cuts_18 : decode cX9_cuts 18 = .ok (.aaload, 1) := by decide +kernel
theorem dX9_cuts_19 : decode cX9_cuts 19 = .ok (.getfield 225, 3) := by decide +kernel
theorem dX9_cuts_22 : decode cX9_cuts 22 = .ok (.aload_n 0, 1) := by decide +kernel
theorem dX9_cuts_23 : decode cX9_cuts 23 = .ok (.getfield 18, 3) := by decide +kernel
theorem dX9_cuts_26 : decode cX9_cuts 26 = .ok (.iload_n 1, 1) := by decide +kernel
theorem dX9_cuts_27 : decode cX9_cuts 27 = .ok (.aaload, 1) := by decide +kernel
theorem dX9_cuts_28 : decode cX9_cuts 28 = .ok (.getfield 180, 3) := by decide +kernel
theorem dX9_cuts_31 : decode cX9_cuts 31 = .ok (.iconst 1, 1) := by decide +kernel
theorem dX9_cuts_32 : decode cX9_cuts 32 = .ok (.invokevirtual 228, 3) := by decide +kernel
theorem dX9_cuts_35 : decode cX9_cuts 35 = .ok (.istore_n 2, 1) := by decide +kernel
theorem dX9_cuts_36 : decode cX9_cuts 36 = .ok (.iload_n 2, 1) := by decide +kernel
theorem dX9_cuts_37 : decode cX9_cuts 37 = .ok (.ldc 253, 2) := by decide +kernel
theorem dX9_cuts_39 : decode cX9_cuts 39 = .ok (.if_icmp .lt 7, 3) := by decide +kernel
theorem dX9_cuts_42 : decode cX9_cuts 42 = .ok (.iconst (-1), 1) := by decide +kernel
theorem dX9_cuts_43 : decode cX9_cuts 43 = .ok (.goto 4, 3) := by decide +kernel
theorem dX9_cuts_46 : decode cX9_cuts 46 = .ok (.iload_n 2, 1) := by decide +kernel
theorem dX9_cuts_47 : decode cX9_cuts 47 = .ok (.ireturn, 1) := by decide +kernel
theorem dX9_fault_0 : decode cX9_fault 0 = .ok (.aload_n 0, 1) := by decide +kernel
theorem dX9_fault_1 : decode cX9_fault 1 = .ok (.getfield 10, 3) := by decide +kernel
theorem dX9_fault_4 : decode cX9_fault 4 = .ok (.getfield 127, 3) := by decide +kernel
theorem dX9_fault_7 : decode cX9_fault 7 = .ok (.ireturn, 1) := by decide +kernel
theorem dX9_firm_0 : decode cX9_firm 0 = .ok (.aload_n 0, 1) := by decide +kernel
theorem dX9_firm_1 : decode cX9_firm 1 = .ok (.iload_n 1, 1) := by decide +kernel
theorem dX9_firm_2 : decode cX9_firm 2 = .ok (.ifCond .lt 12, 3) := by decide +kernel
theorem dX9_firm_5 : decode cX9_firm 5 = .ok (.iload_n 1, 1) := by decide +kernel
theorem dX9_firm_6 : decode cX9_firm 6 = .ok (.iconst 2, 1) := by decide +kernel
theorem dX9_firm_7 : decode cX9_firm 7 = .ok (.if_icmp .gt 7, 3) := by decide +kernel
theorem dX9_firm_10 : decode cX9_firm 10 = .ok (.iconst 1, 1) := by decide +kernel
theorem dX9_firm_11 : decode cX9_firm 11 = .ok (.goto 4, 3) := by decide +kernel
theorem dX9_firm_14 : decode cX9_firm 14 = .ok (.iconst 0, 1) := by decide +kernel
theorem dX9_firm_15 : decode cX9_firm 15 = .ok (.invokevirtual 102, 3) := by decide +kernel
theorem dX9_firm_18 : decode cX9_firm 18 = .ok (.aload_n 0, 1) := by decide +kernel
theorem dX9_firm_19 : decode cX9_firm 19 = .ok (.getfield 31, 3) := by decide +kernel
theorem dX9_firm_22 : decode cX9_firm 22 = .ok (.iload_n 1, 1) := by decide +kernel
theorem dX9_firm_23 : decode cX9_firm 23 = .ok (.iconst 1, 1) := by decide +kernel
theorem dX9_firm_24 : decode cX9_firm 24 = .ok (.if_icmp .eq 7, 3) := by decide +kernel
theorem dX9_firm_27 : decode cX9_firm 27 = .ok (.iconst 1, 1) := by decide +kernel
theorem dX9_firm_28 : decode cX9_firm 28 = .ok (.goto 4, 3) := by decide +kernel
theorem dX9_firm_31 : decode cX9_firm 31 = .ok (.iconst 0, 1) := by decide +kernel
theorem dX9_firm_32 : decode cX9_firm 32 = .ok (.iload_n 1, 1) := by decide +kernel
theorem dX9_firm_33 : decode cX9_firm 33 = .ok (.ifCond .eq 7, 3) := by decide +kernel
theorem dX9_firm_36 : decode cX9_firm 36 = .ok (.iconst 1, 1) := by decide +kernel
theorem dX9_firm_37 : decode cX9_firm 37 = .ok (.goto 4, 3) := by decide +kernel
theorem dX9_firm_40 : decode cX9_firm 40 = .ok (.iconst 0, 1) := by decide +kernel
theorem dX9_firm_41 : decode cX9_firm 41 = .ok (.iconst 0, 1) := by decide +kernel
theorem dX9_firm_42 : decode cX9_firm 42 = .ok (.invokevirtual 264, 3) := by decide +kernel
theorem dX9_firm_45 : decode cX9_firm 45 = .ok (.ireturn, 1) := by decide +kernel
theorem dX9_fits_0 : decode cX9_fits 0 = .ok (.aload_n 0, 1) := by decide +kernel
theorem dX9_fits_1 : decode cX9_fits 1 = .ok (.iload_n 1, 1) := by decide +kernel
theorem dX9_fits_2 : decode cX9_fits 2 = .ok (.invokevirtual 130, 3) := by decide +kernel
theorem dX9_fits_5 : decode cX9_fits 5 = .ok (.aload_n 0, 1) := by decide +kernel
theorem dX9_fits_6 : decode cX9_fits 6 = .ok (.iload_n 1, 1) := by decide +kernel
theorem dX9_fits_7 : decode cX9_fits 7 = .ok (.invokevirtual 215, 3) := by decide +kernel
theorem dX9_fits_10 : decode cX9_fits 10 = .ok (.invokevirtual 219, 3) := by decide +kernel
theorem dX9_fits_13 : decode cX9_fits 13 = .ok (.ireturn, 1) := by decide +kernel
theorem dX9_node_0 : decode cX9_node 0 = .ok (.aload_n 0, 1) := by decide +kernel
theorem dX9_node_1 : decode cX9_node 1 = .ok (.aload_n 0, 1) := by decide +kernel
theorem dX9_node_2 : decode cX9_node 2 = .ok (.getfield 31, 3) := by decide +kernel
theorem dX9_node_5 : decode cX9_node 5 = .ok (.iload_n 1, 1) := by decide +kernel
theorem dX9_node_6 : decode cX9_node 6 = .ok (.invokevirtual 209, 3) := by decide +kernel
theorem dX9_node_9 : decode cX9_node 9 = .ok (.aload_n 0, 1) := by decide +kernel
theorem dX9_node_10 : decode cX9_node 10 = .ok (.iload_n 2, 1) := by decide +kernel
theorem dX9_node_11 : decode cX9_node 11 = .ok (.ifCond .lt 12, 3) := by decide +kernel
theorem dX9_node_14 : decode cX9_node 14 = .ok (.iload_n 2, 1) := by decide +kernel
theorem dX9_node_15 : decode cX9_node 15 = .ok (.iconst 5, 1) := by decide +kernel
theorem dX9_node_16 : decode cX9_node 16 = .ok (.if_icmp .gt 7, 3) := by decide +kernel
theorem dX9_node_19 : decode cX9_node 19 = .ok (.iconst 1, 1) := by decide +kernel
theorem dX9_node_20 : decode cX9_node 20 = .ok (.goto 4, 3) := by decide +kernel
theorem dX9_node_23 : decode cX9_node 23 = .ok (.iconst 0, 1) := by decide +kernel
theorem dX9_node_24 : decode cX9_node 24 = .ok (.invokevirtual 102, 3) := by decide +kernel
theorem dX9_node_27 : decode cX9_node 27 = .ok (.aload_n 0, 1) := by decide +kernel
theorem dX9_node_28 : decode cX9_node 28 = .ok (.getfield 31, 3) := by decide +kernel
theorem dX9_node_31 : decode cX9_node 31 = .ok (.iload_n 1, 1) := by decide +kernel
theorem dX9_node_32 : decode cX9_node 32 = .ok (.iload_n 2, 1) := by decide +kernel
theorem dX9_node_33 : decode cX9_node 33 = .ok (.invokevirtual 212, 3) := by decide +kernel
theorem dX9_node_36 : decode cX9_node 36 = .ok (.ireturn, 1) := by decide +kernel
theorem dX9_pageNode_0 : decode cX9_pageNode 0 = .ok (.aload_n 0, 1) := by decide +kernel
theorem dX9_pageNode_1 : decode cX9_pageNode 1 = .ok (.iload_n 1, 1) := by decide +kernel
theorem dX9_pageNode_2 : decode cX9_pageNode 2 = .ok (.invokevirtual 130, 3) := by decide +kernel
theorem dX9_pageNode_5 : decode cX9_pageNode 5 = .ok (.aload_n 0, 1) := by decide +kernel
theorem dX9_pageNode_6 : decode cX9_pageNode 6 = .ok (.aload_n 0, 1) := by decide +kernel
theorem dX9_pageNode_7 : decode cX9_pageNode 7 = .ok (.getfield 18, 3) := by decide +kernel
theorem dX9_pageNode_10 : decode cX9_pageNode 10 = .ok (.iload_n 1, 1) := by decide +kernel
theorem dX9_pageNode_11 : decode cX9_pageNode 11 = .ok (.aaload, 1) := by decide +kernel
theorem dX9_pageNode_12 : decode cX9_pageNode 12 = .ok (.getfield 181, 3) := by decide +kernel
theorem dX9_pageNode_15 : decode cX9_pageNode 15 = .ok (.iload_n 2, 1) := by decide +kernel
theorem dX9_pageNode_16 : decode cX9_pageNode 16 = .ok (.invokevirtual 209, 3) := by decide +kernel
theorem dX9_pageNode_19 : decode cX9_pageNode 19 = .ok (.aload_n 0, 1) := by decide +kernel
theorem dX9_pageNode_20 : decode cX9_pageNode 20 = .ok (.iload_n 3, 1) := by decide +kernel
theorem dX9_pageNode_21 : decode cX9_pageNode 21 = .ok (.ifCond .lt 12, 3) := by decide +kernel
theorem dX9_pageNode_24 : decode cX9_pageNode 24 = .ok (.iload_n 3, 1) := by decide +kernel
theorem dX9_pageNode_25 : decode cX9_pageNode 25 = .ok (.iconst 5, 1) := by decide +kernel
theorem dX9_pageNode_26 : decode cX9_pageNode 26 = .ok (.if_icmp .gt 7, 3) := by decide +kernel
theorem dX9_pageNode_29 : decode cX9_pageNode 29 = .ok (.iconst 1, 1) := by decide +kernel
theorem dX9_pageNode_30 : decode cX9_pageNode 30 = .ok (.goto 4, 3) := by decide +kernel
theorem dX9_pageNode_33 : decode cX9_pageNode 33 = .ok (.iconst 0, 1) := by decide +kernel
theorem dX9_pageNode_34 : decode cX9_pageNode 34 = .ok (.invokevirtual 102, 3) := by decide +kernel
theorem dX9_pageNode_37 : decode cX9_pageNode 37 = .ok (.aload_n 0, 1) := by decide +kernel
theorem dX9_pageNode_38 : decode cX9_pageNode 38 = .ok (.getfield 18, 3) := by decide +kernel
theorem dX9_pageNode_41 : decode cX9_pageNode 41 = .ok (.iload_n 1, 1) := by decide +kernel
theorem dX9_pageNode_42 : decode cX9_pageNode 42 = .ok (.aaload, 1) := by decide +kernel
theorem dX9_pageNode_43 : decode cX9_pageNode 43 = .ok (.getfield 181, 3) := by decide +kernel
theorem dX9_pageNode_46 : decode cX9_pageNode 46 = .ok (.iload_n 2, 1) := by decide +kernel
theorem dX9_pageNode_47 : decode cX9_pageNode 47 = .ok (.iload_n 3, 1) := by decide +kernel
theorem dX9_pageNode_48 : decode cX9_pageNode 48 = .ok (.invokevirtual 212, 3) := by decide +kernel
theorem dX9_pageNode_51 : decode cX9_pageNode 51 = .ok (.ireturn, 1) := by decide +kernel
theorem dX9_pageOf_0 : decode cX9_pageOf 0 = .ok (.aload_n 0, 1) := by decide +kernel
theorem dX9_pageOf_1 : decode cX9_pageOf 1 = .ok (.iload_n 1, 1) := by decide +kernel
theorem dX9_pageOf_2 : decode cX9_pageOf 2 = .ok (.invokevirtual 130, 3) := by decide +kernel
theorem dX9_pageOf_5 : decode cX9_pageOf 5 = .ok (.aload_n 0, 1) := by decide +kernel
theorem dX9_pageOf_6 : decode cX9_pageOf 6 = .ok (.getfield 18, 3) := by decide +kernel
theorem dX9_pageOf_9 : decode cX9_pageOf 9 = .ok (.iload_n 1, 1) := by decide +kernel
theorem dX9_pageOf_10 : decode cX9_pageOf 10 = .ok (.aaload, 1) := by decide +kernel
theorem dX9_pageOf_11 : decode cX9_pageOf 11 = .ok (.astore_n 3, 1) := by decide +kernel
theorem dX9_pageOf_12 : decode cX9_pageOf 12 = .ok (.iload_n 2, 1) := by decide +kernel
theorem dX9_pageOf_13 : decode cX9_pageOf 13 = .ok (.tableswitch 75 0 4 #[35, 40, 48, 56, 67], 35) := by decide +kernel
theorem dX9_pageOf_48 : decode cX9_pageOf 48 = .ok (.aload_n 3, 1) := by decide +kernel
theorem dX9_pageOf_49 : decode cX9_pageOf 49 = .ok (.getfield 180, 3) := by decide +kernel
theorem dX9_pageOf_52 : decode cX9_pageOf 52 = .ok (.ireturn, 1) := by decide +kernel
theorem dX9_pageOf_53 : decode cX9_pageOf 53 = .ok (.aload_n 3, 1) := by decide +kernel
theorem dX9_pageOf_54 : decode cX9_pageOf 54 = .ok (.getfield 181, 3) := by decide +kernel
theorem dX9_pageOf_57 : decode cX9_pageOf 57 = .ok (.getfield 155, 3) := by decide +kernel
theorem dX9_pageOf_60 : decode cX9_pageOf 60 = .ok (.ireturn, 1) := by decide +kernel
theorem dX9_pageOf_61 : decode cX9_pageOf 61 = .ok (.aload_n 3, 1) := by decide +kernel
theorem dX9_pageOf_62 : decode cX9_pageOf 62 = .ok (.getfield 181, 3) := by decide +kernel
theorem dX9_pageOf_65 : decode cX9_pageOf 65 = .ok (.invokevirtual 136, 3) := by decide +kernel
theorem dX9_pageOf_68 : decode cX9_pageOf 68 = .ok (.ireturn, 1) := by decide +kernel
theorem dX9_pageOf_69 : decode cX9_pageOf 69 = .ok (.aload_n 3, 1) := by decide +kernel
theorem dX9_pageOf_70 : decode cX9_pageOf 70 = .ok (.getfield 181, 3) := by decide +kernel
theorem dX9_pageOf_73 : decode cX9_pageOf 73 = .ok (.sipush 514, 3) := by decide +kernel
theorem dX9_pageOf_76 : decode cX9_pageOf 76 = .ok (.invokevirtual 177, 3) := by decide +kernel
theorem dX9_pageOf_79 : decode cX9_pageOf 79 = .ok (.ireturn, 1) := by decide +kernel
theorem dX9_pageOf_80 : decode cX9_pageOf 80 = .ok (.aload_n 3, 1) := by decide +kernel
theorem dX9_pageOf_81 : decode cX9_pageOf 81 = .ok (.getfield 181, 3) := by decide +kernel
theorem dX9_pageOf_84 : decode cX9_pageOf 84 = .ok (.invokevirtual 184, 3) := by decide +kernel
theorem dX9_pageOf_87 : decode cX9_pageOf 87 = .ok (.ireturn, 1) := by decide +kernel
theorem dX9_pageOf_88 : decode cX9_pageOf 88 = .ok (.aload_n 0, 1) := by decide +kernel
theorem dX9_pageOf_89 : decode cX9_pageOf 89 = .ok (.iconst 0, 1) := by decide +kernel
theorem dX9_pageOf_90 : decode cX9_pageOf 90 = .ok (.invokevirtual 102, 3) := by decide +kernel
theorem dX9_passes_0 : decode cX9_passes 0 = .ok (.aload_n 0, 1) := by decide +kernel
theorem dX9_passes_1 : decode cX9_passes 1 = .ok (.iload_n 1, 1) := by decide +kernel
theorem dX9_passes_2 : decode cX9_passes 2 = .ok (.invokevirtual 130, 3) := by decide +kernel
theorem dX9_passes_5 : decode cX9_passes 5 = .ok (.aload_n 0, 1) := by decide +kernel
theorem dX9_passes_6 : decode cX9_passes 6 = .ok (.aload_n 0, 1) := by decide +kernel
theorem dX9_passes_7 : decode cX9_passes 7 = .ok (.getfield 31, 3) := by decide +kernel
theorem dX9_passes_10 : decode cX9_passes 10 = .ok (.iload_n 2, 1) := by decide +kernel
theorem dX9_passes_11 : decode cX9_passes 11 = .ok (.invokevirtual 209, 3) := by decide +kernel
theorem dX9_passes_14 : decode cX9_passes 14 = .ok (.aload_n 0, 1) := by decide +kernel
theorem dX9_passes_15 : decode cX9_passes 15 = .ok (.iload_n 1, 1) := by decide +kernel
theorem dX9_passes_16 : decode cX9_passes 16 = .ok (.invokevirtual 215, 3) := by decide +kernel
theorem dX9_passes_19 : decode cX9_passes 19 = .ok (.astore_n 3, 1) := by decide +kernel
theorem dX9_passes_20 : decode cX9_passes 20 = .ok (.aload_n 3, 1) := by decide +kernel
theorem dX9_passes_21 : decode cX9_passes 21 = .ok (.invokevirtual 219, 3) := by decide +kernel
theorem dX9_passes_24 : decode cX9_passes 24 = .ok (.ifCond .eq 26, 3) := by decide +kernel
theorem dX9_passes_27 : decode cX9_passes 27 = .ok (.aload_n 0, 1) := by decide +kernel
theorem dX9_passes_28 : decode cX9_passes 28 = .ok (.getfield 31, 3) := by decide +kernel
theorem dX9_passes_31 : decode cX9_passes 31 = .ok (.iload_n 2, 1) := by decide +kernel
theorem dX9_passes_32 : decode cX9_passes 32 = .ok (.invokevirtual 238, 3) := by decide +kernel
theorem dX9_passes_35 : decode cX9_passes 35 = .ok (.sipush 514, 3) := by decide +kernel
theorem dX9_passes_38 : decode cX9_passes 38 = .ok (.if_icmp .ne 12, 3) := by decide +kernel
theorem dX9_passes_41 : decode cX9_passes 41 = .ok (.aload_n 3, 1) := by decide +kernel
theorem dX9_passes_42 : decode cX9_passes 42 = .ok (.getfield 241, 3) := by decide +kernel
theorem dX9_passes_45 : decode cX9_passes 45 = .ok (.iload_n 2, 1) := by decide +kernel
theorem dX9_passes_46 : decode cX9_passes 46 = .ok (.iaload, 1) := by decide +kernel
theorem dX9_passes_47 : decode cX9_passes 47 = .ok (.goto 4, 3) := by decide +kernel
theorem dX9_passes_50 : decode cX9_passes 50 = .ok (.iconst (-1), 1) := by decide +kernel
theorem dX9_passes_51 : decode cX9_passes 51 = .ok (.ireturn, 1) := by decide +kernel
theorem dX9_reach_0 : decode cX9_reach 0 = .ok (.aload_n 0, 1) := by decide +kernel
theorem dX9_reach_1 : decode cX9_reach 1 = .ok (.iload_n 1, 1) := by decide +kernel
theorem dX9_reach_2 : decode cX9_reach 2 = .ok (.invokevirtual 130, 3) := by decide +kernel
theorem dX9_reach_5 : decode cX9_reach 5 = .ok (.aload_n 0, 1) := by decide +kernel
theorem dX9_reach_6 : decode cX9_reach 6 = .ok (.getfield 68, 3) := by decide +kernel
theorem dX9_reach_9 : decode cX9_reach 9 = .ok (.aload_n 0, 1) := by decide +kernel
theorem dX9_reach_10 : decode cX9_reach 10 = .ok (.getfield 31, 3) := by decide +kernel
theorem dX9_reach_13 : decode cX9_reach 13 = .ok (.aload_n 0, 1) := by decide +kernel
theorem dX9_reach_14 : decode cX9_reach 14 = .ok (.getfield 18, 3) := by decide +kernel
theorem dX9_reach_17 : decode cX9_reach 17 = .ok (.iload_n 1, 1) := by decide +kernel
theorem dX9_reach_18 : decode cX9_reach 18 = .ok (.aaload, 1) := by decide +kernel
theorem dX9_reach_19 : decode cX9_reach 19 = .ok (.getfield 225, 3) := by decide +kernel
theorem dX9_reach_22 : decode cX9_reach 22 = .ok (.aload_n 0, 1) := by decide +kernel
theorem dX9_reach_23 : decode cX9_reach 23 = .ok (.getfield 18, 3) := by decide +kernel
theorem dX9_reach_26 : decode cX9_reach 26 = .ok (.iload_n 1, 1) := by decide +kernel
theorem dX9_reach_27 : decode cX9_reach 27 = .ok (.aaload, 1) := by decide +kernel
theorem dX9_reach_28 : decode cX9_reach 28 = .ok (.getfield 180, 3) := by decide +kernel
theorem dX9_reach_31 : decode cX9_reach 31 = .ok (.iconst 2, 1) := by decide +kernel
theorem dX9_reach_32 : decode cX9_reach 32 = .ok (.invokevirtual 228, 3) := by decide +kernel
theorem dX9_reach_35 : decode cX9_reach 35 = .ok (.ireturn, 1) := by decide +kernel
theorem dX9_shortest_0 : decode cX9_shortest 0 = .ok (.aload_n 0, 1) := by decide +kernel
theorem dX9_shortest_1 : decode cX9_shortest 1 = .ok (.getfield 31, 3) := by decide +kernel
theorem dX9_shortest_4 : decode cX9_shortest 4 = .ok (.iconst 1, 1) := by decide +kernel
theorem dX9_shortest_5 : decode cX9_shortest 5 = .ok (.iconst 0, 1) := by decide +kernel
theorem dX9_shortest_6 : decode cX9_shortest 6 = .ok (.iconst 1, 1) := by decide +kernel
theorem dX9_shortest_7 : decode cX9_shortest 7 = .ok (.invokevirtual 264, 3) := by decide +kernel
theorem dX9_shortest_10 : decode cX9_shortest 10 = .ok (.ireturn, 1) := by decide +kernel
theorem dX9_similar_0 : decode cX9_similar 0 = .ok (.aload_n 0, 1) := by decide +kernel
theorem dX9_similar_1 : decode cX9_similar 1 = .ok (.iload_n 1, 1) := by decide +kernel
theorem dX9_similar_2 : decode cX9_similar 2 = .ok (.invokevirtual 130, 3) := by decide +kernel
theorem dX9_similar_5 : decode cX9_similar 5 = .ok (.aload_n 0, 1) := by decide +kernel
theorem dX9_similar_6 : decode cX9_similar 6 = .ok (.iload_n 2, 1) := by decide +kernel
theorem dX9_similar_7 : decode cX9_similar 7 = .ok (.invokevirtual 130, 3) := by decide +kernel
theorem dX9_similar_10 : decode cX9_similar 10 = .ok (.aload_n 0, 1) := by decide +kernel
theorem dX9_similar_11 : decode cX9_similar 11 = .ok (.getfield 18, 3) := by decide +kernel
theorem dX9_similar_14 : decode cX9_similar 14 = .ok (.iload_n 1, 1) := by decide +kernel
theorem dX9_similar_15 : decode cX9_similar 15 = .ok (.aaload, 1) := by decide +kernel
theorem dX9_similar_16 : decode cX9_similar 16 = .ok (.getfield 181, 3) := by decide +kernel
theorem dX9_similar_19 : decode cX9_similar 19 = .ok (.astore_n 3, 1) := by decide +kernel
theorem dX9_similar_20 : decode cX9_similar 20 = .ok (.aload_n 0, 1) := by decide +kernel
theorem dX9_similar_21 : decode cX9_similar 21 = .ok (.getfield 18, 3) := by decide +kernel
theorem dX9_similar_24 : decode cX9_similar 24 = .ok (.iload_n 2, 1) := by decide +kernel
theorem dX9_similar_25 : decode cX9_similar 25 = .ok (.aaload, 1) := by decide +kernel
theorem dX9_similar_26 : decode cX9_similar 26 = .ok (.getfield 181, 3) := by decide +kernel
theorem dX9_similar_29 : decode cX9_similar 29 = .ok (.astore 4, 2) := by decide +kernel
theorem dX9_similar_31 : decode cX9_similar 31 = .ok (.aload_n 3, 1) := by decide +kernel
theorem dX9_similar_32 : decode cX9_similar 32 = .ok (.getfield 282, 3) := by decide +kernel
theorem dX9_similar_35 : decode cX9_similar 35 = .ok (.aload 4, 2) := by decide +kernel
theorem dX9_similar_37 : decode cX9_similar 37 = .ok (.getfield 282, 3) := by decide +kernel
theorem dX9_similar_40 : decode cX9_similar 40 = .ok (.if_icmp .ne 22, 3) := by decide +kernel
theorem dX9_similar_43 : decode cX9_similar 43 = .ok (.aload_n 3, 1) := by decide +kernel
theorem dX9_similar_44 : decode cX9_similar 44 = .ok (.iconst 0, 1) := by decide +kernel
theorem dX9_similar_45 : decode cX9_similar 45 = .ok (.aload 4, 2) := by decide +kernel
theorem dX9_similar_47 : decode cX9_similar 47 = .ok (.iconst 0, 1) := by decide +kernel
theorem dX9_similar_48 : decode cX9_similar 48 = .ok (.aload_n 3, 1) := by decide +kernel
theorem dX9_similar_49 : decode cX9_similar 49 = .ok (.getfield 282, 3) := by decide +kernel
theorem dX9_similar_52 : decode cX9_similar 52 = .ok (.invokevirtual 274, 3) := by decide +kernel
theorem dX9_similar_55 : decode cX9_similar 55 = .ok (.ifCond .eq 7, 3) := by decide +kernel
theorem dX9_similar_58 : decode cX9_similar 58 = .ok (.iconst 1, 1) := by decide +kernel
theorem dX9_similar_59 : decode cX9_similar 59 = .ok (.goto 4, 3) := by decide +kernel
theorem dX9_similar_62 : decode cX9_similar 62 = .ok (.iconst 0, 1) := by decide +kernel
theorem dX9_similar_63 : decode cX9_similar 63 = .ok (.ireturn, 1) := by decide +kernel
theorem dX9_status_0 : decode cX9_status 0 = .ok (.iload_n 1, 1) := by decide +kernel
theorem dX9_status_1 : decode cX9_status 1 = .ok (.ifCond .lt 21, 3) := by decide +kernel
theorem dX9_status_4 : decode cX9_status 4 = .ok (.iload_n 1, 1) := by decide +kernel
theorem dX9_status_5 : decode cX9_status 5 = .ok (.aload_n 0, 1) := by decide +kernel
theorem dX9_status_6 : decode cX9_status 6 = .ok (.getfield 86, 3) := by decide +kernel
theorem dX9_status_9 : decode cX9_status 9 = .ok (.arraylength, 1) := by decide +kernel
theorem dX9_status_10 : decode cX9_status 10 = .ok (.if_icmp .ge 12, 3) := by decide +kernel
theorem dX9_status_13 : decode cX9_status 13 = .ok (.aload_n 0, 1) := by decide +kernel
theorem dX9_status_14 : decode cX9_status 14 = .ok (.getfield 86, 3) := by decide +kernel
theorem dX9_status_17 : decode cX9_status 17 = .ok (.iload_n 1, 1) := by decide +kernel
theorem dX9_status_18 : decode cX9_status 18 = .ok (.iaload, 1) := by decide +kernel
theorem dX9_status_19 : decode cX9_status 19 = .ok (.goto 4, 3) := by decide +kernel
theorem dX9_status_22 : decode cX9_status 22 = .ok (.iconst (-1), 1) := by decide +kernel
theorem dX9_status_23 : decode cX9_status 23 = .ok (.ireturn, 1) := by decide +kernel
theorem dX9_step_0 : decode cX9_step 0 = .ok (.aload_n 0, 1) := by decide +kernel
theorem dX9_step_1 : decode cX9_step 1 = .ok (.iload_n 1, 1) := by decide +kernel
theorem dX9_step_2 : decode cX9_step 2 = .ok (.invokevirtual 130, 3) := by decide +kernel
theorem dX9_step_5 : decode cX9_step 5 = .ok (.aload_n 0, 1) := by decide +kernel
theorem dX9_step_6 : decode cX9_step 6 = .ok (.iload_n 3, 1) := by decide +kernel
theorem dX9_step_7 : decode cX9_step 7 = .ok (.ifCond .lt 12, 3) := by decide +kernel
theorem dX9_step_10 : decode cX9_step 10 = .ok (.iload_n 3, 1) := by decide +kernel
theorem dX9_step_11 : decode cX9_step 11 = .ok (.iconst 2, 1) := by decide +kernel
theorem dX9_step_12 : decode cX9_step 12 = .ok (.if_icmp .gt 7, 3) := by decide +kernel
theorem dX9_step_15 : decode cX9_step 15 = .ok (.iconst 1, 1) := by decide +kernel
theorem dX9_step_16 : decode cX9_step 16 = .ok (.goto 4, 3) := by decide +kernel
theorem dX9_step_19 : decode cX9_step 19 = .ok (.iconst 0, 1) := by decide +kernel
theorem dX9_step_20 : decode cX9_step 20 = .ok (.invokevirtual 102, 3) := by decide +kernel
theorem dX9_step_23 : decode cX9_step 23 = .ok (.iload_n 2, 1) := by decide +kernel
theorem dX9_step_24 : decode cX9_step 24 = .ok (.ifCond .lt 34, 3) := by decide +kernel
theorem dX9_step_27 : decode cX9_step 27 = .ok (.iload_n 2, 1) := by decide +kernel
theorem dX9_step_28 : decode cX9_step 28 = .ok (.aload_n 0, 1) := by decide +kernel
theorem dX9_step_29 : decode cX9_step 29 = .ok (.getfield 18, 3) := by decide +kernel
theorem dX9_step_32 : decode cX9_step 32 = .ok (.iload_n 1, 1) := by decide +kernel
theorem dX9_step_33 : decode cX9_step 33 = .ok (.aaload, 1) := by decide +kernel
theorem dX9_step_34 : decode cX9_step 34 = .ok (.getfield 285, 3) := by decide +kernel
theorem dX9_step_37 : decode cX9_step 37 = .ok (.if_icmp .ge 21, 3) := by decide +kernel
theorem dX9_step_40 : decode cX9_step 40 = .ok (.aload_n 0, 1) := by decide +kernel
theorem dX9_step_41 : decode cX9_step 41 = .ok (.getfield 18, 3) := by decide +kernel
theorem dX9_step_44 : decode cX9_step 44 = .ok (.iload_n 1, 1) := by decide +kernel
theorem dX9_step_45 : decode cX9_step 45 = .ok (.aaload, 1) := by decide +kernel
theorem dX9_step_46 : decode cX9_step 46 = .ok (.getfield 288, 3) := by decide +kernel
theorem dX9_step_49 : decode cX9_step 49 = .ok (.iload_n 2, 1) := by decide +kernel
theorem dX9_step_50 : decode cX9_step 50 = .ok (.iconst 3, 1) := by decide +kernel
theorem dX9_step_51 : decode cX9_step 51 = .ok (.imul, 1) := by decide +kernel
theorem dX9_step_52 : decode cX9_step 52 = .ok (.iload_n 3, 1) := by decide +kernel
theorem dX9_step_53 : decode cX9_step 53 = .ok (.iadd, 1) := by decide +kernel
theorem dX9_step_54 : decode cX9_step 54 = .ok (.iaload, 1) := by decide +kernel
theorem dX9_step_55 : decode cX9_step 55 = .ok (.goto 4, 3) := by decide +kernel
theorem dX9_step_58 : decode cX9_step 58 = .ok (.iconst (-1), 1) := by decide +kernel
theorem dX9_step_59 : decode cX9_step 59 = .ok (.ireturn, 1) := by decide +kernel
theorem dX9_taker_0 : decode cX9_taker 0 = .ok (.aload_n 0, 1) := by decide +kernel
theorem dX9_taker_1 : decode cX9_taker 1 = .ok (.iload_n 1, 1) := by decide +kernel
theorem dX9_taker_2 : decode cX9_taker 2 = .ok (.iload_n 2, 1) := by decide +kernel
theorem dX9_taker_3 : decode cX9_taker 3 = .ok (.invokevirtual 187, 3) := by decide +kernel
theorem dX9_taker_6 : decode cX9_taker 6 = .ok (.aload_n 0, 1) := by decide +kernel
theorem dX9_taker_7 : decode cX9_taker 7 = .ok (.iload_n 1, 1) := by decide +kernel
theorem dX9_taker_8 : decode cX9_taker 8 = .ok (.invokevirtual 215, 3) := by decide +kernel
theorem dX9_taker_11 : decode cX9_taker 11 = .ok (.astore_n 3, 1) := by decide +kernel
theorem dX9_taker_12 : decode cX9_taker 12 = .ok (.aload_n 3, 1) := by decide +kernel
theorem dX9_taker_13 : decode cX9_taker 13 = .ok (.invokevirtual 219, 3) := by decide +kernel
theorem dX9_taker_16 : decode cX9_taker 16 = .ok (.ifCond .eq 12, 3) := by decide +kernel
theorem dX9_taker_19 : decode cX9_taker 19 = .ok (.aload_n 3, 1) := by decide +kernel
theorem dX9_taker_20 : decode cX9_taker 20 = .ok (.getfield 244, 3) := by decide +kernel
theorem dX9_taker_23 : decode cX9_taker 23 = .ok (.iload_n 2, 1) := by decide +kernel
theorem dX9_taker_24 : decode cX9_taker 24 = .ok (.iaload, 1) := by decide +kernel
theorem dX9_taker_25 : decode cX9_taker 25 = .ok (.goto 4, 3) := by decide +kernel
theorem dX9_taker_28 : decode cX9_taker 28 = .ok (.iconst (-1), 1) := by decide +kernel
theorem dX9_taker_29 : decode cX9_taker 29 = .ok (.ireturn, 1) := by decide +kernel
theorem dX9_times_0 : decode cX9_times 0 = .ok (.aload_n 0, 1) := by decide +kernel
theorem dX9_times_1 : decode cX9_times 1 = .ok (.iload_n 1, 1) := by decide +kernel
theorem dX9_times_2 : decode cX9_times 2 = .ok (.invokevirtual 130, 3) := by decide +kernel
theorem dX9_times_5 : decode cX9_times 5 = .ok (.aload_n 0, 1) := by decide +kernel
theorem dX9_times_6 : decode cX9_times 6 = .ok (.aload_n 0, 1) := by decide +kernel
theorem dX9_times_7 : decode cX9_times 7 = .ok (.getfield 31, 3) := by decide +kernel
theorem dX9_times_10 : decode cX9_times 10 = .ok (.iload_n 2, 1) := by decide +kernel
theorem dX9_times_11 : decode cX9_times 11 = .ok (.invokevirtual 209, 3) := by decide +kernel
theorem dX9_times_14 : decode cX9_times 14 = .ok (.aload_n 0, 1) := by decide +kernel
theorem dX9_times_15 : decode cX9_times 15 = .ok (.iload_n 1, 1) := by decide +kernel
theorem dX9_times_16 : decode cX9_times 16 = .ok (.invokevirtual 215, 3) := by decide +kernel
theorem dX9_times_19 : decode cX9_times 19 = .ok (.astore_n 3, 1) := by decide +kernel
theorem dX9_times_20 : decode cX9_times 20 = .ok (.aload_n 3, 1) := by decide +kernel
theorem dX9_times_21 : decode cX9_times 21 = .ok (.invokevirtual 219, 3) := by decide +kernel
theorem dX9_times_24 : decode cX9_times 24 = .ok (.ifCond .eq 12, 3) := by decide +kernel
theorem dX9_times_27 : decode cX9_times 27 = .ok (.aload_n 3, 1) := by decide +kernel
theorem dX9_times_28 : decode cX9_times 28 = .ok (.getfield 235, 3) := by decide +kernel
theorem dX9_times_31 : decode cX9_times 31 = .ok (.iload_n 2, 1) := by decide +kernel
theorem dX9_times_32 : decode cX9_times 32 = .ok (.iaload, 1) := by decide +kernel
theorem dX9_times_33 : decode cX9_times 33 = .ok (.goto 4, 3) := by decide +kernel
theorem dX9_times_36 : decode cX9_times 36 = .ok (.iconst (-1), 1) := by decide +kernel
theorem dX9_times_37 : decode cX9_times 37 = .ok (.ireturn, 1) := by decide +kernel
theorem dX9_token_0 : decode cX9_token 0 = .ok (.aload_n 0, 1) := by decide +kernel
theorem dX9_token_1 : decode cX9_token 1 = .ok (.iload_n 1, 1) := by decide +kernel
theorem dX9_token_2 : decode cX9_token 2 = .ok (.iload_n 2, 1) := by decide +kernel
theorem dX9_token_3 : decode cX9_token 3 = .ok (.invokevirtual 187, 3) := by decide +kernel
theorem dX9_token_6 : decode cX9_token 6 = .ok (.aload_n 0, 1) := by decide +kernel
theorem dX9_token_7 : decode cX9_token 7 = .ok (.getfield 18, 3) := by decide +kernel
theorem dX9_token_10 : decode cX9_token 10 = .ok (.iload_n 1, 1) := by decide +kernel
theorem dX9_token_11 : decode cX9_token 11 = .ok (.aaload, 1) := by decide +kernel
theorem dX9_token_12 : decode cX9_token 12 = .ok (.getfield 191, 3) := by decide +kernel
theorem dX9_token_15 : decode cX9_token 15 = .ok (.iload_n 2, 1) := by decide +kernel
theorem dX9_token_16 : decode cX9_token 16 = .ok (.iaload, 1) := by decide +kernel
theorem dX9_token_17 : decode cX9_token 17 = .ok (.ireturn, 1) := by decide +kernel
theorem dX9_told_0 : decode cX9_told 0 = .ok (.iload_n 1, 1) := by decide +kernel
theorem dX9_told_1 : decode cX9_told 1 = .ok (.tableswitch 138 0 9 #[55, 60, 68, 76, 84, 95, 106, 117, 125, 130], 55) := by decide +kernel
theorem dX9_told_56 : decode cX9_told 56 = .ok (.aload_n 0, 1) := by decide +kernel
theorem dX9_told_57 : decode cX9_told 57 = .ok (.getfield 22, 3) := by decide +kernel
theorem dX9_told_60 : decode cX9_told 60 = .ok (.ireturn, 1) := by decide +kernel
theorem dX9_told_61 : decode cX9_told 61 = .ok (.aload_n 0, 1) := by decide +kernel
theorem dX9_told_62 : decode cX9_told 62 = .ok (.getfield 10, 3) := by decide +kernel
theorem dX9_told_65 : decode cX9_told 65 = .ok (.getfield 174, 3) := by decide +kernel
theorem dX9_told_68 : decode cX9_told 68 = .ok (.ireturn, 1) := by decide +kernel
theorem dX9_told_69 : decode cX9_told 69 = .ok (.aload_n 0, 1) := by decide +kernel
theorem dX9_told_70 : decode cX9_told 70 = .ok (.getfield 31, 3) := by decide +kernel
theorem dX9_told_73 : decode cX9_told 73 = .ok (.getfield 155, 3) := by decide +kernel
theorem dX9_told_76 : decode cX9_told 76 = .ok (.ireturn, 1) := by decide +kernel
theorem dX9_told_77 : decode cX9_told 77 = .ok (.aload_n 0, 1) := by decide +kernel
theorem dX9_told_78 : decode cX9_told 78 = .ok (.getfield 31, 3) := by decide +kernel
theorem dX9_told_81 : decode cX9_told 81 = .ok (.invokevirtual 136, 3) := by decide +kernel
theorem dX9_told_84 : decode cX9_told 84 = .ok (.ireturn, 1) := by decide +kernel
theorem dX9_told_85 : decode cX9_told 85 = .ok (.aload_n 0, 1) := by decide +kernel
theorem dX9_told_86 : decode cX9_told 86 = .ok (.getfield 31, 3) := by decide +kernel
theorem dX9_told_89 : decode cX9_told 89 = .ok (.sipush 512, 3) := by decide +kernel
theorem dX9_told_92 : decode cX9_told 92 = .ok (.invokevirtual 177, 3) := by decide +kernel
theorem dX9_told_95 : decode cX9_told 95 = .ok (.ireturn, 1) := by decide +kernel
theorem dX9_told_96 : decode cX9_told 96 = .ok (.aload_n 0, 1) := by decide +kernel
theorem dX9_told_97 : decode cX9_told 97 = .ok (.getfield 31, 3) := by decide +kernel
theorem dX9_told_100 : decode cX9_told 100 = .ok (.sipush 513, 3) := by decide +kernel
theorem dX9_told_103 : decode cX9_told 103 = .ok (.invokevirtual 177, 3) := by decide +kernel
theorem dX9_told_106 : decode cX9_told 106 = .ok (.ireturn, 1) := by decide +kernel
theorem dX9_told_107 : decode cX9_told 107 = .ok (.aload_n 0, 1) := by decide +kernel
theorem dX9_told_108 : decode cX9_told 108 = .ok (.getfield 31, 3) := by decide +kernel
theorem dX9_told_111 : decode cX9_told 111 = .ok (.sipush 514, 3) := by decide +kernel
theorem dX9_told_114 : decode cX9_told 114 = .ok (.invokevirtual 177, 3) := by decide +kernel
theorem dX9_told_117 : decode cX9_told 117 = .ok (.ireturn, 1) := by decide +kernel
theorem dX9_told_118 : decode cX9_told 118 = .ok (.aload_n 0, 1) := by decide +kernel
theorem dX9_told_119 : decode cX9_told 119 = .ok (.getfield 47, 3) := by decide +kernel
theorem dX9_told_122 : decode cX9_told 122 = .ok (.getfield 162, 3) := by decide +kernel
theorem dX9_told_125 : decode cX9_told 125 = .ok (.ireturn, 1) := by decide +kernel
theorem dX9_told_126 : decode cX9_told 126 = .ok (.aload_n 0, 1) := by decide +kernel
theorem dX9_told_127 : decode cX9_told 127 = .ok (.getfield 38, 3) := by decide +kernel
theorem dX9_told_130 : decode cX9_told 130 = .ok (.ireturn, 1) := by decide +kernel
theorem dX9_told_131 : decode cX9_told 131 = .ok (.aload_n 0, 1) := by decide +kernel
theorem dX9_told_132 : decode cX9_told 132 = .ok (.getfield 10, 3) := by decide +kernel
theorem dX9_told_135 : decode cX9_told 135 = .ok (.getfield 96, 3) := by decide +kernel
theorem dX9_told_138 : decode cX9_told 138 = .ok (.ireturn, 1) := by decide +kernel
theorem dX9_told_139 : decode cX9_told 139 = .ok (.aload_n 0, 1) := by decide +kernel
theorem dX9_told_140 : decode cX9_told 140 = .ok (.iconst 0, 1) := by decide +kernel
theorem dX9_told_141 : decode cX9_told 141 = .ok (.invokevirtual 102, 3) := by decide +kernel
theorem dX9_ways_0 : decode cX9_ways 0 = .ok (.aload_n 0, 1) := by decide +kernel
theorem dX9_ways_1 : decode cX9_ways 1 = .ok (.iload_n 1, 1) := by decide +kernel
theorem dX9_ways_2 : decode cX9_ways 2 = .ok (.invokevirtual 130, 3) := by decide +kernel
theorem dX9_ways_5 : decode cX9_ways 5 = .ok (.aload_n 0, 1) := by decide +kernel
theorem dX9_ways_6 : decode cX9_ways 6 = .ok (.iload_n 1, 1) := by decide +kernel
theorem dX9_ways_7 : decode cX9_ways 7 = .ok (.invokevirtual 215, 3) := by decide +kernel
theorem dX9_ways_10 : decode cX9_ways 10 = .ok (.getfield 232, 3) := by decide +kernel
theorem dX9_ways_13 : decode cX9_ways 13 = .ok (.ireturn, 1) := by decide +kernel
/-! public methods that ask alone -/

theorem k40 : (Cond.fieldLink "PageSkeleton" (174 : Nat) "PageSkeleton$Texts" "tokens" "I") ∈ wsG := wsG_at 40 (by decide +kernel) (by decide +kernel)
theorem k46 : (Cond.fieldLink "PageSkeleton" (127 : Nat) "PageSkeleton$Texts" "faultPlace" "I") ∈ wsG := wsG_at 46 (by decide +kernel) (by decide +kernel)
theorem k91 : (Cond.fieldLink "PageSkeleton" (268 : Nat) "PageSkeleton$Row" "place" "[I") ∈ wsG := wsG_at 91 (by decide +kernel) (by decide +kernel)
theorem k135 : (Cond.fieldLink "PageSkeleton" (162 : Nat) "PageSkeleton$Past" "count" "I") ∈ wsG := wsG_at 135 (by decide +kernel) (by decide +kernel)
theorem k275 : (Cond.fieldLink "PageSkeleton" (232 : Nat) "PageSkeleton$Walk" "wayCount" "I") ∈ wsG := wsG_at 275 (by decide +kernel) (by decide +kernel)
theorem k278 : (Cond.fieldLink "PageSkeleton" (244 : Nat) "PageSkeleton$Walk" "takers" "[I") ∈ wsG := wsG_at 278 (by decide +kernel) (by decide +kernel)
theorem k281 : (Cond.fieldLink "PageSkeleton" (235 : Nat) "PageSkeleton$Walk" "there" "[I") ∈ wsG := wsG_at 281 (by decide +kernel) (by decide +kernel)
theorem k284 : (Cond.fieldLink "PageSkeleton" (241 : Nat) "PageSkeleton$Walk" "passed" "[I") ∈ wsG := wsG_at 284 (by decide +kernel) (by decide +kernel)
theorem k297 : (Cond.fieldLink "PageSkeleton" (191 : Nat) "PageSkeleton$Leaf" "tokens" "[I") ∈ wsG := wsG_at 297 (by decide +kernel) (by decide +kernel)
theorem k306 : (Cond.fieldLink "PageSkeleton" (288 : Nat) "PageSkeleton$Leaf" "steps" "[I") ∈ wsG := wsG_at 306 (by decide +kernel) (by decide +kernel)
theorem k308 : (Cond.fieldLink "PageSkeleton" (285 : Nat) "PageSkeleton$Leaf" "stepCount" "I") ∈ wsG := wsG_at 308 (by decide +kernel) (by decide +kernel)
theorem k513 : (Cond.methodLink "PageSkeleton" (136 : Nat) ({ cls := "PageSkeleton$Row", name := "size", desc := "()I" } : MethodName)) ∈ wsG := wsG_at 513 (by decide +kernel) (by decide +kernel)
theorem k514 : (Cond.instanceMethod ({ cls := "PageSkeleton$Row", name := "size", desc := "()I" } : MethodName)) ∈ wsG := wsG_at 514 (by decide +kernel) (by decide +kernel)
theorem k515 : (Cond.selects "PageSkeleton$Row" ({ cls := "PageSkeleton$Row", name := "size", desc := "()I" } : MethodName) ({ cls := "PageSkeleton$Row", name := "size", desc := "()I" } : MethodName)) ∈ wsG := wsG_at 515 (by decide +kernel) (by decide +kernel)
theorem k516 : (Cond.code ({ cls := "PageSkeleton$Row", name := "size", desc := "()I" } : MethodName) prog_6_method_8_code (1 : Nat) (Option.some FieldType.int)) ∈ wsG := wsG_at 516 (by decide +kernel) (by decide +kernel)
theorem k527 : (Cond.methodLink "PageSkeleton" (264 : Nat) ({ cls := "PageSkeleton$Row", name := "countLeaves", desc := "(ZZZ)I" } : MethodName)) ∈ wsG := wsG_at 527 (by decide +kernel) (by decide +kernel)
theorem k528 : (Cond.instanceMethod ({ cls := "PageSkeleton$Row", name := "countLeaves", desc := "(ZZZ)I" } : MethodName)) ∈ wsG := wsG_at 528 (by decide +kernel) (by decide +kernel)
theorem k529 : (Cond.selects "PageSkeleton$Row" ({ cls := "PageSkeleton$Row", name := "countLeaves", desc := "(ZZZ)I" } : MethodName) ({ cls := "PageSkeleton$Row", name := "countLeaves", desc := "(ZZZ)I" } : MethodName)) ∈ wsG := wsG_at 529 (by decide +kernel) (by decide +kernel)
theorem k530 : (Cond.code ({ cls := "PageSkeleton$Row", name := "countLeaves", desc := "(ZZZ)I" } : MethodName) prog_6_method_20_code (8 : Nat) (Option.some FieldType.int)) ∈ wsG := wsG_at 530 (by decide +kernel) (by decide +kernel)
theorem k535 : (Cond.methodLink "PageSkeleton" (215 : Nat) ({ cls := "PageSkeleton", name := "walkOf", desc := "(I)LPageSkeleton$Walk;" } : MethodName)) ∈ wsG := wsG_at 535 (by decide +kernel) (by decide +kernel)
theorem k537 : (Cond.instanceMethod ({ cls := "PageSkeleton", name := "walkOf", desc := "(I)LPageSkeleton$Walk;" } : MethodName)) ∈ wsG := wsG_at 537 (by decide +kernel) (by decide +kernel)
theorem k538 : (Cond.code ({ cls := "PageSkeleton", name := "walkOf", desc := "(I)LPageSkeleton$Walk;" } : MethodName) prog_1_method_49_code (3 : Nat) (Option.some (FieldType.object "PageSkeleton$Walk"))) ∈ wsG := wsG_at 538 (by decide +kernel) (by decide +kernel)
theorem k579 : (Cond.methodLink "PageSkeleton" (219 : Nat) ({ cls := "PageSkeleton$Walk", name := "isThrough", desc := "()Z" } : MethodName)) ∈ wsG := wsG_at 579 (by decide +kernel) (by decide +kernel)
theorem k580 : (Cond.instanceMethod ({ cls := "PageSkeleton$Walk", name := "isThrough", desc := "()Z" } : MethodName)) ∈ wsG := wsG_at 580 (by decide +kernel) (by decide +kernel)
theorem k581 : (Cond.selects "PageSkeleton$Walk" ({ cls := "PageSkeleton$Walk", name := "isThrough", desc := "()Z" } : MethodName) ({ cls := "PageSkeleton$Walk", name := "isThrough", desc := "()Z" } : MethodName)) ∈ wsG := wsG_at 581 (by decide +kernel) (by decide +kernel)
theorem k582 : (Cond.code ({ cls := "PageSkeleton$Walk", name := "isThrough", desc := "()Z" } : MethodName) prog_9_method_2_code (1 : Nat) (Option.some FieldType.boolean)) ∈ wsG := wsG_at 582 (by decide +kernel) (by decide +kernel)
theorem k596 : (Cond.methodLink "PageSkeleton" (102 : Nat) ({ cls := "PageSkeleton", name := "needArgument", desc := "(Z)V" } : MethodName)) ∈ wsG := wsG_at 596 (by decide +kernel) (by decide +kernel)
theorem k598 : (Cond.instanceMethod ({ cls := "PageSkeleton", name := "needArgument", desc := "(Z)V" } : MethodName)) ∈ wsG := wsG_at 598 (by decide +kernel) (by decide +kernel)
theorem k599 : (Cond.code ({ cls := "PageSkeleton", name := "needArgument", desc := "(Z)V" } : MethodName) prog_1_method_41_code (2 : Nat) (Option.none : Option Jvm.ClassFile.FieldType)) ∈ wsG := wsG_at 599 (by decide +kernel) (by decide +kernel)
theorem k856 : (Cond.methodLink "PageSkeleton" (177 : Nat) ({ cls := "PageSkeleton$Row", name := "countOf", desc := "(I)I" } : MethodName)) ∈ wsG := wsG_at 856 (by decide +kernel) (by decide +kernel)
theorem k857 : (Cond.instanceMethod ({ cls := "PageSkeleton$Row", name := "countOf", desc := "(I)I" } : MethodName)) ∈ wsG := wsG_at 857 (by decide +kernel) (by decide +kernel)
theorem k858 : (Cond.selects "PageSkeleton$Row" ({ cls := "PageSkeleton$Row", name := "countOf", desc := "(I)I" } : MethodName) ({ cls := "PageSkeleton$Row", name := "countOf", desc := "(I)I" } : MethodName)) ∈ wsG := wsG_at 858 (by decide +kernel) (by decide +kernel)
theorem k859 : (Cond.code ({ cls := "PageSkeleton$Row", name := "countOf", desc := "(I)I" } : MethodName) prog_6_method_13_code (4 : Nat) (Option.some FieldType.int)) ∈ wsG := wsG_at 859 (by decide +kernel) (by decide +kernel)
theorem k867 : (Cond.methodLink "PageSkeleton" (184 : Nat) ({ cls := "PageSkeleton$Row", name := "deepestRepeat", desc := "()I" } : MethodName)) ∈ wsG := wsG_at 867 (by decide +kernel) (by decide +kernel)
theorem k868 : (Cond.instanceMethod ({ cls := "PageSkeleton$Row", name := "deepestRepeat", desc := "()I" } : MethodName)) ∈ wsG := wsG_at 868 (by decide +kernel) (by decide +kernel)
theorem k869 : (Cond.selects "PageSkeleton$Row" ({ cls := "PageSkeleton$Row", name := "deepestRepeat", desc := "()I" } : MethodName) ({ cls := "PageSkeleton$Row", name := "deepestRepeat", desc := "()I" } : MethodName)) ∈ wsG := wsG_at 869 (by decide +kernel) (by decide +kernel)
theorem k870 : (Cond.code ({ cls := "PageSkeleton$Row", name := "deepestRepeat", desc := "()I" } : MethodName) prog_6_method_19_code (4 : Nat) (Option.some FieldType.int)) ∈ wsG := wsG_at 870 (by decide +kernel) (by decide +kernel)
theorem k878 : (Cond.methodLink "PageSkeleton" (187 : Nat) ({ cls := "PageSkeleton", name := "needPlace", desc := "(II)V" } : MethodName)) ∈ wsG := wsG_at 878 (by decide +kernel) (by decide +kernel)
theorem k880 : (Cond.instanceMethod ({ cls := "PageSkeleton", name := "needPlace", desc := "(II)V" } : MethodName)) ∈ wsG := wsG_at 880 (by decide +kernel) (by decide +kernel)
theorem k881 : (Cond.code ({ cls := "PageSkeleton", name := "needPlace", desc := "(II)V" } : MethodName) prog_1_method_44_code (3 : Nat) (Option.none : Option Jvm.ClassFile.FieldType)) ∈ wsG := wsG_at 881 (by decide +kernel) (by decide +kernel)
theorem k914 : (Cond.methodLink "PageSkeleton" (209 : Nat) ({ cls := "PageSkeleton", name := "needNode", desc := "(LPageSkeleton$Row;I)V" } : MethodName)) ∈ wsG := wsG_at 914 (by decide +kernel) (by decide +kernel)
theorem k916 : (Cond.instanceMethod ({ cls := "PageSkeleton", name := "needNode", desc := "(LPageSkeleton$Row;I)V" } : MethodName)) ∈ wsG := wsG_at 916 (by decide +kernel) (by decide +kernel)
theorem k917 : (Cond.code ({ cls := "PageSkeleton", name := "needNode", desc := "(LPageSkeleton$Row;I)V" } : MethodName) prog_1_method_45_code (3 : Nat) (Option.none : Option Jvm.ClassFile.FieldType)) ∈ wsG := wsG_at 917 (by decide +kernel) (by decide +kernel)
theorem k918 : (Cond.methodLink "PageSkeleton" (212 : Nat) ({ cls := "PageSkeleton$Row", name := "tellNode", desc := "(II)I" } : MethodName)) ∈ wsG := wsG_at 918 (by decide +kernel) (by decide +kernel)
theorem k919 : (Cond.instanceMethod ({ cls := "PageSkeleton$Row", name := "tellNode", desc := "(II)I" } : MethodName)) ∈ wsG := wsG_at 919 (by decide +kernel) (by decide +kernel)
theorem k920 : (Cond.selects "PageSkeleton$Row" ({ cls := "PageSkeleton$Row", name := "tellNode", desc := "(II)I" } : MethodName) ({ cls := "PageSkeleton$Row", name := "tellNode", desc := "(II)I" } : MethodName)) ∈ wsG := wsG_at 920 (by decide +kernel) (by decide +kernel)
theorem k921 : (Cond.code ({ cls := "PageSkeleton$Row", name := "tellNode", desc := "(II)I" } : MethodName) prog_6_method_21_code (4 : Nat) (Option.some FieldType.int)) ∈ wsG := wsG_at 921 (by decide +kernel) (by decide +kernel)
theorem k983 : (Cond.methodLink "PageSkeleton" (238 : Nat) ({ cls := "PageSkeleton$Row", name := "codeOf", desc := "(I)I" } : MethodName)) ∈ wsG := wsG_at 983 (by decide +kernel) (by decide +kernel)
theorem k984 : (Cond.instanceMethod ({ cls := "PageSkeleton$Row", name := "codeOf", desc := "(I)I" } : MethodName)) ∈ wsG := wsG_at 984 (by decide +kernel) (by decide +kernel)
theorem k985 : (Cond.selects "PageSkeleton$Row" ({ cls := "PageSkeleton$Row", name := "codeOf", desc := "(I)I" } : MethodName) ({ cls := "PageSkeleton$Row", name := "codeOf", desc := "(I)I" } : MethodName)) ∈ wsG := wsG_at 985 (by decide +kernel) (by decide +kernel)
theorem k986 : (Cond.code ({ cls := "PageSkeleton$Row", name := "codeOf", desc := "(I)I" } : MethodName) prog_6_method_12_code (2 : Nat) (Option.some FieldType.int)) ∈ wsG := wsG_at 986 (by decide +kernel) (by decide +kernel)
theorem k1037 : (Cond.constant "PageSkeleton" (253 : Nat) (1000000 : Int32)) ∈ wsG := wsG_at 1037 (by decide +kernel) (by decide +kernel)
theorem k1099 : (Cond.methodLink "PageSkeleton" (271 : Nat) ({ cls := "PageSkeleton$Row", name := "after", desc := "(I)I" } : MethodName)) ∈ wsG := wsG_at 1099 (by decide +kernel) (by decide +kernel)
theorem k1100 : (Cond.methodLink "PageSkeleton" (274 : Nat) ({ cls := "PageSkeleton$Row", name := "matches", desc := "(ILPageSkeleton$Row;II)Z" } : MethodName)) ∈ wsG := wsG_at 1100 (by decide +kernel) (by decide +kernel)
theorem ks_yX9_needArgument : Cond.selects RX9 yX9_needArgument yX9_needArgument ∈ wsG := wsG_mem (by decide +kernel) (by decide +kernel)
theorem ks_yX9_needPlace : Cond.selects RX9 yX9_needPlace yX9_needPlace ∈ wsG := wsG_mem (by decide +kernel) (by decide +kernel)
theorem ks_yX9_needNode : Cond.selects RX9 yX9_needNode yX9_needNode ∈ wsG := wsG_mem (by decide +kernel) (by decide +kernel)
theorem ks_yX9_walkOf : Cond.selects RX9 yX9_walkOf yX9_walkOf ∈ wsG := wsG_mem (by decide +kernel) (by decide +kernel)
theorem dX9_alike_0 : decode cX9_alike 0 = .ok (.aload_n 0, 1) := by decide +kernel
theorem dX9_alike_1 : decode cX9_alike 1 = .ok (.aload_n 0, 1) := by decide +kernel
theorem dX9_alike_2 : decode cX9_alike 2 = .ok (.getfield 31, 3) := by decide +kernel
theorem dX9_alike_5 : decode cX9_alike 5 = .ok (.iload_n 1, 1) := by decide +kernel
theorem dX9_alike_6 : decode cX9_alike 6 = .ok (.invokevirtual 209, 3) := by decide +kernel
theorem dX9_alike_9 : decode cX9_alike 9 = .ok (.aload_n 0, 1) := by decide +kernel
theorem dX9_alike_10 : decode cX9_alike 10 = .ok (.aload_n 0, 1) := by decide +kernel
theorem dX9_alike_11 : decode cX9_alike 11 = .ok (.getfield 31, 3) := by decide +kernel
theorem dX9_alike_14 : decode cX9_alike 14 = .ok (.iload_n 2, 1) := by decide +kernel
theorem dX9_alike_15 : decode cX9_alike 15 = .ok (.invokevirtual 209, 3) := by decide +kernel
theorem dX9_alike_18 : decode cX9_alike 18 = .ok (.aload_n 0, 1) := by decide +kernel
theorem dX9_alike_19 : decode cX9_alike 19 = .ok (.getfield 31, 3) := by decide +kernel
theorem dX9_alike_22 : decode cX9_alike 22 = .ok (.getfield 268, 3) := by decide +kernel
theorem dX9_alike_25 : decode cX9_alike 25 = .ok (.iload_n 1, 1) := by decide +kernel
theorem dX9_alike_26 : decode cX9_alike 26 = .ok (.iaload, 1) := by decide +kernel
theorem dX9_alike_27 : decode cX9_alike 27 = .ok (.istore_n 3, 1) := by decide +kernel
theorem dX9_alike_28 : decode cX9_alike 28 = .ok (.aload_n 0, 1) := by decide +kernel
theorem dX9_alike_29 : decode cX9_alike 29 = .ok (.getfield 31, 3) := by decide +kernel
theorem dX9_alike_32 : decode cX9_alike 32 = .ok (.getfield 268, 3) := by decide +kernel
theorem dX9_alike_35 : decode cX9_alike 35 = .ok (.iload_n 2, 1) := by decide +kernel
theorem dX9_alike_36 : decode cX9_alike 36 = .ok (.iaload, 1) := by decide +kernel
theorem dX9_alike_37 : decode cX9_alike 37 = .ok (.istore 4, 2) := by decide +kernel
theorem dX9_alike_39 : decode cX9_alike 39 = .ok (.aload_n 0, 1) := by decide +kernel
theorem dX9_alike_40 : decode cX9_alike 40 = .ok (.getfield 31, 3) := by decide +kernel
theorem dX9_alike_43 : decode cX9_alike 43 = .ok (.iload_n 3, 1) := by decide +kernel
theorem dX9_alike_44 : decode cX9_alike 44 = .ok (.invokevirtual 271, 3) := by decide +kernel
theorem dX9_alike_47 : decode cX9_alike 47 = .ok (.iload_n 3, 1) := by decide +kernel
theorem dX9_alike_48 : decode cX9_alike 48 = .ok (.isub, 1) := by decide +kernel
theorem dX9_alike_49 : decode cX9_alike 49 = .ok (.istore 5, 2) := by decide +kernel
theorem dX9_alike_51 : decode cX9_alike 51 = .ok (.iload 5, 2) := by decide +kernel
theorem dX9_alike_53 : decode cX9_alike 53 = .ok (.aload_n 0, 1) := by decide +kernel
theorem dX9_alike_54 : decode cX9_alike 54 = .ok (.getfield 31, 3) := by decide +kernel
theorem dX9_alike_57 : decode cX9_alike 57 = .ok (.iload 4, 2) := by decide +kernel
theorem dX9_alike_59 : decode cX9_alike 59 = .ok (.invokevirtual 271, 3) := by decide +kernel
theorem dX9_alike_62 : decode cX9_alike 62 = .ok (.iload 4, 2) := by decide +kernel
theorem dX9_alike_64 : decode cX9_alike 64 = .ok (.isub, 1) := by decide +kernel
theorem dX9_alike_65 : decode cX9_alike 65 = .ok (.if_icmp .ne 26, 3) := by decide +kernel
theorem dX9_alike_68 : decode cX9_alike 68 = .ok (.aload_n 0, 1) := by decide +kernel
theorem dX9_alike_69 : decode cX9_alike 69 = .ok (.getfield 31, 3) := by decide +kernel
theorem dX9_alike_72 : decode cX9_alike 72 = .ok (.iload_n 3, 1) := by decide +kernel
theorem dX9_alike_73 : decode cX9_alike 73 = .ok (.aload_n 0, 1) := by decide +kernel
theorem dX9_alike_74 : decode cX9_alike 74 = .ok (.getfield 31, 3) := by decide +kernel
theorem dX9_alike_77 : decode cX9_alike 77 = .ok (.iload 4, 2) := by decide +kernel
theorem dX9_alike_79 : decode cX9_alike 79 = .ok (.iload 5, 2) := by decide +kernel
theorem dX9_alike_81 : decode cX9_alike 81 = .ok (.invokevirtual 274, 3) := by decide +kernel
theorem dX9_alike_84 : decode cX9_alike 84 = .ok (.ifCond .eq 7, 3) := by decide +kernel
theorem dX9_alike_87 : decode cX9_alike 87 = .ok (.iconst 1, 1) := by decide +kernel
theorem dX9_alike_88 : decode cX9_alike 88 = .ok (.goto 4, 3) := by decide +kernel
theorem dX9_alike_91 : decode cX9_alike 91 = .ok (.iconst 0, 1) := by decide +kernel
theorem dX9_alike_92 : decode cX9_alike 92 = .ok (.ireturn, 1) := by decide +kernel
theorem dX9_cuts_0 : decode cX9_cuts 0 = .ok (.aload_n 0, 1) := by decide +kernel
theorem dX9_cuts_1 : decode cX9_cuts 1 = .ok (.iload_n 1, 1) := by decide +kernel
theorem dX9_cuts_2 : decode cX9_cuts 2 = .ok (.invokevirtual 130, 3) := by decide +kernel
theorem dX9_cuts_5 : decode cX9_cuts 5 = .ok (.aload_n 0, 1) := by decide +kernel
theorem dX9_cuts_6 : decode cX9_cuts 6 = .ok (.getfield 68, 3) := by decide +kernel
theorem dX9_cuts_9 : decode cX9_cuts 9 = .ok (.aload_n 0, 1) := by decide +kernel
theorem dX9_cuts_10 : decode cX9_cuts 10 = .ok (.getfield 31, 3) := by decide +kernel
theorem dX9_cuts_13 : decode cX9_cuts 13 = .ok (.aload_n 0, 1) := by decide +kernel
theorem dX9_cuts_14 : decode cX9_cuts 14 = .ok (.getfield 18, 3) := by decide +kernel
theorem dX9_cuts_17 : decode cX9_cuts 17 = .ok (.iload_n 1, 1) := by decide +kernel
theorem dX9_cuts_18 : decode cX9_cuts 18 = .ok (.aaload, 1) := by decide +kernel
theorem dX9_cuts_19 : decode cX9_cuts 19 = .ok (.getfield 225, 3) := by decide +kernel
theorem dX9_cuts_22 : decode cX9_cuts 22 = .ok (.aload_n 0, 1) := by decide +kernel
theorem dX9_cuts_23 : decode cX9_cuts 23 = .ok (.getfield 18, 3) := by decide +kernel
theorem dX9_cuts_26 : decode cX9_cuts 26 = .ok (.iload_n 1, 1) := by decide +kernel
theorem dX9_cuts_27 : decode cX9_cuts 27 = .ok (.aaload, 1) := by decide +kernel
theorem dX9_cuts_28 : decode cX9_cuts 28 = .ok (.getfield 180, 3) := by decide +kernel
theorem dX9_cuts_31 : decode cX9_cuts 31 = .ok (.iconst 1, 1) := by decide +kernel
theorem dX9_cuts_32 : decode cX9_cuts 32 = .ok (.invokevirtual 228, 3) := by decide +kernel
theorem dX9_cuts_35 : decode cX9_cuts 35 = .ok (.istore_n 2, 1) := by decide +kernel
theorem dX9_cuts_36 : decode cX9_cuts 36 = .ok (.iload_n 2, 1) := by decide +kernel
theorem dX9_cuts_37 : decode cX9_cuts 37 = .ok (.ldc 253, 2) := by decide +kernel
theorem dX9_cuts_39 : decode cX9_cuts 39 = .ok (.if_icmp .lt 7, 3) := by decide +kernel
theorem dX9_cuts_42 : decode cX9_cuts 42 = .ok (.iconst (-1), 1) := by decide +kernel
theorem dX9_cuts_43 : decode cX9_cuts 43 = .ok (.goto 4, 3) := by decide +kernel
theorem dX9_cuts_46 : decode cX9_cuts 46 = .ok (.iload_n 2, 1) := by decide +kernel
theorem dX9_cuts_47 : decode cX9_cuts 47 = .ok (.ireturn, 1) := by decide +kernel
theorem dX9_fault_0 : decode cX9_fault 0 = .ok (.aload_n 0, 1) := by decide +kernel
theorem dX9_fault_1 : decode cX9_fault 1 = .ok (.getfield 10, 3) := by decide +kernel
theorem dX9_fault_4 : decode cX9_fault 4 = .ok (.getfield 127, 3) := by decide +kernel
theorem dX9_fault_7 : decode cX9_fault 7 = .ok (.ireturn, 1) := by decide +kernel
theorem dX9_firm_0 : decode cX9_firm 0 = .ok (.aload_n 0, 1) := by decide +kernel
theorem dX9_firm_1 : decode cX9_firm 1 = .ok (.iload_n 1, 1) := by decide +kernel
theorem dX9_firm_2 : decode cX9_firm 2 = .ok (.ifCond .lt 12, 3) := by decide +kernel
theorem dX9_firm_5 : decode cX9_firm 5 = .ok (.iload_n 1, 1) := by decide +kernel
theorem dX9_firm_6 : decode cX9_firm 6 = .ok (.iconst 2, 1) := by decide +kernel
theorem dX9_firm_7 : decode cX9_firm 7 = .ok (.if_icmp .gt 7, 3) := by decide +kernel
theorem dX9_firm_10 : decode cX9_firm 10 = .ok (.iconst 1, 1) := by decide +kernel
theorem dX9_firm_11 : decode cX9_firm 11 = .ok (.goto 4, 3) := by decide +kernel
theorem dX9_firm_14 : decode cX9_firm 14 = .ok (.iconst 0, 1) := by decide +kernel
theorem dX9_firm_15 : decode cX9_firm 15 = .ok (.invokevirtual 102, 3) := by decide +kernel
theorem dX9_firm_18 : decode cX9_firm 18 = .ok (.aload_n 0, 1) := by decide +kernel
theorem dX9_firm_19 : decode cX9_firm 19 = .ok (.getfield 31, 3) := by decide +kernel
theorem dX9_firm_22 : decode cX9_firm 22 = .ok (.iload_n 1, 1) := by decide +kernel
theorem dX9_firm_23 : decode cX9_firm 23 = .ok (.iconst 1, 1) := by decide +kernel
theorem dX9_firm_24 : decode cX9_firm 24 = .ok (.if_icmp .eq 7, 3) := by decide +kernel
theorem dX9_firm_27 : decode cX9_firm 27 = .ok (.iconst 1, 1) := by decide +kernel
theorem dX9_firm_28 : decode cX9_firm 28 = .ok (.goto 4, 3) := by decide +kernel
theorem dX9_firm_31 : decode cX9_firm 31 = .ok (.iconst 0, 1) := by decide +kernel
theorem dX9_firm_32 : decode cX9_firm 32 = .ok (.iload_n 1, 1) := by decide +kernel
theorem dX9_firm_33 : decode cX9_firm 33 = .ok (.ifCond .eq 7, 3) := by decide +kernel
theorem dX9_firm_36 : decode cX9_firm 36 = .ok (.iconst 1, 1) := by decide +kernel
theorem dX9_firm_37 : decode cX9_firm 37 = .ok (.goto 4, 3) := by decide +kernel
theorem dX9_firm_40 : decode cX9_firm 40 = .ok (.iconst 0, 1) := by decide +kernel
theorem dX9_firm_41 : decode cX9_firm 41 = .ok (.iconst 0, 1) := by decide +kernel
theorem dX9_firm_42 : decode cX9_firm 42 = .ok (.invokevirtual 264, 3) := by decide +kernel
theorem dX9_firm_45 : decode cX9_firm 45 = .ok (.ireturn, 1) := by decide +kernel
theorem dX9_fits_0 : decode cX9_fits 0 = .ok (.aload_n 0, 1) := by decide +kernel
theorem dX9_fits_1 : decode cX9_fits 1 = .ok (.iload_n 1, 1) := by decide +kernel
theorem dX9_fits_2 : decode cX9_fits 2 = .ok (.invokevirtual 130, 3) := by decide +kernel
theorem dX9_fits_5 : decode cX9_fits 5 = .ok (.aload_n 0, 1) := by decide +kernel
theorem dX9_fits_6 : decode cX9_fits 6 = .ok (.iload_n 1, 1) := by decide +kernel
theorem dX9_fits_7 : decode cX9_fits 7 = .ok (.invokevirtual 215, 3) := by decide +kernel
theorem dX9_fits_10 : decode cX9_fits 10 = .ok (.invokevirtual 219, 3) := by decide +kernel
theorem dX9_fits_13 : decode cX9_fits 13 = .ok (.ireturn, 1) := by decide +kernel
theorem dX9_node_0 : decode cX9_node 0 = .ok (.aload_n 0, 1) := by decide +kernel
theorem dX9_node_1 : decode cX9_node 1 = .ok (.aload_n 0, 1) := by decide +kernel
theorem dX9_node_2 : decode cX9_node 2 = .ok (.getfield 31, 3) := by decide +kernel
theorem dX9_node_5 : decode cX9_node 5 = .ok (.iload_n 1, 1) := by decide +kernel
theorem dX9_node_6 : decode cX9_node 6 = .ok (.invokevirtual 209, 3) := by decide +kernel
theorem dX9_node_9 : decode cX9_node 9 = .ok (.aload_n 0, 1) := by decide +kernel
theorem dX9_node_10 : decode cX9_node 10 = .ok (.iload_n 2, 1) := by decide +kernel
theorem dX9_node_11 : decode cX9_node 11 = .ok (.ifCond .lt 12, 3) := by decide +kernel
theorem dX9_node_14 : decode cX9_node 14 = .ok (.iload_n 2, 1) := by decide +kernel
theorem dX9_node_15 : decode cX9_node 15 = .ok (.iconst 5, 1) := by decide +kernel
theorem dX9_node_16 : decode cX9_node 16 = .ok (.if_icmp .gt 7, 3) := by decide +kernel
theorem dX9_node_19 : decode cX9_node 19 = .ok (.iconst 1, 1) := by decide +kernel
theorem dX9_node_20 : decode cX9_node 20 = .ok (.goto 4, 3) := by decide +kernel
theorem dX9_node_23 : decode cX9_node 23 = .ok (.iconst 0, 1) := by decide +kernel
theorem dX9_node_24 : decode cX9_node 24 = .ok (.invokevirtual 102, 3) := by decide +kernel
theorem dX9_node_27 : decode cX9_node 27 = .ok (.aload_n 0, 1) := by decide +kernel
theorem dX9_node_28 : decode cX9_node 28 = .ok (.getfield 31, 3) := by decide +kernel
theorem dX9_node_31 : decode cX9_node 31 = .ok (.iload_n 1, 1) := by decide +kernel
theorem dX9_node_32 : decode cX9_node 32 = .ok (.iload_n 2, 1) := by decide +kernel
theorem dX9_node_33 : decode cX9_node 33 = .ok (.invokevirtual 212, 3) := by decide +kernel
theorem dX9_node_36 : decode cX9_node 36 = .ok (.ireturn, 1) := by decide +kernel
theorem dX9_pageNode_0 : decode cX9_pageNode 0 = .ok (.aload_n 0, 1) := by decide +kernel
theorem dX9_pageNode_1 : decode cX9_pageNode 1 = .ok (.iload_n 1, 1) := by decide +kernel
theorem dX9_pageNode_2 : decode cX9_pageNode 2 = .ok (.invokevirtual 130, 3) := by decide +kernel
theorem dX9_pageNode_5 : decode cX9_pageNode 5 = .ok (.aload_n 0, 1) := by decide +kernel
theorem dX9_pageNode_6 : decode cX9_pageNode 6 = .ok (.aload_n 0, 1) := by decide +kernel
theorem dX9_pageNode_7 : decode cX9_pageNode 7 = .ok (.getfield 18, 3) := by decide +kernel
theorem dX9_pageNode_10 : decode cX9_pageNode 10 = .ok (.iload_n 1, 1) := by decide +kernel
theorem dX9_pageNode_11 : decode cX9_pageNode 11 = .ok (.aaload, 1) := by decide +kernel
theorem dX9_pageNode_12 : decode cX9_pageNode 12 = .ok (.getfield 181, 3) := by decide +kernel
theorem dX9_pageNode_15 : decode cX9_pageNode 15 = .ok (.iload_n 2, 1) := by decide +kernel
theorem dX9_pageNode_16 : decode cX9_pageNode 16 = .ok (.invokevirtual 209, 3) := by decide +kernel
theorem dX9_pageNode_19 : decode cX9_pageNode 19 = .ok (.aload_n 0, 1) := by decide +kernel
theorem dX9_pageNode_20 : decode cX9_pageNode 20 = .ok (.iload_n 3, 1) := by decide +kernel
theorem dX9_pageNode_21 : decode cX9_pageNode 21 = .ok (.ifCond .lt 12, 3) := by decide +kernel
theorem dX9_pageNode_24 : decode cX9_pageNode 24 = .ok (.iload_n 3, 1) := by decide +kernel
theorem dX9_pageNode_25 : decode cX9_pageNode 25 = .ok (.iconst 5, 1) := by decide +kernel
theorem dX9_pageNode_26 : decode cX9_pageNode 26 = .ok (.if_icmp .gt 7, 3) := by decide +kernel
theorem dX9_pageNode_29 : decode cX9_pageNode 29 = .ok (.iconst 1, 1) := by decide +kernel
theorem dX9_pageNode_30 : decode cX9_pageNode 30 = .ok (.goto 4, 3) := by decide +kernel
theorem dX9_pageNode_33 : decode cX9_pageNode 33 = .ok (.iconst 0, 1) := by decide +kernel
theorem dX9_pageNode_34 : decode cX9_pageNode 34 = .ok (.invokevirtual 102, 3) := by decide +kernel
theorem dX9_pageNode_37 : decode cX9_pageNode 37 = .ok (.aload_n 0, 1) := by decide +kernel
theorem dX9_pageNode_38 : decode cX9_pageNode 38 = .ok (.getfield 18, 3) := by decide +kernel
theorem dX9_pageNode_41 : decode cX9_pageNode 41 = .ok (.iload_n 1, 1) := by decide +kernel
theorem dX9_pageNode_42 : decode cX9_pageNode 42 = .ok (.aaload, 1) := by decide +kernel
theorem dX9_pageNode_43 : decode cX9_pageNode 43 = .ok (.getfield 181, 3) := by decide +kernel
theorem dX9_pageNode_46 : decode cX9_pageNode 46 = .ok (.iload_n 2, 1) := by decide +kernel
theorem dX9_pageNode_47 : decode cX9_pageNode 47 = .ok (.iload_n 3, 1) := by decide +kernel
theorem dX9_pageNode_48 : decode cX9_pageNode 48 = .ok (.invokevirtual 212, 3) := by decide +kernel
theorem dX9_pageNode_51 : decode cX9_pageNode 51 = .ok (.ireturn, 1) := by decide +kernel
theorem dX9_pageOf_0 : decode cX9_pageOf 0 = .ok (.aload_n 0, 1) := by decide +kernel
theorem dX9_pageOf_1 : decode cX9_pageOf 1 = .ok (.iload_n 1, 1) := by decide +kernel
theorem dX9_pageOf_2 : decode cX9_pageOf 2 = .ok (.invokevirtual 130, 3) := by decide +kernel
theorem dX9_pageOf_5 : decode cX9_pageOf 5 = .ok (.aload_n 0, 1) := by decide +kernel
theorem dX9_pageOf_6 : decode cX9_pageOf 6 = .ok (.getfield 18, 3) := by decide +kernel
theorem dX9_pageOf_9 : decode cX9_pageOf 9 = .ok (.iload_n 1, 1) := by decide +kernel
theorem dX9_pageOf_10 : decode cX9_pageOf 10 = .ok (.aaload, 1) := by decide +kernel
theorem dX9_pageOf_11 : decode cX9_pageOf 11 = .ok (.astore_n 3, 1) := by decide +kernel
theorem dX9_pageOf_12 : decode cX9_pageOf 12 = .ok (.iload_n 2, 1) := by decide +kernel
theorem dX9_pageOf_13 : decode cX9_pageOf 13 = .ok (.tableswitch 75 0 4 #[35, 40, 48, 56, 67], 35) := by decide +kernel
theorem dX9_pageOf_48 : decode cX9_pageOf 48 = .ok (.aload_n 3, 1) := by decide +kernel
theorem dX9_pageOf_49 : decode cX9_pageOf 49 = .ok (.getfield 180, 3) := by decide +kernel
theorem dX9_pageOf_52 : decode cX9_pageOf 52 = .ok (.ireturn, 1) := by decide +kernel
theorem dX9_pageOf_53 : decode cX9_pageOf 53 = .ok (.aload_n 3, 1) := by decide +kernel
theorem dX9_pageOf_54 : decode cX9_pageOf 54 = .ok (.getfield 181, 3) := by decide +kernel
theorem dX9_pageOf_57 : decode cX9_pageOf 57 = .ok (.getfield 155, 3) := by decide +kernel
theorem dX9_pageOf_60 : decode cX9_pageOf 60 = .ok (.ireturn, 1) := by decide +kernel
theorem dX9_pageOf_61 : decode cX9_pageOf 61 = .ok (.aload_n 3, 1) := by decide +kernel
theorem dX9_pageOf_62 : decode cX9_pageOf 62 = .ok (.getfield 181, 3) := by decide +kernel
theorem dX9_pageOf_65 : decode cX9_pageOf 65 = .ok (.invokevirtual 136, 3) := by decide +kernel
theorem dX9_pageOf_68 : decode cX9_pageOf 68 = .ok (.ireturn, 1) := by decide +kernel
theorem dX9_pageOf_69 : decode cX9_pageOf 69 = .ok (.aload_n 3, 1) := by decide +kernel
theorem dX9_pageOf_70 : decode cX9_pageOf 70 = .ok (.getfield 181, 3) := by decide +kernel
theorem dX9_pageOf_73 : decode cX9_pageOf 73 = .ok (.sipush 514, 3) := by decide +kernel
theorem dX9_pageOf_76 : decode cX9_pageOf 76 = .ok (.invokevirtual 177, 3) := by decide +kernel
theorem dX9_pageOf_79 : decode cX9_pageOf 79 = .ok (.ireturn, 1) := by decide +kernel
theorem dX9_pageOf_80 : decode cX9_pageOf 80 = .ok (.aload_n 3, 1) := by decide +kernel
theorem dX9_pageOf_81 : decode cX9_pageOf 81 = .ok (.getfield 181, 3) := by decide +kernel
theorem dX9_pageOf_84 : decode cX9_pageOf 84 = .ok (.invokevirtual 184, 3) := by decide +kernel
theorem dX9_pageOf_87 : decode cX9_pageOf 87 = .ok (.ireturn, 1) := by decide +kernel
theorem dX9_pageOf_88 : decode cX9_pageOf 88 = .ok (.aload_n 0, 1) := by decide +kernel
theorem dX9_pageOf_89 : decode cX9_pageOf 89 = .ok (.iconst 0, 1) := by decide +kernel
theorem dX9_pageOf_90 : decode cX9_pageOf 90 = .ok (.invokevirtual 102, 3) := by decide +kernel
theorem dX9_passes_0 : decode cX9_passes 0 = .ok (.aload_n 0, 1) := by decide +kernel
theorem dX9_passes_1 : decode cX9_passes 1 = .ok (.iload_n 1, 1) := by decide +kernel
theorem dX9_passes_2 : decode cX9_passes 2 = .ok (.invokevirtual 130, 3) := by decide +kernel
theorem dX9_passes_5 : decode cX9_passes 5 = .ok (.aload_n 0, 1) := by decide +kernel
theorem dX9_passes_6 : decode cX9_passes 6 = .ok (.aload_n 0, 1) := by decide +kernel
theorem dX9_passes_7 : decode cX9_passes 7 = .ok (.getfield 31, 3) := by decide +kernel
theorem dX9_passes_10 : decode cX9_passes 10 = .ok (.iload_n 2, 1) := by decide +kernel
theorem dX9_passes_11 : decode cX9_passes 11 = .ok (.invokevirtual 209, 3) := by decide +kernel
theorem dX9_passes_14 : decode cX9_passes 14 = .ok (.aload_n 0, 1) := by decide +kernel
theorem dX9_passes_15 : decode cX9_passes 15 = .ok (.iload_n 1, 1) := by decide +kernel
theorem dX9_passes_16 : decode cX9_passes 16 = .ok (.invokevirtual 215, 3) := by decide +kernel
theorem dX9_passes_19 : decode cX9_passes 19 = .ok (.astore_n 3, 1) := by decide +kernel
theorem dX9_passes_20 : decode cX9_passes 20 = .ok (.aload_n 3, 1) := by decide +kernel
theorem dX9_passes_21 : decode cX9_passes 21 = .ok (.invokevirtual 219, 3) := by decide +kernel
theorem dX9_passes_24 : decode cX9_passes 24 = .ok (.ifCond .eq 26, 3) := by decide +kernel
theorem dX9_passes_27 : decode cX9_passes 27 = .ok (.aload_n 0, 1) := by decide +kernel
theorem dX9_passes_28 : decode cX9_passes 28 = .ok (.getfield 31, 3) := by decide +kernel
theorem dX9_passes_31 : decode cX9_passes 31 = .ok (.iload_n 2, 1) := by decide +kernel
theorem dX9_passes_32 : decode cX9_passes 32 = .ok (.invokevirtual 238, 3) := by decide +kernel
theorem dX9_passes_35 : decode cX9_passes 35 = .ok (.sipush 514, 3) := by decide +kernel
theorem dX9_passes_38 : decode cX9_passes 38 = .ok (.if_icmp .ne 12, 3) := by decide +kernel
theorem dX9_passes_41 : decode cX9_passes 41 = .ok (.aload_n 3, 1) := by decide +kernel
theorem dX9_passes_42 : decode cX9_passes 42 = .ok (.getfield 241, 3) := by decide +kernel
theorem dX9_passes_45 : decode cX9_passes 45 = .ok (.iload_n 2, 1) := by decide +kernel
theorem dX9_passes_46 : decode cX9_passes 46 = .ok (.iaload, 1) := by decide +kernel
theorem dX9_passes_47 : decode cX9_passes 47 = .ok (.goto 4, 3) := by decide +kernel
theorem dX9_passes_50 : decode cX9_passes 50 = .ok (.iconst (-1), 1) := by decide +kernel
theorem dX9_passes_51 : decode cX9_passes 51 = .ok (.ireturn, 1) := by decide +kernel
theorem dX9_reach_0 : decode cX9_reach 0 = .ok (.aload_n 0, 1) := by decide +kernel
theorem dX9_reach_1 : decode cX9_reach 1 = .ok (.iload_n 1, 1) := by decide +kernel
theorem dX9_reach_2 : decode cX9_reach 2 = .ok (.invokevirtual 130, 3) := by decide +kernel
theorem dX9_reach_5 : decode cX9_reach 5 = .ok (.aload_n 0, 1) := by decide +kernel
theorem dX9_reach_6 : decode cX9_reach 6 = .ok (.getfield 68, 3) := by decide +kernel
theorem dX9_reach_9 : decode cX9_reach 9 = .ok (.aload_n 0, 1) := by decide +kernel
theorem dX9_reach_10 : decode cX9_reach 10 = .ok (.getfield 31, 3) := by decide +kernel
theorem dX9_reach_13 : decode cX9_reach 13 = .ok (.aload_n 0, 1) := by decide +kernel
theorem dX9_reach_14 : decode cX9_reach 14 = .ok (.getfield 18, 3) := by decide +kernel
theorem dX9_reach_17 : decode cX9_reach 17 = .ok (.iload_n 1, 1) := by decide +kernel
theorem dX9_reach_18 : decode cX9_reach 18 = .ok (.aaload, 1) := by decide +kernel
theorem dX9_reach_19 : decode cX9_reach 19 = .ok (.getfield 225, 3) := by decide +kernel
theorem dX9_reach_22 : decode cX9_reach 22 = .ok (.aload_n 0, 1) := by decide +kernel
theorem dX9_reach_23 : decode cX9_reach 23 = .ok (.getfield 18, 3) := by decide +kernel
theorem dX9_reach_26 : decode cX9_reach 26 = .ok (.iload_n 1, 1) := by decide +kernel
theorem dX9_reach_27 : decode cX9_reach 27 = .ok (.aaload, 1) := by decide +kernel
theorem dX9_reach_28 : decode cX9_reach 28 = .ok (.getfield 180, 3) := by decide +kernel
theorem dX9_reach_31 : decode cX9_reach 31 = .ok (.iconst 2, 1) := by decide +kernel
theorem dX9_reach_32 : decode cX9_reach 32 = .ok (.invokevirtual 228, 3) := by decide +kernel
theorem dX9_reach_35 : decode cX9_reach 35 = .ok (.ireturn, 1) := by decide +kernel
theorem dX9_shortest_0 : decode cX9_shortest 0 = .ok (.aload_n 0, 1) := by decide +kernel
theorem dX9_shortest_1 : decode cX9_shortest 1 = .ok (.getfield 31, 3) := by decide +kernel
theorem dX9_shortest_4 : decode cX9_shortest 4 = .ok (.iconst 1, 1) := by decide +kernel
theorem dX9_shortest_5 : decode cX9_shortest 5 = .ok (.iconst 0, 1) := by decide +kernel
theorem dX9_shortest_6 : decode cX9_shortest 6 = .ok (.iconst 1, 1) := by decide +kernel
theorem dX9_shortest_7 : decode cX9_shortest 7 = .ok (.invokevirtual 264, 3) := by decide +kernel
theorem dX9_shortest_10 : decode cX9_shortest 10 = .ok (.ireturn, 1) := by decide +kernel
theorem dX9_similar_0 : decode cX9_similar 0 = .ok (.aload_n 0, 1) := by decide +kernel
theorem dX9_similar_1 : decode cX9_similar 1 = .ok (.iload_n 1, 1) := by decide +kernel
theorem dX9_similar_2 : decode cX9_similar 2 = .ok (.invokevirtual 130, 3) := by decide +kernel
theorem dX9_similar_5 : decode cX9_similar 5 = .ok (.aload_n 0, 1) := by decide +kernel
theorem dX9_similar_6 : decode cX9_similar 6 = .ok (.iload_n 2, 1) := by decide +kernel
theorem dX9_similar_7 : decode cX9_similar 7 = .ok (.invokevirtual 130, 3) := by decide +kernel
theorem dX9_similar_10 : decode cX9_similar 10 = .ok (.aload_n 0, 1) := by decide +kernel
theorem dX9_similar_11 : decode cX9_similar 11 = .ok (.getfield 18, 3) := by decide +kernel
theorem dX9_similar_14 : decode cX9_similar 14 = .ok (.iload_n 1, 1) := by decide +kernel
theorem dX9_similar_15 : decode cX9_similar 15 = .ok (.aaload, 1) := by decide +kernel
theorem dX9_similar_16 : decode cX9_similar 16 = .ok (.getfield 181, 3) := by decide +kernel
theorem dX9_similar_19 : decode cX9_similar 19 = .ok (.astore_n 3, 1) := by decide +kernel
theorem dX9_similar_20 : decode cX9_similar 20 = .ok (.aload_n 0, 1) := by decide +kernel
theorem dX9_similar_21 : decode cX9_similar 21 = .ok (.getfield 18, 3) := by decide +kernel
theorem dX9_similar_24 : decode cX9_similar 24 = .ok (.iload_n 2, 1) := by decide +kernel
theorem dX9_similar_25 : decode cX9_similar 25 = .ok (.aaload, 1) := by decide +kernel
theorem dX9_similar_26 : decode cX9_similar 26 = .ok (.getfield 181, 3) := by decide +kernel
theorem dX9_similar_29 : decode cX9_similar 29 = .ok (.astore 4, 2) := by decide +kernel
theorem dX9_similar_31 : decode cX9_similar 31 = .ok (.aload_n 3, 1) := by decide +kernel
theorem dX9_similar_32 : decode cX9_similar 32 = .ok (.getfield 282, 3) := by decide +kernel
theorem dX9_similar_35 : decode cX9_similar 35 = .ok (.aload 4, 2) := by decide +kernel
theorem dX9_similar_37 : decode cX9_similar 37 = .ok (.getfield 282, 3) := by decide +kernel
theorem dX9_similar_40 : decode cX9_similar 40 = .ok (.if_icmp .ne 22, 3) := by decide +kernel
theorem dX9_similar_43 : decode cX9_similar 43 = .ok (.aload_n 3, 1) := by decide +kernel
theorem dX9_similar_44 : decode cX9_similar 44 = .ok (.iconst 0, 1) := by decide +kernel
theorem dX9_similar_45 : decode cX9_similar 45 = .ok (.aload 4, 2) := by decide +kernel
theorem dX9_similar_47 : decode cX9_similar 47 = .ok (.iconst 0, 1) := by decide +kernel
theorem dX9_similar_48 : decode cX9_similar 48 = .ok (.aload_n 3, 1) := by decide +kernel
theorem dX9_similar_49 : decode cX9_similar 49 = .ok (.getfield 282, 3) := by decide +kernel
theorem dX9_similar_52 : decode cX9_similar 52 = .ok (.invokevirtual 274, 3) := by decide +kernel
theorem dX9_similar_55 : decode cX9_similar 55 = .ok (.ifCond .eq 7, 3) := by decide +kernel
theorem dX9_similar_58 : decode cX9_similar 58 = .ok (.iconst 1, 1) := by decide +kernel
theorem dX9_similar_59 : decode cX9_similar 59 = .ok (.goto 4, 3) := by decide +kernel
theorem dX9_similar_62 : decode cX9_similar 62 = .ok (.iconst 0, 1) := by decide +kernel
theorem dX9_similar_63 : decode cX9_similar 63 = .ok (.ireturn, 1) := by decide +kernel
theorem dX9_status_0 : decode cX9_status 0 = .ok (.iload_n 1, 1) := by decide +kernel
theorem dX9_status_1 : decode cX9_status 1 = .ok (.ifCond .lt 21, 3) := by decide +kernel
theorem dX9_status_4 : decode cX9_status 4 = .ok (.iload_n 1, 1) := by decide +kernel
theorem dX9_status_5 : decode cX9_status 5 = .ok (.aload_n 0, 1) := by decide +kernel
theorem dX9_status_6 : decode cX9_status 6 = .ok (.getfield 86, 3) := by decide +kernel
theorem dX9_status_9 : decode cX9_status 9 = .ok (.arraylength, 1) := by decide +kernel
theorem dX9_status_10 : decode cX9_status 10 = .ok (.if_icmp .ge 12, 3) := by decide +kernel
theorem dX9_status_13 : decode cX9_status 13 = .ok (.aload_n 0, 1) := by decide +kernel
theorem dX9_status_14 : decode cX9_status 14 = .ok (.getfield 86, 3) := by decide +kernel
theorem dX9_status_17 : decode cX9_status 17 = .ok (.iload_n 1, 1) := by decide +kernel
theorem dX9_status_18 : decode cX9_status 18 = .ok (.iaload, 1) := by decide +kernel
theorem dX9_status_19 : decode cX9_status 19 = .ok (.goto 4, 3) := by decide +kernel
theorem dX9_status_22 : decode cX9_status 22 = .ok (.iconst (-1), 1) := by decide +kernel
theorem dX9_status_23 : decode cX9_status 23 = .ok (.ireturn, 1) := by decide +kernel
theorem dX9_step_0 : decode cX9_step 0 = .ok (.aload_n 0, 1) := by decide +kernel
theorem dX9_step_1 : decode cX9_step 1 = .ok (.iload_n 1, 1) := by decide +kernel
theorem dX9_step_2 : decode cX9_step 2 = .ok (.invokevirtual 130, 3) := by decide +kernel
theorem dX9_step_5 : decode cX9_step 5 = .ok (.aload_n 0, 1) := by decide +kernel
theorem dX9_step_6 : decode cX9_step 6 = .ok (.iload_n 3, 1) := by decide +kernel
theorem dX9_step_7 : decode cX9_step 7 = .ok (.ifCond .lt 12, 3) := by decide +kernel
theorem dX9_step_10 : decode cX9_step 10 = .ok (.iload_n 3, 1) := by decide +kernel
theorem dX9_step_11 : decode cX9_step 11 = .ok (.iconst 2, 1) := by decide +kernel
theorem dX9_step_12 : decode cX9_step 12 = .ok (.if_icmp .gt 7, 3) := by decide +kernel
theorem dX9_step_15 : decode cX9_step 15 = .ok (.iconst 1, 1) := by decide +kernel
theorem dX9_step_16 : decode cX9_step 16 = .ok (.goto 4, 3) := by decide +kernel
theorem dX9_step_19 : decode cX9_step 19 = .ok (.iconst 0, 1) := by decide +kernel
theorem dX9_step_20 : decode cX9_step 20 = .ok (.invokevirtual 102, 3) := by decide +kernel
theorem dX9_step_23 : decode cX9_step 23 = .ok (.iload_n 2, 1) := by decide +kernel
theorem dX9_step_24 : decode cX9_step 24 = .ok (.ifCond .lt 34, 3) := by decide +kernel
theorem dX9_step_27 : decode cX9_step 27 = .ok (.iload_n 2, 1) := by decide +kernel
theorem dX9_step_28 : decode cX9_step 28 = .ok (.aload_n 0, 1) := by decide +kernel
theorem dX9_step_29 : decode cX9_step 29 = .ok (.getfield 18, 3) := by decide +kernel
theorem dX9_step_32 : decode cX9_step 32 = .ok (.iload_n 1, 1) := by decide +kernel
theorem dX9_step_33 : decode cX9_step 33 = .ok (.aaload, 1) := by decide +kernel
theorem dX9_step_34 : decode cX9_step 34 = .ok (.getfield 285, 3) := by decide +kernel
theorem dX9_step_37 : decode cX9_step 37 = .ok (.if_icmp .ge 21, 3) := by decide +kernel
theorem dX9_step_40 : decode cX9_step 40 = .ok (.aload_n 0, 1) := by decide +kernel
theorem dX9_step_41 : decode cX9_step 41 = .ok (.getfield 18, 3) := by decide +kernel
theorem dX9_step_44 : decode cX9_step 44 = .ok (.iload_n 1, 1) := by decide +kernel
theorem dX9_step_45 : decode cX9_step 45 = .ok (.aaload, 1) := by decide +kernel
theorem dX9_step_46 : decode cX9_step 46 = .ok (.getfield 288, 3) := by decide +kernel
theorem dX9_step_49 : decode cX9_step 49 = .ok (.iload_n 2, 1) := by decide +kernel
theorem dX9_step_50 : decode cX9_step 50 = .ok (.iconst 3, 1) := by decide +kernel
theorem dX9_step_51 : decode cX9_step 51 = .ok (.imul, 1) := by decide +kernel
theorem dX9_step_52 : decode cX9_step 52 = .ok (.iload_n 3, 1) := by decide +kernel
theorem dX9_step_53 : decode cX9_step 53 = .ok (.iadd, 1) := by decide +kernel
theorem dX9_step_54 : decode cX9_step 54 = .ok (.iaload, 1) := by decide +kernel
theorem dX9_step_55 : decode cX9_step 55 = .ok (.goto 4, 3) := by decide +kernel
theorem dX9_step_58 : decode cX9_step 58 = .ok (.iconst (-1), 1) := by decide +kernel
theorem dX9_step_59 : decode cX9_step 59 = .ok (.ireturn, 1) := by decide +kernel
theorem dX9_taker_0 : decode cX9_taker 0 = .ok (.aload_n 0, 1) := by decide +kernel
theorem dX9_taker_1 : decode cX9_taker 1 = .ok (.iload_n 1, 1) := by decide +kernel
theorem dX9_taker_2 : decode cX9_taker 2 = .ok (.iload_n 2, 1) := by decide +kernel
theorem dX9_taker_3 : decode cX9_taker 3 = .ok (.invokevirtual 187, 3) := by decide +kernel
theorem dX9_taker_6 : decode cX9_taker 6 = .ok (.aload_n 0, 1) := by decide +kernel
theorem dX9_taker_7 : decode cX9_taker 7 = .ok (.iload_n 1, 1) := by decide +kernel
theorem dX9_taker_8 : decode cX9_taker 8 = .ok (.invokevirtual 215, 3) := by decide +kernel
theorem dX9_taker_11 : decode cX9_taker 11 = .ok (.astore_n 3, 1) := by decide +kernel
theorem dX9_taker_12 : decode cX9_taker 12 = .ok (.aload_n 3, 1) := by decide +kernel
theorem dX9_taker_13 : decode cX9_taker 13 = .ok (.invokevirtual 219, 3) := by decide +kernel
theorem dX9_taker_16 : decode cX9_taker 16 = .ok (.ifCond .eq 12, 3) := by decide +kernel
theorem dX9_taker_19 : decode cX9_taker 19 = .ok (.aload_n 3, 1) := by decide +kernel
theorem dX9_taker_20 : decode cX9_taker 20 = .ok (.getfield 244, 3) := by decide +kernel
theorem dX9_taker_23 : decode cX9_taker 23 = .ok (.iload_n 2, 1) := by decide +kernel
theorem dX9_taker_24 : decode cX9_taker 24 = .ok (.iaload, 1) := by decide +kernel
theorem dX9_taker_25 : decode cX9_taker 25 = .ok (.goto 4, 3) := by decide +kernel
theorem dX9_taker_28 : decode cX9_taker 28 = .ok (.iconst (-1), 1) := by decide +kernel
theorem dX9_taker_29 : decode cX9_taker 29 = .ok (.ireturn, 1) := by decide +kernel
theorem dX9_times_0 : decode cX9_times 0 = .ok (.aload_n 0, 1) := by decide +kernel
theorem dX9_times_1 : decode cX9_times 1 = .ok (.iload_n 1, 1) := by decide +kernel
theorem dX9_times_2 : decode cX9_times 2 = .ok (.invokevirtual 130, 3) := by decide +kernel
theorem dX9_times_5 : decode cX9_times 5 = .ok (.aload_n 0, 1) := by decide +kernel
theorem dX9_times_6 : decode cX9_times 6 = .ok (.aload_n 0, 1) := by decide +kernel
theorem dX9_times_7 : decode cX9_times 7 = .ok (.getfield 31, 3) := by decide +kernel
theorem dX9_times_10 : decode cX9_times 10 = .ok (.iload_n 2, 1) := by decide +kernel
theorem dX9_times_11 : decode cX9_times 11 = .ok (.invokevirtual 209, 3) := by decide +kernel
theorem dX9_times_14 : decode cX9_times 14 = .ok (.aload_n 0, 1) := by decide +kernel
theorem dX9_times_15 : decode cX9_times 15 = .ok (.iload_n 1, 1) := by decide +kernel
theorem dX9_times_16 : decode cX9_times 16 = .ok (.invokevirtual 215, 3) := by decide +kernel
theorem dX9_times_19 : decode cX9_times 19 = .ok (.astore_n 3, 1) := by decide +kernel
theorem dX9_times_20 : decode cX9_times 20 = .ok (.aload_n 3, 1) := by decide +kernel
theorem dX9_times_21 : decode cX9_times 21 = .ok (.invokevirtual 219, 3) := by decide +kernel
theorem dX9_times_24 : decode cX9_times 24 = .ok (.ifCond .eq 12, 3) := by decide +kernel
theorem dX9_times_27 : decode cX9_times 27 = .ok (.aload_n 3, 1) := by decide +kernel
theorem dX9_times_28 : decode cX9_times 28 = .ok (.getfield 235, 3) := by decide +kernel
theorem dX9_times_31 : decode cX9_times 31 = .ok (.iload_n 2, 1) := by decide +kernel
theorem dX9_times_32 : decode cX9_times 32 = .ok (.iaload, 1) := by decide +kernel
theorem dX9_times_33 : decode cX9_times 33 = .ok (.goto 4, 3) := by decide +kernel
theorem dX9_times_36 : decode cX9_times 36 = .ok (.iconst (-1), 1) := by decide +kernel
theorem dX9_times_37 : decode cX9_times 37 = .ok (.ireturn, 1) := by decide +kernel
theorem dX9_token_0 : decode cX9_token 0 = .ok (.aload_n 0, 1) := by decide +kernel
theorem dX9_token_1 : decode cX9_token 1 = .ok (.iload_n 1, 1) := by decide +kernel
theorem dX9_token_2 : decode cX9_token 2 = .ok (.iload_n 2, 1) := by decide +kernel
theorem dX9_token_3 : decode cX9_token 3 = .ok (.invokevirtual 187, 3) := by decide +kernel
theorem dX9_token_6 : decode cX9_token 6 = .ok (.aload_n 0, 1) := by decide +kernel
theorem dX9_token_7 : decode cX9_token 7 = .ok (.getfield 18, 3) := by decide +kernel
theorem dX9_token_10 : decode cX9_token 10 = .ok (.iload_n 1, 1) := by decide +kernel
theorem dX9_token_11 : decode cX9_token 11 = .ok (.aaload, 1) := by decide +kernel
theorem dX9_token_12 : decode cX9_token 12 = .ok (.getfield 191, 3) := by decide +kernel
theorem dX9_token_15 : decode cX9_token 15 = .ok (.iload_n 2, 1) := by decide +kernel
theorem dX9_token_16 : decode cX9_token 16 = .ok (.iaload, 1) := by decide +kernel
theorem dX9_token_17 : decode cX9_token 17 = .ok (.ireturn, 1) := by decide +kernel
theorem dX9_told_0 : decode cX9_told 0 = .ok (.iload_n 1, 1) := by decide +kernel
theorem dX9_told_1 : decode cX9_told 1 = .ok (.tableswitch 138 0 9 #[55, 60, 68, 76, 84, 95, 106, 117, 125, 130], 55) := by decide +kernel
theorem dX9_told_56 : decode cX9_told 56 = .ok (.aload_n 0, 1) := by decide +kernel
theorem dX9_told_57 : decode cX9_told 57 = .ok (.getfield 22, 3) := by decide +kernel
theorem dX9_told_60 : decode cX9_told 60 = .ok (.ireturn, 1) := by decide +kernel
theorem dX9_told_61 : decode cX9_told 61 = .ok (.aload_n 0, 1) := by decide +kernel
theorem dX9_told_62 : decode cX9_told 62 = .ok (.getfield 10, 3) := by decide +kernel
theorem dX9_told_65 : decode cX9_told 65 = .ok (.getfield 174, 3) := by decide +kernel
theorem dX9_told_68 : decode cX9_told 68 = .ok (.ireturn, 1) := by decide +kernel
theorem dX9_told_69 : decode cX9_told 69 = .ok (.aload_n 0, 1) := by decide +kernel
theorem dX9_told_70 : decode cX9_told 70 = .ok (.getfield 31, 3) := by decide +kernel
theorem dX9_told_73 : decode cX9_told 73 = .ok (.getfield 155, 3) := by decide +kernel
theorem dX9_told_76 : decode cX9_told 76 = .ok (.ireturn, 1) := by decide +kernel
theorem dX9_told_77 : decode cX9_told 77 = .ok (.aload_n 0, 1) := by decide +kernel
theorem dX9_told_78 : decode cX9_told 78 = .ok (.getfield 31, 3) := by decide +kernel
theorem dX9_told_81 : decode cX9_told 81 = .ok (.invokevirtual 136, 3) := by decide +kernel
theorem dX9_told_84 : decode cX9_told 84 = .ok (.ireturn, 1) := by decide +kernel
theorem dX9_told_85 : decode cX9_told 85 = .ok (.aload_n 0, 1) := by decide +kernel
theorem dX9_told_86 : decode cX9_told 86 = .ok (.getfield 31, 3) := by decide +kernel
theorem dX9_told_89 : decode cX9_told 89 = .ok (.sipush 512, 3) := by decide +kernel
theorem dX9_told_92 : decode cX9_told 92 = .ok (.invokevirtual 177, 3) := by decide +kernel
theorem dX9_told_95 : decode cX9_told 95 = .ok (.ireturn, 1) := by decide +kernel
theorem dX9_told_96 : decode cX9_told 96 = .ok (.aload_n 0, 1) := by decide +kernel
theorem dX9_told_97 : decode cX9_told 97 = .ok (.getfield 31, 3) := by decide +kernel
theorem dX9_told_100 : decode cX9_told 100 = .ok (.sipush 513, 3) := by decide +kernel
theorem dX9_told_103 : decode cX9_told 103 = .ok (.invokevirtual 177, 3) := by decide +kernel
theorem dX9_told_106 : decode cX9_told 106 = .ok (.ireturn, 1) := by decide +kernel
theorem dX9_told_107 : decode cX9_told 107 = .ok (.aload_n 0, 1) := by decide +kernel
theorem dX9_told_108 : decode cX9_told 108 = .ok (.getfield 31, 3) := by decide +kernel
theorem dX9_told_111 : decode cX9_told 111 = .ok (.sipush 514, 3) := by decide +kernel
theorem dX9_told_114 : decode cX9_told 114 = .ok (.invokevirtual 177, 3) := by decide +kernel
theorem dX9_told_117 : decode cX9_told 117 = .ok (.ireturn, 1) := by decide +kernel
theorem dX9_told_118 : decode cX9_told 118 = .ok (.aload_n 0, 1) := by decide +kernel
theorem dX9_told_119 : decode cX9_told 119 = .ok (.getfield 47, 3) := by decide +kernel
theorem dX9_told_122 : decode cX9_told 122 = .ok (.getfield 162, 3) := by decide +kernel
theorem dX9_told_125 : decode cX9_told 125 = .ok (.ireturn, 1) := by decide +kernel
theorem dX9_told_126 : decode cX9_told 126 = .ok (.aload_n 0, 1) := by decide +kernel
theorem dX9_told_127 : decode cX9_told 127 = .ok (.getfield 38, 3) := by decide +kernel
theorem dX9_told_130 : decode cX9_told 130 = .ok (.ireturn, 1) := by decide +kernel
theorem dX9_told_131 : decode cX9_told 131 = .ok (.aload_n 0, 1) := by decide +kernel
theorem dX9_told_132 : decode cX9_told 132 = .ok (.getfield 10, 3) := by decide +kernel
theorem dX9_told_135 : decode cX9_told 135 = .ok (.getfield 96, 3) := by decide +kernel
theorem dX9_told_138 : decode cX9_told 138 = .ok (.ireturn, 1) := by decide +kernel
theorem dX9_told_139 : decode cX9_told 139 = .ok (.aload_n 0, 1) := by decide +kernel
theorem dX9_told_140 : decode cX9_told 140 = .ok (.iconst 0, 1) := by decide +kernel
theorem dX9_told_141 : decode cX9_told 141 = .ok (.invokevirtual 102, 3) := by decide +kernel
theorem dX9_ways_0 : decode cX9_ways 0 = .ok (.aload_n 0, 1) := by decide +kernel
theorem dX9_ways_1 : decode cX9_ways 1 = .ok (.iload_n 1, 1) := by decide +kernel
theorem dX9_ways_2 : decode cX9_ways 2 = .ok (.invokevirtual 130, 3) := by decide +kernel
theorem dX9_ways_5 : decode cX9_ways 5 = .ok (.aload_n 0, 1) := by decide +kernel
theorem dX9_ways_6 : decode cX9_ways 6 = .ok (.iload_n 1, 1) := by decide +kernel
theorem dX9_ways_7 : decode cX9_ways 7 = .ok (.invokevirtual 215, 3) := by decide +kernel
theorem dX9_ways_10 : decode cX9_ways 10 = .ok (.getfield 232, 3) := by decide +kernel
theorem dX9_ways_13 : decode cX9_ways 13 = .ok (.ireturn, 1) := by decide +kernel
/-! public methods that ask alone -/
set_option maxHeartbeats 4000000 in
set_option maxRecDepth 100000 in
theorem p_fault (l : Launch) (dC : Nat → ClassId) (dI : Nat → Nat → Nat) (cI cZ cII cIII : ClassId) (h0 sz : Nat) (μ : va_M) (T : List Tk) (hI : CI T μ) : Met l yX9_fault (Cond.code yX9_fault cX9_fault 1 (some .int) :: wsG) ({ frames := 1, cells := 0, slots := 0, locals := 14 } : Room) (va_Pc [.ref h0] (fun U => U.heap.size = sz ∧ va_P (dC, dI) vwCl (fw (sE cI cZ cII cIII h0) h0 233 μ) U.heap ∧ va_K (dC, dI) vwCl (sT cI cZ cII cIII) U ∧ xM U)) (va_Qi (fun (r9 : Int32) (u : va_M × Int) => r9 = iZ u.2 ∧ (fun (u : va_M) (r : Int) => CI T u ∧ SY μ u) u.1 u.2) (fun u t => va_P (dC, dI) vwCl (fw (sE cI cZ cII cIII h0) h0 233 u.1) t.heap ∧ va_K (dC, dI) vwCl (sT cI cZ cII cIII) t) (fA h0 233 sz)) 0 0 (fA h0 233 sz) := by
  refine Met.ofW (cc := cX9_fault) (maxL := 1) (ret := (some .int)) (by decide) rfl ?_
  intro p e s m args below meth c s₁ B hml hv
  obtain ⟨rfl, hsz, hP, hK, hM⟩ := hv
  have hx := B.exec
  have hb := B.bytes
  have hr := B.returns
  have hts : ∀ w ∈ wsG, w.before _ s = true := hG_of (atoms_spec (ws := (Cond.code yX9_fault cX9_fault 1 (some .int) :: wsG)) B.pre)
  have hown : s.vm.findClass RX9 = some m.cls := findClass_of_methodNamed B.named
  have hlocks := B.notSynchronized
  subst hsz
  have hS : va_S (fA h0 233 s.heap.size) s.heap s.heap [] := va_S.rf
  have hl := lv_entry ([.ref h0]) (n := 1) (Nat.le_of_ble_eq_true rfl)
  rw [lg_entry_eq]
  generalize (lg_sl ([.ref h0]) ++ List.replicate (1 - (lg_sl ([.ref h0])).length) Slot.unset).toArray = ls at hl ⊢
  have hl : lv_has ls 1 [(0, .ref h0)] := hl
  have hlc := CI_lc hI
  have h66 := CI_n6 hI
  refine lv_aload_n hx hb dX9_fault_0 rfl (lv_at hl 0 rfl) ?_
  refine fz_get (D := (dC, dI)) (ci := 9) (v := .ref (h0 + 1)) (C := RX9) (T := TX9) (N := 15) hx hb hts inG9 hown hK hP (k := 0) (by decide) (F := (sF0 h0)) sE_0 rfl 0 (by decide) (hts _ k332) (fun _ h9 => h9) rfl dX9_fault_1 ?_
  refine fz_get (D := (dC, dI)) (ci := 5) (v := .int (iZ (μ 1 6))) (C := RX5) (T := TX5) (N := 8) hx hb hts inG5 hown hK hP (k := 1) (by decide) (F := (sF1 h0)) sE_1 rfl 6 (by decide) (hts _ k46) (fun _ h9 => h9) rfl dX9_fault_4 ?_
  exact W.iret (v := iZ (μ 1 6)) hx hb hr (fun t9 ht9 hW9 => ⟨⟨iZ (μ 1 6), (μ, μ 1 6), rfl, ⟨rfl, (by
            dsimp only
            exact ⟨hI, SY_rf⟩)⟩, by rw [ht9]; exact hP, va_K.moved hW9.alike hK⟩, hS.F ht9⟩) hS.2.2 dX9_fault_7
set_option maxHeartbeats 4000000 in
set_option maxRecDepth 100000 in
theorem p_told (l : Launch) (hfl : l.stackTraces = false) (dC : Nat → ClassId) (dI : Nat → Nat → Nat) (cI cZ cII cIII : ClassId) (h0 sz : Nat) (μ : va_M) (wh : Int) (T : List Tk) (hI : CI T μ) (h_wh : inR wh) : vx_Met l yX9_told (Cond.code yX9_told cX9_told 2 (some .int) :: wsG) ({ frames := 7, cells := 1, slots := 6, locals := 110 } : Room) (va_Pc [.ref h0, .int (iZ (wh))] (fun U => U.heap.size = sz ∧ va_P (dC, dI) vwCl (fw (sE cI cZ cII cIII h0) h0 233 μ) U.heap ∧ va_K (dC, dI) vwCl (sT cI cZ cII cIII) U ∧ xM U ∧ xX (fA h0 233 sz) U)) (va_Qi (fun (r9 : Int32) (u : va_M × Int) => r9 = iZ u.2 ∧ (fun (u : va_M) (r : Int) => CI T u ∧ SY μ u) u.1 u.2) (fun u t => va_P (dC, dI) vwCl (fw (sE cI cZ cII cIII h0) h0 233 u.1) t.heap ∧ va_K (dC, dI) vwCl (sT cI cZ cII cIII) t) (fA h0 233 sz)) (vx_X (fun (u : va_M) => CI T u ∧ SY μ u) (fun E u t => E ∈ (["java/lang/IllegalArgumentException"] : List String) ∧ va_P (dC, dI) vwCl (fw (sE cI cZ cII cIII h0) h0 233 u) t.heap ∧ va_K (dC, dI) vwCl (sT cI cZ cII cIII) t) (fA h0 233 sz)) 1 6 (fA h0 233 sz) := by
  refine vx_ofW (cc := cX9_told) (maxL := 2) (ret := (some .int)) (by decide) rfl ?_
  intro p e s m args below meth c s₁ B hml hnt hv
  obtain ⟨rfl, hsz, hP, hK, hM, hEx⟩ := hv
  have hx := B.exec
  have hb := B.bytes
  have hr := B.returns
  have hts : ∀ w ∈ wsG, w.before _ s = true := hG_of (atoms_spec (ws := (Cond.code yX9_told cX9_told 2 (some .int) :: wsG)) B.pre)
  have hown : s.vm.findClass RX9 = some m.cls := findClass_of_methodNamed B.named
  have hlocks := B.notSynchronized
  subst hsz
  have hS : va_S (fA h0 233 s.heap.size) s.heap s.heap [] := va_S.rf
  have hl := lv_entry ([.ref h0, .int (iZ (wh))]) (n := 2) (Nat.le_of_ble_eq_true rfl)
  rw [lg_entry_eq]
  generalize (lg_sl ([.ref h0, .int (iZ (wh))]) ++ List.replicate (2 - (lg_sl ([.ref h0, .int (iZ (wh))])).length) Slot.unset).toArray = ls at hl ⊢
  have hl : lv_has ls 2 [(0, .ref h0), (1, .int (iZ (wh)))] := hl
  have hlc := CI_lc hI
  have h66 := CI_n6 hI
  refine lv_iload_n hx hb dX9_told_0 rfl (lv_at hl 1 rfl) ?_
  by_cases hc1_0 : wh = 0
  · refine lv_tableIn (tgt := 56) (off := 55) hx hb dX9_told_1 (by rw [iZ_toInt (by first | assumption | (constructor <;> omega) | decide), hc1_0]; decide +kernel) (by rw [iZ_toInt (by first | assumption | (constructor <;> omega) | decide), hc1_0]; decide +kernel) (by rw [iZ_toInt (by first | assumption | (constructor <;> omega) | decide), hc1_0]; decide +kernel) (by decide) ?_
    refine lv_aload_n hx hb dX9_told_56 rfl (lv_at hl 0 rfl) ?_
    refine fz_get (D := (dC, dI)) (ci := 9) (v := .int (iZ (μ 0 2))) (C := RX9) (T := TX9) (N := 15) hx hb hts inG9 hown hK hP (k := 0) (by decide) (F := (sF0 h0)) sE_0 rfl 2 (by decide) (hts _ k334) (fun _ h9 => h9) rfl dX9_told_57 ?_
    exact W_widen (Nat.le_of_ble_eq_true rfl) (Nat.le_of_ble_eq_true rfl) (vx_ret (W.iret (v := iZ (μ 0 2)) hx hb hr (fun t9 ht9 hW9 => ⟨⟨iZ (μ 0 2), (μ, μ 0 2), rfl, ⟨rfl, (by
                dsimp only
                exact ⟨hI, SY_rf⟩)⟩, by rw [ht9]; exact hP, va_K.moved hW9.alike hK⟩, hS.F ht9⟩) hS.2.2 dX9_told_60))
  · skip
    by_cases hc1_1 : wh = 1
    · refine lv_tableIn (tgt := 61) (off := 60) hx hb dX9_told_1 (by rw [iZ_toInt (by first | assumption | (constructor <;> omega) | decide), hc1_1]; decide +kernel) (by rw [iZ_toInt (by first | assumption | (constructor <;> omega) | decide), hc1_1]; decide +kernel) (by rw [iZ_toInt (by first | assumption | (constructor <;> omega) | decide), hc1_1]; decide +kernel) (by decide) ?_
      refine lv_aload_n hx hb dX9_told_61 rfl (lv_at hl 0 rfl) ?_
      refine fz_get (D := (dC, dI)) (ci := 9) (v := .ref (h0 + 1)) (C := RX9) (T := TX9) (N := 15) hx hb hts inG9 hown hK hP (k := 0) (by decide) (F := (sF0 h0)) sE_0 rfl 0 (by decide) (hts _ k332) (fun _ h9 => h9) rfl dX9_told_62 ?_
      refine fz_get (D := (dC, dI)) (ci := 5) (v := .int (iZ (μ 1 3))) (C := RX5) (T := TX5) (N := 8) hx hb hts inG5 hown hK hP (k := 1) (by decide) (F := (sF1 h0)) sE_1 rfl 3 (by decide) (hts _ k40) (fun _ h9 => h9) rfl dX9_told_65 ?_
      exact W_widen (Nat.le_of_ble_eq_true rfl) (Nat.le_of_ble_eq_true rfl) (vx_ret (W.iret (v := iZ (μ 1 3)) hx hb hr (fun t9 ht9 hW9 => ⟨⟨iZ (μ 1 3), (μ, μ 1 3), rfl, ⟨rfl, (by
                    dsimp only
                    exact ⟨hI, SY_rf⟩)⟩, by rw [ht9]; exact hP, va_K.moved hW9.alike hK⟩, hS.F ht9⟩) hS.2.2 dX9_told_68))
    · skip
      by_cases hc1_2 : wh = 2
      · refine lv_tableIn (tgt := 69) (off := 68) hx hb dX9_told_1 (by rw [iZ_toInt (by first | assumption | (constructor <;> omega) | decide), hc1_2]; decide +kernel) (by rw [iZ_toInt (by first | assumption | (constructor <;> omega) | decide), hc1_2]; decide +kernel) (by rw [iZ_toInt (by first | assumption | (constructor <;> omega) | decide), hc1_2]; decide +kernel) (by decide) ?_
        refine lv_aload_n hx hb dX9_told_69 rfl (lv_at hl 0 rfl) ?_
        refine fz_get (D := (dC, dI)) (ci := 9) (v := .ref (h0 + 6)) (C := RX9) (T := TX9) (N := 15) hx hb hts inG9 hown hK hP (k := 0) (by decide) (F := (sF0 h0)) sE_0 rfl 3 (by decide) (hts _ k335) (fun _ h9 => h9) rfl dX9_told_70 ?_
        refine fz_get (D := (dC, dI)) (ci := 4) (v := .int (iZ (μ 6 6))) (C := RX4) (T := TX4) (N := 8) hx hb hts inG4 hown hK hP (k := 6) (by decide) (F := (sRF h0 6)) (sE_rowO rowB_6) rfl 6 (by decide) (hts _ k101) (fun _ h9 => h9) rfl dX9_told_73 ?_
        exact W_widen (Nat.le_of_ble_eq_true rfl) (Nat.le_of_ble_eq_true rfl) (vx_ret (W.iret (v := iZ (μ 6 6)) hx hb hr (fun t9 ht9 hW9 => ⟨⟨iZ (μ 6 6), (μ, μ 6 6), rfl, ⟨rfl, (by
                        dsimp only
                        exact ⟨hI, SY_rf⟩)⟩, by rw [ht9]; exact hP, va_K.moved hW9.alike hK⟩, hS.F ht9⟩) hS.2.2 dX9_told_76))
      · skip
        by_cases hc1_3 : wh = 3
        · refine lv_tableIn (tgt := 77) (off := 76) hx hb dX9_told_1 (by rw [iZ_toInt (by first | assumption | (constructor <;> omega) | decide), hc1_3]; decide +kernel) (by rw [iZ_toInt (by first | assumption | (constructor <;> omega) | decide), hc1_3]; decide +kernel) (by rw [iZ_toInt (by first | assumption | (constructor <;> omega) | decide), hc1_3]; decide +kernel) (by decide) ?_
          refine lv_aload_n hx hb dX9_told_77 rfl (lv_at hl 0 rfl) ?_
          refine fz_get (D := (dC, dI)) (ci := 9) (v := .ref (h0 + 6)) (C := RX9) (T := TX9) (N := 15) hx hb hts inG9 hown hK hP (k := 0) (by decide) (F := (sF0 h0)) sE_0 rfl 3 (by decide) (hts _ k335) (fun _ h9 => h9) rfl dX9_told_78 ?_
          refine va_calli (va_runV (As := []) (rest := []) ⟨hx, hb, hml, hown, hts⟩ (s_Rsize l dC dI cI cZ cII cIII h0 s.heap.size μ (6) (1100) (rowB_6) (by exact (rG_len hI.1.2.2.1))) (cwV 0 hts (gV_G k513 k514 k515 k3 k516) rfl rfl rfl (by decide +kernel) ⟨Nat.le_of_ble_eq_true rfl, Nat.le_of_ble_eq_true rfl⟩) ⟨fun a U g mk q => by obtain ⟨q0, q1, qP, qK, qM⟩ := q; exact ⟨q0, q1, qP, va_K.moved (u := U) (U := U.calling g mk a) (Vm.Alike.refl U.vm) qK, qM⟩, va_recv hK hP (ci := 4) (q0 := 6) rfl ((fw_get (by decide)).trans (by rw [(sE_rowO rowB_6)])), fun U hU hW => ⟨rfl, by rw [hU], by rw [hU]; exact hP, va_K.moved hW.alike hK, xM_warm hW hM⟩⟩ rfl rfl hl.1 rfl (lv_room (Nat.le_of_ble_eq_true rfl)) dX9_told_81 ⟨Nat.le_of_ble_eq_true rfl, Nat.le_of_ble_eq_true rfl⟩) hS (fun q _ h => fA_le hS.1 q h) (fA_le hS.1) (fun r9 u9 t9 H1 locs ht9 hvm9 hw9 hB9 hz9 hk9 hS => ?_)
          obtain ⟨μ1, r2⟩ := u9
          obtain ⟨hP, -⟩ := hB9
          rw [ht9] at hP
          generalize H1 = H at hP hS ⊢
          obtain ⟨e9, hw9⟩ := hw9
          have e9 : r9 = iZ r2 := e9
          subst e9
          simp only at hP hw9
          have hμ1 := hw9; clear hw9
          rw [hμ1.1] at hP; have hμ1 := hμ1.2
          exact W_widen (Nat.le_of_ble_eq_true rfl) (Nat.le_of_ble_eq_true rfl) (vx_ret (W.iret (v := iZ (r2)) hx hb hr (fun t9 ht9 hW9 => ⟨⟨iZ (r2), (μ, r2), rfl, ⟨rfl, (by
                            dsimp only
                            exact ⟨hI, SY_rf⟩)⟩, by rw [ht9]; exact hP, va_K.moved hW9.alike hK⟩, hS.F ht9⟩) hS.2.2 dX9_told_84))
        · skip
          by_cases hc1_4 : wh = 4
          · refine lv_tableIn (tgt := 85) (off := 84) hx hb dX9_told_1 (by rw [iZ_toInt (by first | assumption | (constructor <;> omega) | decide), hc1_4]; decide +kernel) (by rw [iZ_toInt (by first | assumption | (constructor <;> omega) | decide), hc1_4]; decide +kernel) (by rw [iZ_toInt (by first | assumption | (constructor <;> omega) | decide), hc1_4]; decide +kernel) (by decide) ?_
            refine lv_aload_n hx hb dX9_told_85 rfl (lv_at hl 0 rfl) ?_
            refine fz_get (D := (dC, dI)) (ci := 9) (v := .ref (h0 + 6)) (C := RX9) (T := TX9) (N := 15) hx hb hts inG9 hown hK hP (k := 0) (by decide) (F := (sF0 h0)) sE_0 rfl 3 (by decide) (hts _ k335) (fun _ h9 => h9) rfl dX9_told_86 ?_
            refine lv_sipush (v := iZ 512) hx hb dX9_told_89 rfl ?_
            refine va_calli (va_runV (As := [.int (iZ (512))]) (rest := []) ⟨hx, hb, hml, hown, hts⟩ (s_RcountOf l dC dI cI cZ cII cIII h0 s.heap.size μ (6) (1100) (512) (rowB_6) (by exact (rG_len hI.1.2.2.1)) (by exact hI.1.2.2.1.1) (by constructor <;> decide)) (cwV 1 hts (gV_G k856 k857 k858 k3 k859) rfl rfl rfl (by decide +kernel) ⟨Nat.le_of_ble_eq_true rfl, Nat.le_of_ble_eq_true rfl⟩) ⟨fun a U g mk q => by obtain ⟨q0, q1, qP, qK, qM⟩ := q; exact ⟨q0, q1, qP, va_K.moved (u := U) (U := U.calling g mk a) (Vm.Alike.refl U.vm) qK, qM⟩, va_recv hK hP (ci := 4) (q0 := 6) rfl ((fw_get (by decide)).trans (by rw [(sE_rowO rowB_6)])), fun U hU hW => ⟨rfl, by rw [hU], by rw [hU]; exact hP, va_K.moved hW.alike hK, xM_warm hW hM⟩⟩ rfl rfl hl.1 rfl (lv_room (Nat.le_of_ble_eq_true rfl)) dX9_told_92 ⟨Nat.le_of_ble_eq_true rfl, Nat.le_of_ble_eq_true rfl⟩) hS (fun q _ h => fA_le hS.1 q h) (fA_le hS.1) (fun r9 u9 t9 H1 locs ht9 hvm9 hw9 hB9 hz9 hk9 hS => ?_)
            obtain ⟨μ3, r4⟩ := u9
            obtain ⟨hP, -⟩ := hB9
            rw [ht9] at hP
            generalize H1 = H at hP hS ⊢
            obtain ⟨e9, hw9⟩ := hw9
            have e9 : r9 = iZ r4 := e9
            subst e9
            simp only at hP hw9
            have hμ3 := hw9; clear hw9
            rw [hμ3.1] at hP; have hμ3 := hμ3.2
            exact W_widen (Nat.le_of_ble_eq_true rfl) (Nat.le_of_ble_eq_true rfl) (vx_ret (W.iret (v := iZ (r4)) hx hb hr (fun t9 ht9 hW9 => ⟨⟨iZ (r4), (μ, r4), rfl, ⟨rfl, (by
                                dsimp only
                                exact ⟨hI, SY_rf⟩)⟩, by rw [ht9]; exact hP, va_K.moved hW9.alike hK⟩, hS.F ht9⟩) hS.2.2 dX9_told_95))
          · skip
            by_cases hc1_5 : wh = 5
            · refine lv_tableIn (tgt := 96) (off := 95) hx hb dX9_told_1 (by rw [iZ_toInt (by first | assumption | (constructor <;> omega) | decide), hc1_5]; decide +kernel) (by rw [iZ_toInt (by first | assumption | (constructor <;> omega) | decide), hc1_5]; decide +kernel) (by rw [iZ_toInt (by first | assumption | (constructor <;> omega) | decide), hc1_5]; decide +kernel) (by decide) ?_
              refine lv_aload_n hx hb dX9_told_96 rfl (lv_at hl 0 rfl) ?_
              refine fz_get (D := (dC, dI)) (ci := 9) (v := .ref (h0 + 6)) (C := RX9) (T := TX9) (N := 15) hx hb hts inG9 hown hK hP (k := 0) (by decide) (F := (sF0 h0)) sE_0 rfl 3 (by decide) (hts _ k335) (fun _ h9 => h9) rfl dX9_told_97 ?_
              refine lv_sipush (v := iZ 513) hx hb dX9_told_100 rfl ?_
              refine va_calli (va_runV (As := [.int (iZ (513))]) (rest := []) ⟨hx, hb, hml, hown, hts⟩ (s_RcountOf l dC dI cI cZ cII cIII h0 s.heap.size μ (6) (1100) (513) (rowB_6) (by exact (rG_len hI.1.2.2.1)) (by exact hI.1.2.2.1.1) (by constructor <;> decide)) (cwV 1 hts (gV_G k856 k857 k858 k3 k859) rfl rfl rfl (by decide +kernel) ⟨Nat.le_of_ble_eq_true rfl, Nat.le_of_ble_eq_true rfl⟩) ⟨fun a U g mk q => by obtain ⟨q0, q1, qP, qK, qM⟩ := q; exact ⟨q0, q1, qP, va_K.moved (u := U) (U := U.calling g mk a) (Vm.Alike.refl U.vm) qK, qM⟩, va_recv hK hP (ci := 4) (q0 := 6) rfl ((fw_get (by decide)).trans (by rw [(sE_rowO rowB_6)])), fun U hU hW => ⟨rfl, by rw [hU], by rw [hU]; exact hP, va_K.moved hW.alike hK, xM_warm hW hM⟩⟩ rfl rfl hl.1 rfl (lv_room (Nat.le_of_ble_eq_true rfl)) dX9_told_103 ⟨Nat.le_of_ble_eq_true rfl, Nat.le_of_ble_eq_true rfl⟩) hS (fun q _ h => fA_le hS.1 q h) (fA_le hS.1) (fun r9 u9 t9 H1 locs ht9 hvm9 hw9 hB9 hz9 hk9 hS => ?_)
              obtain ⟨μ5, r6⟩ := u9
              obtain ⟨hP, -⟩ := hB9
              rw [ht9] at hP
              generalize H1 = H at hP hS ⊢
              obtain ⟨e9, hw9⟩ := hw9
              have e9 : r9 = iZ r6 := e9
              subst e9
              simp only at hP hw9
              have hμ5 := hw9; clear hw9
              rw [hμ5.1] at hP; have hμ5 := hμ5.2
              exact W_widen (Nat.le_of_ble_eq_true rfl) (Nat.le_of_ble_eq_true rfl) (vx_ret (W.iret (v := iZ (r6)) hx hb hr (fun t9 ht9 hW9 => ⟨⟨iZ (r6), (μ, r6), rfl, ⟨rfl, (by
                                    dsimp only
                                    exact ⟨hI, SY_rf⟩)⟩, by rw [ht9]; exact hP, va_K.moved hW9.alike hK⟩, hS.F ht9⟩) hS.2.2 dX9_told_106))
            · skip
              by_cases hc1_6 : wh = 6
              · refine lv_tableIn (tgt := 107) (off := 106) hx hb dX9_told_1 (by rw [iZ_toInt (by first | assumption | (constructor <;> omega) | decide), hc1_6]; decide +kernel) (by rw [iZ_toInt (by first | assumption | (constructor <;> omega) | decide), hc1_6]; decide +kernel) (by rw [iZ_toInt (by first | assumption | (constructor <;> omega) | decide), hc1_6]; decide +kernel) (by decide) ?_
                refine lv_aload_n hx hb dX9_told_107 rfl (lv_at hl 0 rfl) ?_
                refine fz_get (D := (dC, dI)) (ci := 9) (v := .ref (h0 + 6)) (C := RX9) (T := TX9) (N := 15) hx hb hts inG9 hown hK hP (k := 0) (by decide) (F := (sF0 h0)) sE_0 rfl 3 (by decide) (hts _ k335) (fun _ h9 => h9) rfl dX9_told_108 ?_
                refine lv_sipush (v := iZ 514) hx hb dX9_told_111 rfl ?_
                refine va_calli (va_runV (As := [.int (iZ (514))]) (rest := []) ⟨hx, hb, hml, hown, hts⟩ (s_RcountOf l dC dI cI cZ cII cIII h0 s.heap.size μ (6) (1100) (514) (rowB_6) (by exact (rG_len hI.1.2.2.1)) (by exact hI.1.2.2.1.1) (by constructor <;> decide)) (cwV 1 hts (gV_G k856 k857 k858 k3 k859) rfl rfl rfl (by decide +kernel) ⟨Nat.le_of_ble_eq_true rfl, Nat.le_of_ble_eq_true rfl⟩) ⟨fun a U g mk q => by obtain ⟨q0, q1, qP, qK, qM⟩ := q; exact ⟨q0, q1, qP, va_K.moved (u := U) (U := U.calling g mk a) (Vm.Alike.refl U.vm) qK, qM⟩, va_recv hK hP (ci := 4) (q0 := 6) rfl ((fw_get (by decide)).trans (by rw [(sE_rowO rowB_6)])), fun U hU hW => ⟨rfl, by rw [hU], by rw [hU]; exact hP, va_K.moved hW.alike hK, xM_warm hW hM⟩⟩ rfl rfl hl.1 rfl (lv_room (Nat.le_of_ble_eq_true rfl)) dX9_told_114 ⟨Nat.le_of_ble_eq_true rfl, Nat.le_of_ble_eq_true rfl⟩) hS (fun q _ h => fA_le hS.1 q h) (fA_le hS.1) (fun r9 u9 t9 H1 locs ht9 hvm9 hw9 hB9 hz9 hk9 hS => ?_)
                obtain ⟨μ7, r8⟩ := u9
                obtain ⟨hP, -⟩ := hB9
                rw [ht9] at hP
                generalize H1 = H at hP hS ⊢
                obtain ⟨e9, hw9⟩ := hw9
                have e9 : r9 = iZ r8 := e9
                subst e9
                simp only at hP hw9
                have hμ7 := hw9; clear hw9
                rw [hμ7.1] at hP; have hμ7 := hμ7.2
                exact W_widen (Nat.le_of_ble_eq_true rfl) (Nat.le_of_ble_eq_true rfl) (vx_ret (W.iret (v := iZ (r8)) hx hb hr (fun t9 ht9 hW9 => ⟨⟨iZ (r8), (μ, r8), rfl, ⟨rfl, (by
                                        dsimp only
                                        exact ⟨hI, SY_rf⟩)⟩, by rw [ht9]; exact hP, va_K.moved hW9.alike hK⟩, hS.F ht9⟩) hS.2.2 dX9_told_117))
              · skip
                by_cases hc1_7 : wh = 7
                · refine lv_tableIn (tgt := 118) (off := 117) hx hb dX9_told_1 (by rw [iZ_toInt (by first | assumption | (constructor <;> omega) | decide), hc1_7]; decide +kernel) (by rw [iZ_toInt (by first | assumption | (constructor <;> omega) | decide), hc1_7]; decide +kernel) (by rw [iZ_toInt (by first | assumption | (constructor <;> omega) | decide), hc1_7]; decide +kernel) (by decide) ?_
                  refine lv_aload_n hx hb dX9_told_118 rfl (lv_at hl 0 rfl) ?_
                  refine fz_get (D := (dC, dI)) (ci := 9) (v := .ref (h0 + 18)) (C := RX9) (T := TX9) (N := 15) hx hb hts inG9 hown hK hP (k := 0) (by decide) (F := (sF0 h0)) sE_0 rfl 7 (by decide) (hts _ k339) (fun _ h9 => h9) rfl dX9_told_119 ?_
                  refine fz_get (D := (dC, dI)) (ci := 3) (v := .int (iZ (μ 18 4))) (C := RX3) (T := TX3) (N := 5) hx hb hts inG3 hown hK hP (k := 18) (by decide) (F := (sF18 h0)) sE_18 rfl 4 (by decide) (hts _ k135) (fun _ h9 => h9) rfl dX9_told_122 ?_
                  exact W_widen (Nat.le_of_ble_eq_true rfl) (Nat.le_of_ble_eq_true rfl) (vx_ret (W.iret (v := iZ (μ 18 4)) hx hb hr (fun t9 ht9 hW9 => ⟨⟨iZ (μ 18 4), (μ, μ 18 4), rfl, ⟨rfl, (by
                                            dsimp only
                                            exact ⟨hI, SY_rf⟩)⟩, by rw [ht9]; exact hP, va_K.moved hW9.alike hK⟩, hS.F ht9⟩) hS.2.2 dX9_told_125))
                · skip
                  by_cases hc1_8 : wh = 8
                  · refine lv_tableIn (tgt := 126) (off := 125) hx hb dX9_told_1 (by rw [iZ_toInt (by first | assumption | (constructor <;> omega) | decide), hc1_8]; decide +kernel) (by rw [iZ_toInt (by first | assumption | (constructor <;> omega) | decide), hc1_8]; decide +kernel) (by rw [iZ_toInt (by first | assumption | (constructor <;> omega) | decide), hc1_8]; decide +kernel) (by decide) ?_
                    refine lv_aload_n hx hb dX9_told_126 rfl (lv_at hl 0 rfl) ?_
                    refine fz_get (D := (dC, dI)) (ci := 9) (v := .int (iZ (μ 0 5))) (C := RX9) (T := TX9) (N := 15) hx hb hts inG9 hown hK hP (k := 0) (by decide) (F := (sF0 h0)) sE_0 rfl 5 (by decide) (hts _ k337) (fun _ h9 => h9) rfl dX9_told_127 ?_
                    exact W_widen (Nat.le_of_ble_eq_true rfl) (Nat.le_of_ble_eq_true rfl) (vx_ret (W.iret (v := iZ (μ 0 5)) hx hb hr (fun t9 ht9 hW9 => ⟨⟨iZ (μ 0 5), (μ, μ 0 5), rfl, ⟨rfl, (by
                                                dsimp only
                                                exact ⟨hI, SY_rf⟩)⟩, by rw [ht9]; exact hP, va_K.moved hW9.alike hK⟩, hS.F ht9⟩) hS.2.2 dX9_told_130))
                  · skip
                    by_cases hc1_9 : wh = 9
                    · refine lv_tableIn (tgt := 131) (off := 130) hx hb dX9_told_1 (by rw [iZ_toInt (by first | assumption | (constructor <;> omega) | decide), hc1_9]; decide +kernel) (by rw [iZ_toInt (by first | assumption | (constructor <;> omega) | decide), hc1_9]; decide +kernel) (by rw [iZ_toInt (by first | assumption | (constructor <;> omega) | decide), hc1_9]; decide +kernel) (by decide) ?_
                      refine lv_aload_n hx hb dX9_told_131 rfl (lv_at hl 0 rfl) ?_
                      refine fz_get (D := (dC, dI)) (ci := 9) (v := .ref (h0 + 1)) (C := RX9) (T := TX9) (N := 15) hx hb hts inG9 hown hK hP (k := 0) (by decide) (F := (sF0 h0)) sE_0 rfl 0 (by decide) (hts _ k332) (fun _ h9 => h9) rfl dX9_told_132 ?_
                      refine fz_get (D := (dC, dI)) (ci := 5) (v := .int (iZ (μ 1 1))) (C := RX5) (T := TX5) (N := 8) hx hb hts inG5 hown hK hP (k := 1) (by decide) (F := (sF1 h0)) sE_1 rfl 1 (by decide) (hts _ k37) (fun _ h9 => h9) rfl dX9_told_135 ?_
                      exact W_widen (Nat.le_of_ble_eq_true rfl) (Nat.le_of_ble_eq_true rfl) (vx_ret (W.iret (v := iZ (μ 1 1)) hx hb hr (fun t9 ht9 hW9 => ⟨⟨iZ (μ 1 1), (μ, μ 1 1), rfl, ⟨rfl, (by
                                                    dsimp only
                                                    exact ⟨hI, SY_rf⟩)⟩, by rw [ht9]; exact hP, va_K.moved hW9.alike hK⟩, hS.F ht9⟩) hS.2.2 dX9_told_138))
                    · skip
                      refine lv_tableOut (tgt := 139) hx hb dX9_told_1 (by rw [iZ_toInt (by first | assumption | (constructor <;> omega) | decide)]; omega) (by decide) ?_
                      refine lv_aload_n hx hb dX9_told_139 rfl (lv_at hl 0 rfl) ?_
                      refine lv_iconst (v := iZ 0) hx hb dX9_told_140 rfl ?_
                      refine vx_callv (vx_runV (As := [.int (iZ (0))]) (rest := []) ⟨hx, hb, hml, hown, hts⟩ (x_needArgument l hfl dC dI cI cZ cII cIII h0 s.heap.size μ  ) (cwV 1 hts (gV_G k596 k598 ks_yX9_needArgument k1 k599) rfl rfl rfl (by decide +kernel) ⟨Nat.le_of_ble_eq_true rfl, Nat.le_of_ble_eq_true rfl⟩) ⟨fun a U g mk q => by obtain ⟨q0, q1, qP, qK, qM, qE⟩ := q; exact ⟨q0, q1, qP, va_K.moved (u := U) (U := U.calling g mk a) (Vm.Alike.refl U.vm) qK, qM, xX_call qE⟩, va_recv hK hP (ci := 9) (q0 := 0) rfl ((fw_get (by decide)).trans (by rw [sE_0]; rfl)), fun U hU hW => ⟨rfl, by rw [hU], by rw [hU]; exact hP, va_K.moved hW.alike hK, xM_warm hW hM, xX_at hEx hS (fun q h => fA_le hS.1 q h) hU hW⟩⟩ rfl rfl hl.1 rfl (lv_room (Nat.le_of_ble_eq_true rfl)) dX9_told_141 ⟨Nat.le_of_ble_eq_true rfl, Nat.le_of_ble_eq_true rfl⟩) hS (fun q _ h => fA_le hS.1 q h) (fA_le hS.1) (fun q _ h => fA_le hS.1 q h) (fun E9 ce9 q9 u9 t9 H1 locs ht9 hvm9 hpx9 hBX9 hz9 hk9 hS hce9 hcv9 hcl9 => ?_) (fun u9 t9 H1 locs ht9 hvm9 hw9 hB9 hz9 hk9 hS => hw9.elim)
                      obtain ⟨hE9, hP9, hK9⟩ := hBX9
                      exact vx_out (fun x hx9 => (hnt x hx9).elim) hlocks hce9 hcv9 hcl9 (fun t8 ht8 hW8 => ⟨u9, (by
                                                    show CI T u9 ∧ SY μ u9
                                                    exact CI_thr hI hpx9), ⟨hE9, by rw [ht8, ← ht9]; exact hP9, va_K.moved hW8 hK⟩, hS.F ht8⟩) hS.2.2 (Nat.le_of_ble_eq_true rfl) (Nat.le_of_ble_eq_true rfl)
set_option maxHeartbeats 4000000 in
set_option maxRecDepth 100000 in
theorem p_pageOf (l : Launch) (hfl : l.stackTraces = false) (dC : Nat → ClassId) (dI : Nat → Nat → Nat) (cI cZ cII cIII : ClassId) (h0 sz : Nat) (μ : va_M) (pg : Int) (wh : Int) (T : List Tk) (hI : CI T μ) (h_pg : inR pg) (h_wh : inR wh) : vx_Met l yX9_pageOf (Cond.code yX9_pageOf cX9_pageOf 4 (some .int) :: wsG) ({ frames := 8, cells := 1, slots := 6, locals := 131 } : Room) (va_Pc [.ref h0, .int (iZ (pg)), .int (iZ (wh))] (fun U => U.heap.size = sz ∧ va_P (dC, dI) vwCl (fw (sE cI cZ cII cIII h0) h0 233 μ) U.heap ∧ va_K (dC, dI) vwCl (sT cI cZ cII cIII) U ∧ xM U ∧ xX (fA h0 233 sz) U)) (va_Qi (fun (r9 : Int32) (u : va_M × Int) => r9 = iZ u.2 ∧ (fun (u : va_M) (r : Int) => CI T u ∧ SY μ u) u.1 u.2) (fun u t => va_P (dC, dI) vwCl (fw (sE cI cZ cII cIII h0) h0 233 u.1) t.heap ∧ va_K (dC, dI) vwCl (sT cI cZ cII cIII) t) (fA h0 233 sz)) (vx_X (fun (u : va_M) => CI T u ∧ SY μ u) (fun E u t => E ∈ (["java/util/NoSuchElementException", "java/lang/IllegalArgumentException"] : List String) ∧ va_P (dC, dI) vwCl (fw (sE cI cZ cII cIII h0) h0 233 u) t.heap ∧ va_K (dC, dI) vwCl (sT cI cZ cII cIII) t) (fA h0 233 sz)) 1 6 (fA h0 233 sz) := by
  refine vx_ofW (cc := cX9_pageOf) (maxL := 4) (ret := (some .int)) (by decide) rfl ?_
  intro p e s m args below meth c s₁ B hml hnt hv
  obtain ⟨rfl, hsz, hP, hK, hM, hEx⟩ := hv
  have hx := B.exec
  have hb := B.bytes
  have hr := B.returns
  have hts : ∀ w ∈ wsG, w.before _ s = true := hG_of (atoms_spec (ws := (Cond.code yX9_pageOf cX9_pageOf 4 (some .int) :: wsG)) B.pre)
  have hown : s.vm.findClass RX9 = some m.cls := findClass_of_methodNamed B.named
  have hlocks := B.notSynchronized
  subst hsz
  have hS : va_S (fA h0 233 s.heap.size) s.heap s.heap [] := va_S.rf
  have hl := lv_entry ([.ref h0, .int (iZ (pg)), .int (iZ (wh))]) (n := 4) (Nat.le_of_ble_eq_true rfl)
  rw [lg_entry_eq]
  generalize (lg_sl ([.ref h0, .int (iZ (pg)), .int (iZ (wh))]) ++ List.replicate (4 - (lg_sl ([.ref h0, .int (iZ (pg)), .int (iZ (wh))])).length) Slot.unset).toArray = ls at hl ⊢
  have hl : lv_has ls 4 [(0, .ref h0), (1, .int (iZ (pg))), (2, .int (iZ (wh)))] := hl
  have hlc := CI_lc hI
  have h66 := CI_n6 hI
  refine lv_aload_n hx hb dX9_pageOf_0 rfl (lv_at hl 0 rfl) ?_
  refine lv_iload_n hx hb dX9_pageOf_1 rfl (lv_at hl 1 rfl) ?_
  by_cases hn2_ : 0 ≤ pg ∧ pg < μ 0 2
  · refine va_callv (va_runV (As := [.int (iZ (pg))]) (rest := []) ⟨hx, hb, hml, hown, hts⟩ (s_needPage l dC dI cI cZ cII cIII h0 s.heap.size μ (pg) (by first | assumption | omega | exact CI_lc hI | exact CI_cn hI | exact (CI_n6 hI).1 | decide) (by first | assumption | omega | exact CI_lc hI | exact CI_cn hI | exact (CI_n6 hI).1 | decide) (by exact hn2_)) (cwV 1 hts (gV_G k735 k737 ks_yX9_needPage k1 k738) rfl rfl rfl (by decide +kernel) ⟨Nat.le_of_ble_eq_true rfl, Nat.le_of_ble_eq_true rfl⟩) ⟨fun a U g mk q => by obtain ⟨q0, q1, qP, qK, qM⟩ := q; exact ⟨q0, q1, qP, va_K.moved (u := U) (U := U.calling g mk a) (Vm.Alike.refl U.vm) qK, qM⟩, va_recv hK hP (ci := 9) (q0 := 0) rfl ((fw_get (by decide)).trans (by rw [sE_0]; rfl)), fun U hU hW => ⟨rfl, by rw [hU], by rw [hU]; exact hP, va_K.moved hW.alike hK, xM_warm hW hM⟩⟩ rfl rfl hl.1 rfl (lv_room (Nat.le_of_ble_eq_true rfl)) dX9_pageOf_2 ⟨Nat.le_of_ble_eq_true rfl, Nat.le_of_ble_eq_true rfl⟩) hS (fun q _ h => fA_le hS.1 q h) (fA_le hS.1) (fun u9 t9 H1 locs ht9 hvm9 hw9 hB9 hz9 hk9 hS => ?_)
    obtain ⟨hP, -⟩ := hB9
    rw [ht9] at hP
    generalize H1 = H at hP hS ⊢
    obtain ⟨μ1, eμ1⟩ : ∃ x : va_M, x = u9 := ⟨_, rfl⟩
    rw [← eμ1] at hP hw9
    have hμ1 := hw9; clear hw9
    rw [hμ1] at hP
    obtain ⟨hl1, hl2⟩ := CI_lf hI pg (by omega) (by omega)
    have hg2 := hl1.2.2.2
    refine lv_aload_n hx hb dX9_pageOf_5 rfl (lv_at hl 0 rfl) ?_
    refine fz_get (D := (dC, dI)) (ci := 9) (v := .ref (h0 + 5)) (C := RX9) (T := TX9) (N := 15) hx hb hts inG9 hown hK hP (k := 0) (by decide) (F := (sF0 h0)) sE_0 rfl 1 (by decide) (hts _ k333) (fun _ h9 => h9) rfl dX9_pageOf_6 ?_
    refine lv_iload_n hx hb dX9_pageOf_9 rfl (lv_at hl 1 rfl) ?_
    refine fz_ald (k := 5) (n := 8) (k2 := (113 + (pg).toNat * 15)) hx hb hK hP 1 rfl (by decide) sE_5 rfl ⟨by omega, by omega⟩ (by decide) (if_pos (by omega)) dX9_pageOf_10 ?_
    refine lv_astore_n (lv' := [(3, .ref (h0 + (113 + (pg).toNat * 15))), (0, .ref h0), (1, .int (iZ (pg))), (2, .int (iZ (wh)))]) hx hb dX9_pageOf_11 rfl hl (by decide) rfl (fun ls hl => ?_)
    refine lv_iload_n hx hb dX9_pageOf_12 rfl (lv_at hl 3 rfl) ?_
    by_cases hc13_0 : wh = 0
    · refine lv_tableIn (tgt := 48) (off := 35) hx hb dX9_pageOf_13 (by rw [iZ_toInt (by first | assumption | (constructor <;> omega) | decide), hc13_0]; decide +kernel) (by rw [iZ_toInt (by first | assumption | (constructor <;> omega) | decide), hc13_0]; decide +kernel) (by rw [iZ_toInt (by first | assumption | (constructor <;> omega) | decide), hc13_0]; decide +kernel) (by decide) ?_
      refine lv_aload_n hx hb dX9_pageOf_48 rfl (lv_at hl 0 rfl) ?_
      refine fz_get (D := (dC, dI)) (ci := 1) (v := .int (iZ (μ (113 + (pg).toNat * 15) 2))) (C := RX1) (T := TX1) (N := 8) hx hb hts inG1 hown hK hP (k := (113 + (pg).toNat * 15)) (by omega) (F := (sLF h0 (113 + (pg).toNat * 15))) (sE_leafO (show (pg).toNat < 8 by omega) rfl) rfl 2 (by decide) (hts _ k301) (fun _ h9 => h9) rfl dX9_pageOf_49 ?_
      exact W_widen (Nat.le_of_ble_eq_true rfl) (Nat.le_of_ble_eq_true rfl) (vx_ret (W.iret (v := iZ (μ (113 + (pg).toNat * 15) 2)) hx hb hr (fun t9 ht9 hW9 => ⟨⟨iZ (μ (113 + (pg).toNat * 15) 2), (μ, μ (113 + (pg).toNat * 15) 2), rfl, ⟨rfl, (by
                    dsimp only
                    exact ⟨hI, SY_rf⟩)⟩, by rw [ht9]; exact hP, va_K.moved hW9.alike hK⟩, hS.F ht9⟩) hS.2.2 dX9_pageOf_52))
    · skip
      by_cases hc13_1 : wh = 1
      · refine lv_tableIn (tgt := 53) (off := 40) hx hb dX9_pageOf_13 (by rw [iZ_toInt (by first | assumption | (constructor <;> omega) | decide), hc13_1]; decide +kernel) (by rw [iZ_toInt (by first | assumption | (constructor <;> omega) | decide), hc13_1]; decide +kernel) (by rw [iZ_toInt (by first | assumption | (constructor <;> omega) | decide), hc13_1]; decide +kernel) (by decide) ?_
        refine lv_aload_n hx hb dX9_pageOf_53 rfl (lv_at hl 0 rfl) ?_
        refine fz_get (D := (dC, dI)) (ci := 1) (v := .ref (h0 + ((113 + (pg).toNat * 15) + 3))) (C := RX1) (T := TX1) (N := 8) hx hb hts inG1 hown hK hP (k := (113 + (pg).toNat * 15)) (by omega) (F := (sLF h0 (113 + (pg).toNat * 15))) (sE_leafO (show (pg).toNat < 8 by omega) rfl) rfl 3 (by decide) (hts _ k304) (fun _ h9 => h9) rfl dX9_pageOf_54 ?_
        refine fz_get (D := (dC, dI)) (ci := 4) (v := .int (iZ (μ ((113 + (pg).toNat * 15) + 3) 6))) (C := RX4) (T := TX4) (N := 8) hx hb hts inG4 hown hK hP (k := ((113 + (pg).toNat * 15) + 3)) (by omega) (F := (sRF h0 ((113 + (pg).toNat * 15) + 3))) (sE_rowO (rowB_L (show (pg).toNat < 8 by omega) rfl)) rfl 6 (by decide) (hts _ k101) (fun _ h9 => h9) rfl dX9_pageOf_57 ?_
        exact W_widen (Nat.le_of_ble_eq_true rfl) (Nat.le_of_ble_eq_true rfl) (vx_ret (W.iret (v := iZ (μ ((113 + (pg).toNat * 15) + 3) 6)) hx hb hr (fun t9 ht9 hW9 => ⟨⟨iZ (μ ((113 + (pg).toNat * 15) + 3) 6), (μ, μ ((113 + (pg).toNat * 15) + 3) 6), rfl, ⟨rfl, (by
                        dsimp only
                        exact ⟨hI, SY_rf⟩)⟩, by rw [ht9]; exact hP, va_K.moved hW9.alike hK⟩, hS.F ht9⟩) hS.2.2 dX9_pageOf_60))
      · skip
        by_cases hc13_2 : wh = 2
        · refine lv_tableIn (tgt := 61) (off := 48) hx hb dX9_pageOf_13 (by rw [iZ_toInt (by first | assumption | (constructor <;> omega) | decide), hc13_2]; decide +kernel) (by rw [iZ_toInt (by first | assumption | (constructor <;> omega) | decide), hc13_2]; decide +kernel) (by rw [iZ_toInt (by first | assumption | (constructor <;> omega) | decide), hc13_2]; decide +kernel) (by decide) ?_
          refine lv_aload_n hx hb dX9_pageOf_61 rfl (lv_at hl 0 rfl) ?_
          refine fz_get (D := (dC, dI)) (ci := 1) (v := .ref (h0 + ((113 + (pg).toNat * 15) + 3))) (C := RX1) (T := TX1) (N := 8) hx hb hts inG1 hown hK hP (k := (113 + (pg).toNat * 15)) (by omega) (F := (sLF h0 (113 + (pg).toNat * 15))) (sE_leafO (show (pg).toNat < 8 by omega) rfl) rfl 3 (by decide) (hts _ k304) (fun _ h9 => h9) rfl dX9_pageOf_62 ?_
          refine va_calli (va_runV (As := []) (rest := []) ⟨hx, hb, hml, hown, hts⟩ (s_Rsize l dC dI cI cZ cII cIII h0 H.size μ (((113 + (pg).toNat * 15) + 3)) (96) ((rowB_L (show (pg).toNat < 8 by omega) rfl)) (by exact rG_len hg2)) (cwV 0 hts (gV_G k513 k514 k515 k3 k516) rfl rfl rfl (by decide +kernel) ⟨Nat.le_of_ble_eq_true rfl, Nat.le_of_ble_eq_true rfl⟩) ⟨fun a U g mk q => by obtain ⟨q0, q1, qP, qK, qM⟩ := q; exact ⟨q0, q1, qP, va_K.moved (u := U) (U := U.calling g mk a) (Vm.Alike.refl U.vm) qK, qM⟩, va_recv hK hP (ci := 4) (q0 := ((113 + (pg).toNat * 15) + 3)) rfl ((fw_get (by omega)).trans (by rw [(sE_rowO (rowB_L (show (pg).toNat < 8 by omega) rfl))])), fun U hU hW => ⟨rfl, by rw [hU], by rw [hU]; exact hP, va_K.moved hW.alike hK, xM_warm hW hM⟩⟩ rfl rfl hl.1 rfl (lv_room (Nat.le_of_ble_eq_true rfl)) dX9_pageOf_65 ⟨Nat.le_of_ble_eq_true rfl, Nat.le_of_ble_eq_true rfl⟩) hS (fun q _ h => fA_le hS.1 q h) (fA_le hS.1) (fun r9 u9 t9 H1 locs ht9 hvm9 hw9 hB9 hz9 hk9 hS => ?_)
          obtain ⟨μ2, r3⟩ := u9
          obtain ⟨hP, -⟩ := hB9
          rw [ht9] at hP
          generalize H1 = H at hP hS ⊢
          obtain ⟨e9, hw9⟩ := hw9
          have e9 : r9 = iZ r3 := e9
          subst e9
          simp only at hP hw9
          have hμ2 := hw9; clear hw9
          rw [hμ2.1] at hP; have hμ2 := hμ2.2
          exact W_widen (Nat.le_of_ble_eq_true rfl) (Nat.le_of_ble_eq_true rfl) (vx_ret (W.iret (v := iZ (r3)) hx hb hr (fun t9 ht9 hW9 => ⟨⟨iZ (r3), (μ, r3), rfl, ⟨rfl, (by
                            dsimp only
                            exact ⟨hI, SY_rf⟩)⟩, by rw [ht9]; exact hP, va_K.moved hW9.alike hK⟩, hS.F ht9⟩) hS.2.2 dX9_pageOf_68))
        · skip
          by_cases hc13_3 : wh = 3
          · refine lv_tableIn (tgt := 69) (off := 56) hx hb dX9_pageOf_13 (by rw [iZ_toInt (by first | assumption | (constructor <;> omega) | decide), hc13_3]; decide +kernel) (by rw [iZ_toInt (by first | assumption | (constructor <;> omega) | decide), hc13_3]; decide +kernel) (by rw [iZ_toInt (by first | assumption | (constructor <;> omega) | decide), hc13_3]; decide +kernel) (by decide) ?_
            refine lv_aload_n hx hb dX9_pageOf_69 rfl (lv_at hl 0 rfl) ?_
            refine fz_get (D := (dC, dI)) (ci := 1) (v := .ref (h0 + ((113 + (pg).toNat * 15) + 3))) (C := RX1) (T := TX1) (N := 8) hx hb hts inG1 hown hK hP (k := (113 + (pg).toNat * 15)) (by omega) (F := (sLF h0 (113 + (pg).toNat * 15))) (sE_leafO (show (pg).toNat < 8 by omega) rfl) rfl 3 (by decide) (hts _ k304) (fun _ h9 => h9) rfl dX9_pageOf_70 ?_
            refine lv_sipush (v := iZ 514) hx hb dX9_pageOf_73 rfl ?_
            refine va_calli (va_runV (As := [.int (iZ (514))]) (rest := []) ⟨hx, hb, hml, hown, hts⟩ (s_RcountOf l dC dI cI cZ cII cIII h0 H.size μ (((113 + (pg).toNat * 15) + 3)) (96) (514) ((rowB_L (show (pg).toNat < 8 by omega) rfl)) (by exact rG_len hg2) (by exact hg2.1) (by constructor <;> decide)) (cwV 1 hts (gV_G k856 k857 k858 k3 k859) rfl rfl rfl (by decide +kernel) ⟨Nat.le_of_ble_eq_true rfl, Nat.le_of_ble_eq_true rfl⟩) ⟨fun a U g mk q => by obtain ⟨q0, q1, qP, qK, qM⟩ := q; exact ⟨q0, q1, qP, va_K.moved (u := U) (U := U.calling g mk a) (Vm.Alike.refl U.vm) qK, qM⟩, va_recv hK hP (ci := 4) (q0 := ((113 + (pg).toNat * 15) + 3)) rfl ((fw_get (by omega)).trans (by rw [(sE_rowO (rowB_L (show (pg).toNat < 8 by omega) rfl))])), fun U hU hW => ⟨rfl, by rw [hU], by rw [hU]; exact hP, va_K.moved hW.alike hK, xM_warm hW hM⟩⟩ rfl rfl hl.1 rfl (lv_room (Nat.le_of_ble_eq_true rfl)) dX9_pageOf_76 ⟨Nat.le_of_ble_eq_true rfl, Nat.le_of_ble_eq_true rfl⟩) hS (fun q _ h => fA_le hS.1 q h) (fA_le hS.1) (fun r9 u9 t9 H1 locs ht9 hvm9 hw9 hB9 hz9 hk9 hS => ?_)
            obtain ⟨μ4, r5⟩ := u9
            obtain ⟨hP, -⟩ := hB9
            rw [ht9] at hP
            generalize H1 = H at hP hS ⊢
            obtain ⟨e9, hw9⟩ := hw9
            have e9 : r9 = iZ r5 := e9
            subst e9
            simp only at hP hw9
            have hμ4 := hw9; clear hw9
            rw [hμ4.1] at hP; have hμ4 := hμ4.2
            exact W_widen (Nat.le_of_ble_eq_true rfl) (Nat.le_of_ble_eq_true rfl) (vx_ret (W.iret (v := iZ (r5)) hx hb hr (fun t9 ht9 hW9 => ⟨⟨iZ (r5), (μ, r5), rfl, ⟨rfl, (by
                                dsimp only
                                exact ⟨hI, SY_rf⟩)⟩, by rw [ht9]; exact hP, va_K.moved hW9.alike hK⟩, hS.F ht9⟩) hS.2.2 dX9_pageOf_79))
          · skip
            by_cases hc13_4 : wh = 4
            · refine lv_tableIn (tgt := 80) (off := 67) hx hb dX9_pageOf_13 (by rw [iZ_toInt (by first | assumption | (constructor <;> omega) | decide), hc13_4]; decide +kernel) (by rw [iZ_toInt (by first | assumption | (constructor <;> omega) | decide), hc13_4]; decide +kernel) (by rw [iZ_toInt (by first | assumption | (constructor <;> omega) | decide), hc13_4]; decide +kernel) (by decide) ?_
              refine lv_aload_n hx hb dX9_pageOf_80 rfl (lv_at hl 0 rfl) ?_
              refine fz_get (D := (dC, dI)) (ci := 1) (v := .ref (h0 + ((113 + (pg).toNat * 15) + 3))) (C := RX1) (T := TX1) (N := 8) hx hb hts inG1 hown hK hP (k := (113 + (pg).toNat * 15)) (by omega) (F := (sLF h0 (113 + (pg).toNat * 15))) (sE_leafO (show (pg).toNat < 8 by omega) rfl) rfl 3 (by decide) (hts _ k304) (fun _ h9 => h9) rfl dX9_pageOf_81 ?_
              refine va_calli (va_runV (As := []) (rest := []) ⟨hx, hb, hml, hown, hts⟩ (s_RdeepestRepeat l dC dI cI cZ cII cIII h0 H.size μ (((113 + (pg).toNat * 15) + 3)) (96) ((rowB_L (show (pg).toNat < 8 by omega) rfl)) (by exact hg2)) (cwV 0 hts (gV_G k867 k868 k869 k3 k870) rfl rfl rfl (by decide +kernel) ⟨Nat.le_of_ble_eq_true rfl, Nat.le_of_ble_eq_true rfl⟩) ⟨fun a U g mk q => by obtain ⟨q0, q1, qP, qK, qM⟩ := q; exact ⟨q0, q1, qP, va_K.moved (u := U) (U := U.calling g mk a) (Vm.Alike.refl U.vm) qK, qM⟩, va_recv hK hP (ci := 4) (q0 := ((113 + (pg).toNat * 15) + 3)) rfl ((fw_get (by omega)).trans (by rw [(sE_rowO (rowB_L (show (pg).toNat < 8 by omega) rfl))])), fun U hU hW => ⟨rfl, by rw [hU], by rw [hU]; exact hP, va_K.moved hW.alike hK, xM_warm hW hM⟩⟩ rfl rfl hl.1 rfl (lv_room (Nat.le_of_ble_eq_true rfl)) dX9_pageOf_84 ⟨Nat.le_of_ble_eq_true rfl, Nat.le_of_ble_eq_true rfl⟩) hS (fun q _ h => fA_le hS.1 q h) (fA_le hS.1) (fun r9 u9 t9 H1 locs ht9 hvm9 hw9 hB9 hz9 hk9 hS => ?_)
              obtain ⟨μ6, r7⟩ := u9
              obtain ⟨hP, -⟩ := hB9
              rw [ht9] at hP
              generalize H1 = H at hP hS ⊢
              obtain ⟨e9, hw9⟩ := hw9
              have e9 : r9 = iZ r7 := e9
              subst e9
              simp only at hP hw9
              have hμ6 := hw9; clear hw9
              rw [hμ6] at hP
              exact W_widen (Nat.le_of_ble_eq_true rfl) (Nat.le_of_ble_eq_true rfl) (vx_ret (W.iret (v := iZ (r7)) hx hb hr (fun t9 ht9 hW9 => ⟨⟨iZ (r7), (μ, r7), rfl, ⟨rfl, (by
                                    dsimp only
                                    exact ⟨hI, SY_rf⟩)⟩, by rw [ht9]; exact hP, va_K.moved hW9.alike hK⟩, hS.F ht9⟩) hS.2.2 dX9_pageOf_87))
            · skip
              refine lv_tableOut (tgt := 88) hx hb dX9_pageOf_13 (by rw [iZ_toInt (by first | assumption | (constructor <;> omega) | decide)]; omega) (by decide) ?_
              refine lv_aload_n hx hb dX9_pageOf_88 rfl (lv_at hl 1 rfl) ?_
              refine lv_iconst (v := iZ 0) hx hb dX9_pageOf_89 rfl ?_
              refine vx_callv (vx_runV (As := [.int (iZ (0))]) (rest := []) ⟨hx, hb, hml, hown, hts⟩ (x_needArgument l hfl dC dI cI cZ cII cIII h0 H.size μ  ) (cwV 1 hts (gV_G k596 k598 ks_yX9_needArgument k1 k599) rfl rfl rfl (by decide +kernel) ⟨Nat.le_of_ble_eq_true rfl, Nat.le_of_ble_eq_true rfl⟩) ⟨fun a U g mk q => by obtain ⟨q0, q1, qP, qK, qM, qE⟩ := q; exact ⟨q0, q1, qP, va_K.moved (u := U) (U := U.calling g mk a) (Vm.Alike.refl U.vm) qK, qM, xX_call qE⟩, va_recv hK hP (ci := 9) (q0 := 0) rfl ((fw_get (by decide)).trans (by rw [sE_0]; rfl)), fun U hU hW => ⟨rfl, by rw [hU], by rw [hU]; exact hP, va_K.moved hW.alike hK, xM_warm hW hM, xX_at hEx hS (fun q h => fA_le hS.1 q h) hU hW⟩⟩ rfl rfl hl.1 rfl (lv_room (Nat.le_of_ble_eq_true rfl)) dX9_pageOf_90 ⟨Nat.le_of_ble_eq_true rfl, Nat.le_of_ble_eq_true rfl⟩) hS (fun q _ h => fA_le hS.1 q h) (fA_le hS.1) (fun q _ h => fA_le hS.1 q h) (fun E9 ce9 q9 u9 t9 H1 locs ht9 hvm9 hpx9 hBX9 hz9 hk9 hS hce9 hcv9 hcl9 => ?_) (fun u9 t9 H1 locs ht9 hvm9 hw9 hB9 hz9 hk9 hS => hw9.elim)
              obtain ⟨hE9, hP9, hK9⟩ := hBX9
              exact vx_out (fun x hx9 => (hnt x hx9).elim) hlocks hce9 hcv9 hcl9 (fun t8 ht8 hW8 => ⟨u9, (by
                                    show CI T u9 ∧ SY μ u9
                                    exact CI_thr hI hpx9), ⟨(show ∀ z ∈ (["java/lang/IllegalArgumentException"] : List String), z ∈ (["java/util/NoSuchElementException", "java/lang/IllegalArgumentException"] : List String) by decide +kernel) E9 hE9, by rw [ht8, ← ht9]; exact hP9, va_K.moved hW8 hK⟩, hS.F ht8⟩) hS.2.2 (Nat.le_of_ble_eq_true rfl) (Nat.le_of_ble_eq_true rfl)
  · refine vx_callv (vx_runV (As := [.int (iZ (pg))]) (rest := []) ⟨hx, hb, hml, hown, hts⟩ (x_needPage l hfl dC dI cI cZ cII cIII h0 s.heap.size μ (pg) (by first | assumption | omega | exact CI_lc hI | exact CI_cn hI | exact (CI_n6 hI).1 | decide) (by first | assumption | omega | exact CI_lc hI | exact CI_cn hI | exact (CI_n6 hI).1 | decide) (hn2_)) (cwV 1 hts (gV_G k735 k737 ks_yX9_needPage k1 k738) rfl rfl rfl (by decide +kernel) ⟨Nat.le_of_ble_eq_true rfl, Nat.le_of_ble_eq_true rfl⟩) ⟨fun a U g mk q => by obtain ⟨q0, q1, qP, qK, qM, qE⟩ := q; exact ⟨q0, q1, qP, va_K.moved (u := U) (U := U.calling g mk a) (Vm.Alike.refl U.vm) qK, qM, xX_call qE⟩, va_recv hK hP (ci := 9) (q0 := 0) rfl ((fw_get (by decide)).trans (by rw [sE_0]; rfl)), fun U hU hW => ⟨rfl, by rw [hU], by rw [hU]; exact hP, va_K.moved hW.alike hK, xM_warm hW hM, xX_at hEx hS (fun q h => fA_le hS.1 q h) hU hW⟩⟩ rfl rfl hl.1 rfl (lv_room (Nat.le_of_ble_eq_true rfl)) dX9_pageOf_2 ⟨Nat.le_of_ble_eq_true rfl, Nat.le_of_ble_eq_true rfl⟩) hS (fun q _ h => fA_le hS.1 q h) (fA_le hS.1) (fun q _ h => fA_le hS.1 q h) (fun E9 ce9 q9 u9 t9 H1 locs ht9 hvm9 hpx9 hBX9 hz9 hk9 hS hce9 hcv9 hcl9 => ?_) (fun u9 t9 H1 locs ht9 hvm9 hw9 hB9 hz9 hk9 hS => hw9.elim)
    obtain ⟨hE9, hP9, hK9⟩ := hBX9
    exact vx_out (fun x hx9 => (hnt x hx9).elim) hlocks hce9 hcv9 hcl9 (fun t8 ht8 hW8 => ⟨u9, (by
                show CI T u9 ∧ SY μ u9
                exact CI_thr hI hpx9), ⟨(show ∀ z ∈ (["java/util/NoSuchElementException"] : List String), z ∈ (["java/util/NoSuchElementException", "java/lang/IllegalArgumentException"] : List String) by decide +kernel) E9 hE9, by rw [ht8, ← ht9]; exact hP9, va_K.moved hW8 hK⟩, hS.F ht8⟩) hS.2.2 (Nat.le_of_ble_eq_true rfl) (Nat.le_of_ble_eq_true rfl)
set_option maxHeartbeats 4000000 in
set_option maxRecDepth 100000 in
theorem p_token (l : Launch) (hfl : l.stackTraces = false) (dC : Nat → ClassId) (dI : Nat → Nat → Nat) (cI cZ cII cIII : ClassId) (h0 sz : Nat) (μ : va_M) (pg : Int) (kn : Int) (T : List Tk) (hI : CI T μ) (h_pg : inR pg) (h_kn : inR kn) : vx_Met l yX9_token (Cond.code yX9_token cX9_token 3 (some .int) :: wsG) ({ frames := 9, cells := 1, slots := 6, locals := 153 } : Room) (va_Pc [.ref h0, .int (iZ (pg)), .int (iZ (kn))] (fun U => U.heap.size = sz ∧ va_P (dC, dI) vwCl (fw (sE cI cZ cII cIII h0) h0 233 μ) U.heap ∧ va_K (dC, dI) vwCl (sT cI cZ cII cIII) U ∧ xM U ∧ xX (fA h0 233 sz) U)) (va_Qi (fun (r9 : Int32) (u : va_M × Int) => r9 = iZ u.2 ∧ (fun (u : va_M) (r : Int) => CI T u ∧ SY μ u) u.1 u.2) (fun u t => va_P (dC, dI) vwCl (fw (sE cI cZ cII cIII h0) h0 233 u.1) t.heap ∧ va_K (dC, dI) vwCl (sT cI cZ cII cIII) t) (fA h0 233 sz)) (vx_X (fun (u : va_M) => CI T u ∧ SY μ u) (fun E u t => E ∈ (["java/util/NoSuchElementException"] : List String) ∧ va_P (dC, dI) vwCl (fw (sE cI cZ cII cIII h0) h0 233 u) t.heap ∧ va_K (dC, dI) vwCl (sT cI cZ cII cIII) t) (fA h0 233 sz)) 1 6 (fA h0 233 sz) := by
  refine vx_ofW (cc := cX9_token) (maxL := 3) (ret := (some .int)) (by decide) rfl ?_
  intro p e s m args below meth c s₁ B hml hnt hv
  obtain ⟨rfl, hsz, hP, hK, hM, hEx⟩ := hv
  have hx := B.exec
  have hb := B.bytes
  have hr := B.returns
  have hts : ∀ w ∈ wsG, w.before _ s = true := hG_of (atoms_spec (ws := (Cond.code yX9_token cX9_token 3 (some .int) :: wsG)) B.pre)
  have hown : s.vm.findClass RX9 = some m.cls := findClass_of_methodNamed B.named
  have hlocks := B.notSynchronized
  subst hsz
  have hS : va_S (fA h0 233 s.heap.size) s.heap s.heap [] := va_S.rf
  have hl := lv_entry ([.ref h0, .int (iZ (pg)), .int (iZ (kn))]) (n := 3) (Nat.le_of_ble_eq_true rfl)
  rw [lg_entry_eq]
  generalize (lg_sl ([.ref h0, .int (iZ (pg)), .int (iZ (kn))]) ++ List.replicate (3 - (lg_sl ([.ref h0, .int (iZ (pg)), .int (iZ (kn))])).length) Slot.unset).toArray = ls at hl ⊢
  have hl : lv_has ls 3 [(0, .ref h0), (1, .int (iZ (pg))), (2, .int (iZ (kn)))] := hl
  have hlc := CI_lc hI
  have h66 := CI_n6 hI
  refine lv_aload_n hx hb dX9_token_0 rfl (lv_at hl 0 rfl) ?_
  refine lv_iload_n hx hb dX9_token_1 rfl (lv_at hl 1 rfl) ?_
  refine lv_iload_n hx hb dX9_token_2 rfl (lv_at hl 2 rfl) ?_
  by_cases hn3_ : (0 ≤ pg ∧ pg < μ 0 2) ∧ 0 ≤ kn ∧ kn < μ (113 + (pg).toNat * 15) 2
  · refine va_callv (va_runV (As := [.int (iZ (pg)), .int (iZ (kn))]) (rest := []) ⟨hx, hb, hml, hown, hts⟩ (s_needPlace l dC dI cI cZ cII cIII h0 s.heap.size μ (pg) (kn) (by first | assumption | omega | exact CI_lc hI | exact CI_cn hI | exact (CI_n6 hI).1 | decide) (by first | assumption | omega | exact CI_lc hI | exact CI_cn hI | exact (CI_n6 hI).1 | decide) (by first | assumption | omega | exact CI_lc hI | exact CI_cn hI | exact (CI_n6 hI).1 | decide) (by first | assumption | omega | exact CI_lc hI | exact CI_cn hI | exact (CI_n6 hI).1 | decide) (by exact hn3_)) (cwV 2 hts (gV_G k878 k880 ks_yX9_needPlace k1 k881) rfl rfl rfl (by decide +kernel) ⟨Nat.le_of_ble_eq_true rfl, Nat.le_of_ble_eq_true rfl⟩) ⟨fun a U g mk q => by obtain ⟨q0, q1, qP, qK, qM⟩ := q; exact ⟨q0, q1, qP, va_K.moved (u := U) (U := U.calling g mk a) (Vm.Alike.refl U.vm) qK, qM⟩, va_recv hK hP (ci := 9) (q0 := 0) rfl ((fw_get (by decide)).trans (by rw [sE_0]; rfl)), fun U hU hW => ⟨rfl, by rw [hU], by rw [hU]; exact hP, va_K.moved hW.alike hK, xM_warm hW hM⟩⟩ rfl rfl hl.1 rfl (lv_room (Nat.le_of_ble_eq_true rfl)) dX9_token_3 ⟨Nat.le_of_ble_eq_true rfl, Nat.le_of_ble_eq_true rfl⟩) hS (fun q _ h => fA_le hS.1 q h) (fA_le hS.1) (fun u9 t9 H1 locs ht9 hvm9 hw9 hB9 hz9 hk9 hS => ?_)
    obtain ⟨hP, -⟩ := hB9
    rw [ht9] at hP
    generalize H1 = H at hP hS ⊢
    obtain ⟨μ1, eμ1⟩ : ∃ x : va_M, x = u9 := ⟨_, rfl⟩
    rw [← eμ1] at hP hw9
    have hμ1 := hw9; clear hw9
    rw [hμ1] at hP
    obtain ⟨hl1, hl2⟩ := CI_lf hI pg (by omega) (by omega)
    have hn9 := hl1.1.1
    refine lv_aload_n hx hb dX9_token_6 rfl (lv_at hl 0 rfl) ?_
    refine fz_get (D := (dC, dI)) (ci := 9) (v := .ref (h0 + 5)) (C := RX9) (T := TX9) (N := 15) hx hb hts inG9 hown hK hP (k := 0) (by decide) (F := (sF0 h0)) sE_0 rfl 1 (by decide) (hts _ k333) (fun _ h9 => h9) rfl dX9_token_7 ?_
    refine lv_iload_n hx hb dX9_token_10 rfl (lv_at hl 1 rfl) ?_
    refine fz_ald (k := 5) (n := 8) (k2 := (113 + (pg).toNat * 15)) hx hb hK hP 1 rfl (by decide) sE_5 rfl ⟨by omega, by omega⟩ (by decide) (if_pos (by omega)) dX9_token_11 ?_
    refine fz_get (D := (dC, dI)) (ci := 1) (v := .ref (h0 + ((113 + (pg).toNat * 15) + 1))) (C := RX1) (T := TX1) (N := 8) hx hb hts inG1 hown hK hP (k := (113 + (pg).toNat * 15)) (by omega) (F := (sLF h0 (113 + (pg).toNat * 15))) (sE_leafO (show (pg).toNat < 8 by omega) rfl) rfl 0 (by decide) (hts _ k297) (fun _ h9 => h9) rfl dX9_token_12 ?_
    refine lv_iload_n hx hb dX9_token_15 rfl (lv_at hl 2 rfl) ?_
    refine fz_ld (k := ((113 + (pg).toNat * 15) + 1)) (n := 60) hx hb hK hP 0 (by omega) (sE_leafA 1 60 (show (pg).toNat < 8 by omega) rfl (by decide)) rfl ⟨by omega, by omega⟩ (by decide) dX9_token_16 ?_
    exact W_widen (Nat.le_of_ble_eq_true rfl) (Nat.le_of_ble_eq_true rfl) (vx_ret (W.iret (v := iZ (μ ((113 + (pg).toNat * 15) + 1) (kn).toNat)) hx hb hr (fun t9 ht9 hW9 => ⟨⟨iZ (μ ((113 + (pg).toNat * 15) + 1) (kn).toNat), (μ, μ ((113 + (pg).toNat * 15) + 1) (kn).toNat), rfl, ⟨rfl, (by
                dsimp only
                exact ⟨hI, SY_rf⟩)⟩, by rw [ht9]; exact hP, va_K.moved hW9.alike hK⟩, hS.F ht9⟩) hS.2.2 dX9_token_17))
  · refine vx_callv (vx_runV (As := [.int (iZ (pg)), .int (iZ (kn))]) (rest := []) ⟨hx, hb, hml, hown, hts⟩ (x_needPlace l hfl dC dI cI cZ cII cIII h0 s.heap.size μ (pg) (kn) (by first | assumption | omega | exact CI_lc hI | exact CI_cn hI | exact (CI_n6 hI).1 | decide) (by first | assumption | omega | exact CI_lc hI | exact CI_cn hI | exact (CI_n6 hI).1 | decide) (by first | assumption | omega | exact CI_lc hI | exact CI_cn hI | exact (CI_n6 hI).1 | decide) (by first | assumption | omega | exact CI_lc hI | exact CI_cn hI | exact (CI_n6 hI).1 | decide) (hn3_)) (cwV 2 hts (gV_G k878 k880 ks_yX9_needPlace k1 k881) rfl rfl rfl (by decide +kernel) ⟨Nat.le_of_ble_eq_true rfl, Nat.le_of_ble_eq_true rfl⟩) ⟨fun a U g mk q => by obtain ⟨q0, q1, qP, qK, qM, qE⟩ := q; exact ⟨q0, q1, qP, va_K.moved (u := U) (U := U.calling g mk a) (Vm.Alike.refl U.vm) qK, qM, xX_call qE⟩, va_recv hK hP (ci := 9) (q0 := 0) rfl ((fw_get (by decide)).trans (by rw [sE_0]; rfl)), fun U hU hW => ⟨rfl, by rw [hU], by rw [hU]; exact hP, va_K.moved hW.alike hK, xM_warm hW hM, xX_at hEx hS (fun q h => fA_le hS.1 q h) hU hW⟩⟩ rfl rfl hl.1 rfl (lv_room (Nat.le_of_ble_eq_true rfl)) dX9_token_3 ⟨Nat.le_of_ble_eq_true rfl, Nat.le_of_ble_eq_true rfl⟩) hS (fun q _ h => fA_le hS.1 q h) (fA_le hS.1) (fun q _ h => fA_le hS.1 q h) (fun E9 ce9 q9 u9 t9 H1 locs ht9 hvm9 hpx9 hBX9 hz9 hk9 hS hce9 hcv9 hcl9 => ?_) (fun u9 t9 H1 locs ht9 hvm9 hw9 hB9 hz9 hk9 hS => hw9.elim)
    obtain ⟨hE9, hP9, hK9⟩ := hBX9
    exact vx_out (fun x hx9 => (hnt x hx9).elim) hlocks hce9 hcv9 hcl9 (fun t8 ht8 hW8 => ⟨u9, (by
                show CI T u9 ∧ SY μ u9
                exact CI_thr hI hpx9), ⟨hE9, by rw [ht8, ← ht9]; exact hP9, va_K.moved hW8 hK⟩, hS.F ht8⟩) hS.2.2 (Nat.le_of_ble_eq_true rfl) (Nat.le_of_ble_eq_true rfl)
set_option maxHeartbeats 4000000 in
set_option maxRecDepth 100000 in
theorem p_node (l : Launch) (hfl : l.stackTraces = false) (dC : Nat → ClassId) (dI : Nat → Nat → Nat) (cI cZ cII cIII : ClassId) (h0 sz : Nat) (μ : va_M) (nd : Int) (wh : Int) (T : List Tk) (hI : CI T μ) (h_nd : inR nd) (h_wh : inR wh) : vx_Met l yX9_node (Cond.code yX9_node cX9_node 3 (some .int) :: wsG) ({ frames := 8, cells := 1, slots := 6, locals := 132 } : Room) (va_Pc [.ref h0, .int (iZ (nd)), .int (iZ (wh))] (fun U => U.heap.size = sz ∧ va_P (dC, dI) vwCl (fw (sE cI cZ cII cIII h0) h0 233 μ) U.heap ∧ va_K (dC, dI) vwCl (sT cI cZ cII cIII) U ∧ xM U ∧ xX (fA h0 233 sz) U)) (va_Qi (fun (r9 : Int32) (u : va_M × Int) => r9 = iZ u.2 ∧ (fun (u : va_M) (r : Int) => CI T u ∧ SY μ u) u.1 u.2) (fun u t => va_P (dC, dI) vwCl (fw (sE cI cZ cII cIII h0) h0 233 u.1) t.heap ∧ va_K (dC, dI) vwCl (sT cI cZ cII cIII) t) (fA h0 233 sz)) (vx_X (fun (u : va_M) => CI T u ∧ SY μ u) (fun E u t => E ∈ (["java/util/NoSuchElementException", "java/lang/IllegalArgumentException"] : List String) ∧ va_P (dC, dI) vwCl (fw (sE cI cZ cII cIII h0) h0 233 u) t.heap ∧ va_K (dC, dI) vwCl (sT cI cZ cII cIII) t) (fA h0 233 sz)) 1 6 (fA h0 233 sz) := by
  refine vx_ofW (cc := cX9_node) (maxL := 3) (ret := (some .int)) (by decide) rfl ?_
  intro p e s m args below meth c s₁ B hml hnt hv
  obtain ⟨rfl, hsz, hP, hK, hM, hEx⟩ := hv
  have hx := B.exec
  have hb := B.bytes
  have hr := B.returns
  have hts : ∀ w ∈ wsG, w.before _ s = true := hG_of (atoms_spec (ws := (Cond.code yX9_node cX9_node 3 (some .int) :: wsG)) B.pre)
  have hown : s.vm.findClass RX9 = some m.cls := findClass_of_methodNamed B.named
  have hlocks := B.notSynchronized
  subst hsz
  have hS : va_S (fA h0 233 s.heap.size) s.heap s.heap [] := va_S.rf
  have hl := lv_entry ([.ref h0, .int (iZ (nd)), .int (iZ (wh))]) (n := 3) (Nat.le_of_ble_eq_true rfl)
  rw [lg_entry_eq]
  generalize (lg_sl ([.ref h0, .int (iZ (nd)), .int (iZ (wh))]) ++ List.replicate (3 - (lg_sl ([.ref h0, .int (iZ (nd)), .int (iZ (wh))])).length) Slot.unset).toArray = ls at hl ⊢
  have hl : lv_has ls 3 [(0, .ref h0), (1, .int (iZ (nd))), (2, .int (iZ (wh)))] := hl
  have hlc := CI_lc hI
  have h66 := CI_n6 hI
  refine lv_aload_n hx hb dX9_node_0 rfl (lv_at hl 0 rfl) ?_
  refine lv_aload_n hx hb dX9_node_1 rfl (lv_at hl 0 rfl) ?_
  refine fz_get (D := (dC, dI)) (ci := 9) (v := .ref (h0 + 6)) (C := RX9) (T := TX9) (N := 15) hx hb hts inG9 hown hK hP (k := 0) (by decide) (F := (sF0 h0)) sE_0 rfl 3 (by decide) (hts _ k335) (fun _ h9 => h9) rfl dX9_node_2 ?_
  refine lv_iload_n hx hb dX9_node_5 rfl (lv_at hl 1 rfl) ?_
  by_cases hn6_ : 0 ≤ nd ∧ nd < μ 6 6
  · refine va_callv (va_runV (As := [.ref (h0 + 6), .int (iZ (nd))]) (rest := []) ⟨hx, hb, hml, hown, hts⟩ (s_needNode l dC dI cI cZ cII cIII h0 s.heap.size μ (6) (1100) (nd) (rowB_6) (by first | assumption | omega | exact CI_lc hI | exact CI_cn hI | exact (CI_n6 hI).1 | decide) (by first | assumption | omega | exact CI_lc hI | exact CI_cn hI | exact (CI_n6 hI).1 | decide) (by exact hn6_)) (cwV 2 hts (gV_G k914 k916 ks_yX9_needNode k1 k917) rfl rfl rfl (by decide +kernel) ⟨Nat.le_of_ble_eq_true rfl, Nat.le_of_ble_eq_true rfl⟩) ⟨fun a U g mk q => by obtain ⟨q0, q1, qP, qK, qM⟩ := q; exact ⟨q0, q1, qP, va_K.moved (u := U) (U := U.calling g mk a) (Vm.Alike.refl U.vm) qK, qM⟩, va_recv hK hP (ci := 9) (q0 := 0) rfl ((fw_get (by decide)).trans (by rw [sE_0]; rfl)), fun U hU hW => ⟨rfl, by rw [hU], by rw [hU]; exact hP, va_K.moved hW.alike hK, xM_warm hW hM⟩⟩ rfl rfl hl.1 rfl (lv_room (Nat.le_of_ble_eq_true rfl)) dX9_node_6 ⟨Nat.le_of_ble_eq_true rfl, Nat.le_of_ble_eq_true rfl⟩) hS (fun q _ h => fA_le hS.1 q h) (fA_le hS.1) (fun u9 t9 H1 locs ht9 hvm9 hw9 hB9 hz9 hk9 hS => ?_)
    obtain ⟨hP, -⟩ := hB9
    rw [ht9] at hP
    generalize H1 = H at hP hS ⊢
    obtain ⟨μ1, eμ1⟩ : ∃ x : va_M, x = u9 := ⟨_, rfl⟩
    rw [← eμ1] at hP hw9
    have hμ1 := hw9; clear hw9
    rw [hμ1] at hP
    refine lv_aload_n hx hb dX9_node_9 rfl (lv_at hl 0 rfl) ?_
    refine lv_iload_n hx hb dX9_node_10 rfl (lv_at hl 2 rfl) ?_
    refine fz_if_lt (tgt := 23) (by first | assumption | (constructor <;> omega) | decide) hx hb dX9_node_11 (by decide) (fun c11_ => ?_) (fun c11_ => ?_)
    · refine lv_iconst (v := iZ 0) hx hb dX9_node_23 rfl ?_
      refine vx_callv (vx_runV (As := [.int (iZ (0))]) (rest := []) ⟨hx, hb, hml, hown, hts⟩ (x_needArgument l hfl dC dI cI cZ cII cIII h0 H.size μ  ) (cwV 1 hts (gV_G k596 k598 ks_yX9_needArgument k1 k599) rfl rfl rfl (by decide +kernel) ⟨Nat.le_of_ble_eq_true rfl, Nat.le_of_ble_eq_true rfl⟩) ⟨fun a U g mk q => by obtain ⟨q0, q1, qP, qK, qM, qE⟩ := q; exact ⟨q0, q1, qP, va_K.moved (u := U) (U := U.calling g mk a) (Vm.Alike.refl U.vm) qK, qM, xX_call qE⟩, va_recv hK hP (ci := 9) (q0 := 0) rfl ((fw_get (by decide)).trans (by rw [sE_0]; rfl)), fun U hU hW => ⟨rfl, by rw [hU], by rw [hU]; exact hP, va_K.moved hW.alike hK, xM_warm hW hM, xX_at hEx hS (fun q h => fA_le hS.1 q h) hU hW⟩⟩ rfl rfl hl.1 rfl (lv_room (Nat.le_of_ble_eq_true rfl)) dX9_node_24 ⟨Nat.le_of_ble_eq_true rfl, Nat.le_of_ble_eq_true rfl⟩) hS (fun q _ h => fA_le hS.1 q h) (fA_le hS.1) (fun q _ h => fA_le hS.1 q h) (fun E9 ce9 q9 u9 t9 H1 locs ht9 hvm9 hpx9 hBX9 hz9 hk9 hS hce9 hcv9 hcl9 => ?_) (fun u9 t9 H1 locs ht9 hvm9 hw9 hB9 hz9 hk9 hS => hw9.elim)
      obtain ⟨hE9, hP9, hK9⟩ := hBX9
      exact vx_out (fun x hx9 => (hnt x hx9).elim) hlocks hce9 hcv9 hcl9 (fun t8 ht8 hW8 => ⟨u9, (by
                    show CI T u9 ∧ SY μ u9
                    exact CI_thr hI hpx9), ⟨(show ∀ z ∈ (["java/lang/IllegalArgumentException"] : List String), z ∈ (["java/util/NoSuchElementException", "java/lang/IllegalArgumentException"] : List String) by decide +kernel) E9 hE9, by rw [ht8, ← ht9]; exact hP9, va_K.moved hW8 hK⟩, hS.F ht8⟩) hS.2.2 (Nat.le_of_ble_eq_true rfl) (Nat.le_of_ble_eq_true rfl)
    · refine lv_iload_n hx hb dX9_node_14 rfl (lv_at hl 2 rfl) ?_
      refine lv_iconst (v := iZ 5) hx hb dX9_node_15 rfl ?_
      refine fz_icmp_gt (tgt := 23) (by first | assumption | (constructor <;> omega) | decide) (by decide) hx hb dX9_node_16 (by decide) (fun c16_ => ?_) (fun c16_ => ?_)
      · refine lv_iconst (v := iZ 0) hx hb dX9_node_23 rfl ?_
        refine vx_callv (vx_runV (As := [.int (iZ (0))]) (rest := []) ⟨hx, hb, hml, hown, hts⟩ (x_needArgument l hfl dC dI cI cZ cII cIII h0 H.size μ  ) (cwV 1 hts (gV_G k596 k598 ks_yX9_needArgument k1 k599) rfl rfl rfl (by decide +kernel) ⟨Nat.le_of_ble_eq_true rfl, Nat.le_of_ble_eq_true rfl⟩) ⟨fun a U g mk q => by obtain ⟨q0, q1, qP, qK, qM, qE⟩ := q; exact ⟨q0, q1, qP, va_K.moved (u := U) (U := U.calling g mk a) (Vm.Alike.refl U.vm) qK, qM, xX_call qE⟩, va_recv hK hP (ci := 9) (q0 := 0) rfl ((fw_get (by decide)).trans (by rw [sE_0]; rfl)), fun U hU hW => ⟨rfl, by rw [hU], by rw [hU]; exact hP, va_K.moved hW.alike hK, xM_warm hW hM, xX_at hEx hS (fun q h => fA_le hS.1 q h) hU hW⟩⟩ rfl rfl hl.1 rfl (lv_room (Nat.le_of_ble_eq_true rfl)) dX9_node_24 ⟨Nat.le_of_ble_eq_true rfl, Nat.le_of_ble_eq_true rfl⟩) hS (fun q _ h => fA_le hS.1 q h) (fA_le hS.1) (fun q _ h => fA_le hS.1 q h) (fun E9 ce9 q9 u9 t9 H1 locs ht9 hvm9 hpx9 hBX9 hz9 hk9 hS hce9 hcv9 hcl9 => ?_) (fun u9 t9 H1 locs ht9 hvm9 hw9 hB9 hz9 hk9 hS => hw9.elim)
        obtain ⟨hE9, hP9, hK9⟩ := hBX9
        exact vx_out (fun x hx9 => (hnt x hx9).elim) hlocks hce9 hcv9 hcl9 (fun t8 ht8 hW8 => ⟨u9, (by
                        show CI T u9 ∧ SY μ u9
                        exact CI_thr hI hpx9), ⟨(show ∀ z ∈ (["java/lang/IllegalArgumentException"] : List String), z ∈ (["java/util/NoSuchElementException", "java/lang/IllegalArgumentException"] : List String) by decide +kernel) E9 hE9, by rw [ht8, ← ht9]; exact hP9, va_K.moved hW8 hK⟩, hS.F ht8⟩) hS.2.2 (Nat.le_of_ble_eq_true rfl) (Nat.le_of_ble_eq_true rfl)
      · refine lv_iconst (v := iZ 1) hx hb dX9_node_19 rfl ?_
        refine lv_goto (tgt := 24) hx hb dX9_node_20 (by decide) ?_
        refine va_callv (va_runV (As := [.int (iZ (1))]) (rest := []) ⟨hx, hb, hml, hown, hts⟩ (s_needArgument l dC dI cI cZ cII cIII h0 H.size μ  ) (cwV 1 hts (gV_G k596 k598 ks_yX9_needArgument k1 k599) rfl rfl rfl (by decide +kernel) ⟨Nat.le_of_ble_eq_true rfl, Nat.le_of_ble_eq_true rfl⟩) ⟨fun a U g mk q => by obtain ⟨q0, q1, qP, qK, qM⟩ := q; exact ⟨q0, q1, qP, va_K.moved (u := U) (U := U.calling g mk a) (Vm.Alike.refl U.vm) qK, qM⟩, va_recv hK hP (ci := 9) (q0 := 0) rfl ((fw_get (by decide)).trans (by rw [sE_0]; rfl)), fun U hU hW => ⟨rfl, by rw [hU], by rw [hU]; exact hP, va_K.moved hW.alike hK, xM_warm hW hM⟩⟩ rfl rfl hl.1 rfl (lv_room (Nat.le_of_ble_eq_true rfl)) dX9_node_24 ⟨Nat.le_of_ble_eq_true rfl, Nat.le_of_ble_eq_true rfl⟩) hS (fun q _ h => fA_le hS.1 q h) (fA_le hS.1) (fun u9 t9 H1 locs ht9 hvm9 hw9 hB9 hz9 hk9 hS => ?_)
        obtain ⟨hP, -⟩ := hB9
        rw [ht9] at hP
        generalize H1 = H at hP hS ⊢
        obtain ⟨μ2, eμ2⟩ : ∃ x : va_M, x = u9 := ⟨_, rfl⟩
        rw [← eμ2] at hP hw9
        have hμ2 := hw9; clear hw9
        rw [hμ2] at hP
        refine lv_aload_n hx hb dX9_node_27 rfl (lv_at hl 0 rfl) ?_
        refine fz_get (D := (dC, dI)) (ci := 9) (v := .ref (h0 + 6)) (C := RX9) (T := TX9) (N := 15) hx hb hts inG9 hown hK hP (k := 0) (by decide) (F := (sF0 h0)) sE_0 rfl 3 (by decide) (hts _ k335) (fun _ h9 => h9) rfl dX9_node_28 ?_
        refine lv_iload_n hx hb dX9_node_31 rfl (lv_at hl 1 rfl) ?_
        refine lv_iload_n hx hb dX9_node_32 rfl (lv_at hl 2 rfl) ?_
        refine va_calli (va_runV (As := [.int (iZ (nd)), .int (iZ (wh))]) (rest := []) ⟨hx, hb, hml, hown, hts⟩ (s_RtellNode l dC dI cI cZ cII cIII h0 H.size μ (6) (1100) (nd) (wh) (rowB_6) (by exact hI.1.2.2.1) (by first | assumption | omega | exact CI_lc hI | exact CI_cn hI | exact (CI_n6 hI).1 | decide) (by first | assumption | omega | exact CI_lc hI | exact CI_cn hI | exact (CI_n6 hI).1 | decide)) (cwV 2 hts (gV_G k918 k919 k920 k3 k921) rfl rfl rfl (by decide +kernel) ⟨Nat.le_of_ble_eq_true rfl, Nat.le_of_ble_eq_true rfl⟩) ⟨fun a U g mk q => by obtain ⟨q0, q1, qP, qK, qM⟩ := q; exact ⟨q0, q1, qP, va_K.moved (u := U) (U := U.calling g mk a) (Vm.Alike.refl U.vm) qK, qM⟩, va_recv hK hP (ci := 4) (q0 := 6) rfl ((fw_get (by decide)).trans (by rw [(sE_rowO rowB_6)])), fun U hU hW => ⟨rfl, by rw [hU], by rw [hU]; exact hP, va_K.moved hW.alike hK, xM_warm hW hM⟩⟩ rfl rfl hl.1 rfl (lv_room (Nat.le_of_ble_eq_true rfl)) dX9_node_33 ⟨Nat.le_of_ble_eq_true rfl, Nat.le_of_ble_eq_true rfl⟩) hS (fun q _ h => fA_le hS.1 q h) (fA_le hS.1) (fun r9 u9 t9 H1 locs ht9 hvm9 hw9 hB9 hz9 hk9 hS => ?_)
        obtain ⟨μ3, r4⟩ := u9
        obtain ⟨hP, -⟩ := hB9
        rw [ht9] at hP
        generalize H1 = H at hP hS ⊢
        obtain ⟨e9, hw9⟩ := hw9
        have e9 : r9 = iZ r4 := e9
        subst e9
        simp only at hP hw9
        have hμ3 := hw9; clear hw9
        rw [hμ3] at hP
        exact W_widen (Nat.le_of_ble_eq_true rfl) (Nat.le_of_ble_eq_true rfl) (vx_ret (W.iret (v := iZ (r4)) hx hb hr (fun t9 ht9 hW9 => ⟨⟨iZ (r4), (μ, r4), rfl, ⟨rfl, (by
                        dsimp only
                        exact ⟨hI, SY_rf⟩)⟩, by rw [ht9]; exact hP, va_K.moved hW9.alike hK⟩, hS.F ht9⟩) hS.2.2 dX9_node_36))
  · refine vx_callv (vx_runV (As := [.ref (h0 + 6), .int (iZ (nd))]) (rest := []) ⟨hx, hb, hml, hown, hts⟩ (x_needNode l hfl dC dI cI cZ cII cIII h0 s.heap.size μ (6) (1100) (nd) (rowB_6) (by first | assumption | omega | exact CI_lc hI | exact CI_cn hI | exact (CI_n6 hI).1 | decide) (by first | assumption | omega | exact CI_lc hI | exact CI_cn hI | exact (CI_n6 hI).1 | decide) (hn6_)) (cwV 2 hts (gV_G k914 k916 ks_yX9_needNode k1 k917) rfl rfl rfl (by decide +kernel) ⟨Nat.le_of_ble_eq_true rfl, Nat.le_of_ble_eq_true rfl⟩) ⟨fun a U g mk q => by obtain ⟨q0, q1, qP, qK, qM, qE⟩ := q; exact ⟨q0, q1, qP, va_K.moved (u := U) (U := U.calling g mk a) (Vm.Alike.refl U.vm) qK, qM, xX_call qE⟩, va_recv hK hP (ci := 9) (q0 := 0) rfl ((fw_get (by decide)).trans (by rw [sE_0]; rfl)), fun U hU hW => ⟨rfl, by rw [hU], by rw [hU]; exact hP, va_K.moved hW.alike hK, xM_warm hW hM, xX_at hEx hS (fun q h => fA_le hS.1 q h) hU hW⟩⟩ rfl rfl hl.1 rfl (lv_room (Nat.le_of_ble_eq_true rfl)) dX9_node_6 ⟨Nat.le_of_ble_eq_true rfl, Nat.le_of_ble_eq_true rfl⟩) hS (fun q _ h => fA_le hS.1 q h) (fA_le hS.1) (fun q _ h => fA_le hS.1 q h) (fun E9 ce9 q9 u9 t9 H1 locs ht9 hvm9 hpx9 hBX9 hz9 hk9 hS hce9 hcv9 hcl9 => ?_) (fun u9 t9 H1 locs ht9 hvm9 hw9 hB9 hz9 hk9 hS => hw9.elim)
    obtain ⟨hE9, hP9, hK9⟩ := hBX9
    exact vx_out (fun x hx9 => (hnt x hx9).elim) hlocks hce9 hcv9 hcl9 (fun t8 ht8 hW8 => ⟨u9, (by
                show CI T u9 ∧ SY μ u9
                exact CI_thr hI hpx9), ⟨(show ∀ z ∈ (["java/util/NoSuchElementException"] : List String), z ∈ (["java/util/NoSuchElementException", "java/lang/IllegalArgumentException"] : List String) by decide +kernel) E9 hE9, by rw [ht8, ← ht9]; exact hP9, va_K.moved hW8 hK⟩, hS.F ht8⟩) hS.2.2 (Nat.le_of_ble_eq_true rfl) (Nat.le_of_ble_eq_true rfl)
set_option maxHeartbeats 4000000 in
set_option maxRecDepth 100000 in
theorem p_pageNode (l : Launch) (hfl : l.stackTraces = false) (dC : Nat → ClassId) (dI : Nat → Nat → Nat) (cI cZ cII cIII : ClassId) (h0 sz : Nat) (μ : va_M) (pg : Int) (nd : Int) (wh : Int) (T : List Tk) (hI : CI T μ) (h_pg : inR pg) (h_nd : inR nd) (h_wh : inR wh) : vx_Met l yX9_pageNode (Cond.code yX9_pageNode cX9_pageNode 4 (some .int) :: wsG) ({ frames := 8, cells := 1, slots := 6, locals := 132 } : Room) (va_Pc [.ref h0, .int (iZ (pg)), .int (iZ (nd)), .int (iZ (wh))] (fun U => U.heap.size = sz ∧ va_P (dC, dI) vwCl (fw (sE cI cZ cII cIII h0) h0 233 μ) U.heap ∧ va_K (dC, dI) vwCl (sT cI cZ cII cIII) U ∧ xM U ∧ xX (fA h0 233 sz) U)) (va_Qi (fun (r9 : Int32) (u : va_M × Int) => r9 = iZ u.2 ∧ (fun (u : va_M) (r : Int) => CI T u ∧ SY μ u) u.1 u.2) (fun u t => va_P (dC, dI) vwCl (fw (sE cI cZ cII cIII h0) h0 233 u.1) t.heap ∧ va_K (dC, dI) vwCl (sT cI cZ cII cIII) t) (fA h0 233 sz)) (vx_X (fun (u : va_M) => CI T u ∧ SY μ u) (fun E u t => E ∈ (["java/util/NoSuchElementException", "java/lang/IllegalArgumentException"] : List String) ∧ va_P (dC, dI) vwCl (fw (sE cI cZ cII cIII h0) h0 233 u) t.heap ∧ va_K (dC, dI) vwCl (sT cI cZ cII cIII) t) (fA h0 233 sz)) 1 6 (fA h0 233 sz) := by
  refine vx_ofW (cc := cX9_pageNode) (maxL := 4) (ret := (some .int)) (by decide) rfl ?_
  intro p e s m args below meth c s₁ B hml hnt hv
  obtain ⟨rfl, hsz, hP, hK, hM, hEx⟩ := hv
  have hx := B.exec
  have hb := B.bytes
  have hr := B.returns
  have hts : ∀ w ∈ wsG, w.before _ s = true := hG_of (atoms_spec (ws := (Cond.code yX9_pageNode cX9_pageNode 4 (some .int) :: wsG)) B.pre)
  have hown : s.vm.findClass RX9 = some m.cls := findClass_of_methodNamed B.named
  have hlocks := B.notSynchronized
  subst hsz
  have hS : va_S (fA h0 233 s.heap.size) s.heap s.heap [] := va_S.rf
  have hl := lv_entry ([.ref h0, .int (iZ (pg)), .int (iZ (nd)), .int (iZ (wh))]) (n := 4) (Nat.le_of_ble_eq_true rfl)
  rw [lg_entry_eq]
  generalize (lg_sl ([.ref h0, .int (iZ (pg)), .int (iZ (nd)), .int (iZ (wh))]) ++ List.replicate (4 - (lg_sl ([.ref h0, .int (iZ (pg)), .int (iZ (nd)), .int (iZ (wh))])).length) Slot.unset).toArray = ls at hl ⊢
  have hl : lv_has ls 4 [(0, .ref h0), (1, .int (iZ (pg))), (2, .int (iZ (nd))), (3, .int (iZ (wh)))] := hl
  have hlc := CI_lc hI
  have h66 := CI_n6 hI
  refine lv_aload_n hx hb dX9_pageNode_0 rfl (lv_at hl 0 rfl) ?_
  refine lv_iload_n hx hb dX9_pageNode_1 rfl (lv_at hl 1 rfl) ?_
  by_cases hn2_ : 0 ≤ pg ∧ pg < μ 0 2
  · refine va_callv (va_runV (As := [.int (iZ (pg))]) (rest := []) ⟨hx, hb, hml, hown, hts⟩ (s_needPage l dC dI cI cZ cII cIII h0 s.heap.size μ (pg) (by first | assumption | omega | exact CI_lc hI | exact CI_cn hI | exact (CI_n6 hI).1 | decide) (by first | assumption | omega | exact CI_lc hI | exact CI_cn hI | exact (CI_n6 hI).1 | decide) (by exact hn2_)) (cwV 1 hts (gV_G k735 k737 ks_yX9_needPage k1 k738) rfl rfl rfl (by decide +kernel) ⟨Nat.le_of_ble_eq_true rfl, Nat.le_of_ble_eq_true rfl⟩) ⟨fun a U g mk q => by obtain ⟨q0, q1, qP, qK, qM⟩ := q; exact ⟨q0, q1, qP, va_K.moved (u := U) (U := U.calling g mk a) (Vm.Alike.refl U.vm) qK, qM⟩, va_recv hK hP (ci := 9) (q0 := 0) rfl ((fw_get (by decide)).trans (by rw [sE_0]; rfl)), fun U hU hW => ⟨rfl, by rw [hU], by rw [hU]; exact hP, va_K.moved hW.alike hK, xM_warm hW hM⟩⟩ rfl rfl hl.1 rfl (lv_room (Nat.le_of_ble_eq_true rfl)) dX9_pageNode_2 ⟨Nat.le_of_ble_eq_true rfl, Nat.le_of_ble_eq_true rfl⟩) hS (fun q _ h => fA_le hS.1 q h) (fA_le hS.1) (fun u9 t9 H1 locs ht9 hvm9 hw9 hB9 hz9 hk9 hS => ?_)
    obtain ⟨hP, -⟩ := hB9
    rw [ht9] at hP
    generalize H1 = H at hP hS ⊢
    obtain ⟨μ1, eμ1⟩ : ∃ x : va_M, x = u9 := ⟨_, rfl⟩
    rw [← eμ1] at hP hw9
    have hμ1 := hw9; clear hw9
    rw [hμ1] at hP
    obtain ⟨hl1, hl2⟩ := CI_lf hI pg (by omega) (by omega)
    have hg2 := hl1.2.2.2
    have hn2 := rG_nod hg2
    have hm2 := rG_len hg2
    refine lv_aload_n hx hb dX9_pageNode_5 rfl (lv_at hl 0 rfl) ?_
    refine lv_aload_n hx hb dX9_pageNode_6 rfl (lv_at hl 0 rfl) ?_
    refine fz_get (D := (dC, dI)) (ci := 9) (v := .ref (h0 + 5)) (C := RX9) (T := TX9) (N := 15) hx hb hts inG9 hown hK hP (k := 0) (by decide) (F := (sF0 h0)) sE_0 rfl 1 (by decide) (hts _ k333) (fun _ h9 => h9) rfl dX9_pageNode_7 ?_
    refine lv_iload_n hx hb dX9_pageNode_10 rfl (lv_at hl 1 rfl) ?_
    refine fz_ald (k := 5) (n := 8) (k2 := (113 + (pg).toNat * 15)) hx hb hK hP 1 rfl (by decide) sE_5 rfl ⟨by omega, by omega⟩ (by decide) (if_pos (by omega)) dX9_pageNode_11 ?_
    refine fz_get (D := (dC, dI)) (ci := 1) (v := .ref (h0 + ((113 + (pg).toNat * 15) + 3))) (C := RX1) (T := TX1) (N := 8) hx hb hts inG1 hown hK hP (k := (113 + (pg).toNat * 15)) (by omega) (F := (sLF h0 (113 + (pg).toNat * 15))) (sE_leafO (show (pg).toNat < 8 by omega) rfl) rfl 3 (by decide) (hts _ k304) (fun _ h9 => h9) rfl dX9_pageNode_12 ?_
    refine lv_iload_n hx hb dX9_pageNode_15 rfl (lv_at hl 2 rfl) ?_
    by_cases hn16_ : 0 ≤ nd ∧ nd < μ ((113 + (pg).toNat * 15) + 3) 6
    · refine va_callv (va_runV (As := [.ref (h0 + ((113 + (pg).toNat * 15) + 3)), .int (iZ (nd))]) (rest := []) ⟨hx, hb, hml, hown, hts⟩ (s_needNode l dC dI cI cZ cII cIII h0 H.size μ (((113 + (pg).toNat * 15) + 3)) (96) (nd) ((rowB_L (show (pg).toNat < 8 by omega) rfl)) (by first | assumption | omega | exact CI_lc hI | exact CI_cn hI | exact (CI_n6 hI).1 | decide) (by first | assumption | omega | exact CI_lc hI | exact CI_cn hI | exact (CI_n6 hI).1 | decide) (by exact hn16_)) (cwV 2 hts (gV_G k914 k916 ks_yX9_needNode k1 k917) rfl rfl rfl (by decide +kernel) ⟨Nat.le_of_ble_eq_true rfl, Nat.le_of_ble_eq_true rfl⟩) ⟨fun a U g mk q => by obtain ⟨q0, q1, qP, qK, qM⟩ := q; exact ⟨q0, q1, qP, va_K.moved (u := U) (U := U.calling g mk a) (Vm.Alike.refl U.vm) qK, qM⟩, va_recv hK hP (ci := 9) (q0 := 0) rfl ((fw_get (by decide)).trans (by rw [sE_0]; rfl)), fun U hU hW => ⟨rfl, by rw [hU], by rw [hU]; exact hP, va_K.moved hW.alike hK, xM_warm hW hM⟩⟩ rfl rfl hl.1 rfl (lv_room (Nat.le_of_ble_eq_true rfl)) dX9_pageNode_16 ⟨Nat.le_of_ble_eq_true rfl, Nat.le_of_ble_eq_true rfl⟩) hS (fun q _ h => fA_le hS.1 q h) (fA_le hS.1) (fun u9 t9 H1 locs ht9 hvm9 hw9 hB9 hz9 hk9 hS => ?_)
      obtain ⟨hP, -⟩ := hB9
      rw [ht9] at hP
      generalize H1 = H at hP hS ⊢
      obtain ⟨μ2, eμ2⟩ : ∃ x : va_M, x = u9 := ⟨_, rfl⟩
      rw [← eμ2] at hP hw9
      have hμ2 := hw9; clear hw9
      rw [hμ2] at hP
      refine lv_aload_n hx hb dX9_pageNode_19 rfl (lv_at hl 0 rfl) ?_
      refine lv_iload_n hx hb dX9_pageNode_20 rfl (lv_at hl 3 rfl) ?_
      refine fz_if_lt (tgt := 33) (by first | assumption | (constructor <;> omega) | decide) hx hb dX9_pageNode_21 (by decide) (fun c21_ => ?_) (fun c21_ => ?_)
      · refine lv_iconst (v := iZ 0) hx hb dX9_pageNode_33 rfl ?_
        refine vx_callv (vx_runV (As := [.int (iZ (0))]) (rest := []) ⟨hx, hb, hml, hown, hts⟩ (x_needArgument l hfl dC dI cI cZ cII cIII h0 H.size μ  ) (cwV 1 hts (gV_G k596 k598 ks_yX9_needArgument k1 k599) rfl rfl rfl (by decide +kernel) ⟨Nat.le_of_ble_eq_true rfl, Nat.le_of_ble_eq_true rfl⟩) ⟨fun a U g mk q => by obtain ⟨q0, q1, qP, qK, qM, qE⟩ := q; exact ⟨q0, q1, qP, va_K.moved (u := U) (U := U.calling g mk a) (Vm.Alike.refl U.vm) qK, qM, xX_call qE⟩, va_recv hK hP (ci := 9) (q0 := 0) rfl ((fw_get (by decide)).trans (by rw [sE_0]; rfl)), fun U hU hW => ⟨rfl, by rw [hU], by rw [hU]; exact hP, va_K.moved hW.alike hK, xM_warm hW hM, xX_at hEx hS (fun q h => fA_le hS.1 q h) hU hW⟩⟩ rfl rfl hl.1 rfl (lv_room (Nat.le_of_ble_eq_true rfl)) dX9_pageNode_34 ⟨Nat.le_of_ble_eq_true rfl, Nat.le_of_ble_eq_true rfl⟩) hS (fun q _ h => fA_le hS.1 q h) (fA_le hS.1) (fun q _ h => fA_le hS.1 q h) (fun E9 ce9 q9 u9 t9 H1 locs ht9 hvm9 hpx9 hBX9 hz9 hk9 hS hce9 hcv9 hcl9 => ?_) (fun u9 t9 H1 locs ht9 hvm9 hw9 hB9 hz9 hk9 hS => hw9.elim)
        obtain ⟨hE9, hP9, hK9⟩ := hBX9
        exact vx_out (fun x hx9 => (hnt x hx9).elim) hlocks hce9 hcv9 hcl9 (fun t8 ht8 hW8 => ⟨u9, (by
                        show CI T u9 ∧ SY μ u9
                        exact CI_thr hI hpx9), ⟨(show ∀ z ∈ (["java/lang/IllegalArgumentException"] : List String), z ∈ (["java/util/NoSuchElementException", "java/lang/IllegalArgumentException"] : List String) by decide +kernel) E9 hE9, by rw [ht8, ← ht9]; exact hP9, va_K.moved hW8 hK⟩, hS.F ht8⟩) hS.2.2 (Nat.le_of_ble_eq_true rfl) (Nat.le_of_ble_eq_true rfl)
      · refine lv_iload_n hx hb dX9_pageNode_24 rfl (lv_at hl 3 rfl) ?_
        refine lv_iconst (v := iZ 5) hx hb dX9_pageNode_25 rfl ?_
        refine fz_icmp_gt (tgt := 33) (by first | assumption | (constructor <;> omega) | decide) (by decide) hx hb dX9_pageNode_26 (by decide) (fun c26_ => ?_) (fun c26_ => ?_)
        · refine lv_iconst (v := iZ 0) hx hb dX9_pageNode_33 rfl ?_
          refine vx_callv (vx_runV (As := [.int (iZ (0))]) (rest := []) ⟨hx, hb, hml, hown, hts⟩ (x_needArgument l hfl dC dI cI cZ cII cIII h0 H.size μ  ) (cwV 1 hts (gV_G k596 k598 ks_yX9_needArgument k1 k599) rfl rfl rfl (by decide +kernel) ⟨Nat.le_of_ble_eq_true rfl, Nat.le_of_ble_eq_true rfl⟩) ⟨fun a U g mk q => by obtain ⟨q0, q1, qP, qK, qM, qE⟩ := q; exact ⟨q0, q1, qP, va_K.moved (u := U) (U := U.calling g mk a) (Vm.Alike.refl U.vm) qK, qM, xX_call qE⟩, va_recv hK hP (ci := 9) (q0 := 0) rfl ((fw_get (by decide)).trans (by rw [sE_0]; rfl)), fun U hU hW => ⟨rfl, by rw [hU], by rw [hU]; exact hP, va_K.moved hW.alike hK, xM_warm hW hM, xX_at hEx hS (fun q h => fA_le hS.1 q h) hU hW⟩⟩ rfl rfl hl.1 rfl (lv_room (Nat.le_of_ble_eq_true rfl)) dX9_pageNode_34 ⟨Nat.le_of_ble_eq_true rfl, Nat.le_of_ble_eq_true rfl⟩) hS (fun q _ h => fA_le hS.1 q h) (fA_le hS.1) (fun q _ h => fA_le hS.1 q h) (fun E9 ce9 q9 u9 t9 H1 locs ht9 hvm9 hpx9 hBX9 hz9 hk9 hS hce9 hcv9 hcl9 => ?_) (fun u9 t9 H1 locs ht9 hvm9 hw9 hB9 hz9 hk9 hS => hw9.elim)
          obtain ⟨hE9, hP9, hK9⟩ := hBX9
          exact vx_out (fun x hx9 => (hnt x hx9).elim) hlocks hce9 hcv9 hcl9 (fun t8 ht8 hW8 => ⟨u9, (by
                            show CI T u9 ∧ SY μ u9
                            exact CI_thr hI hpx9), ⟨(show ∀ z ∈ (["java/lang/IllegalArgumentException"] : List String), z ∈ (["java/util/NoSuchElementException", "java/lang/IllegalArgumentException"] : List String) by decide +kernel) E9 hE9, by rw [ht8, ← ht9]; exact hP9, va_K.moved hW8 hK⟩, hS.F ht8⟩) hS.2.2 (Nat.le_of_ble_eq_true rfl) (Nat.le_of_ble_eq_true rfl)
        · refine lv_iconst (v := iZ 1) hx hb dX9_pageNode_29 rfl ?_
          refine lv_goto (tgt := 34) hx hb dX9_pageNode_30 (by decide) ?_
          refine va_callv (va_runV (As := [.int (iZ (1))]) (rest := []) ⟨hx, hb, hml, hown, hts⟩ (s_needArgument l dC dI cI cZ cII cIII h0 H.size μ  ) (cwV 1 hts (gV_G k596 k598 ks_yX9_needArgument k1 k599) rfl rfl rfl (by decide +kernel) ⟨Nat.le_of_ble_eq_true rfl, Nat.le_of_ble_eq_true rfl⟩) ⟨fun a U g mk q => by obtain ⟨q0, q1, qP, qK, qM⟩ := q; exact ⟨q0, q1, qP, va_K.moved (u := U) (U := U.calling g mk a) (Vm.Alike.refl U.vm) qK, qM⟩, va_recv hK hP (ci := 9) (q0 := 0) rfl ((fw_get (by decide)).trans (by rw [sE_0]; rfl)), fun U hU hW => ⟨rfl, by rw [hU], by rw [hU]; exact hP, va_K.moved hW.alike hK, xM_warm hW hM⟩⟩ rfl rfl hl.1 rfl (lv_room (Nat.le_of_ble_eq_true rfl)) dX9_pageNode_34 ⟨Nat.le_of_ble_eq_true rfl, Nat.le_of_ble_eq_true rfl⟩) hS (fun q _ h => fA_le hS.1 q h) (fA_le hS.1) (fun u9 t9 H1 locs ht9 hvm9 hw9 hB9 hz9 hk9 hS => ?_)
          obtain ⟨hP, -⟩ := hB9
          rw [ht9] at hP
          generalize H1 = H at hP hS ⊢
          obtain ⟨μ3, eμ3⟩ : ∃ x : va_M, x = u9 := ⟨_, rfl⟩
          rw [← eμ3] at hP hw9
          have hμ3 := hw9; clear hw9
          rw [hμ3] at hP
          refine lv_aload_n hx hb dX9_pageNode_37 rfl (lv_at hl 0 rfl) ?_
          refine fz_get (D := (dC, dI)) (ci := 9) (v := .ref (h0 + 5)) (C := RX9) (T := TX9) (N := 15) hx hb hts inG9 hown hK hP (k := 0) (by decide) (F := (sF0 h0)) sE_0 rfl 1 (by decide) (hts _ k333) (fun _ h9 => h9) rfl dX9_pageNode_38 ?_
          refine lv_iload_n hx hb dX9_pageNode_41 rfl (lv_at hl 1 rfl) ?_
          refine fz_ald (k := 5) (n := 8) (k2 := (113 + (pg).toNat * 15)) hx hb hK hP 1 rfl (by decide) sE_5 rfl ⟨by omega, by omega⟩ (by decide) (if_pos (by omega)) dX9_pageNode_42 ?_
          refine fz_get (D := (dC, dI)) (ci := 1) (v := .ref (h0 + ((113 + (pg).toNat * 15) + 3))) (C := RX1) (T := TX1) (N := 8) hx hb hts inG1 hown hK hP (k := (113 + (pg).toNat * 15)) (by omega) (F := (sLF h0 (113 + (pg).toNat * 15))) (sE_leafO (show (pg).toNat < 8 by omega) rfl) rfl 3 (by decide) (hts _ k304) (fun _ h9 => h9) rfl dX9_pageNode_43 ?_
          refine lv_iload_n hx hb dX9_pageNode_46 rfl (lv_at hl 2 rfl) ?_
          refine lv_iload_n hx hb dX9_pageNode_47 rfl (lv_at hl 3 rfl) ?_
          refine va_calli (va_runV (As := [.int (iZ (nd)), .int (iZ (wh))]) (rest := []) ⟨hx, hb, hml, hown, hts⟩ (s_RtellNode l dC dI cI cZ cII cIII h0 H.size μ (((113 + (pg).toNat * 15) + 3)) (96) (nd) (wh) ((rowB_L (show (pg).toNat < 8 by omega) rfl)) (by exact hg2) (by first | assumption | omega | exact CI_lc hI | exact CI_cn hI | exact (CI_n6 hI).1 | decide) (by first | assumption | omega | exact CI_lc hI | exact CI_cn hI | exact (CI_n6 hI).1 | decide)) (cwV 2 hts (gV_G k918 k919 k920 k3 k921) rfl rfl rfl (by decide +kernel) ⟨Nat.le_of_ble_eq_true rfl, Nat.le_of_ble_eq_true rfl⟩) ⟨fun a U g mk q => by obtain ⟨q0, q1, qP, qK, qM⟩ := q; exact ⟨q0, q1, qP, va_K.moved (u := U) (U := U.calling g mk a) (Vm.Alike.refl U.vm) qK, qM⟩, va_recv hK hP (ci := 4) (q0 := ((113 + (pg).toNat * 15) + 3)) rfl ((fw_get (by omega)).trans (by rw [(sE_rowO (rowB_L (show (pg).toNat < 8 by omega) rfl))])), fun U hU hW => ⟨rfl, by rw [hU], by rw [hU]; exact hP, va_K.moved hW.alike hK, xM_warm hW hM⟩⟩ rfl rfl hl.1 rfl (lv_room (Nat.le_of_ble_eq_true rfl)) dX9_pageNode_48 ⟨Nat.le_of_ble_eq_true rfl, Nat.le_of_ble_eq_true rfl⟩) hS (fun q _ h => fA_le hS.1 q h) (fA_le hS.1) (fun r9 u9 t9 H1 locs ht9 hvm9 hw9 hB9 hz9 hk9 hS => ?_)
          obtain ⟨μ4, r5⟩ := u9
          obtain ⟨hP, -⟩ := hB9
          rw [ht9] at hP
          generalize H1 = H at hP hS ⊢
          obtain ⟨e9, hw9⟩ := hw9
          have e9 : r9 = iZ r5 := e9
          subst e9
          simp only at hP hw9
          have hμ4 := hw9; clear hw9
          rw [hμ4] at hP
          exact W_widen (Nat.le_of_ble_eq_true rfl) (Nat.le_of_ble_eq_true rfl) (vx_ret (W.iret (v := iZ (r5)) hx hb hr (fun t9 ht9 hW9 => ⟨⟨iZ (r5), (μ, r5), rfl, ⟨rfl, (by
                            dsimp only
                            exact ⟨hI, SY_rf⟩)⟩, by rw [ht9]; exact hP, va_K.moved hW9.alike hK⟩, hS.F ht9⟩) hS.2.2 dX9_pageNode_51))
    · refine vx_callv (vx_runV (As := [.ref (h0 + ((113 + (pg).toNat * 15) + 3)), .int (iZ (nd))]) (rest := []) ⟨hx, hb, hml, hown, hts⟩ (x_needNode l hfl dC dI cI cZ cII cIII h0 H.size μ (((113 + (pg).toNat * 15) + 3)) (96) (nd) ((rowB_L (show (pg).toNat < 8 by omega) rfl)) (by first | assumption | omega | exact CI_lc hI | exact CI_cn hI | exact (CI_n6 hI).1 | decide) (by first | assumption | omega | exact CI_lc hI | exact CI_cn hI | exact (CI_n6 hI).1 | decide) (hn16_)) (cwV 2 hts (gV_G k914 k916 ks_yX9_needNode k1 k917) rfl rfl rfl (by decide +kernel) ⟨Nat.le_of_ble_eq_true rfl, Nat.le_of_ble_eq_true rfl⟩) ⟨fun a U g mk q => by obtain ⟨q0, q1, qP, qK, qM, qE⟩ := q; exact ⟨q0, q1, qP, va_K.moved (u := U) (U := U.calling g mk a) (Vm.Alike.refl U.vm) qK, qM, xX_call qE⟩, va_recv hK hP (ci := 9) (q0 := 0) rfl ((fw_get (by decide)).trans (by rw [sE_0]; rfl)), fun U hU hW => ⟨rfl, by rw [hU], by rw [hU]; exact hP, va_K.moved hW.alike hK, xM_warm hW hM, xX_at hEx hS (fun q h => fA_le hS.1 q h) hU hW⟩⟩ rfl rfl hl.1 rfl (lv_room (Nat.le_of_ble_eq_true rfl)) dX9_pageNode_16 ⟨Nat.le_of_ble_eq_true rfl, Nat.le_of_ble_eq_true rfl⟩) hS (fun q _ h => fA_le hS.1 q h) (fA_le hS.1) (fun q _ h => fA_le hS.1 q h) (fun E9 ce9 q9 u9 t9 H1 locs ht9 hvm9 hpx9 hBX9 hz9 hk9 hS hce9 hcv9 hcl9 => ?_) (fun u9 t9 H1 locs ht9 hvm9 hw9 hB9 hz9 hk9 hS => hw9.elim)
      obtain ⟨hE9, hP9, hK9⟩ := hBX9
      exact vx_out (fun x hx9 => (hnt x hx9).elim) hlocks hce9 hcv9 hcl9 (fun t8 ht8 hW8 => ⟨u9, (by
                    show CI T u9 ∧ SY μ u9
                    exact CI_thr hI hpx9), ⟨(show ∀ z ∈ (["java/util/NoSuchElementException"] : List String), z ∈ (["java/util/NoSuchElementException", "java/lang/IllegalArgumentException"] : List String) by decide +kernel) E9 hE9, by rw [ht8, ← ht9]; exact hP9, va_K.moved hW8 hK⟩, hS.F ht8⟩) hS.2.2 (Nat.le_of_ble_eq_true rfl) (Nat.le_of_ble_eq_true rfl)
  · refine vx_callv (vx_runV (As := [.int (iZ (pg))]) (rest := []) ⟨hx, hb, hml, hown, hts⟩ (x_needPage l hfl dC dI cI cZ cII cIII h0 s.heap.size μ (pg) (by first | assumption | omega | exact CI_lc hI | exact CI_cn hI | exact (CI_n6 hI).1 | decide) (by first | assumption | omega | exact CI_lc hI | exact CI_cn hI | exact (CI_n6 hI).1 | decide) (hn2_)) (cwV 1 hts (gV_G k735 k737 ks_yX9_needPage k1 k738) rfl rfl rfl (by decide +kernel) ⟨Nat.le_of_ble_eq_true rfl, Nat.le_of_ble_eq_true rfl⟩) ⟨fun a U g mk q => by obtain ⟨q0, q1, qP, qK, qM, qE⟩ := q; exact ⟨q0, q1, qP, va_K.moved (u := U) (U := U.calling g mk a) (Vm.Alike.refl U.vm) qK, qM, xX_call qE⟩, va_recv hK hP (ci := 9) (q0 := 0) rfl ((fw_get (by decide)).trans (by rw [sE_0]; rfl)), fun U hU hW => ⟨rfl, by rw [hU], by rw [hU]; exact hP, va_K.moved hW.alike hK, xM_warm hW hM, xX_at hEx hS (fun q h => fA_le hS.1 q h) hU hW⟩⟩ rfl rfl hl.1 rfl (lv_room (Nat.le_of_ble_eq_true rfl)) dX9_pageNode_2 ⟨Nat.le_of_ble_eq_true rfl, Nat.le_of_ble_eq_true rfl⟩) hS (fun q _ h => fA_le hS.1 q h) (fA_le hS.1) (fun q _ h => fA_le hS.1 q h) (fun E9 ce9 q9 u9 t9 H1 locs ht9 hvm9 hpx9 hBX9 hz9 hk9 hS hce9 hcv9 hcl9 => ?_) (fun u9 t9 H1 locs ht9 hvm9 hw9 hB9 hz9 hk9 hS => hw9.elim)
    obtain ⟨hE9, hP9, hK9⟩ := hBX9
    exact vx_out (fun x hx9 => (hnt x hx9).elim) hlocks hce9 hcv9 hcl9 (fun t8 ht8 hW8 => ⟨u9, (by
                show CI T u9 ∧ SY μ u9
                exact CI_thr hI hpx9), ⟨(show ∀ z ∈ (["java/util/NoSuchElementException"] : List String), z ∈ (["java/util/NoSuchElementException", "java/lang/IllegalArgumentException"] : List String) by decide +kernel) E9 hE9, by rw [ht8, ← ht9]; exact hP9, va_K.moved hW8 hK⟩, hS.F ht8⟩) hS.2.2 (Nat.le_of_ble_eq_true rfl) (Nat.le_of_ble_eq_true rfl)
set_option maxHeartbeats 4000000 in
set_option maxRecDepth 100000 in
theorem p_fits (l : Launch) (hfl : l.stackTraces = false) (dC : Nat → ClassId) (dI : Nat → Nat → Nat) (cI cZ cII cIII : ClassId) (h0 sz : Nat) (μ : va_M) (pg : Int) (T : List Tk) (hI : CI T μ) (h_pg : inR pg) : vx_Met l yX9_fits (Cond.code yX9_fits cX9_fits 2 (some .boolean) :: wsG) ({ frames := 8, cells := 1, slots := 6, locals := 163 } : Room) (va_Pc [.ref h0, .int (iZ (pg))] (fun U => U.heap.size = sz ∧ va_P (dC, dI) vwCl (fw (sE cI cZ cII cIII h0) h0 233 μ) U.heap ∧ va_K (dC, dI) vwCl (sT cI cZ cII cIII) U ∧ xM U ∧ xX (fA h0 233 sz) U)) (va_Qi (fun (r9 : Int32) (u : va_M × Int) => r9 = iZ u.2 ∧ (fun (u : va_M) (r : Int) => CI T u ∧ SY μ u) u.1 u.2) (fun u t => va_P (dC, dI) vwCl (fw (sE cI cZ cII cIII h0) h0 233 u.1) t.heap ∧ va_K (dC, dI) vwCl (sT cI cZ cII cIII) t) (fA h0 233 sz)) (vx_X (fun (u : va_M) => CI T u ∧ SY μ u) (fun E u t => E ∈ (["java/util/NoSuchElementException"] : List String) ∧ va_P (dC, dI) vwCl (fw (sE cI cZ cII cIII h0) h0 233 u) t.heap ∧ va_K (dC, dI) vwCl (sT cI cZ cII cIII) t) (fA h0 233 sz)) 1 6 (fA h0 233 sz) := by
  refine vx_ofW (cc := cX9_fits) (maxL := 2) (ret := (some .boolean)) (by decide) rfl ?_
  intro p e s m args below meth c s₁ B hml hnt hv
  obtain ⟨rfl, hsz, hP, hK, hM, hEx⟩ := hv
  have hx := B.exec
  have hb := B.bytes
  have hr := B.returns
  have hts : ∀ w ∈ wsG, w.before _ s = true := hG_of (atoms_spec (ws := (Cond.code yX9_fits cX9_fits 2 (some .boolean) :: wsG)) B.pre)
  have hown : s.vm.findClass RX9 = some m.cls := findClass_of_methodNamed B.named
  have hlocks := B.notSynchronized
  subst hsz
  have hS : va_S (fA h0 233 s.heap.size) s.heap s.heap [] := va_S.rf
  have hl := lv_entry ([.ref h0, .int (iZ (pg))]) (n := 2) (Nat.le_of_ble_eq_true rfl)
  rw [lg_entry_eq]
  generalize (lg_sl ([.ref h0, .int (iZ (pg))]) ++ List.replicate (2 - (lg_sl ([.ref h0, .int (iZ (pg))])).length) Slot.unset).toArray = ls at hl ⊢
  have hl : lv_has ls 2 [(0, .ref h0), (1, .int (iZ (pg)))] := hl
  have hlc := CI_lc hI
  have h66 := CI_n6 hI
  refine lv_aload_n hx hb dX9_fits_0 rfl (lv_at hl 0 rfl) ?_
  refine lv_iload_n hx hb dX9_fits_1 rfl (lv_at hl 1 rfl) ?_
  by_cases hn2_ : 0 ≤ pg ∧ pg < μ 0 2
  · refine va_callv (va_runV (As := [.int (iZ (pg))]) (rest := []) ⟨hx, hb, hml, hown, hts⟩ (s_needPage l dC dI cI cZ cII cIII h0 s.heap.size μ (pg) (by first | assumption | omega | exact CI_lc hI | exact CI_cn hI | exact (CI_n6 hI).1 | decide) (by first | assumption | omega | exact CI_lc hI | exact CI_cn hI | exact (CI_n6 hI).1 | decide) (by exact hn2_)) (cwV 1 hts (gV_G k735 k737 ks_yX9_needPage k1 k738) rfl rfl rfl (by decide +kernel) ⟨Nat.le_of_ble_eq_true rfl, Nat.le_of_ble_eq_true rfl⟩) ⟨fun a U g mk q => by obtain ⟨q0, q1, qP, qK, qM⟩ := q; exact ⟨q0, q1, qP, va_K.moved (u := U) (U := U.calling g mk a) (Vm.Alike.refl U.vm) qK, qM⟩, va_recv hK hP (ci := 9) (q0 := 0) rfl ((fw_get (by decide)).trans (by rw [sE_0]; rfl)), fun U hU hW => ⟨rfl, by rw [hU], by rw [hU]; exact hP, va_K.moved hW.alike hK, xM_warm hW hM⟩⟩ rfl rfl hl.1 rfl (lv_room (Nat.le_of_ble_eq_true rfl)) dX9_fits_2 ⟨Nat.le_of_ble_eq_true rfl, Nat.le_of_ble_eq_true rfl⟩) hS (fun q _ h => fA_le hS.1 q h) (fA_le hS.1) (fun u9 t9 H1 locs ht9 hvm9 hw9 hB9 hz9 hk9 hS => ?_)
    obtain ⟨hP, -⟩ := hB9
    rw [ht9] at hP
    generalize H1 = H at hP hS ⊢
    obtain ⟨μ1, eμ1⟩ : ∃ x : va_M, x = u9 := ⟨_, rfl⟩
    rw [← eμ1] at hP hw9
    have hμ1 := hw9; clear hw9
    rw [hμ1] at hP
    refine lv_aload_n hx hb dX9_fits_5 rfl (lv_at hl 0 rfl) ?_
    refine lv_iload_n hx hb dX9_fits_6 rfl (lv_at hl 1 rfl) ?_
    refine va_callr (va_runV (As := [.int (iZ (pg))]) (rest := []) ⟨hx, hb, hml, hown, hts⟩ (s_walkOf l dC dI cI cZ cII cIII h0 H.size μ (pg) (T) (by exact hI) (by first | assumption | omega | exact CI_lc hI | exact CI_cn hI | exact (CI_n6 hI).1 | decide)) (cwV 1 hts (gV_G k535 k537 ks_yX9_walkOf k1 k538) rfl rfl rfl (by decide +kernel) ⟨Nat.le_of_ble_eq_true rfl, Nat.le_of_ble_eq_true rfl⟩) ⟨fun a U g mk q => by obtain ⟨q0, q1, qP, qK, qM⟩ := q; exact ⟨q0, q1, qP, va_K.moved (u := U) (U := U.calling g mk a) (Vm.Alike.refl U.vm) qK, qM⟩, va_recv hK hP (ci := 9) (q0 := 0) rfl ((fw_get (by decide)).trans (by rw [sE_0]; rfl)), fun U hU hW => ⟨rfl, by rw [hU], by rw [hU]; exact hP, va_K.moved hW.alike hK, xM_warm hW hM⟩⟩ rfl rfl hl.1 rfl (lv_room (Nat.le_of_ble_eq_true rfl)) dX9_fits_7 ⟨Nat.le_of_ble_eq_true rfl, Nat.le_of_ble_eq_true rfl⟩) hS (fun q _ h => fA_le hS.1 q h) (fA_le hS.1) (fun u9 ra9 t9 H1 locs ht9 hvm9 hw9 hB9 hz9 hk9 hS => ?_)
    obtain ⟨hra9, hP, -⟩ := hB9
    subst hra9
    rw [ht9] at hP
    generalize H1 = H at hP hS ⊢
    obtain ⟨μw, eμw⟩ : ∃ x : va_M, x = u9 := ⟨_, rfl⟩
    rw [← eμw] at hP hw9
    have hμw := hw9; clear hw9
    obtain ⟨c1_, f1_⟩ := hμw
    have x66 : μw 6 6 = μ 6 6 := f1_ _ _ (by unfold WQ Zc; omega)
    obtain ⟨wl1, wl2⟩ := CI_lf c1_ pg (by omega) (by have := CI_lc hI; omega)
    have w66 := CI_n6 c1_
    refine va_calli (va_runV (As := []) (rest := []) ⟨hx, hb, hml, hown, hts⟩ (s_KisThrough l dC dI cI cZ cII cIII h0 H.size μw ((113 + (pg).toNat * 15)) ((pg).toNat) (rfl) ((show (pg).toNat < 8 by omega)) (by constructor <;> omega)) (cwV 0 hts (gV_G k579 k580 k581 k11 k582) rfl rfl rfl (by decide +kernel) ⟨Nat.le_of_ble_eq_true rfl, Nat.le_of_ble_eq_true rfl⟩) ⟨fun a U g mk q => by obtain ⟨q0, q1, qP, qK, qM⟩ := q; exact ⟨q0, q1, qP, va_K.moved (u := U) (U := U.calling g mk a) (Vm.Alike.refl U.vm) qK, qM⟩, va_recv hK hP (ci := 7) (q0 := ((113 + (pg).toNat * 15) + 10)) rfl ((fw_get (by omega)).trans (by rw [(sE_walk (show (pg).toNat < 8 by omega) rfl)])), fun U hU hW => ⟨rfl, by rw [hU], by rw [hU]; exact hP, va_K.moved hW.alike hK, xM_warm hW hM⟩⟩ rfl rfl hl.1 rfl (lv_room (Nat.le_of_ble_eq_true rfl)) dX9_fits_10 ⟨Nat.le_of_ble_eq_true rfl, Nat.le_of_ble_eq_true rfl⟩) hS (fun q _ h => fA_le hS.1 q h) (fA_le hS.1) (fun r9 u9 t9 H1 locs ht9 hvm9 hw9 hB9 hz9 hk9 hS => ?_)
    obtain ⟨μi, ri⟩ := u9
    obtain ⟨hP, -⟩ := hB9
    rw [ht9] at hP
    generalize H1 = H at hP hS ⊢
    obtain ⟨e9, hw9⟩ := hw9
    have e9 : r9 = iZ ri := e9
    subst e9
    simp only at hP hw9
    have hμi := hw9; clear hw9
    rw [hμi.1] at hP; have hμi := hμi.2
    have hri := hμi
    exact W_widen (Nat.le_of_ble_eq_true rfl) (Nat.le_of_ble_eq_true rfl) (vx_ret (W.zret (v := iZ (ri)) hx hb hr (by exact fz_narZ (by omega)) (fun t9 ht9 hW9 => ⟨⟨iZ (ri), (μw, ri), rfl, ⟨rfl, (by
                dsimp only
                exact ⟨c1_, SY_wq f1_⟩)⟩, by rw [ht9]; exact hP, va_K.moved hW9.alike hK⟩, hS.F ht9⟩) hS.2.2 dX9_fits_13))
  · refine vx_callv (vx_runV (As := [.int (iZ (pg))]) (rest := []) ⟨hx, hb, hml, hown, hts⟩ (x_needPage l hfl dC dI cI cZ cII cIII h0 s.heap.size μ (pg) (by first | assumption | omega | exact CI_lc hI | exact CI_cn hI | exact (CI_n6 hI).1 | decide) (by first | assumption | omega | exact CI_lc hI | exact CI_cn hI | exact (CI_n6 hI).1 | decide) (hn2_)) (cwV 1 hts (gV_G k735 k737 ks_yX9_needPage k1 k738) rfl rfl rfl (by decide +kernel) ⟨Nat.le_of_ble_eq_true rfl, Nat.le_of_ble_eq_true rfl⟩) ⟨fun a U g mk q => by obtain ⟨q0, q1, qP, qK, qM, qE⟩ := q; exact ⟨q0, q1, qP, va_K.moved (u := U) (U := U.calling g mk a) (Vm.Alike.refl U.vm) qK, qM, xX_call qE⟩, va_recv hK hP (ci := 9) (q0 := 0) rfl ((fw_get (by decide)).trans (by rw [sE_0]; rfl)), fun U hU hW => ⟨rfl, by rw [hU], by rw [hU]; exact hP, va_K.moved hW.alike hK, xM_warm hW hM, xX_at hEx hS (fun q h => fA_le hS.1 q h) hU hW⟩⟩ rfl rfl hl.1 rfl (lv_room (Nat.le_of_ble_eq_true rfl)) dX9_fits_2 ⟨Nat.le_of_ble_eq_true rfl, Nat.le_of_ble_eq_true rfl⟩) hS (fun q _ h => fA_le hS.1 q h) (fA_le hS.1) (fun q _ h => fA_le hS.1 q h) (fun E9 ce9 q9 u9 t9 H1 locs ht9 hvm9 hpx9 hBX9 hz9 hk9 hS hce9 hcv9 hcl9 => ?_) (fun u9 t9 H1 locs ht9 hvm9 hw9 hB9 hz9 hk9 hS => hw9.elim)
    obtain ⟨hE9, hP9, hK9⟩ := hBX9
    exact vx_out (fun x hx9 => (hnt x hx9).elim) hlocks hce9 hcv9 hcl9 (fun t8 ht8 hW8 => ⟨u9, (by
                show CI T u9 ∧ SY μ u9
                exact CI_thr hI hpx9), ⟨hE9, by rw [ht8, ← ht9]; exact hP9, va_K.moved hW8 hK⟩, hS.F ht8⟩) hS.2.2 (Nat.le_of_ble_eq_true rfl) (Nat.le_of_ble_eq_true rfl)
set_option maxHeartbeats 4000000 in
set_option maxRecDepth 100000 in
theorem p_ways (l : Launch) (hfl : l.stackTraces = false) (dC : Nat → ClassId) (dI : Nat → Nat → Nat) (cI cZ cII cIII : ClassId) (h0 sz : Nat) (μ : va_M) (pg : Int) (T : List Tk) (hI : CI T μ) (h_pg : inR pg) : vx_Met l yX9_ways (Cond.code yX9_ways cX9_ways 2 (some .int) :: wsG) ({ frames := 8, cells := 1, slots := 6, locals := 163 } : Room) (va_Pc [.ref h0, .int (iZ (pg))] (fun U => U.heap.size = sz ∧ va_P (dC, dI) vwCl (fw (sE cI cZ cII cIII h0) h0 233 μ) U.heap ∧ va_K (dC, dI) vwCl (sT cI cZ cII cIII) U ∧ xM U ∧ xX (fA h0 233 sz) U)) (va_Qi (fun (r9 : Int32) (u : va_M × Int) => r9 = iZ u.2 ∧ (fun (u : va_M) (r : Int) => CI T u ∧ SY μ u) u.1 u.2) (fun u t => va_P (dC, dI) vwCl (fw (sE cI cZ cII cIII h0) h0 233 u.1) t.heap ∧ va_K (dC, dI) vwCl (sT cI cZ cII cIII) t) (fA h0 233 sz)) (vx_X (fun (u : va_M) => CI T u ∧ SY μ u) (fun E u t => E ∈ (["java/util/NoSuchElementException"] : List String) ∧ va_P (dC, dI) vwCl (fw (sE cI cZ cII cIII h0) h0 233 u) t.heap ∧ va_K (dC, dI) vwCl (sT cI cZ cII cIII) t) (fA h0 233 sz)) 1 6 (fA h0 233 sz) := by
  refine vx_ofW (cc := cX9_ways) (maxL := 2) (ret := (some .int)) (by decide) rfl ?_
  intro p e s m args below meth c s₁ B hml hnt hv
  obtain ⟨rfl, hsz, hP, hK, hM, hEx⟩ := hv
  have hx := B.exec
  have hb := B.bytes
  have hr := B.returns
  have hts : ∀ w ∈ wsG, w.before _ s = true := hG_of (atoms_spec (ws := (Cond.code yX9_ways cX9_ways 2 (some .int) :: wsG)) B.pre)
  have hown : s.vm.findClass RX9 = some m.cls := findClass_of_methodNamed B.named
  have hlocks := B.notSynchronized
  subst hsz
  have hS : va_S (fA h0 233 s.heap.size) s.heap s.heap [] := va_S.rf
  have hl := lv_entry ([.ref h0, .int (iZ (pg))]) (n := 2) (Nat.le_of_ble_eq_true rfl)
  rw [lg_entry_eq]
  generalize (lg_sl ([.ref h0, .int (iZ (pg))]) ++ List.replicate (2 - (lg_sl ([.ref h0, .int (iZ (pg))])).length) Slot.unset).toArray = ls at hl ⊢
  have hl : lv_has ls 2 [(0, .ref h0), (1, .int (iZ (pg)))] := hl
  have hlc := CI_lc hI
  have h66 := CI_n6 hI
  refine lv_aload_n hx hb dX9_ways_0 rfl (lv_at hl 0 rfl) ?_
  refine lv_iload_n hx hb dX9_ways_1 rfl (lv_at hl 1 rfl) ?_
  by_cases hn2_ : 0 ≤ pg ∧ pg < μ 0 2
  · refine va_callv (va_runV (As := [.int (iZ (pg))]) (rest := []) ⟨hx, hb, hml, hown, hts⟩ (s_needPage l dC dI cI cZ cII cIII h0 s.heap.size μ (pg) (by first | assumption | omega | exact CI_lc hI | exact CI_cn hI | exact (CI_n6 hI).1 | decide) (by first | assumption | omega | exact CI_lc hI | exact CI_cn hI | exact (CI_n6 hI).1 | decide) (by exact hn2_)) (cwV 1 hts (gV_G k735 k737 ks_yX9_needPage k1 k738) rfl rfl rfl (by decide +kernel) ⟨Nat.le_of_ble_eq_true rfl, Nat.le_of_ble_eq_true rfl⟩) ⟨fun a U g mk q => by obtain ⟨q0, q1, qP, qK, qM⟩ := q; exact ⟨q0, q1, qP, va_K.moved (u := U) (U := U.calling g mk a) (Vm.Alike.refl U.vm) qK, qM⟩, va_recv hK hP (ci := 9) (q0 := 0) rfl ((fw_get (by decide)).trans (by rw [sE_0]; rfl)), fun U hU hW => ⟨rfl, by rw [hU], by rw [hU]; exact hP, va_K.moved hW.alike hK, xM_warm hW hM⟩⟩ rfl rfl hl.1 rfl (lv_room (Nat.le_of_ble_eq_true rfl)) dX9_ways_2 ⟨Nat.le_of_ble_eq_true rfl, Nat.le_of_ble_eq_true rfl⟩) hS (fun q _ h => fA_le hS.1 q h) (fA_le hS.1) (fun u9 t9 H1 locs ht9 hvm9 hw9 hB9 hz9 hk9 hS => ?_)
    obtain ⟨hP, -⟩ := hB9
    rw [ht9] at hP
    generalize H1 = H at hP hS ⊢
    obtain ⟨μ1, eμ1⟩ : ∃ x : va_M, x = u9 := ⟨_, rfl⟩
    rw [← eμ1] at hP hw9
    have hμ1 := hw9; clear hw9
    rw [hμ1] at hP
    refine lv_aload_n hx hb dX9_ways_5 rfl (lv_at hl 0 rfl) ?_
    refine lv_iload_n hx hb dX9_ways_6 rfl (lv_at hl 1 rfl) ?_
    refine va_callr (va_runV (As := [.int (iZ (pg))]) (rest := []) ⟨hx, hb, hml, hown, hts⟩ (s_walkOf l dC dI cI cZ cII cIII h0 H.size μ (pg) (T) (by exact hI) (by first | assumption | omega | exact CI_lc hI | exact CI_cn hI | exact (CI_n6 hI).1 | decide)) (cwV 1 hts (gV_G k535 k537 ks_yX9_walkOf k1 k538) rfl rfl rfl (by decide +kernel) ⟨Nat.le_of_ble_eq_true rfl, Nat.le_of_ble_eq_true rfl⟩) ⟨fun a U g mk q => by obtain ⟨q0, q1, qP, qK, qM⟩ := q; exact ⟨q0, q1, qP, va_K.moved (u := U) (U := U.calling g mk a) (Vm.Alike.refl U.vm) qK, qM⟩, va_recv hK hP (ci := 9) (q0 := 0) rfl ((fw_get (by decide)).trans (by rw [sE_0]; rfl)), fun U hU hW => ⟨rfl, by rw [hU], by rw [hU]; exact hP, va_K.moved hW.alike hK, xM_warm hW hM⟩⟩ rfl rfl hl.1 rfl (lv_room (Nat.le_of_ble_eq_true rfl)) dX9_ways_7 ⟨Nat.le_of_ble_eq_true rfl, Nat.le_of_ble_eq_true rfl⟩) hS (fun q _ h => fA_le hS.1 q h) (fA_le hS.1) (fun u9 ra9 t9 H1 locs ht9 hvm9 hw9 hB9 hz9 hk9 hS => ?_)
    obtain ⟨hra9, hP, -⟩ := hB9
    subst hra9
    rw [ht9] at hP
    generalize H1 = H at hP hS ⊢
    obtain ⟨μw, eμw⟩ : ∃ x : va_M, x = u9 := ⟨_, rfl⟩
    rw [← eμw] at hP hw9
    have hμw := hw9; clear hw9
    obtain ⟨c1_, f1_⟩ := hμw
    have x66 : μw 6 6 = μ 6 6 := f1_ _ _ (by unfold WQ Zc; omega)
    obtain ⟨wl1, wl2⟩ := CI_lf c1_ pg (by omega) (by have := CI_lc hI; omega)
    have w66 := CI_n6 c1_
    refine fz_get (D := (dC, dI)) (ci := 7) (v := .int (iZ (μw ((113 + (pg).toNat * 15) + 10) 1))) (C := RX7) (T := TX7) (N := 5) hx hb hts inG7 hown hK hP (k := ((113 + (pg).toNat * 15) + 10)) (by omega) (F := (sWF h0 (113 + (pg).toNat * 15))) (sE_walk (show (pg).toNat < 8 by omega) rfl) rfl 1 (by decide) (hts _ k275) (fun _ h9 => h9) rfl dX9_ways_10 ?_
    exact W_widen (Nat.le_of_ble_eq_true rfl) (Nat.le_of_ble_eq_true rfl) (vx_ret (W.iret (v := iZ (μw ((113 + (pg).toNat * 15) + 10) 1)) hx hb hr (fun t9 ht9 hW9 => ⟨⟨iZ (μw ((113 + (pg).toNat * 15) + 10) 1), (μw, μw ((113 + (pg).toNat * 15) + 10) 1), rfl, ⟨rfl, (by
                dsimp only
                exact ⟨c1_, SY_wq f1_⟩)⟩, by rw [ht9]; exact hP, va_K.moved hW9.alike hK⟩, hS.F ht9⟩) hS.2.2 dX9_ways_13))
  · refine vx_callv (vx_runV (As := [.int (iZ (pg))]) (rest := []) ⟨hx, hb, hml, hown, hts⟩ (x_needPage l hfl dC dI cI cZ cII cIII h0 s.heap.size μ (pg) (by first | assumption | omega | exact CI_lc hI | exact CI_cn hI | exact (CI_n6 hI).1 | decide) (by first | assumption | omega | exact CI_lc hI | exact CI_cn hI | exact (CI_n6 hI).1 | decide) (hn2_)) (cwV 1 hts (gV_G k735 k737 ks_yX9_needPage k1 k738) rfl rfl rfl (by decide +kernel) ⟨Nat.le_of_ble_eq_true rfl, Nat.le_of_ble_eq_true rfl⟩) ⟨fun a U g mk q => by obtain ⟨q0, q1, qP, qK, qM, qE⟩ := q; exact ⟨q0, q1, qP, va_K.moved (u := U) (U := U.calling g mk a) (Vm.Alike.refl U.vm) qK, qM, xX_call qE⟩, va_recv hK hP (ci := 9) (q0 := 0) rfl ((fw_get (by decide)).trans (by rw [sE_0]; rfl)), fun U hU hW => ⟨rfl, by rw [hU], by rw [hU]; exact hP, va_K.moved hW.alike hK, xM_warm hW hM, xX_at hEx hS (fun q h => fA_le hS.1 q h) hU hW⟩⟩ rfl rfl hl.1 rfl (lv_room (Nat.le_of_ble_eq_true rfl)) dX9_ways_2 ⟨Nat.le_of_ble_eq_true rfl, Nat.le_of_ble_eq_true rfl⟩) hS (fun q _ h => fA_le hS.1 q h) (fA_le hS.1) (fun q _ h => fA_le hS.1 q h) (fun E9 ce9 q9 u9 t9 H1 locs ht9 hvm9 hpx9 hBX9 hz9 hk9 hS hce9 hcv9 hcl9 => ?_) (fun u9 t9 H1 locs ht9 hvm9 hw9 hB9 hz9 hk9 hS => hw9.elim)
    obtain ⟨hE9, hP9, hK9⟩ := hBX9
    exact vx_out (fun x hx9 => (hnt x hx9).elim) hlocks hce9 hcv9 hcl9 (fun t8 ht8 hW8 => ⟨u9, (by
                show CI T u9 ∧ SY μ u9
                exact CI_thr hI hpx9), ⟨hE9, by rw [ht8, ← ht9]; exact hP9, va_K.moved hW8 hK⟩, hS.F ht8⟩) hS.2.2 (Nat.le_of_ble_eq_true rfl) (Nat.le_of_ble_eq_true rfl)
set_option maxHeartbeats 4000000 in
set_option maxRecDepth 100000 in
theorem p_reach (l : Launch) (hfl : l.stackTraces = false) (dC : Nat → ClassId) (dI : Nat → Nat → Nat) (cI cZ cII cIII : ClassId) (h0 sz : Nat) (μ : va_M) (pg : Int) (T : List Tk) (hI : CI T μ) (h_pg : inR pg) : vx_Met l yX9_reach (Cond.code yX9_reach cX9_reach 2 (some .int) :: wsG) ({ frames := 8, cells := 1, slots := 6, locals := 131 } : Room) (va_Pc [.ref h0, .int (iZ (pg))] (fun U => U.heap.size = sz ∧ va_P (dC, dI) vwCl (fw (sE cI cZ cII cIII h0) h0 233 μ) U.heap ∧ va_K (dC, dI) vwCl (sT cI cZ cII cIII) U ∧ xM U ∧ xX (fA h0 233 sz) U)) (va_Qi (fun (r9 : Int32) (u : va_M × Int) => r9 = iZ u.2 ∧ (fun (u : va_M) (r : Int) => CI T u ∧ SY μ u) u.1 u.2) (fun u t => va_P (dC, dI) vwCl (fw (sE cI cZ cII cIII h0) h0 233 u.1) t.heap ∧ va_K (dC, dI) vwCl (sT cI cZ cII cIII) t) (fA h0 233 sz)) (vx_X (fun (u : va_M) => CI T u ∧ SY μ u) (fun E u t => E ∈ (["java/util/NoSuchElementException"] : List String) ∧ va_P (dC, dI) vwCl (fw (sE cI cZ cII cIII h0) h0 233 u) t.heap ∧ va_K (dC, dI) vwCl (sT cI cZ cII cIII) t) (fA h0 233 sz)) 1 6 (fA h0 233 sz) := by
  refine vx_ofW (cc := cX9_reach) (maxL := 2) (ret := (some .int)) (by decide) rfl ?_
  intro p e s m args below meth c s₁ B hml hnt hv
  obtain ⟨rfl, hsz, hP, hK, hM, hEx⟩ := hv
  have hx := B.exec
  have hb := B.bytes
  have hr := B.returns
  have hts : ∀ w ∈ wsG, w.before _ s = true := hG_of (atoms_spec (ws := (Cond.code yX9_reach cX9_reach 2 (some .int) :: wsG)) B.pre)
  have hown : s.vm.findClass RX9 = some m.cls := findClass_of_methodNamed B.named
  have hlocks := B.notSynchronized
  subst hsz
  have hS : va_S (fA h0 233 s.heap.size) s.heap s.heap [] := va_S.rf
  have hl := lv_entry ([.ref h0, .int (iZ (pg))]) (n := 2) (Nat.le_of_ble_eq_true rfl)
  rw [lg_entry_eq]
  generalize (lg_sl ([.ref h0, .int (iZ (pg))]) ++ List.replicate (2 - (lg_sl ([.ref h0, .int (iZ (pg))])).length) Slot.unset).toArray = ls at hl ⊢
  have hl : lv_has ls 2 [(0, .ref h0), (1, .int (iZ (pg)))] := hl
  have hlc := CI_lc hI
  have h66 := CI_n6 hI
  refine lv_aload_n hx hb dX9_reach_0 rfl (lv_at hl 0 rfl) ?_
  refine lv_iload_n hx hb dX9_reach_1 rfl (lv_at hl 1 rfl) ?_
  by_cases hn2_ : 0 ≤ pg ∧ pg < μ 0 2
  · refine va_callv (va_runV (As := [.int (iZ (pg))]) (rest := []) ⟨hx, hb, hml, hown, hts⟩ (s_needPage l dC dI cI cZ cII cIII h0 s.heap.size μ (pg) (by first | assumption | omega | exact CI_lc hI | exact CI_cn hI | exact (CI_n6 hI).1 | decide) (by first | assumption | omega | exact CI_lc hI | exact CI_cn hI | exact (CI_n6 hI).1 | decide) (by exact hn2_)) (cwV 1 hts (gV_G k735 k737 ks_yX9_needPage k1 k738) rfl rfl rfl (by decide +kernel) ⟨Nat.le_of_ble_eq_true rfl, Nat.le_of_ble_eq_true rfl⟩) ⟨fun a U g mk q => by obtain ⟨q0, q1, qP, qK, qM⟩ := q; exact ⟨q0, q1, qP, va_K.moved (u := U) (U := U.calling g mk a) (Vm.Alike.refl U.vm) qK, qM⟩, va_recv hK hP (ci := 9) (q0 := 0) rfl ((fw_get (by decide)).trans (by rw [sE_0]; rfl)), fun U hU hW => ⟨rfl, by rw [hU], by rw [hU]; exact hP, va_K.moved hW.alike hK, xM_warm hW hM⟩⟩ rfl rfl hl.1 rfl (lv_room (Nat.le_of_ble_eq_true rfl)) dX9_reach_2 ⟨Nat.le_of_ble_eq_true rfl, Nat.le_of_ble_eq_true rfl⟩) hS (fun q _ h => fA_le hS.1 q h) (fA_le hS.1) (fun u9 t9 H1 locs ht9 hvm9 hw9 hB9 hz9 hk9 hS => ?_)
    obtain ⟨hP, -⟩ := hB9
    rw [ht9] at hP
    generalize H1 = H at hP hS ⊢
    obtain ⟨μ1, eμ1⟩ : ∃ x : va_M, x = u9 := ⟨_, rfl⟩
    rw [← eμ1] at hP hw9
    have hμ1 := hw9; clear hw9
    rw [hμ1] at hP
    obtain ⟨hl1, hl2⟩ := CI_lf hI pg (by omega) (by omega)
    refine lv_aload_n hx hb dX9_reach_5 rfl (lv_at hl 0 rfl) ?_
    refine fz_get (D := (dC, dI)) (ci := 9) (v := .ref (h0 + 45)) (C := RX9) (T := TX9) (N := 15) hx hb hts inG9 hown hK hP (k := 0) (by decide) (F := (sF0 h0)) sE_0 rfl 10 (by decide) (hts _ k342) (fun _ h9 => h9) rfl dX9_reach_6 ?_
    refine lv_aload_n hx hb dX9_reach_9 rfl (lv_at hl 0 rfl) ?_
    refine fz_get (D := (dC, dI)) (ci := 9) (v := .ref (h0 + 6)) (C := RX9) (T := TX9) (N := 15) hx hb hts inG9 hown hK hP (k := 0) (by decide) (F := (sF0 h0)) sE_0 rfl 3 (by decide) (hts _ k335) (fun _ h9 => h9) rfl dX9_reach_10 ?_
    refine lv_aload_n hx hb dX9_reach_13 rfl (lv_at hl 0 rfl) ?_
    refine fz_get (D := (dC, dI)) (ci := 9) (v := .ref (h0 + 5)) (C := RX9) (T := TX9) (N := 15) hx hb hts inG9 hown hK hP (k := 0) (by decide) (F := (sF0 h0)) sE_0 rfl 1 (by decide) (hts _ k333) (fun _ h9 => h9) rfl dX9_reach_14 ?_
    refine lv_iload_n hx hb dX9_reach_17 rfl (lv_at hl 1 rfl) ?_
    refine fz_ald (k := 5) (n := 8) (k2 := (113 + (pg).toNat * 15)) hx hb hK hP 1 rfl (by decide) sE_5 rfl ⟨by omega, by omega⟩ (by decide) (if_pos (by omega)) dX9_reach_18 ?_
    refine fz_get (D := (dC, dI)) (ci := 1) (v := .ref (h0 + ((113 + (pg).toNat * 15) + 2))) (C := RX1) (T := TX1) (N := 8) hx hb hts inG1 hown hK hP (k := (113 + (pg).toNat * 15)) (by omega) (F := (sLF h0 (113 + (pg).toNat * 15))) (sE_leafO (show (pg).toNat < 8 by omega) rfl) rfl 1 (by decide) (hts _ k299) (fun _ h9 => h9) rfl dX9_reach_19 ?_
    refine lv_aload_n hx hb dX9_reach_22 rfl (lv_at hl 0 rfl) ?_
    refine fz_get (D := (dC, dI)) (ci := 9) (v := .ref (h0 + 5)) (C := RX9) (T := TX9) (N := 15) hx hb hts inG9 hown hK hP (k := 0) (by decide) (F := (sF0 h0)) sE_0 rfl 1 (by decide) (hts _ k333) (fun _ h9 => h9) rfl dX9_reach_23 ?_
    refine lv_iload_n hx hb dX9_reach_26 rfl (lv_at hl 1 rfl) ?_
    refine fz_ald (k := 5) (n := 8) (k2 := (113 + (pg).toNat * 15)) hx hb hK hP 1 rfl (by decide) sE_5 rfl ⟨by omega, by omega⟩ (by decide) (if_pos (by omega)) dX9_reach_27 ?_
    refine fz_get (D := (dC, dI)) (ci := 1) (v := .int (iZ (μ (113 + (pg).toNat * 15) 2))) (C := RX1) (T := TX1) (N := 8) hx hb hts inG1 hown hK hP (k := (113 + (pg).toNat * 15)) (by omega) (F := (sLF h0 (113 + (pg).toNat * 15))) (sE_leafO (show (pg).toNat < 8 by omega) rfl) rfl 2 (by decide) (hts _ k301) (fun _ h9 => h9) rfl dX9_reach_28 ?_
    refine lv_iconst (v := iZ 2) hx hb dX9_reach_31 rfl ?_
    refine va_calli (va_runV (As := [.ref (h0 + 6), .ref (h0 + ((113 + (pg).toNat * 15) + 2)), .int (iZ (μ (113 + (pg).toNat * 15) 2)), .int (iZ (2))]) (rest := []) ⟨hx, hb, hml, hown, hts⟩ (s_WgoThrough l dC dI cI cZ cII cIII h0 H.size μ (6) (1100) (((113 + (pg).toNat * 15) + 2)) (60) (μ (113 + (pg).toNat * 15) 2) (2) (rowB_6) (by exact hI.1.2.2.1) (by exact hI.1.2.2.2.2.2.1) (by omega) ((sE_leafA 2 60 (show (pg).toNat < 8 by omega) rfl (by decide))) (by
                intro j
                have := hl1.2.2.1 j
                constructor <;> omega) (by
                have := hl1.1.1
                omega) (by decide)) (cwV 4 hts (gV_G k848 k544 k545 k8 k546) rfl rfl rfl (by decide +kernel) ⟨Nat.le_of_ble_eq_true rfl, Nat.le_of_ble_eq_true rfl⟩) ⟨fun a U g mk q => by obtain ⟨q0, q1, qP, qK, qM⟩ := q; exact ⟨q0, q1, qP, va_K.moved (u := U) (U := U.calling g mk a) (Vm.Alike.refl U.vm) qK, qM⟩, va_recv hK hP (ci := 8) (q0 := 45) rfl ((fw_get (by decide)).trans (by rw [sE_45])), fun U hU hW => ⟨rfl, by rw [hU], by rw [hU]; exact hP, va_K.moved hW.alike hK, xM_warm hW hM⟩⟩ rfl rfl hl.1 rfl (lv_room (Nat.le_of_ble_eq_true rfl)) dX9_reach_32 ⟨Nat.le_of_ble_eq_true rfl, Nat.le_of_ble_eq_true rfl⟩) hS (fun q _ h => fA_le hS.1 q h) (fA_le hS.1) (fun r9 u9 t9 H1 locs ht9 hvm9 hw9 hB9 hz9 hk9 hS => ?_)
    obtain ⟨μg, rg⟩ := u9
    obtain ⟨hP, -⟩ := hB9
    rw [ht9] at hP
    generalize H1 = H at hP hS ⊢
    obtain ⟨e9, hw9⟩ := hw9
    have e9 : r9 = iZ rg := e9
    subst e9
    simp only at hP hw9
    have hμg := hw9; clear hw9
    obtain ⟨f1_, a1_, r1_, r2_⟩ := hμg
    exact W_widen (Nat.le_of_ble_eq_true rfl) (Nat.le_of_ble_eq_true rfl) (vx_ret (W.iret (v := iZ (rg)) hx hb hr (fun t9 ht9 hW9 => ⟨⟨iZ (rg), (μg, rg), rfl, ⟨rfl, (by
                dsimp only
                exact CI_wk hI f1_ a1_)⟩, by rw [ht9]; exact hP, va_K.moved hW9.alike hK⟩, hS.F ht9⟩) hS.2.2 dX9_reach_35))
  · refine vx_callv (vx_runV (As := [.int (iZ (pg))]) (rest := []) ⟨hx, hb, hml, hown, hts⟩ (x_needPage l hfl dC dI cI cZ cII cIII h0 s.heap.size μ (pg) (by first | assumption | omega | exact CI_lc hI | exact CI_cn hI | exact (CI_n6 hI).1 | decide) (by first | assumption | omega | exact CI_lc hI | exact CI_cn hI | exact (CI_n6 hI).1 | decide) (hn2_)) (cwV 1 hts (gV_G k735 k737 ks_yX9_needPage k1 k738) rfl rfl rfl (by decide +kernel) ⟨Nat.le_of_ble_eq_true rfl, Nat.le_of_ble_eq_true rfl⟩) ⟨fun a U g mk q => by obtain ⟨q0, q1, qP, qK, qM, qE⟩ := q; exact ⟨q0, q1, qP, va_K.moved (u := U) (U := U.calling g mk a) (Vm.Alike.refl U.vm) qK, qM, xX_call qE⟩, va_recv hK hP (ci := 9) (q0 := 0) rfl ((fw_get (by decide)).trans (by rw [sE_0]; rfl)), fun U hU hW => ⟨rfl, by rw [hU], by rw [hU]; exact hP, va_K.moved hW.alike hK, xM_warm hW hM, xX_at hEx hS (fun q h => fA_le hS.1 q h) hU hW⟩⟩ rfl rfl hl.1 rfl (lv_room (Nat.le_of_ble_eq_true rfl)) dX9_reach_2 ⟨Nat.le_of_ble_eq_true rfl, Nat.le_of_ble_eq_true rfl⟩) hS (fun q _ h => fA_le hS.1 q h) (fA_le hS.1) (fun q _ h => fA_le hS.1 q h) (fun E9 ce9 q9 u9 t9 H1 locs ht9 hvm9 hpx9 hBX9 hz9 hk9 hS hce9 hcv9 hcl9 => ?_) (fun u9 t9 H1 locs ht9 hvm9 hw9 hB9 hz9 hk9 hS => hw9.elim)
    obtain ⟨hE9, hP9, hK9⟩ := hBX9
    exact vx_out (fun x hx9 => (hnt x hx9).elim) hlocks hce9 hcv9 hcl9 (fun t8 ht8 hW8 => ⟨u9, (by
                show CI T u9 ∧ SY μ u9
                exact CI_thr hI hpx9), ⟨hE9, by rw [ht8, ← ht9]; exact hP9, va_K.moved hW8 hK⟩, hS.F ht8⟩) hS.2.2 (Nat.le_of_ble_eq_true rfl) (Nat.le_of_ble_eq_true rfl)
set_option maxHeartbeats 4000000 in
set_option maxRecDepth 100000 in
theorem p_cuts (l : Launch) (hfl : l.stackTraces = false) (dC : Nat → ClassId) (dI : Nat → Nat → Nat) (cI cZ cII cIII : ClassId) (h0 sz : Nat) (μ : va_M) (pg : Int) (T : List Tk) (hI : CI T μ) (h_pg : inR pg) : vx_Met l yX9_cuts (Cond.code yX9_cuts cX9_cuts 3 (some .int) :: wsG) ({ frames := 8, cells := 1, slots := 6, locals := 131 } : Room) (va_Pc [.ref h0, .int (iZ (pg))] (fun U => U.heap.size = sz ∧ va_P (dC, dI) vwCl (fw (sE cI cZ cII cIII h0) h0 233 μ) U.heap ∧ va_K (dC, dI) vwCl (sT cI cZ cII cIII) U ∧ xM U ∧ xX (fA h0 233 sz) U)) (va_Qi (fun (r9 : Int32) (u : va_M × Int) => r9 = iZ u.2 ∧ (fun (u : va_M) (r : Int) => CI T u ∧ SY μ u) u.1 u.2) (fun u t => va_P (dC, dI) vwCl (fw (sE cI cZ cII cIII h0) h0 233 u.1) t.heap ∧ va_K (dC, dI) vwCl (sT cI cZ cII cIII) t) (fA h0 233 sz)) (vx_X (fun (u : va_M) => CI T u ∧ SY μ u) (fun E u t => E ∈ (["java/util/NoSuchElementException"] : List String) ∧ va_P (dC, dI) vwCl (fw (sE cI cZ cII cIII h0) h0 233 u) t.heap ∧ va_K (dC, dI) vwCl (sT cI cZ cII cIII) t) (fA h0 233 sz)) 1 6 (fA h0 233 sz) := by
  refine vx_ofW (cc := cX9_cuts) (maxL := 3) (ret := (some .int)) (by decide) rfl ?_
  intro p e s m args below meth c s₁ B hml hnt hv
  obtain ⟨rfl, hsz, hP, hK, hM, hEx⟩ := hv
  have hx := B.exec
  have hb := B.bytes
  have hr := B.returns
  have hts : ∀ w ∈ wsG, w.before _ s = true := hG_of (atoms_spec (ws := (Cond.code yX9_cuts cX9_cuts 3 (some .int) :: wsG)) B.pre)
  have hown : s.vm.findClass RX9 = some m.cls := findClass_of_methodNamed B.named
  have hlocks := B.notSynchronized
  subst hsz
  have hS : va_S (fA h0 233 s.heap.size) s.heap s.heap [] := va_S.rf
  have hl := lv_entry ([.ref h0, .int (iZ (pg))]) (n := 3) (Nat.le_of_ble_eq_true rfl)
  rw [lg_entry_eq]
  generalize (lg_sl ([.ref h0, .int (iZ (pg))]) ++ List.replicate (3 - (lg_sl ([.ref h0, .int (iZ (pg))])).length) Slot.unset).toArray = ls at hl ⊢
  have hl : lv_has ls 3 [(0, .ref h0), (1, .int (iZ (pg)))] := hl
  have hlc := CI_lc hI
  have h66 := CI_n6 hI
  refine lv_aload_n hx hb dX9_cuts_0 rfl (lv_at hl 0 rfl) ?_
  refine lv_iload_n hx hb dX9_cuts_1 rfl (lv_at hl 1 rfl) ?_
  by_cases hn2_ : 0 ≤ pg ∧ pg < μ 0 2
  · refine va_callv (va_runV (As := [.int (iZ (pg))]) (rest := []) ⟨hx, hb, hml, hown, hts⟩ (s_needPage l dC dI cI cZ cII cIII h0 s.heap.size μ (pg) (by first | assumption | omega | exact CI_lc hI | exact CI_cn hI | exact (CI_n6 hI).1 | decide) (by first | assumption | omega | exact CI_lc hI | exact CI_cn hI | exact (CI_n6 hI).1 | decide) (by exact hn2_)) (cwV 1 hts (gV_G k735 k737 ks_yX9_needPage k1 k738) rfl rfl rfl (by decide +kernel) ⟨Nat.le_of_ble_eq_true rfl, Nat.le_of_ble_eq_true rfl⟩) ⟨fun a U g mk q => by obtain ⟨q0, q1, qP, qK, qM⟩ := q; exact ⟨q0, q1, qP, va_K.moved (u := U) (U := U.calling g mk a) (Vm.Alike.refl U.vm) qK, qM⟩, va_recv hK hP (ci := 9) (q0 := 0) rfl ((fw_get (by decide)).trans (by rw [sE_0]; rfl)), fun U hU hW => ⟨rfl, by rw [hU], by rw [hU]; exact hP, va_K.moved hW.alike hK, xM_warm hW hM⟩⟩ rfl rfl hl.1 rfl (lv_room (Nat.le_of_ble_eq_true rfl)) dX9_cuts_2 ⟨Nat.le_of_ble_eq_true rfl, Nat.le_of_ble_eq_true rfl⟩) hS (fun q _ h => fA_le hS.1 q h) (fA_le hS.1) (fun u9 t9 H1 locs ht9 hvm9 hw9 hB9 hz9 hk9 hS => ?_)
    obtain ⟨hP, -⟩ := hB9
    rw [ht9] at hP
    generalize H1 = H at hP hS ⊢
    obtain ⟨μ1, eμ1⟩ : ∃ x : va_M, x = u9 := ⟨_, rfl⟩
    rw [← eμ1] at hP hw9
    have hμ1 := hw9; clear hw9
    rw [hμ1] at hP
    obtain ⟨hl1, hl2⟩ := CI_lf hI pg (by omega) (by omega)
    refine lv_aload_n hx hb dX9_cuts_5 rfl (lv_at hl 0 rfl) ?_
    refine fz_get (D := (dC, dI)) (ci := 9) (v := .ref (h0 + 45)) (C := RX9) (T := TX9) (N := 15) hx hb hts inG9 hown hK hP (k := 0) (by decide) (F := (sF0 h0)) sE_0 rfl 10 (by decide) (hts _ k342) (fun _ h9 => h9) rfl dX9_cuts_6 ?_
    refine lv_aload_n hx hb dX9_cuts_9 rfl (lv_at hl 0 rfl) ?_
    refine fz_get (D := (dC, dI)) (ci := 9) (v := .ref (h0 + 6)) (C := RX9) (T := TX9) (N := 15) hx hb hts inG9 hown hK hP (k := 0) (by decide) (F := (sF0 h0)) sE_0 rfl 3 (by decide) (hts _ k335) (fun _ h9 => h9) rfl dX9_cuts_10 ?_
    refine lv_aload_n hx hb dX9_cuts_13 rfl (lv_at hl 0 rfl) ?_
    refine fz_get (D := (dC, dI)) (ci := 9) (v := .ref (h0 + 5)) (C := RX9) (T := TX9) (N := 15) hx hb hts inG9 hown hK hP (k := 0) (by decide) (F := (sF0 h0)) sE_0 rfl 1 (by decide) (hts _ k333) (fun _ h9 => h9) rfl dX9_cuts_14 ?_
    refine lv_iload_n hx hb dX9_cuts_17 rfl (lv_at hl 1 rfl) ?_
    refine fz_ald (k := 5) (n := 8) (k2 := (113 + (pg).toNat * 15)) hx hb hK hP 1 rfl (by decide) sE_5 rfl ⟨by omega, by omega⟩ (by decide) (if_pos (by omega)) dX9_cuts_18 ?_
    refine fz_get (D := (dC, dI)) (ci := 1) (v := .ref (h0 + ((113 + (pg).toNat * 15) + 2))) (C := RX1) (T := TX1) (N := 8) hx hb hts inG1 hown hK hP (k := (113 + (pg).toNat * 15)) (by omega) (F := (sLF h0 (113 + (pg).toNat * 15))) (sE_leafO (show (pg).toNat < 8 by omega) rfl) rfl 1 (by decide) (hts _ k299) (fun _ h9 => h9) rfl dX9_cuts_19 ?_
    refine lv_aload_n hx hb dX9_cuts_22 rfl (lv_at hl 0 rfl) ?_
    refine fz_get (D := (dC, dI)) (ci := 9) (v := .ref (h0 + 5)) (C := RX9) (T := TX9) (N := 15) hx hb hts inG9 hown hK hP (k := 0) (by decide) (F := (sF0 h0)) sE_0 rfl 1 (by decide) (hts _ k333) (fun _ h9 => h9) rfl dX9_cuts_23 ?_
    refine lv_iload_n hx hb dX9_cuts_26 rfl (lv_at hl 1 rfl) ?_
    refine fz_ald (k := 5) (n := 8) (k2 := (113 + (pg).toNat * 15)) hx hb hK hP 1 rfl (by decide) sE_5 rfl ⟨by omega, by omega⟩ (by decide) (if_pos (by omega)) dX9_cuts_27 ?_
    refine fz_get (D := (dC, dI)) (ci := 1) (v := .int (iZ (μ (113 + (pg).toNat * 15) 2))) (C := RX1) (T := TX1) (N := 8) hx hb hts inG1 hown hK hP (k := (113 + (pg).toNat * 15)) (by omega) (F := (sLF h0 (113 + (pg).toNat * 15))) (sE_leafO (show (pg).toNat < 8 by omega) rfl) rfl 2 (by decide) (hts _ k301) (fun _ h9 => h9) rfl dX9_cuts_28 ?_
    refine lv_iconst (v := iZ 1) hx hb dX9_cuts_31 rfl ?_
    refine va_calli (va_runV (As := [.ref (h0 + 6), .ref (h0 + ((113 + (pg).toNat * 15) + 2)), .int (iZ (μ (113 + (pg).toNat * 15) 2)), .int (iZ (1))]) (rest := []) ⟨hx, hb, hml, hown, hts⟩ (s_WgoThrough l dC dI cI cZ cII cIII h0 H.size μ (6) (1100) (((113 + (pg).toNat * 15) + 2)) (60) (μ (113 + (pg).toNat * 15) 2) (1) (rowB_6) (by exact hI.1.2.2.1) (by exact hI.1.2.2.2.2.2.1) (by omega) ((sE_leafA 2 60 (show (pg).toNat < 8 by omega) rfl (by decide))) (by
                intro j
                have := hl1.2.2.1 j
                constructor <;> omega) (by
                have := hl1.1.1
                omega) (by decide)) (cwV 4 hts (gV_G k848 k544 k545 k8 k546) rfl rfl rfl (by decide +kernel) ⟨Nat.le_of_ble_eq_true rfl, Nat.le_of_ble_eq_true rfl⟩) ⟨fun a U g mk q => by obtain ⟨q0, q1, qP, qK, qM⟩ := q; exact ⟨q0, q1, qP, va_K.moved (u := U) (U := U.calling g mk a) (Vm.Alike.refl U.vm) qK, qM⟩, va_recv hK hP (ci := 8) (q0 := 45) rfl ((fw_get (by decide)).trans (by rw [sE_45])), fun U hU hW => ⟨rfl, by rw [hU], by rw [hU]; exact hP, va_K.moved hW.alike hK, xM_warm hW hM⟩⟩ rfl rfl hl.1 rfl (lv_room (Nat.le_of_ble_eq_true rfl)) dX9_cuts_32 ⟨Nat.le_of_ble_eq_true rfl, Nat.le_of_ble_eq_true rfl⟩) hS (fun q _ h => fA_le hS.1 q h) (fA_le hS.1) (fun r9 u9 t9 H1 locs ht9 hvm9 hw9 hB9 hz9 hk9 hS => ?_)
    obtain ⟨μg, rg⟩ := u9
    obtain ⟨hP, -⟩ := hB9
    rw [ht9] at hP
    generalize H1 = H at hP hS ⊢
    obtain ⟨e9, hw9⟩ := hw9
    have e9 : r9 = iZ rg := e9
    subst e9
    simp only at hP hw9
    have hμg := hw9; clear hw9
    obtain ⟨f1_, a1_, r1_, r2_⟩ := hμg
    refine lv_istore_n (lv' := [(2, .int (iZ (rg))), (0, .ref h0), (1, .int (iZ (pg)))]) hx hb dX9_cuts_35 rfl hl (by decide) rfl (fun ls hl => ?_)
    refine lv_iload_n hx hb dX9_cuts_36 rfl (lv_at hl 0 rfl) ?_
    refine lv_ldc (v := iZ 1000000) hx hb hown (hts _ k1037) dX9_cuts_37 ?_
    refine fz_icmp_lt (tgt := 46) (by first | assumption | (constructor <;> omega) | decide) (by decide) hx hb dX9_cuts_39 (by decide) (fun c39_ => ?_) (fun c39_ => ?_)
    · refine lv_iload_n hx hb dX9_cuts_46 rfl (lv_at hl 0 rfl) ?_
      exact W_widen (Nat.le_of_ble_eq_true rfl) (Nat.le_of_ble_eq_true rfl) (vx_ret (W.iret (v := iZ (rg)) hx hb hr (fun t9 ht9 hW9 => ⟨⟨iZ (rg), (μg, rg), rfl, ⟨rfl, (by
                    dsimp only
                    exact CI_wk hI f1_ a1_)⟩, by rw [ht9]; exact hP, va_K.moved hW9.alike hK⟩, hS.F ht9⟩) hS.2.2 dX9_cuts_47))
    · refine lv_iconst (v := iZ (-1)) hx hb dX9_cuts_42 rfl ?_
      refine lv_goto (tgt := 47) hx hb dX9_cuts_43 (by decide) ?_
      exact W_widen (Nat.le_of_ble_eq_true rfl) (Nat.le_of_ble_eq_true rfl) (vx_ret (W.iret (v := iZ ((-1))) hx hb hr (fun t9 ht9 hW9 => ⟨⟨iZ ((-1)), (μg, (-1)), rfl, ⟨rfl, (by
                    dsimp only
                    exact CI_wk hI f1_ a1_)⟩, by rw [ht9]; exact hP, va_K.moved hW9.alike hK⟩, hS.F ht9⟩) hS.2.2 dX9_cuts_47))
  · refine vx_callv (vx_runV (As := [.int (iZ (pg))]) (rest := []) ⟨hx, hb, hml, hown, hts⟩ (x_needPage l hfl dC dI cI cZ cII cIII h0 s.heap.size μ (pg) (by first | assumption | omega | exact CI_lc hI | exact CI_cn hI | exact (CI_n6 hI).1 | decide) (by first | assumption | omega | exact CI_lc hI | exact CI_cn hI | exact (CI_n6 hI).1 | decide) (hn2_)) (cwV 1 hts (gV_G k735 k737 ks_yX9_needPage k1 k738) rfl rfl rfl (by decide +kernel) ⟨Nat.le_of_ble_eq_true rfl, Nat.le_of_ble_eq_true rfl⟩) ⟨fun a U g mk q => by obtain ⟨q0, q1, qP, qK, qM, qE⟩ := q; exact ⟨q0, q1, qP, va_K.moved (u := U) (U := U.calling g mk a) (Vm.Alike.refl U.vm) qK, qM, xX_call qE⟩, va_recv hK hP (ci := 9) (q0 := 0) rfl ((fw_get (by decide)).trans (by rw [sE_0]; rfl)), fun U hU hW => ⟨rfl, by rw [hU], by rw [hU]; exact hP, va_K.moved hW.alike hK, xM_warm hW hM, xX_at hEx hS (fun q h => fA_le hS.1 q h) hU hW⟩⟩ rfl rfl hl.1 rfl (lv_room (Nat.le_of_ble_eq_true rfl)) dX9_cuts_2 ⟨Nat.le_of_ble_eq_true rfl, Nat.le_of_ble_eq_true rfl⟩) hS (fun q _ h => fA_le hS.1 q h) (fA_le hS.1) (fun q _ h => fA_le hS.1 q h) (fun E9 ce9 q9 u9 t9 H1 locs ht9 hvm9 hpx9 hBX9 hz9 hk9 hS hce9 hcv9 hcl9 => ?_) (fun u9 t9 H1 locs ht9 hvm9 hw9 hB9 hz9 hk9 hS => hw9.elim)
    obtain ⟨hE9, hP9, hK9⟩ := hBX9
    exact vx_out (fun x hx9 => (hnt x hx9).elim) hlocks hce9 hcv9 hcl9 (fun t8 ht8 hW8 => ⟨u9, (by
                show CI T u9 ∧ SY μ u9
                exact CI_thr hI hpx9), ⟨hE9, by rw [ht8, ← ht9]; exact hP9, va_K.moved hW8 hK⟩, hS.F ht8⟩) hS.2.2 (Nat.le_of_ble_eq_true rfl) (Nat.le_of_ble_eq_true rfl)
set_option maxHeartbeats 4000000 in
set_option maxRecDepth 100000 in
theorem p_times (l : Launch) (hfl : l.stackTraces = false) (dC : Nat → ClassId) (dI : Nat → Nat → Nat) (cI cZ cII cIII : ClassId) (h0 sz : Nat) (μ : va_M) (pg : Int) (nd : Int) (T : List Tk) (hI : CI T μ) (h_pg : inR pg) (h_nd : inR nd) : vx_Met l yX9_times (Cond.code yX9_times cX9_times 4 (some .int) :: wsG) ({ frames := 8, cells := 1, slots := 6, locals := 163 } : Room) (va_Pc [.ref h0, .int (iZ (pg)), .int (iZ (nd))] (fun U => U.heap.size = sz ∧ va_P (dC, dI) vwCl (fw (sE cI cZ cII cIII h0) h0 233 μ) U.heap ∧ va_K (dC, dI) vwCl (sT cI cZ cII cIII) U ∧ xM U ∧ xX (fA h0 233 sz) U)) (va_Qi (fun (r9 : Int32) (u : va_M × Int) => r9 = iZ u.2 ∧ (fun (u : va_M) (r : Int) => CI T u ∧ SY μ u) u.1 u.2) (fun u t => va_P (dC, dI) vwCl (fw (sE cI cZ cII cIII h0) h0 233 u.1) t.heap ∧ va_K (dC, dI) vwCl (sT cI cZ cII cIII) t) (fA h0 233 sz)) (vx_X (fun (u : va_M) => CI T u ∧ SY μ u) (fun E u t => E ∈ (["java/util/NoSuchElementException"] : List String) ∧ va_P (dC, dI) vwCl (fw (sE cI cZ cII cIII h0) h0 233 u) t.heap ∧ va_K (dC, dI) vwCl (sT cI cZ cII cIII) t) (fA h0 233 sz)) 1 6 (fA h0 233 sz) := by
  refine vx_ofW (cc := cX9_times) (maxL := 4) (ret := (some .int)) (by decide) rfl ?_
  intro p e s m args below meth c s₁ B hml hnt hv
  obtain ⟨rfl, hsz, hP, hK, hM, hEx⟩ := hv
  have hx := B.exec
  have hb := B.bytes
  have hr := B.returns
  have hts : ∀ w ∈ wsG, w.before _ s = true := hG_of (atoms_spec (ws := (Cond.code yX9_times cX9_times 4 (some .int) :: wsG)) B.pre)
  have hown : s.vm.findClass RX9 = some m.cls := findClass_of_methodNamed B.named
  have hlocks := B.notSynchronized
  subst hsz
  have hS : va_S (fA h0 233 s.heap.size) s.heap s.heap [] := va_S.rf
  have hl := lv_entry ([.ref h0, .int (iZ (pg)), .int (iZ (nd))]) (n := 4) (Nat.le_of_ble_eq_true rfl)
  rw [lg_entry_eq]
  generalize (lg_sl ([.ref h0, .int (iZ (pg)), .int (iZ (nd))]) ++ List.replicate (4 - (lg_sl ([.ref h0, .int (iZ (pg)), .int (iZ (nd))])).length) Slot.unset).toArray = ls at hl ⊢
  have hl : lv_has ls 4 [(0, .ref h0), (1, .int (iZ (pg))), (2, .int (iZ (nd)))] := hl
  have hlc := CI_lc hI
  have h66 := CI_n6 hI
  refine lv_aload_n hx hb dX9_times_0 rfl (lv_at hl 0 rfl) ?_
  refine lv_iload_n hx hb dX9_times_1 rfl (lv_at hl 1 rfl) ?_
  by_cases hn2_ : 0 ≤ pg ∧ pg < μ 0 2
  · refine va_callv (va_runV (As := [.int (iZ (pg))]) (rest := []) ⟨hx, hb, hml, hown, hts⟩ (s_needPage l dC dI cI cZ cII cIII h0 s.heap.size μ (pg) (by first | assumption | omega | exact CI_lc hI | exact CI_cn hI | exact (CI_n6 hI).1 | decide) (by first | assumption | omega | exact CI_lc hI | exact CI_cn hI | exact (CI_n6 hI).1 | decide) (by exact hn2_)) (cwV 1 hts (gV_G k735 k737 ks_yX9_needPage k1 k738) rfl rfl rfl (by decide +kernel) ⟨Nat.le_of_ble_eq_true rfl, Nat.le_of_ble_eq_true rfl⟩) ⟨fun a U g mk q => by obtain ⟨q0, q1, qP, qK, qM⟩ := q; exact ⟨q0, q1, qP, va_K.moved (u := U) (U := U.calling g mk a) (Vm.Alike.refl U.vm) qK, qM⟩, va_recv hK hP (ci := 9) (q0 := 0) rfl ((fw_get (by decide)).trans (by rw [sE_0]; rfl)), fun U hU hW => ⟨rfl, by rw [hU], by rw [hU]; exact hP, va_K.moved hW.alike hK, xM_warm hW hM⟩⟩ rfl rfl hl.1 rfl (lv_room (Nat.le_of_ble_eq_true rfl)) dX9_times_2 ⟨Nat.le_of_ble_eq_true rfl, Nat.le_of_ble_eq_true rfl⟩) hS (fun q _ h => fA_le hS.1 q h) (fA_le hS.1) (fun u9 t9 H1 locs ht9 hvm9 hw9 hB9 hz9 hk9 hS => ?_)
    obtain ⟨hP, -⟩ := hB9
    rw [ht9] at hP
    generalize H1 = H at hP hS ⊢
    obtain ⟨μ1, eμ1⟩ : ∃ x : va_M, x = u9 := ⟨_, rfl⟩
    rw [← eμ1] at hP hw9
    have hμ1 := hw9; clear hw9
    rw [hμ1] at hP
    refine lv_aload_n hx hb dX9_times_5 rfl (lv_at hl 0 rfl) ?_
    refine lv_aload_n hx hb dX9_times_6 rfl (lv_at hl 0 rfl) ?_
    refine fz_get (D := (dC, dI)) (ci := 9) (v := .ref (h0 + 6)) (C := RX9) (T := TX9) (N := 15) hx hb hts inG9 hown hK hP (k := 0) (by decide) (F := (sF0 h0)) sE_0 rfl 3 (by decide) (hts _ k335) (fun _ h9 => h9) rfl dX9_times_7 ?_
    refine lv_iload_n hx hb dX9_times_10 rfl (lv_at hl 2 rfl) ?_
    by_cases hn11_ : 0 ≤ nd ∧ nd < μ 6 6
    · refine va_callv (va_runV (As := [.ref (h0 + 6), .int (iZ (nd))]) (rest := []) ⟨hx, hb, hml, hown, hts⟩ (s_needNode l dC dI cI cZ cII cIII h0 H.size μ (6) (1100) (nd) (rowB_6) (by first | assumption | omega | exact CI_lc hI | exact CI_cn hI | exact (CI_n6 hI).1 | decide) (by first | assumption | omega | exact CI_lc hI | exact CI_cn hI | exact (CI_n6 hI).1 | decide) (by exact hn11_)) (cwV 2 hts (gV_G k914 k916 ks_yX9_needNode k1 k917) rfl rfl rfl (by decide +kernel) ⟨Nat.le_of_ble_eq_true rfl, Nat.le_of_ble_eq_true rfl⟩) ⟨fun a U g mk q => by obtain ⟨q0, q1, qP, qK, qM⟩ := q; exact ⟨q0, q1, qP, va_K.moved (u := U) (U := U.calling g mk a) (Vm.Alike.refl U.vm) qK, qM⟩, va_recv hK hP (ci := 9) (q0 := 0) rfl ((fw_get (by decide)).trans (by rw [sE_0]; rfl)), fun U hU hW => ⟨rfl, by rw [hU], by rw [hU]; exact hP, va_K.moved hW.alike hK, xM_warm hW hM⟩⟩ rfl rfl hl.1 rfl (lv_room (Nat.le_of_ble_eq_true rfl)) dX9_times_11 ⟨Nat.le_of_ble_eq_true rfl, Nat.le_of_ble_eq_true rfl⟩) hS (fun q _ h => fA_le hS.1 q h) (fA_le hS.1) (fun u9 t9 H1 locs ht9 hvm9 hw9 hB9 hz9 hk9 hS => ?_)
      obtain ⟨hP, -⟩ := hB9
      rw [ht9] at hP
      generalize H1 = H at hP hS ⊢
      obtain ⟨μ2, eμ2⟩ : ∃ x : va_M, x = u9 := ⟨_, rfl⟩
      rw [← eμ2] at hP hw9
      have hμ2 := hw9; clear hw9
      rw [hμ2] at hP
      refine lv_aload_n hx hb dX9_times_14 rfl (lv_at hl 0 rfl) ?_
      refine lv_iload_n hx hb dX9_times_15 rfl (lv_at hl 1 rfl) ?_
      refine va_callr (va_runV (As := [.int (iZ (pg))]) (rest := []) ⟨hx, hb, hml, hown, hts⟩ (s_walkOf l dC dI cI cZ cII cIII h0 H.size μ (pg) (T) (by exact hI) (by first | assumption | omega | exact CI_lc hI | exact CI_cn hI | exact (CI_n6 hI).1 | decide)) (cwV 1 hts (gV_G k535 k537 ks_yX9_walkOf k1 k538) rfl rfl rfl (by decide +kernel) ⟨Nat.le_of_ble_eq_true rfl, Nat.le_of_ble_eq_true rfl⟩) ⟨fun a U g mk q => by obtain ⟨q0, q1, qP, qK, qM⟩ := q; exact ⟨q0, q1, qP, va_K.moved (u := U) (U := U.calling g mk a) (Vm.Alike.refl U.vm) qK, qM⟩, va_recv hK hP (ci := 9) (q0 := 0) rfl ((fw_get (by decide)).trans (by rw [sE_0]; rfl)), fun U hU hW => ⟨rfl, by rw [hU], by rw [hU]; exact hP, va_K.moved hW.alike hK, xM_warm hW hM⟩⟩ rfl rfl hl.1 rfl (lv_room (Nat.le_of_ble_eq_true rfl)) dX9_times_16 ⟨Nat.le_of_ble_eq_true rfl, Nat.le_of_ble_eq_true rfl⟩) hS (fun q _ h => fA_le hS.1 q h) (fA_le hS.1) (fun u9 ra9 t9 H1 locs ht9 hvm9 hw9 hB9 hz9 hk9 hS => ?_)
      obtain ⟨hra9, hP, -⟩ := hB9
      subst hra9
      rw [ht9] at hP
      generalize H1 = H at hP hS ⊢
      obtain ⟨μw, eμw⟩ : ∃ x : va_M, x = u9 := ⟨_, rfl⟩
      rw [← eμw] at hP hw9
      have hμw := hw9; clear hw9
      obtain ⟨c1_, f1_⟩ := hμw
      have x66 : μw 6 6 = μ 6 6 := f1_ _ _ (by unfold WQ Zc; omega)
      obtain ⟨wl1, wl2⟩ := CI_lf c1_ pg (by omega) (by have := CI_lc hI; omega)
      have w66 := CI_n6 c1_
      refine lv_astore_n (lv' := [(3, .ref (h0 + ((113 + (pg).toNat * 15) + 10))), (0, .ref h0), (1, .int (iZ (pg))), (2, .int (iZ (nd)))]) hx hb dX9_times_19 rfl hl (by decide) rfl (fun ls hl => ?_)
      refine lv_aload_n hx hb dX9_times_20 rfl (lv_at hl 0 rfl) ?_
      refine va_calli (va_runV (As := []) (rest := []) ⟨hx, hb, hml, hown, hts⟩ (s_KisThrough l dC dI cI cZ cII cIII h0 H.size μw ((113 + (pg).toNat * 15)) ((pg).toNat) (rfl) ((show (pg).toNat < 8 by omega)) (by constructor <;> omega)) (cwV 0 hts (gV_G k579 k580 k581 k11 k582) rfl rfl rfl (by decide +kernel) ⟨Nat.le_of_ble_eq_true rfl, Nat.le_of_ble_eq_true rfl⟩) ⟨fun a U g mk q => by obtain ⟨q0, q1, qP, qK, qM⟩ := q; exact ⟨q0, q1, qP, va_K.moved (u := U) (U := U.calling g mk a) (Vm.Alike.refl U.vm) qK, qM⟩, va_recv hK hP (ci := 7) (q0 := ((113 + (pg).toNat * 15) + 10)) rfl ((fw_get (by omega)).trans (by rw [(sE_walk (show (pg).toNat < 8 by omega) rfl)])), fun U hU hW => ⟨rfl, by rw [hU], by rw [hU]; exact hP, va_K.moved hW.alike hK, xM_warm hW hM⟩⟩ rfl rfl hl.1 rfl (lv_room (Nat.le_of_ble_eq_true rfl)) dX9_times_21 ⟨Nat.le_of_ble_eq_true rfl, Nat.le_of_ble_eq_true rfl⟩) hS (fun q _ h => fA_le hS.1 q h) (fA_le hS.1) (fun r9 u9 t9 H1 locs ht9 hvm9 hw9 hB9 hz9 hk9 hS => ?_)
      obtain ⟨μi, ri⟩ := u9
      obtain ⟨hP, -⟩ := hB9
      rw [ht9] at hP
      generalize H1 = H at hP hS ⊢
      obtain ⟨e9, hw9⟩ := hw9
      have e9 : r9 = iZ ri := e9
      subst e9
      simp only at hP hw9
      have hμi := hw9; clear hw9
      rw [hμi.1] at hP; have hμi := hμi.2
      have hri := hμi
      refine fz_if_eq (tgt := 36) (by first | assumption | (constructor <;> omega) | decide) hx hb dX9_times_24 (by decide) (fun c24_ => ?_) (fun c24_ => ?_)
      · refine lv_iconst (v := iZ (-1)) hx hb dX9_times_36 rfl ?_
        exact W_widen (Nat.le_of_ble_eq_true rfl) (Nat.le_of_ble_eq_true rfl) (vx_ret (W.iret (v := iZ ((-1))) hx hb hr (fun t9 ht9 hW9 => ⟨⟨iZ ((-1)), (μw, (-1)), rfl, ⟨rfl, (by
                        dsimp only
                        exact ⟨c1_, SY_wq f1_⟩)⟩, by rw [ht9]; exact hP, va_K.moved hW9.alike hK⟩, hS.F ht9⟩) hS.2.2 dX9_times_37))
      · refine lv_aload_n hx hb dX9_times_27 rfl (lv_at hl 0 rfl) ?_
        refine fz_get (D := (dC, dI)) (ci := 7) (v := .ref (h0 + ((113 + (pg).toNat * 15) + 12))) (C := RX7) (T := TX7) (N := 5) hx hb hts inG7 hown hK hP (k := ((113 + (pg).toNat * 15) + 10)) (by omega) (F := (sWF h0 (113 + (pg).toNat * 15))) (sE_walk (show (pg).toNat < 8 by omega) rfl) rfl 3 (by decide) (hts _ k281) (fun _ h9 => h9) rfl dX9_times_28 ?_
        refine lv_iload_n hx hb dX9_times_31 rfl (lv_at hl 3 rfl) ?_
        refine fz_ld (k := ((113 + (pg).toNat * 15) + 12)) (n := 1100) hx hb hK hP 0 (by omega) (sE_leafA 12 1100 (show (pg).toNat < 8 by omega) rfl (by decide)) rfl ⟨by omega, by omega⟩ (by decide) dX9_times_32 ?_
        refine lv_goto (tgt := 37) hx hb dX9_times_33 (by decide) ?_
        exact W_widen (Nat.le_of_ble_eq_true rfl) (Nat.le_of_ble_eq_true rfl) (vx_ret (W.iret (v := iZ (μw ((113 + (pg).toNat * 15) + 12) (nd).toNat)) hx hb hr (fun t9 ht9 hW9 => ⟨⟨iZ (μw ((113 + (pg).toNat * 15) + 12) (nd).toNat), (μw, μw ((113 + (pg).toNat * 15) + 12) (nd).toNat), rfl, ⟨rfl, (by
                        dsimp only
                        exact ⟨c1_, SY_wq f1_⟩)⟩, by rw [ht9]; exact hP, va_K.moved hW9.alike hK⟩, hS.F ht9⟩) hS.2.2 dX9_times_37))
    · refine vx_callv (vx_runV (As := [.ref (h0 + 6), .int (iZ (nd))]) (rest := []) ⟨hx, hb, hml, hown, hts⟩ (x_needNode l hfl dC dI cI cZ cII cIII h0 H.size μ (6) (1100) (nd) (rowB_6) (by first | assumption | omega | exact CI_lc hI | exact CI_cn hI | exact (CI_n6 hI).1 | decide) (by first | assumption | omega | exact CI_lc hI | exact CI_cn hI | exact (CI_n6 hI).1 | decide) (hn11_)) (cwV 2 hts (gV_G k914 k916 ks_yX9_needNode k1 k917) rfl rfl rfl (by decide +kernel) ⟨Nat.le_of_ble_eq_true rfl, Nat.le_of_ble_eq_true rfl⟩) ⟨fun a U g mk q => by obtain ⟨q0, q1, qP, qK, qM, qE⟩ := q; exact ⟨q0, q1, qP, va_K.moved (u := U) (U := U.calling g mk a) (Vm.Alike.refl U.vm) qK, qM, xX_call qE⟩, va_recv hK hP (ci := 9) (q0 := 0) rfl ((fw_get (by decide)).trans (by rw [sE_0]; rfl)), fun U hU hW => ⟨rfl, by rw [hU], by rw [hU]; exact hP, va_K.moved hW.alike hK, xM_warm hW hM, xX_at hEx hS (fun q h => fA_le hS.1 q h) hU hW⟩⟩ rfl rfl hl.1 rfl (lv_room (Nat.le_of_ble_eq_true rfl)) dX9_times_11 ⟨Nat.le_of_ble_eq_true rfl, Nat.le_of_ble_eq_true rfl⟩) hS (fun q _ h => fA_le hS.1 q h) (fA_le hS.1) (fun q _ h => fA_le hS.1 q h) (fun E9 ce9 q9 u9 t9 H1 locs ht9 hvm9 hpx9 hBX9 hz9 hk9 hS hce9 hcv9 hcl9 => ?_) (fun u9 t9 H1 locs ht9 hvm9 hw9 hB9 hz9 hk9 hS => hw9.elim)
      obtain ⟨hE9, hP9, hK9⟩ := hBX9
      exact vx_out (fun x hx9 => (hnt x hx9).elim) hlocks hce9 hcv9 hcl9 (fun t8 ht8 hW8 => ⟨u9, (by
                    show CI T u9 ∧ SY μ u9
                    exact CI_thr hI hpx9), ⟨hE9, by rw [ht8, ← ht9]; exact hP9, va_K.moved hW8 hK⟩, hS.F ht8⟩) hS.2.2 (Nat.le_of_ble_eq_true rfl) (Nat.le_of_ble_eq_true rfl)
  · refine vx_callv (vx_runV (As := [.int (iZ (pg))]) (rest := []) ⟨hx, hb, hml, hown, hts⟩ (x_needPage l hfl dC dI cI cZ cII cIII h0 s.heap.size μ (pg) (by first | assumption | omega | exact CI_lc hI | exact CI_cn hI | exact (CI_n6 hI).1 | decide) (by first | assumption | omega | exact CI_lc hI | exact CI_cn hI | exact (CI_n6 hI).1 | decide) (hn2_)) (cwV 1 hts (gV_G k735 k737 ks_yX9_needPage k1 k738) rfl rfl rfl (by decide +kernel) ⟨Nat.le_of_ble_eq_true rfl, Nat.le_of_ble_eq_true rfl⟩) ⟨fun a U g mk q => by obtain ⟨q0, q1, qP, qK, qM, qE⟩ := q; exact ⟨q0, q1, qP, va_K.moved (u := U) (U := U.calling g mk a) (Vm.Alike.refl U.vm) qK, qM, xX_call qE⟩, va_recv hK hP (ci := 9) (q0 := 0) rfl ((fw_get (by decide)).trans (by rw [sE_0]; rfl)), fun U hU hW => ⟨rfl, by rw [hU], by rw [hU]; exact hP, va_K.moved hW.alike hK, xM_warm hW hM, xX_at hEx hS (fun q h => fA_le hS.1 q h) hU hW⟩⟩ rfl rfl hl.1 rfl (lv_room (Nat.le_of_ble_eq_true rfl)) dX9_times_2 ⟨Nat.le_of_ble_eq_true rfl, Nat.le_of_ble_eq_true rfl⟩) hS (fun q _ h => fA_le hS.1 q h) (fA_le hS.1) (fun q _ h => fA_le hS.1 q h) (fun E9 ce9 q9 u9 t9 H1 locs ht9 hvm9 hpx9 hBX9 hz9 hk9 hS hce9 hcv9 hcl9 => ?_) (fun u9 t9 H1 locs ht9 hvm9 hw9 hB9 hz9 hk9 hS => hw9.elim)
    obtain ⟨hE9, hP9, hK9⟩ := hBX9
    exact vx_out (fun x hx9 => (hnt x hx9).elim) hlocks hce9 hcv9 hcl9 (fun t8 ht8 hW8 => ⟨u9, (by
                show CI T u9 ∧ SY μ u9
                exact CI_thr hI hpx9), ⟨hE9, by rw [ht8, ← ht9]; exact hP9, va_K.moved hW8 hK⟩, hS.F ht8⟩) hS.2.2 (Nat.le_of_ble_eq_true rfl) (Nat.le_of_ble_eq_true rfl)
set_option maxHeartbeats 4000000 in
set_option maxRecDepth 100000 in
theorem p_passes (l : Launch) (hfl : l.stackTraces = false) (dC : Nat → ClassId) (dI : Nat → Nat → Nat) (cI cZ cII cIII : ClassId) (h0 sz : Nat) (μ : va_M) (pg : Int) (nd : Int) (T : List Tk) (hI : CI T μ) (h_pg : inR pg) (h_nd : inR nd) : vx_Met l yX9_passes (Cond.code yX9_passes cX9_passes 4 (some .int) :: wsG) ({ frames := 8, cells := 1, slots := 6, locals := 163 } : Room) (va_Pc [.ref h0, .int (iZ (pg)), .int (iZ (nd))] (fun U => U.heap.size = sz ∧ va_P (dC, dI) vwCl (fw (sE cI cZ cII cIII h0) h0 233 μ) U.heap ∧ va_K (dC, dI) vwCl (sT cI cZ cII cIII) U ∧ xM U ∧ xX (fA h0 233 sz) U)) (va_Qi (fun (r9 : Int32) (u : va_M × Int) => r9 = iZ u.2 ∧ (fun (u : va_M) (r : Int) => CI T u ∧ SY μ u) u.1 u.2) (fun u t => va_P (dC, dI) vwCl (fw (sE cI cZ cII cIII h0) h0 233 u.1) t.heap ∧ va_K (dC, dI) vwCl (sT cI cZ cII cIII) t) (fA h0 233 sz)) (vx_X (fun (u : va_M) => CI T u ∧ SY μ u) (fun E u t => E ∈ (["java/util/NoSuchElementException"] : List String) ∧ va_P (dC, dI) vwCl (fw (sE cI cZ cII cIII h0) h0 233 u) t.heap ∧ va_K (dC, dI) vwCl (sT cI cZ cII cIII) t) (fA h0 233 sz)) 1 6 (fA h0 233 sz) := by
  refine vx_ofW (cc := cX9_passes) (maxL := 4) (ret := (some .int)) (by decide) rfl ?_
  intro p e s m args below meth c s₁ B hml hnt hv
  obtain ⟨rfl, hsz, hP, hK, hM, hEx⟩ := hv
  have hx := B.exec
  have hb := B.bytes
  have hr := B.returns
  have hts : ∀ w ∈ wsG, w.before _ s = true := hG_of (atoms_spec (ws := (Cond.code yX9_passes cX9_passes 4 (some .int) :: wsG)) B.pre)
  have hown : s.vm.findClass RX9 = some m.cls := findClass_of_methodNamed B.named
  have hlocks := B.notSynchronized
  subst hsz
  have hS : va_S (fA h0 233 s.heap.size) s.heap s.heap [] := va_S.rf
  have hl := lv_entry ([.ref h0, .int (iZ (pg)), .int (iZ (nd))]) (n := 4) (Nat.le_of_ble_eq_true rfl)
  rw [lg_entry_eq]
  generalize (lg_sl ([.ref h0, .int (iZ (pg)), .int (iZ (nd))]) ++ List.replicate (4 - (lg_sl ([.ref h0, .int (iZ (pg)), .int (iZ (nd))])).length) Slot.unset).toArray = ls at hl ⊢
  have hl : lv_has ls 4 [(0, .ref h0), (1, .int (iZ (pg))), (2, .int (iZ (nd)))] := hl
  have hlc := CI_lc hI
  have h66 := CI_n6 hI
  refine lv_aload_n hx hb dX9_passes_0 rfl (lv_at hl 0 rfl) ?_
  refine lv_iload_n hx hb dX9_passes_1 rfl (lv_at hl 1 rfl) ?_
  by_cases hn2_ : 0 ≤ pg ∧ pg < μ 0 2
  · refine va_callv (va_runV (As := [.int (iZ (pg))]) (rest := []) ⟨hx, hb, hml, hown, hts⟩ (s_needPage l dC dI cI cZ cII cIII h0 s.heap.size μ (pg) (by first | assumption | omega | exact CI_lc hI | exact CI_cn hI | exact (CI_n6 hI).1 | decide) (by first | assumption | omega | exact CI_lc hI | exact CI_cn hI | exact (CI_n6 hI).1 | decide) (by exact hn2_)) (cwV 1 hts (gV_G k735 k737 ks_yX9_needPage k1 k738) rfl rfl rfl (by decide +kernel) ⟨Nat.le_of_ble_eq_true rfl, Nat.le_of_ble_eq_true rfl⟩) ⟨fun a U g mk q => by obtain ⟨q0, q1, qP, qK, qM⟩ := q; exact ⟨q0, q1, qP, va_K.moved (u := U) (U := U.calling g mk a) (Vm.Alike.refl U.vm) qK, qM⟩, va_recv hK hP (ci := 9) (q0 := 0) rfl ((fw_get (by decide)).trans (by rw [sE_0]; rfl)), fun U hU hW => ⟨rfl, by rw [hU], by rw [hU]; exact hP, va_K.moved hW.alike hK, xM_warm hW hM⟩⟩ rfl rfl hl.1 rfl (lv_room (Nat.le_of_ble_eq_true rfl)) dX9_passes_2 ⟨Nat.le_of_ble_eq_true rfl, Nat.le_of_ble_eq_true rfl⟩) hS (fun q _ h => fA_le hS.1 q h) (fA_le hS.1) (fun u9 t9 H1 locs ht9 hvm9 hw9 hB9 hz9 hk9 hS => ?_)
    obtain ⟨hP, -⟩ := hB9
    rw [ht9] at hP
    generalize H1 = H at hP hS ⊢
    obtain ⟨μ1, eμ1⟩ : ∃ x : va_M, x = u9 := ⟨_, rfl⟩
    rw [← eμ1] at hP hw9
    have hμ1 := hw9; clear hw9
    rw [hμ1] at hP
    refine lv_aload_n hx hb dX9_passes_5 rfl (lv_at hl 0 rfl) ?_
    refine lv_aload_n hx hb dX9_passes_6 rfl (lv_at hl 0 rfl) ?_
    refine fz_get (D := (dC, dI)) (ci := 9) (v := .ref (h0 + 6)) (C := RX9) (T := TX9) (N := 15) hx hb hts inG9 hown hK hP (k := 0) (by decide) (F := (sF0 h0)) sE_0 rfl 3 (by decide) (hts _ k335) (fun _ h9 => h9) rfl dX9_passes_7 ?_
    refine lv_iload_n hx hb dX9_passes_10 rfl (lv_at hl 2 rfl) ?_
    by_cases hn11_ : 0 ≤ nd ∧ nd < μ 6 6
    · refine va_callv (va_runV (As := [.ref (h0 + 6), .int (iZ (nd))]) (rest := []) ⟨hx, hb, hml, hown, hts⟩ (s_needNode l dC dI cI cZ cII cIII h0 H.size μ (6) (1100) (nd) (rowB_6) (by first | assumption | omega | exact CI_lc hI | exact CI_cn hI | exact (CI_n6 hI).1 | decide) (by first | assumption | omega | exact CI_lc hI | exact CI_cn hI | exact (CI_n6 hI).1 | decide) (by exact hn11_)) (cwV 2 hts (gV_G k914 k916 ks_yX9_needNode k1 k917) rfl rfl rfl (by decide +kernel) ⟨Nat.le_of_ble_eq_true rfl, Nat.le_of_ble_eq_true rfl⟩) ⟨fun a U g mk q => by obtain ⟨q0, q1, qP, qK, qM⟩ := q; exact ⟨q0, q1, qP, va_K.moved (u := U) (U := U.calling g mk a) (Vm.Alike.refl U.vm) qK, qM⟩, va_recv hK hP (ci := 9) (q0 := 0) rfl ((fw_get (by decide)).trans (by rw [sE_0]; rfl)), fun U hU hW => ⟨rfl, by rw [hU], by rw [hU]; exact hP, va_K.moved hW.alike hK, xM_warm hW hM⟩⟩ rfl rfl hl.1 rfl (lv_room (Nat.le_of_ble_eq_true rfl)) dX9_passes_11 ⟨Nat.le_of_ble_eq_true rfl, Nat.le_of_ble_eq_true rfl⟩) hS (fun q _ h => fA_le hS.1 q h) (fA_le hS.1) (fun u9 t9 H1 locs ht9 hvm9 hw9 hB9 hz9 hk9 hS => ?_)
      obtain ⟨hP, -⟩ := hB9
      rw [ht9] at hP
      generalize H1 = H at hP hS ⊢
      obtain ⟨μ2, eμ2⟩ : ∃ x : va_M, x = u9 := ⟨_, rfl⟩
      rw [← eμ2] at hP hw9
      have hμ2 := hw9; clear hw9
      rw [hμ2] at hP
      refine lv_aload_n hx hb dX9_passes_14 rfl (lv_at hl 0 rfl) ?_
      refine lv_iload_n hx hb dX9_passes_15 rfl (lv_at hl 1 rfl) ?_
      refine va_callr (va_runV (As := [.int (iZ (pg))]) (rest := []) ⟨hx, hb, hml, hown, hts⟩ (s_walkOf l dC dI cI cZ cII cIII h0 H.size μ (pg) (T) (by exact hI) (by first | assumption | omega | exact CI_lc hI | exact CI_cn hI | exact (CI_n6 hI).1 | decide)) (cwV 1 hts (gV_G k535 k537 ks_yX9_walkOf k1 k538) rfl rfl rfl (by decide +kernel) ⟨Nat.le_of_ble_eq_true rfl, Nat.le_of_ble_eq_true rfl⟩) ⟨fun a U g mk q => by obtain ⟨q0, q1, qP, qK, qM⟩ := q; exact ⟨q0, q1, qP, va_K.moved (u := U) (U := U.calling g mk a) (Vm.Alike.refl U.vm) qK, qM⟩, va_recv hK hP (ci := 9) (q0 := 0) rfl ((fw_get (by decide)).trans (by rw [sE_0]; rfl)), fun U hU hW => ⟨rfl, by rw [hU], by rw [hU]; exact hP, va_K.moved hW.alike hK, xM_warm hW hM⟩⟩ rfl rfl hl.1 rfl (lv_room (Nat.le_of_ble_eq_true rfl)) dX9_passes_16 ⟨Nat.le_of_ble_eq_true rfl, Nat.le_of_ble_eq_true rfl⟩) hS (fun q _ h => fA_le hS.1 q h) (fA_le hS.1) (fun u9 ra9 t9 H1 locs ht9 hvm9 hw9 hB9 hz9 hk9 hS => ?_)
      obtain ⟨hra9, hP, -⟩ := hB9
      subst hra9
      rw [ht9] at hP
      generalize H1 = H at hP hS ⊢
      obtain ⟨μw, eμw⟩ : ∃ x : va_M, x = u9 := ⟨_, rfl⟩
      rw [← eμw] at hP hw9
      have hμw := hw9; clear hw9
      obtain ⟨c1_, f1_⟩ := hμw
      have x66 : μw 6 6 = μ 6 6 := f1_ _ _ (by unfold WQ Zc; omega)
      obtain ⟨wl1, wl2⟩ := CI_lf c1_ pg (by omega) (by have := CI_lc hI; omega)
      have w66 := CI_n6 c1_
      refine lv_astore_n (lv' := [(3, .ref (h0 + ((113 + (pg).toNat * 15) + 10))), (0, .ref h0), (1, .int (iZ (pg))), (2, .int (iZ (nd)))]) hx hb dX9_passes_19 rfl hl (by decide) rfl (fun ls hl => ?_)
      refine lv_aload_n hx hb dX9_passes_20 rfl (lv_at hl 0 rfl) ?_
      refine va_calli (va_runV (As := []) (rest := []) ⟨hx, hb, hml, hown, hts⟩ (s_KisThrough l dC dI cI cZ cII cIII h0 H.size μw ((113 + (pg).toNat * 15)) ((pg).toNat) (rfl) ((show (pg).toNat < 8 by omega)) (by constructor <;> omega)) (cwV 0 hts (gV_G k579 k580 k581 k11 k582) rfl rfl rfl (by decide +kernel) ⟨Nat.le_of_ble_eq_true rfl, Nat.le_of_ble_eq_true rfl⟩) ⟨fun a U g mk q => by obtain ⟨q0, q1, qP, qK, qM⟩ := q; exact ⟨q0, q1, qP, va_K.moved (u := U) (U := U.calling g mk a) (Vm.Alike.refl U.vm) qK, qM⟩, va_recv hK hP (ci := 7) (q0 := ((113 + (pg).toNat * 15) + 10)) rfl ((fw_get (by omega)).trans (by rw [(sE_walk (show (pg).toNat < 8 by omega) rfl)])), fun U hU hW => ⟨rfl, by rw [hU], by rw [hU]; exact hP, va_K.moved hW.alike hK, xM_warm hW hM⟩⟩ rfl rfl hl.1 rfl (lv_room (Nat.le_of_ble_eq_true rfl)) dX9_passes_21 ⟨Nat.le_of_ble_eq_true rfl, Nat.le_of_ble_eq_true rfl⟩) hS (fun q _ h => fA_le hS.1 q h) (fA_le hS.1) (fun r9 u9 t9 H1 locs ht9 hvm9 hw9 hB9 hz9 hk9 hS => ?_)
      obtain ⟨μi, ri⟩ := u9
      obtain ⟨hP, -⟩ := hB9
      rw [ht9] at hP
      generalize H1 = H at hP hS ⊢
      obtain ⟨e9, hw9⟩ := hw9
      have e9 : r9 = iZ ri := e9
      subst e9
      simp only at hP hw9
      have hμi := hw9; clear hw9
      rw [hμi.1] at hP; have hμi := hμi.2
      have hri := hμi
      refine fz_if_eq (tgt := 50) (by first | assumption | (constructor <;> omega) | decide) hx hb dX9_passes_24 (by decide) (fun c24_ => ?_) (fun c24_ => ?_)
      · refine lv_iconst (v := iZ (-1)) hx hb dX9_passes_50 rfl ?_
        exact W_widen (Nat.le_of_ble_eq_true rfl) (Nat.le_of_ble_eq_true rfl) (vx_ret (W.iret (v := iZ ((-1))) hx hb hr (fun t9 ht9 hW9 => ⟨⟨iZ ((-1)), (μw, (-1)), rfl, ⟨rfl, (by
                        dsimp only
                        exact ⟨c1_, SY_wq f1_⟩)⟩, by rw [ht9]; exact hP, va_K.moved hW9.alike hK⟩, hS.F ht9⟩) hS.2.2 dX9_passes_51))
      · have pp := rG_p c1_.1.2.2.1 nd (by omega) (by omega)
        have ss := c1_.1.2.2.1.1 (μw (6 + 5) nd.toNat).toNat
        refine lv_aload_n hx hb dX9_passes_27 rfl (lv_at hl 1 rfl) ?_
        refine fz_get (D := (dC, dI)) (ci := 9) (v := .ref (h0 + 6)) (C := RX9) (T := TX9) (N := 15) hx hb hts inG9 hown hK hP (k := 0) (by decide) (F := (sF0 h0)) sE_0 rfl 3 (by decide) (hts _ k335) (fun _ h9 => h9) rfl dX9_passes_28 ?_
        refine lv_iload_n hx hb dX9_passes_31 rfl (lv_at hl 3 rfl) ?_
        refine va_calli (va_runV (As := [.int (iZ (nd))]) (rest := []) ⟨hx, hb, hml, hown, hts⟩ (s_RcodeOf l dC dI cI cZ cII cIII h0 H.size μw (6) (1100) (nd) (rowB_6) (by omega) (by omega)) (cwV 1 hts (gV_G k983 k984 k985 k3 k986) rfl rfl rfl (by decide +kernel) ⟨Nat.le_of_ble_eq_true rfl, Nat.le_of_ble_eq_true rfl⟩) ⟨fun a U g mk q => by obtain ⟨q0, q1, qP, qK, qM⟩ := q; exact ⟨q0, q1, qP, va_K.moved (u := U) (U := U.calling g mk a) (Vm.Alike.refl U.vm) qK, qM⟩, va_recv hK hP (ci := 4) (q0 := 6) rfl ((fw_get (by decide)).trans (by rw [(sE_rowO rowB_6)])), fun U hU hW => ⟨rfl, by rw [hU], by rw [hU]; exact hP, va_K.moved hW.alike hK, xM_warm hW hM⟩⟩ rfl rfl hl.1 rfl (lv_room (Nat.le_of_ble_eq_true rfl)) dX9_passes_32 ⟨Nat.le_of_ble_eq_true rfl, Nat.le_of_ble_eq_true rfl⟩) hS (fun q _ h => fA_le hS.1 q h) (fA_le hS.1) (fun r9 u9 t9 H1 locs ht9 hvm9 hw9 hB9 hz9 hk9 hS => ?_)
        obtain ⟨μk, rk⟩ := u9
        obtain ⟨hP, -⟩ := hB9
        rw [ht9] at hP
        generalize H1 = H at hP hS ⊢
        obtain ⟨e9, hw9⟩ := hw9
        have e9 : r9 = iZ rk := e9
        subst e9
        simp only at hP hw9
        have hμk := hw9; clear hw9
        rw [hμk.1] at hP; have hμk := hμk.2
        have hrk := hμk
        refine lv_sipush (v := iZ 514) hx hb dX9_passes_35 rfl ?_
        refine fz_icmp_ne (tgt := 50) (by first | assumption | (constructor <;> omega) | decide) (by decide) hx hb dX9_passes_38 (by decide) (fun c38_ => ?_) (fun c38_ => ?_)
        · refine lv_iconst (v := iZ (-1)) hx hb dX9_passes_50 rfl ?_
          exact W_widen (Nat.le_of_ble_eq_true rfl) (Nat.le_of_ble_eq_true rfl) (vx_ret (W.iret (v := iZ ((-1))) hx hb hr (fun t9 ht9 hW9 => ⟨⟨iZ ((-1)), (μw, (-1)), rfl, ⟨rfl, (by
                            dsimp only
                            exact ⟨c1_, SY_wq f1_⟩)⟩, by rw [ht9]; exact hP, va_K.moved hW9.alike hK⟩, hS.F ht9⟩) hS.2.2 dX9_passes_51))
        · refine lv_aload_n hx hb dX9_passes_41 rfl (lv_at hl 0 rfl) ?_
          refine fz_get (D := (dC, dI)) (ci := 7) (v := .ref (h0 + ((113 + (pg).toNat * 15) + 13))) (C := RX7) (T := TX7) (N := 5) hx hb hts inG7 hown hK hP (k := ((113 + (pg).toNat * 15) + 10)) (by omega) (F := (sWF h0 (113 + (pg).toNat * 15))) (sE_walk (show (pg).toNat < 8 by omega) rfl) rfl 4 (by decide) (hts _ k284) (fun _ h9 => h9) rfl dX9_passes_42 ?_
          refine lv_iload_n hx hb dX9_passes_45 rfl (lv_at hl 3 rfl) ?_
          refine fz_ld (k := ((113 + (pg).toNat * 15) + 13)) (n := 1100) hx hb hK hP 0 (by omega) (sE_leafA 13 1100 (show (pg).toNat < 8 by omega) rfl (by decide)) rfl ⟨by omega, by omega⟩ (by decide) dX9_passes_46 ?_
          refine lv_goto (tgt := 51) hx hb dX9_passes_47 (by decide) ?_
          exact W_widen (Nat.le_of_ble_eq_true rfl) (Nat.le_of_ble_eq_true rfl) (vx_ret (W.iret (v := iZ (μw ((113 + (pg).toNat * 15) + 13) (nd).toNat)) hx hb hr (fun t9 ht9 hW9 => ⟨⟨iZ (μw ((113 + (pg).toNat * 15) + 13) (nd).toNat), (μw, μw ((113 + (pg).toNat * 15) + 13) (nd).toNat), rfl, ⟨rfl, (by
                            dsimp only
                            exact ⟨c1_, SY_wq f1_⟩)⟩, by rw [ht9]; exact hP, va_K.moved hW9.alike hK⟩, hS.F ht9⟩) hS.2.2 dX9_passes_51))
    · refine vx_callv (vx_runV (As := [.ref (h0 + 6), .int (iZ (nd))]) (rest := []) ⟨hx, hb, hml, hown, hts⟩ (x_needNode l hfl dC dI cI cZ cII cIII h0 H.size μ (6) (1100) (nd) (rowB_6) (by first | assumption | omega | exact CI_lc hI | exact CI_cn hI | exact (CI_n6 hI).1 | decide) (by first | assumption | omega | exact CI_lc hI | exact CI_cn hI | exact (CI_n6 hI).1 | decide) (hn11_)) (cwV 2 hts (gV_G k914 k916 ks_yX9_needNode k1 k917) rfl rfl rfl (by decide +kernel) ⟨Nat.le_of_ble_eq_true rfl, Nat.le_of_ble_eq_true rfl⟩) ⟨fun a U g mk q => by obtain ⟨q0, q1, qP, qK, qM, qE⟩ := q; exact ⟨q0, q1, qP, va_K.moved (u := U) (U := U.calling g mk a) (Vm.Alike.refl U.vm) qK, qM, xX_call qE⟩, va_recv hK hP (ci := 9) (q0 := 0) rfl ((fw_get (by decide)).trans (by rw [sE_0]; rfl)), fun U hU hW => ⟨rfl, by rw [hU], by rw [hU]; exact hP, va_K.moved hW.alike hK, xM_warm hW hM, xX_at hEx hS (fun q h => fA_le hS.1 q h) hU hW⟩⟩ rfl rfl hl.1 rfl (lv_room (Nat.le_of_ble_eq_true rfl)) dX9_passes_11 ⟨Nat.le_of_ble_eq_true rfl, Nat.le_of_ble_eq_true rfl⟩) hS (fun q _ h => fA_le hS.1 q h) (fA_le hS.1) (fun q _ h => fA_le hS.1 q h) (fun E9 ce9 q9 u9 t9 H1 locs ht9 hvm9 hpx9 hBX9 hz9 hk9 hS hce9 hcv9 hcl9 => ?_) (fun u9 t9 H1 locs ht9 hvm9 hw9 hB9 hz9 hk9 hS => hw9.elim)
      obtain ⟨hE9, hP9, hK9⟩ := hBX9
      exact vx_out (fun x hx9 => (hnt x hx9).elim) hlocks hce9 hcv9 hcl9 (fun t8 ht8 hW8 => ⟨u9, (by
                    show CI T u9 ∧ SY μ u9
                    exact CI_thr hI hpx9), ⟨hE9, by rw [ht8, ← ht9]; exact hP9, va_K.moved hW8 hK⟩, hS.F ht8⟩) hS.2.2 (Nat.le_of_ble_eq_true rfl) (Nat.le_of_ble_eq_true rfl)
  · refine vx_callv (vx_runV (As := [.int (iZ (pg))]) (rest := []) ⟨hx, hb, hml, hown, hts⟩ (x_needPage l hfl dC dI cI cZ cII cIII h0 s.heap.size μ (pg) (by first | assumption | omega | exact CI_lc hI | exact CI_cn hI | exact (CI_n6 hI).1 | decide) (by first | assumption | omega | exact CI_lc hI | exact CI_cn hI | exact (CI_n6 hI).1 | decide) (hn2_)) (cwV 1 hts (gV_G k735 k737 ks_yX9_needPage k1 k738) rfl rfl rfl (by decide +kernel) ⟨Nat.le_of_ble_eq_true rfl, Nat.le_of_ble_eq_true rfl⟩) ⟨fun a U g mk q => by obtain ⟨q0, q1, qP, qK, qM, qE⟩ := q; exact ⟨q0, q1, qP, va_K.moved (u := U) (U := U.calling g mk a) (Vm.Alike.refl U.vm) qK, qM, xX_call qE⟩, va_recv hK hP (ci := 9) (q0 := 0) rfl ((fw_get (by decide)).trans (by rw [sE_0]; rfl)), fun U hU hW => ⟨rfl, by rw [hU], by rw [hU]; exact hP, va_K.moved hW.alike hK, xM_warm hW hM, xX_at hEx hS (fun q h => fA_le hS.1 q h) hU hW⟩⟩ rfl rfl hl.1 rfl (lv_room (Nat.le_of_ble_eq_true rfl)) dX9_passes_2 ⟨Nat.le_of_ble_eq_true rfl, Nat.le_of_ble_eq_true rfl⟩) hS (fun q _ h => fA_le hS.1 q h) (fA_le hS.1) (fun q _ h => fA_le hS.1 q h) (fun E9 ce9 q9 u9 t9 H1 locs ht9 hvm9 hpx9 hBX9 hz9 hk9 hS hce9 hcv9 hcl9 => ?_) (fun u9 t9 H1 locs ht9 hvm9 hw9 hB9 hz9 hk9 hS => hw9.elim)
    obtain ⟨hE9, hP9, hK9⟩ := hBX9
    exact vx_out (fun x hx9 => (hnt x hx9).elim) hlocks hce9 hcv9 hcl9 (fun t8 ht8 hW8 => ⟨u9, (by
                show CI T u9 ∧ SY μ u9
                exact CI_thr hI hpx9), ⟨hE9, by rw [ht8, ← ht9]; exact hP9, va_K.moved hW8 hK⟩, hS.F ht8⟩) hS.2.2 (Nat.le_of_ble_eq_true rfl) (Nat.le_of_ble_eq_true rfl)
set_option maxHeartbeats 4000000 in
set_option maxRecDepth 100000 in
theorem p_taker (l : Launch) (hfl : l.stackTraces = false) (dC : Nat → ClassId) (dI : Nat → Nat → Nat) (cI cZ cII cIII : ClassId) (h0 sz : Nat) (μ : va_M) (pg : Int) (kn : Int) (T : List Tk) (hI : CI T μ) (h_pg : inR pg) (h_kn : inR kn) : vx_Met l yX9_taker (Cond.code yX9_taker cX9_taker 4 (some .int) :: wsG) ({ frames := 9, cells := 1, slots := 6, locals := 163 } : Room) (va_Pc [.ref h0, .int (iZ (pg)), .int (iZ (kn))] (fun U => U.heap.size = sz ∧ va_P (dC, dI) vwCl (fw (sE cI cZ cII cIII h0) h0 233 μ) U.heap ∧ va_K (dC, dI) vwCl (sT cI cZ cII cIII) U ∧ xM U ∧ xX (fA h0 233 sz) U)) (va_Qi (fun (r9 : Int32) (u : va_M × Int) => r9 = iZ u.2 ∧ (fun (u : va_M) (r : Int) => CI T u ∧ SY μ u) u.1 u.2) (fun u t => va_P (dC, dI) vwCl (fw (sE cI cZ cII cIII h0) h0 233 u.1) t.heap ∧ va_K (dC, dI) vwCl (sT cI cZ cII cIII) t) (fA h0 233 sz)) (vx_X (fun (u : va_M) => CI T u ∧ SY μ u) (fun E u t => E ∈ (["java/util/NoSuchElementException"] : List String) ∧ va_P (dC, dI) vwCl (fw (sE cI cZ cII cIII h0) h0 233 u) t.heap ∧ va_K (dC, dI) vwCl (sT cI cZ cII cIII) t) (fA h0 233 sz)) 1 6 (fA h0 233 sz) := by
  refine vx_ofW (cc := cX9_taker) (maxL := 4) (ret := (some .int)) (by decide) rfl ?_
  intro p e s m args below meth c s₁ B hml hnt hv
  obtain ⟨rfl, hsz, hP, hK, hM, hEx⟩ := hv
  have hx := B.exec
  have hb := B.bytes
  have hr := B.returns
  have hts : ∀ w ∈ wsG, w.before _ s = true := hG_of (atoms_spec (ws := (Cond.code yX9_taker cX9_taker 4 (some .int) :: wsG)) B.pre)
  have hown : s.vm.findClass RX9 = some m.cls := findClass_of_methodNamed B.named
  have hlocks := B.notSynchronized
  subst hsz
  have hS : va_S (fA h0 233 s.heap.size) s.heap s.heap [] := va_S.rf
  have hl := lv_entry ([.ref h0, .int (iZ (pg)), .int (iZ (kn))]) (n := 4) (Nat.le_of_ble_eq_true rfl)
  rw [lg_entry_eq]
  generalize (lg_sl ([.ref h0, .int (iZ (pg)), .int (iZ (kn))]) ++ List.replicate (4 - (lg_sl ([.ref h0, .int (iZ (pg)), .int (iZ (kn))])).length) Slot.unset).toArray = ls at hl ⊢
  have hl : lv_has ls 4 [(0, .ref h0), (1, .int (iZ (pg))), (2, .int (iZ (kn)))] := hl
  have hlc := CI_lc hI
  have h66 := CI_n6 hI
  refine lv_aload_n hx hb dX9_taker_0 rfl (lv_at hl 0 rfl) ?_
  refine lv_iload_n hx hb dX9_taker_1 rfl (lv_at hl 1 rfl) ?_
  refine lv_iload_n hx hb dX9_taker_2 rfl (lv_at hl 2 rfl) ?_
  by_cases hn3_ : (0 ≤ pg ∧ pg < μ 0 2) ∧ 0 ≤ kn ∧ kn < μ (113 + (pg).toNat * 15) 2
  · refine va_callv (va_runV (As := [.int (iZ (pg)), .int (iZ (kn))]) (rest := []) ⟨hx, hb, hml, hown, hts⟩ (s_needPlace l dC dI cI cZ cII cIII h0 s.heap.size μ (pg) (kn) (by first | assumption | omega | exact CI_lc hI | exact CI_cn hI | exact (CI_n6 hI).1 | decide) (by first | assumption | omega | exact CI_lc hI | exact CI_cn hI | exact (CI_n6 hI).1 | decide) (by first | assumption | omega | exact CI_lc hI | exact CI_cn hI | exact (CI_n6 hI).1 | decide) (by first | assumption | omega | exact CI_lc hI | exact CI_cn hI | exact (CI_n6 hI).1 | decide) (by exact hn3_)) (cwV 2 hts (gV_G k878 k880 ks_yX9_needPlace k1 k881) rfl rfl rfl (by decide +kernel) ⟨Nat.le_of_ble_eq_true rfl, Nat.le_of_ble_eq_true rfl⟩) ⟨fun a U g mk q => by obtain ⟨q0, q1, qP, qK, qM⟩ := q; exact ⟨q0, q1, qP, va_K.moved (u := U) (U := U.calling g mk a) (Vm.Alike.refl U.vm) qK, qM⟩, va_recv hK hP (ci := 9) (q0 := 0) rfl ((fw_get (by decide)).trans (by rw [sE_0]; rfl)), fun U hU hW => ⟨rfl, by rw [hU], by rw [hU]; exact hP, va_K.moved hW.alike hK, xM_warm hW hM⟩⟩ rfl rfl hl.1 rfl (lv_room (Nat.le_of_ble_eq_true rfl)) dX9_taker_3 ⟨Nat.le_of_ble_eq_true rfl, Nat.le_of_ble_eq_true rfl⟩) hS (fun q _ h => fA_le hS.1 q h) (fA_le hS.1) (fun u9 t9 H1 locs ht9 hvm9 hw9 hB9 hz9 hk9 hS => ?_)
    obtain ⟨hP, -⟩ := hB9
    rw [ht9] at hP
    generalize H1 = H at hP hS ⊢
    obtain ⟨μ1, eμ1⟩ : ∃ x : va_M, x = u9 := ⟨_, rfl⟩
    rw [← eμ1] at hP hw9
    have hμ1 := hw9; clear hw9
    rw [hμ1] at hP
    obtain ⟨hl1, hl2⟩ := CI_lf hI pg (by omega) (by omega)
    have hn9 := hl1.1.1
    refine lv_aload_n hx hb dX9_taker_6 rfl (lv_at hl 0 rfl) ?_
    refine lv_iload_n hx hb dX9_taker_7 rfl (lv_at hl 1 rfl) ?_
    refine va_callr (va_runV (As := [.int (iZ (pg))]) (rest := []) ⟨hx, hb, hml, hown, hts⟩ (s_walkOf l dC dI cI cZ cII cIII h0 H.size μ (pg) (T) (by exact hI) (by first | assumption | omega | exact CI_lc hI | exact CI_cn hI | exact (CI_n6 hI).1 | decide)) (cwV 1 hts (gV_G k535 k537 ks_yX9_walkOf k1 k538) rfl rfl rfl (by decide +kernel) ⟨Nat.le_of_ble_eq_true rfl, Nat.le_of_ble_eq_true rfl⟩) ⟨fun a U g mk q => by obtain ⟨q0, q1, qP, qK, qM⟩ := q; exact ⟨q0, q1, qP, va_K.moved (u := U) (U := U.calling g mk a) (Vm.Alike.refl U.vm) qK, qM⟩, va_recv hK hP (ci := 9) (q0 := 0) rfl ((fw_get (by decide)).trans (by rw [sE_0]; rfl)), fun U hU hW => ⟨rfl, by rw [hU], by rw [hU]; exact hP, va_K.moved hW.alike hK, xM_warm hW hM⟩⟩ rfl rfl hl.1 rfl (lv_room (Nat.le_of_ble_eq_true rfl)) dX9_taker_8 ⟨Nat.le_of_ble_eq_true rfl, Nat.le_of_ble_eq_true rfl⟩) hS (fun q _ h => fA_le hS.1 q h) (fA_le hS.1) (fun u9 ra9 t9 H1 locs ht9 hvm9 hw9 hB9 hz9 hk9 hS => ?_)
    obtain ⟨hra9, hP, -⟩ := hB9
    subst hra9
    rw [ht9] at hP
    generalize H1 = H at hP hS ⊢
    obtain ⟨μw, eμw⟩ : ∃ x : va_M, x = u9 := ⟨_, rfl⟩
    rw [← eμw] at hP hw9
    have hμw := hw9; clear hw9
    obtain ⟨c1_, f1_⟩ := hμw
    have x66 : μw 6 6 = μ 6 6 := f1_ _ _ (by unfold WQ Zc; omega)
    obtain ⟨wl1, wl2⟩ := CI_lf c1_ pg (by omega) (by have := CI_lc hI; omega)
    have w66 := CI_n6 c1_
    refine lv_astore_n (lv' := [(3, .ref (h0 + ((113 + (pg).toNat * 15) + 10))), (0, .ref h0), (1, .int (iZ (pg))), (2, .int (iZ (kn)))]) hx hb dX9_taker_11 rfl hl (by decide) rfl (fun ls hl => ?_)
    refine lv_aload_n hx hb dX9_taker_12 rfl (lv_at hl 0 rfl) ?_
    refine va_calli (va_runV (As := []) (rest := []) ⟨hx, hb, hml, hown, hts⟩ (s_KisThrough l dC dI cI cZ cII cIII h0 H.size μw ((113 + (pg).toNat * 15)) ((pg).toNat) (rfl) ((show (pg).toNat < 8 by omega)) (by constructor <;> omega)) (cwV 0 hts (gV_G k579 k580 k581 k11 k582) rfl rfl rfl (by decide +kernel) ⟨Nat.le_of_ble_eq_true rfl, Nat.le_of_ble_eq_true rfl⟩) ⟨fun a U g mk q => by obtain ⟨q0, q1, qP, qK, qM⟩ := q; exact ⟨q0, q1, qP, va_K.moved (u := U) (U := U.calling g mk a) (Vm.Alike.refl U.vm) qK, qM⟩, va_recv hK hP (ci := 7) (q0 := ((113 + (pg).toNat * 15) + 10)) rfl ((fw_get (by omega)).trans (by rw [(sE_walk (show (pg).toNat < 8 by omega) rfl)])), fun U hU hW => ⟨rfl, by rw [hU], by rw [hU]; exact hP, va_K.moved hW.alike hK, xM_warm hW hM⟩⟩ rfl rfl hl.1 rfl (lv_room (Nat.le_of_ble_eq_true rfl)) dX9_taker_13 ⟨Nat.le_of_ble_eq_true rfl, Nat.le_of_ble_eq_true rfl⟩) hS (fun q _ h => fA_le hS.1 q h) (fA_le hS.1) (fun r9 u9 t9 H1 locs ht9 hvm9 hw9 hB9 hz9 hk9 hS => ?_)
    obtain ⟨μi, ri⟩ := u9
    obtain ⟨hP, -⟩ := hB9
    rw [ht9] at hP
    generalize H1 = H at hP hS ⊢
    obtain ⟨e9, hw9⟩ := hw9
    have e9 : r9 = iZ ri := e9
    subst e9
    simp only at hP hw9
    have hμi := hw9; clear hw9
    rw [hμi.1] at hP; have hμi := hμi.2
    have hri := hμi
    refine fz_if_eq (tgt := 28) (by first | assumption | (constructor <;> omega) | decide) hx hb dX9_taker_16 (by decide) (fun c16_ => ?_) (fun c16_ => ?_)
    · refine lv_iconst (v := iZ (-1)) hx hb dX9_taker_28 rfl ?_
      exact W_widen (Nat.le_of_ble_eq_true rfl) (Nat.le_of_ble_eq_true rfl) (vx_ret (W.iret (v := iZ ((-1))) hx hb hr (fun t9 ht9 hW9 => ⟨⟨iZ ((-1)), (μw, (-1)), rfl, ⟨rfl, (by
                    dsimp only
                    exact ⟨c1_, SY_wq f1_⟩)⟩, by rw [ht9]; exact hP, va_K.moved hW9.alike hK⟩, hS.F ht9⟩) hS.2.2 dX9_taker_29))
    · refine lv_aload_n hx hb dX9_taker_19 rfl (lv_at hl 0 rfl) ?_
      refine fz_get (D := (dC, dI)) (ci := 7) (v := .ref (h0 + ((113 + (pg).toNat * 15) + 11))) (C := RX7) (T := TX7) (N := 5) hx hb hts inG7 hown hK hP (k := ((113 + (pg).toNat * 15) + 10)) (by omega) (F := (sWF h0 (113 + (pg).toNat * 15))) (sE_walk (show (pg).toNat < 8 by omega) rfl) rfl 2 (by decide) (hts _ k278) (fun _ h9 => h9) rfl dX9_taker_20 ?_
      refine lv_iload_n hx hb dX9_taker_23 rfl (lv_at hl 3 rfl) ?_
      refine fz_ld (k := ((113 + (pg).toNat * 15) + 11)) (n := 60) hx hb hK hP 0 (by omega) (sE_leafA 11 60 (show (pg).toNat < 8 by omega) rfl (by decide)) rfl ⟨by omega, by omega⟩ (by decide) dX9_taker_24 ?_
      refine lv_goto (tgt := 29) hx hb dX9_taker_25 (by decide) ?_
      exact W_widen (Nat.le_of_ble_eq_true rfl) (Nat.le_of_ble_eq_true rfl) (vx_ret (W.iret (v := iZ (μw ((113 + (pg).toNat * 15) + 11) (kn).toNat)) hx hb hr (fun t9 ht9 hW9 => ⟨⟨iZ (μw ((113 + (pg).toNat * 15) + 11) (kn).toNat), (μw, μw ((113 + (pg).toNat * 15) + 11) (kn).toNat), rfl, ⟨rfl, (by
                    dsimp only
                    exact ⟨c1_, SY_wq f1_⟩)⟩, by rw [ht9]; exact hP, va_K.moved hW9.alike hK⟩, hS.F ht9⟩) hS.2.2 dX9_taker_29))
  · refine vx_callv (vx_runV (As := [.int (iZ (pg)), .int (iZ (kn))]) (rest := []) ⟨hx, hb, hml, hown, hts⟩ (x_needPlace l hfl dC dI cI cZ cII cIII h0 s.heap.size μ (pg) (kn) (by first | assumption | omega | exact CI_lc hI | exact CI_cn hI | exact (CI_n6 hI).1 | decide) (by first | assumption | omega | exact CI_lc hI | exact CI_cn hI | exact (CI_n6 hI).1 | decide) (by first | assumption | omega | exact CI_lc hI | exact CI_cn hI | exact (CI_n6 hI).1 | decide) (by first | assumption | omega | exact CI_lc hI | exact CI_cn hI | exact (CI_n6 hI).1 | decide) (hn3_)) (cwV 2 hts (gV_G k878 k880 ks_yX9_needPlace k1 k881) rfl rfl rfl (by decide +kernel) ⟨Nat.le_of_ble_eq_true rfl, Nat.le_of_ble_eq_true rfl⟩) ⟨fun a U g mk q => by obtain ⟨q0, q1, qP, qK, qM, qE⟩ := q; exact ⟨q0, q1, qP, va_K.moved (u := U) (U := U.calling g mk a) (Vm.Alike.refl U.vm) qK, qM, xX_call qE⟩, va_recv hK hP (ci := 9) (q0 := 0) rfl ((fw_get (by decide)).trans (by rw [sE_0]; rfl)), fun U hU hW => ⟨rfl, by rw [hU], by rw [hU]; exact hP, va_K.moved hW.alike hK, xM_warm hW hM, xX_at hEx hS (fun q h => fA_le hS.1 q h) hU hW⟩⟩ rfl rfl hl.1 rfl (lv_room (Nat.le_of_ble_eq_true rfl)) dX9_taker_3 ⟨Nat.le_of_ble_eq_true rfl, Nat.le_of_ble_eq_true rfl⟩) hS (fun q _ h => fA_le hS.1 q h) (fA_le hS.1) (fun q _ h => fA_le hS.1 q h) (fun E9 ce9 q9 u9 t9 H1 locs ht9 hvm9 hpx9 hBX9 hz9 hk9 hS hce9 hcv9 hcl9 => ?_) (fun u9 t9 H1 locs ht9 hvm9 hw9 hB9 hz9 hk9 hS => hw9.elim)
    obtain ⟨hE9, hP9, hK9⟩ := hBX9
    exact vx_out (fun x hx9 => (hnt x hx9).elim) hlocks hce9 hcv9 hcl9 (fun t8 ht8 hW8 => ⟨u9, (by
                show CI T u9 ∧ SY μ u9
                exact CI_thr hI hpx9), ⟨hE9, by rw [ht8, ← ht9]; exact hP9, va_K.moved hW8 hK⟩, hS.F ht8⟩) hS.2.2 (Nat.le_of_ble_eq_true rfl) (Nat.le_of_ble_eq_true rfl)
set_option maxHeartbeats 4000000 in
set_option maxRecDepth 100000 in
theorem p_shortest (l : Launch) (dC : Nat → ClassId) (dI : Nat → Nat → Nat) (cI cZ cII cIII : ClassId) (h0 sz : Nat) (μ : va_M) (T : List Tk) (hI : CI T μ) : Met l yX9_shortest (Cond.code yX9_shortest cX9_shortest 1 (some .int) :: wsG) ({ frames := 3, cells := 0, slots := 0, locals := 61 } : Room) (va_Pc [.ref h0] (fun U => U.heap.size = sz ∧ va_P (dC, dI) vwCl (fw (sE cI cZ cII cIII h0) h0 233 μ) U.heap ∧ va_K (dC, dI) vwCl (sT cI cZ cII cIII) U ∧ xM U)) (va_Qi (fun (r9 : Int32) (u : va_M × Int) => r9 = iZ u.2 ∧ (fun (u : va_M) (r : Int) => CI T u ∧ SY μ u) u.1 u.2) (fun u t => va_P (dC, dI) vwCl (fw (sE cI cZ cII cIII h0) h0 233 u.1) t.heap ∧ va_K (dC, dI) vwCl (sT cI cZ cII cIII) t) (fA h0 233 sz)) 0 0 (fA h0 233 sz) := by
  refine Met.ofW (cc := cX9_shortest) (maxL := 1) (ret := (some .int)) (by decide) rfl ?_
  intro p e s m args below meth c s₁ B hml hv
  obtain ⟨rfl, hsz, hP, hK, hM⟩ := hv
  have hx := B.exec
  have hb := B.bytes
  have hr := B.returns
  have hts : ∀ w ∈ wsG, w.before _ s = true := hG_of (atoms_spec (ws := (Cond.code yX9_shortest cX9_shortest 1 (some .int) :: wsG)) B.pre)
  have hown : s.vm.findClass RX9 = some m.cls := findClass_of_methodNamed B.named
  have hlocks := B.notSynchronized
  subst hsz
  have hS : va_S (fA h0 233 s.heap.size) s.heap s.heap [] := va_S.rf
  have hl := lv_entry ([.ref h0]) (n := 1) (Nat.le_of_ble_eq_true rfl)
  rw [lg_entry_eq]
  generalize (lg_sl ([.ref h0]) ++ List.replicate (1 - (lg_sl ([.ref h0])).length) Slot.unset).toArray = ls at hl ⊢
  have hl : lv_has ls 1 [(0, .ref h0)] := hl
  have hlc := CI_lc hI
  have h66 := CI_n6 hI
  refine lv_aload_n hx hb dX9_shortest_0 rfl (lv_at hl 0 rfl) ?_
  refine fz_get (D := (dC, dI)) (ci := 9) (v := .ref (h0 + 6)) (C := RX9) (T := TX9) (N := 15) hx hb hts inG9 hown hK hP (k := 0) (by decide) (F := (sF0 h0)) sE_0 rfl 3 (by decide) (hts _ k335) (fun _ h9 => h9) rfl dX9_shortest_1 ?_
  refine lv_iconst (v := iZ 1) hx hb dX9_shortest_4 rfl ?_
  refine lv_iconst (v := iZ 0) hx hb dX9_shortest_5 rfl ?_
  refine lv_iconst (v := iZ 1) hx hb dX9_shortest_6 rfl ?_
  refine va_calli (va_runV (As := [.int (iZ (1)), .int (iZ (0)), .int (iZ (1))]) (rest := []) ⟨hx, hb, hml, hown, hts⟩ (s_RcountLeaves l dC dI cI cZ cII cIII h0 s.heap.size μ (6) (1100) (1) (0) (1) (rowB_6) (by exact hI.1.2.2.1) (by decide)) (cwV 3 hts (gV_G k527 k528 k529 k3 k530) rfl rfl rfl (by decide +kernel) ⟨Nat.le_of_ble_eq_true rfl, Nat.le_of_ble_eq_true rfl⟩) ⟨fun a U g mk q => by obtain ⟨q0, q1, qP, qK, qM⟩ := q; exact ⟨q0, q1, qP, va_K.moved (u := U) (U := U.calling g mk a) (Vm.Alike.refl U.vm) qK, qM⟩, va_recv hK hP (ci := 4) (q0 := 6) rfl ((fw_get (by decide)).trans (by rw [(sE_rowO rowB_6)])), fun U hU hW => ⟨rfl, by rw [hU], by rw [hU]; exact hP, va_K.moved hW.alike hK, xM_warm hW hM⟩⟩ rfl rfl hl.1 rfl (lv_room (Nat.le_of_ble_eq_true rfl)) dX9_shortest_7 ⟨Nat.le_of_ble_eq_true rfl, Nat.le_of_ble_eq_true rfl⟩) hS (fun q _ h => fA_le hS.1 q h) (fA_le hS.1) (fun r9 u9 t9 H1 locs ht9 hvm9 hw9 hB9 hz9 hk9 hS => ?_)
  obtain ⟨μ1, r2⟩ := u9
  obtain ⟨hP, -⟩ := hB9
  rw [ht9] at hP
  generalize H1 = H at hP hS ⊢
  obtain ⟨e9, hw9⟩ := hw9
  have e9 : r9 = iZ r2 := e9
  subst e9
  simp only at hP hw9
  have hμ1 := hw9; clear hw9
  rw [hμ1] at hP
  exact W.iret (v := iZ (r2)) hx hb hr (fun t9 ht9 hW9 => ⟨⟨iZ (r2), (μ, r2), rfl, ⟨rfl, (by
            dsimp only
            exact ⟨hI, SY_rf⟩)⟩, by rw [ht9]; exact hP, va_K.moved hW9.alike hK⟩, hS.F ht9⟩) hS.2.2 dX9_shortest_10
set_option maxHeartbeats 4000000 in
set_option maxRecDepth 100000 in
theorem p_firm (l : Launch) (hfl : l.stackTraces = false) (dC : Nat → ClassId) (dI : Nat → Nat → Nat) (cI cZ cII cIII : ClassId) (h0 sz : Nat) (μ : va_M) (wh : Int) (T : List Tk) (hI : CI T μ) (h_wh : inR wh) : vx_Met l yX9_firm (Cond.code yX9_firm cX9_firm 2 (some .int) :: wsG) ({ frames := 7, cells := 1, slots := 6, locals := 110 } : Room) (va_Pc [.ref h0, .int (iZ (wh))] (fun U => U.heap.size = sz ∧ va_P (dC, dI) vwCl (fw (sE cI cZ cII cIII h0) h0 233 μ) U.heap ∧ va_K (dC, dI) vwCl (sT cI cZ cII cIII) U ∧ xM U ∧ xX (fA h0 233 sz) U)) (va_Qi (fun (r9 : Int32) (u : va_M × Int) => r9 = iZ u.2 ∧ (fun (u : va_M) (r : Int) => CI T u ∧ SY μ u) u.1 u.2) (fun u t => va_P (dC, dI) vwCl (fw (sE cI cZ cII cIII h0) h0 233 u.1) t.heap ∧ va_K (dC, dI) vwCl (sT cI cZ cII cIII) t) (fA h0 233 sz)) (vx_X (fun (u : va_M) => CI T u ∧ SY μ u) (fun E u t => E ∈ (["java/lang/IllegalArgumentException"] : List String) ∧ va_P (dC, dI) vwCl (fw (sE cI cZ cII cIII h0) h0 233 u) t.heap ∧ va_K (dC, dI) vwCl (sT cI cZ cII cIII) t) (fA h0 233 sz)) 1 6 (fA h0 233 sz) := by
  refine vx_ofW (cc := cX9_firm) (maxL := 2) (ret := (some .int)) (by decide) rfl ?_
  intro p e s m args below meth c s₁ B hml hnt hv
  obtain ⟨rfl, hsz, hP, hK, hM, hEx⟩ := hv
  have hx := B.exec
  have hb := B.bytes
  have hr := B.returns
  have hts : ∀ w ∈ wsG, w.before _ s = true := hG_of (atoms_spec (ws := (Cond.code yX9_firm cX9_firm 2 (some .int) :: wsG)) B.pre)
  have hown : s.vm.findClass RX9 = some m.cls := findClass_of_methodNamed B.named
  have hlocks := B.notSynchronized
  subst hsz
  have hS : va_S (fA h0 233 s.heap.size) s.heap s.heap [] := va_S.rf
  have hl := lv_entry ([.ref h0, .int (iZ (wh))]) (n := 2) (Nat.le_of_ble_eq_true rfl)
  rw [lg_entry_eq]
  generalize (lg_sl ([.ref h0, .int (iZ (wh))]) ++ List.replicate (2 - (lg_sl ([.ref h0, .int (iZ (wh))])).length) Slot.unset).toArray = ls at hl ⊢
  have hl : lv_has ls 2 [(0, .ref h0), (1, .int (iZ (wh)))] := hl
  have hlc := CI_lc hI
  have h66 := CI_n6 hI
  refine lv_aload_n hx hb dX9_firm_0 rfl (lv_at hl 0 rfl) ?_
  refine lv_iload_n hx hb dX9_firm_1 rfl (lv_at hl 1 rfl) ?_
  refine fz_if_lt (tgt := 14) (by first | assumption | (constructor <;> omega) | decide) hx hb dX9_firm_2 (by decide) (fun c2_ => ?_) (fun c2_ => ?_)
  · refine lv_iconst (v := iZ 0) hx hb dX9_firm_14 rfl ?_
    refine vx_callv (vx_runV (As := [.int (iZ (0))]) (rest := []) ⟨hx, hb, hml, hown, hts⟩ (x_needArgument l hfl dC dI cI cZ cII cIII h0 s.heap.size μ  ) (cwV 1 hts (gV_G k596 k598 ks_yX9_needArgument k1 k599) rfl rfl rfl (by decide +kernel) ⟨Nat.le_of_ble_eq_true rfl, Nat.le_of_ble_eq_true rfl⟩) ⟨fun a U g mk q => by obtain ⟨q0, q1, qP, qK, qM, qE⟩ := q; exact ⟨q0, q1, qP, va_K.moved (u := U) (U := U.calling g mk a) (Vm.Alike.refl U.vm) qK, qM, xX_call qE⟩, va_recv hK hP (ci := 9) (q0 := 0) rfl ((fw_get (by decide)).trans (by rw [sE_0]; rfl)), fun U hU hW => ⟨rfl, by rw [hU], by rw [hU]; exact hP, va_K.moved hW.alike hK, xM_warm hW hM, xX_at hEx hS (fun q h => fA_le hS.1 q h) hU hW⟩⟩ rfl rfl hl.1 rfl (lv_room (Nat.le_of_ble_eq_true rfl)) dX9_firm_15 ⟨Nat.le_of_ble_eq_true rfl, Nat.le_of_ble_eq_true rfl⟩) hS (fun q _ h => fA_le hS.1 q h) (fA_le hS.1) (fun q _ h => fA_le hS.1 q h) (fun E9 ce9 q9 u9 t9 H1 locs ht9 hvm9 hpx9 hBX9 hz9 hk9 hS hce9 hcv9 hcl9 => ?_) (fun u9 t9 H1 locs ht9 hvm9 hw9 hB9 hz9 hk9 hS => hw9.elim)
    obtain ⟨hE9, hP9, hK9⟩ := hBX9
    exact vx_out (fun x hx9 => (hnt x hx9).elim) hlocks hce9 hcv9 hcl9 (fun t8 ht8 hW8 => ⟨u9, (by
                show CI T u9 ∧ SY μ u9
                exact CI_thr hI hpx9), ⟨hE9, by rw [ht8, ← ht9]; exact hP9, va_K.moved hW8 hK⟩, hS.F ht8⟩) hS.2.2 (Nat.le_of_ble_eq_true rfl) (Nat.le_of_ble_eq_true rfl)
  · refine lv_iload_n hx hb dX9_firm_5 rfl (lv_at hl 1 rfl) ?_
    refine lv_iconst (v := iZ 2) hx hb dX9_firm_6 rfl ?_
    refine fz_icmp_gt (tgt := 14) (by first | assumption | (constructor <;> omega) | decide) (by decide) hx hb dX9_firm_7 (by decide) (fun c7_ => ?_) (fun c7_ => ?_)
    · refine lv_iconst (v := iZ 0) hx hb dX9_firm_14 rfl ?_
      refine vx_callv (vx_runV (As := [.int (iZ (0))]) (rest := []) ⟨hx, hb, hml, hown, hts⟩ (x_needArgument l hfl dC dI cI cZ cII cIII h0 s.heap.size μ  ) (cwV 1 hts (gV_G k596 k598 ks_yX9_needArgument k1 k599) rfl rfl rfl (by decide +kernel) ⟨Nat.le_of_ble_eq_true rfl, Nat.le_of_ble_eq_true rfl⟩) ⟨fun a U g mk q => by obtain ⟨q0, q1, qP, qK, qM, qE⟩ := q; exact ⟨q0, q1, qP, va_K.moved (u := U) (U := U.calling g mk a) (Vm.Alike.refl U.vm) qK, qM, xX_call qE⟩, va_recv hK hP (ci := 9) (q0 := 0) rfl ((fw_get (by decide)).trans (by rw [sE_0]; rfl)), fun U hU hW => ⟨rfl, by rw [hU], by rw [hU]; exact hP, va_K.moved hW.alike hK, xM_warm hW hM, xX_at hEx hS (fun q h => fA_le hS.1 q h) hU hW⟩⟩ rfl rfl hl.1 rfl (lv_room (Nat.le_of_ble_eq_true rfl)) dX9_firm_15 ⟨Nat.le_of_ble_eq_true rfl, Nat.le_of_ble_eq_true rfl⟩) hS (fun q _ h => fA_le hS.1 q h) (fA_le hS.1) (fun q _ h => fA_le hS.1 q h) (fun E9 ce9 q9 u9 t9 H1 locs ht9 hvm9 hpx9 hBX9 hz9 hk9 hS hce9 hcv9 hcl9 => ?_) (fun u9 t9 H1 locs ht9 hvm9 hw9 hB9 hz9 hk9 hS => hw9.elim)
      obtain ⟨hE9, hP9, hK9⟩ := hBX9
      exact vx_out (fun x hx9 => (hnt x hx9).elim) hlocks hce9 hcv9 hcl9 (fun t8 ht8 hW8 => ⟨u9, (by
                    show CI T u9 ∧ SY μ u9
                    exact CI_thr hI hpx9), ⟨hE9, by rw [ht8, ← ht9]; exact hP9, va_K.moved hW8 hK⟩, hS.F ht8⟩) hS.2.2 (Nat.le_of_ble_eq_true rfl) (Nat.le_of_ble_eq_true rfl)
    · refine lv_iconst (v := iZ 1) hx hb dX9_firm_10 rfl ?_
      refine lv_goto (tgt := 15) hx hb dX9_firm_11 (by decide) ?_
      refine va_callv (va_runV (As := [.int (iZ (1))]) (rest := []) ⟨hx, hb, hml, hown, hts⟩ (s_needArgument l dC dI cI cZ cII cIII h0 s.heap.size μ  ) (cwV 1 hts (gV_G k596 k598 ks_yX9_needArgument k1 k599) rfl rfl rfl (by decide +kernel) ⟨Nat.le_of_ble_eq_true rfl, Nat.le_of_ble_eq_true rfl⟩) ⟨fun a U g mk q => by obtain ⟨q0, q1, qP, qK, qM⟩ := q; exact ⟨q0, q1, qP, va_K.moved (u := U) (U := U.calling g mk a) (Vm.Alike.refl U.vm) qK, qM⟩, va_recv hK hP (ci := 9) (q0 := 0) rfl ((fw_get (by decide)).trans (by rw [sE_0]; rfl)), fun U hU hW => ⟨rfl, by rw [hU], by rw [hU]; exact hP, va_K.moved hW.alike hK, xM_warm hW hM⟩⟩ rfl rfl hl.1 rfl (lv_room (Nat.le_of_ble_eq_true rfl)) dX9_firm_15 ⟨Nat.le_of_ble_eq_true rfl, Nat.le_of_ble_eq_true rfl⟩) hS (fun q _ h => fA_le hS.1 q h) (fA_le hS.1) (fun u9 t9 H1 locs ht9 hvm9 hw9 hB9 hz9 hk9 hS => ?_)
      obtain ⟨hP, -⟩ := hB9
      rw [ht9] at hP
      generalize H1 = H at hP hS ⊢
      obtain ⟨μ1, eμ1⟩ : ∃ x : va_M, x = u9 := ⟨_, rfl⟩
      rw [← eμ1] at hP hw9
      have hμ1 := hw9; clear hw9
      rw [hμ1] at hP
      refine lv_aload_n hx hb dX9_firm_18 rfl (lv_at hl 0 rfl) ?_
      refine fz_get (D := (dC, dI)) (ci := 9) (v := .ref (h0 + 6)) (C := RX9) (T := TX9) (N := 15) hx hb hts inG9 hown hK hP (k := 0) (by decide) (F := (sF0 h0)) sE_0 rfl 3 (by decide) (hts _ k335) (fun _ h9 => h9) rfl dX9_firm_19 ?_
      refine lv_iload_n hx hb dX9_firm_22 rfl (lv_at hl 1 rfl) ?_
      refine lv_iconst (v := iZ 1) hx hb dX9_firm_23 rfl ?_
      refine fz_icmp_eq (tgt := 31) (by first | assumption | (constructor <;> omega) | decide) (by decide) hx hb dX9_firm_24 (by decide) (fun c24_ => ?_) (fun c24_ => ?_)
      · refine lv_iconst (v := iZ 0) hx hb dX9_firm_31 rfl ?_
        refine lv_iload_n hx hb dX9_firm_32 rfl (lv_at hl 1 rfl) ?_
        refine fz_if_eq (tgt := 40) (by first | assumption | (constructor <;> omega) | decide) hx hb dX9_firm_33 (by decide) (fun c33_ => ?_) (fun c33_ => ?_)
        · refine lv_iconst (v := iZ 0) hx hb dX9_firm_40 rfl ?_
          refine lv_iconst (v := iZ 0) hx hb dX9_firm_41 rfl ?_
          refine va_calli (va_runV (As := [.int (iZ (0)), .int (iZ (0)), .int (iZ (0))]) (rest := []) ⟨hx, hb, hml, hown, hts⟩ (s_RcountLeaves l dC dI cI cZ cII cIII h0 H.size μ (6) (1100) (0) (0) (0) (rowB_6) (by exact hI.1.2.2.1) (by decide)) (cwV 3 hts (gV_G k527 k528 k529 k3 k530) rfl rfl rfl (by decide +kernel) ⟨Nat.le_of_ble_eq_true rfl, Nat.le_of_ble_eq_true rfl⟩) ⟨fun a U g mk q => by obtain ⟨q0, q1, qP, qK, qM⟩ := q; exact ⟨q0, q1, qP, va_K.moved (u := U) (U := U.calling g mk a) (Vm.Alike.refl U.vm) qK, qM⟩, va_recv hK hP (ci := 4) (q0 := 6) rfl ((fw_get (by decide)).trans (by rw [(sE_rowO rowB_6)])), fun U hU hW => ⟨rfl, by rw [hU], by rw [hU]; exact hP, va_K.moved hW.alike hK, xM_warm hW hM⟩⟩ rfl rfl hl.1 rfl (lv_room (Nat.le_of_ble_eq_true rfl)) dX9_firm_42 ⟨Nat.le_of_ble_eq_true rfl, Nat.le_of_ble_eq_true rfl⟩) hS (fun q _ h => fA_le hS.1 q h) (fA_le hS.1) (fun r9 u9 t9 H1 locs ht9 hvm9 hw9 hB9 hz9 hk9 hS => ?_)
          obtain ⟨μ2, r3⟩ := u9
          obtain ⟨hP, -⟩ := hB9
          rw [ht9] at hP
          generalize H1 = H at hP hS ⊢
          obtain ⟨e9, hw9⟩ := hw9
          have e9 : r9 = iZ r3 := e9
          subst e9
          simp only at hP hw9
          have hμ2 := hw9; clear hw9
          rw [hμ2] at hP
          exact W_widen (Nat.le_of_ble_eq_true rfl) (Nat.le_of_ble_eq_true rfl) (vx_ret (W.iret (v := iZ (r3)) hx hb hr (fun t9 ht9 hW9 => ⟨⟨iZ (r3), (μ, r3), rfl, ⟨rfl, (by
                            dsimp only
                            exact ⟨hI, SY_rf⟩)⟩, by rw [ht9]; exact hP, va_K.moved hW9.alike hK⟩, hS.F ht9⟩) hS.2.2 dX9_firm_45))
        · refine lv_iconst (v := iZ 1) hx hb dX9_firm_36 rfl ?_
          refine lv_goto (tgt := 41) hx hb dX9_firm_37 (by decide) ?_
          refine lv_iconst (v := iZ 0) hx hb dX9_firm_41 rfl ?_
          refine va_calli (va_runV (As := [.int (iZ (0)), .int (iZ (1)), .int (iZ (0))]) (rest := []) ⟨hx, hb, hml, hown, hts⟩ (s_RcountLeaves l dC dI cI cZ cII cIII h0 H.size μ (6) (1100) (0) (1) (0) (rowB_6) (by exact hI.1.2.2.1) (by decide)) (cwV 3 hts (gV_G k527 k528 k529 k3 k530) rfl rfl rfl (by decide +kernel) ⟨Nat.le_of_ble_eq_true rfl, Nat.le_of_ble_eq_true rfl⟩) ⟨fun a U g mk q => by obtain ⟨q0, q1, qP, qK, qM⟩ := q; exact ⟨q0, q1, qP, va_K.moved (u := U) (U := U.calling g mk a) (Vm.Alike.refl U.vm) qK, qM⟩, va_recv hK hP (ci := 4) (q0 := 6) rfl ((fw_get (by decide)).trans (by rw [(sE_rowO rowB_6)])), fun U hU hW => ⟨rfl, by rw [hU], by rw [hU]; exact hP, va_K.moved hW.alike hK, xM_warm hW hM⟩⟩ rfl rfl hl.1 rfl (lv_room (Nat.le_of_ble_eq_true rfl)) dX9_firm_42 ⟨Nat.le_of_ble_eq_true rfl, Nat.le_of_ble_eq_true rfl⟩) hS (fun q _ h => fA_le hS.1 q h) (fA_le hS.1) (fun r9 u9 t9 H1 locs ht9 hvm9 hw9 hB9 hz9 hk9 hS => ?_)
          obtain ⟨μ4, r5⟩ := u9
          obtain ⟨hP, -⟩ := hB9
          rw [ht9] at hP
          generalize H1 = H at hP hS ⊢
          obtain ⟨e9, hw9⟩ := hw9
          have e9 : r9 = iZ r5 := e9
          subst e9
          simp only at hP hw9
          have hμ4 := hw9; clear hw9
          rw [hμ4] at hP
          exact W_widen (Nat.le_of_ble_eq_true rfl) (Nat.le_of_ble_eq_true rfl) (vx_ret (W.iret (v := iZ (r5)) hx hb hr (fun t9 ht9 hW9 => ⟨⟨iZ (r5), (μ, r5), rfl, ⟨rfl, (by
                            dsimp only
                            exact ⟨hI, SY_rf⟩)⟩, by rw [ht9]; exact hP, va_K.moved hW9.alike hK⟩, hS.F ht9⟩) hS.2.2 dX9_firm_45))
      · refine lv_iconst (v := iZ 1) hx hb dX9_firm_27 rfl ?_
        refine lv_goto (tgt := 32) hx hb dX9_firm_28 (by decide) ?_
        refine lv_iload_n hx hb dX9_firm_32 rfl (lv_at hl 1 rfl) ?_
        refine fz_if_eq (tgt := 40) (by first | assumption | (constructor <;> omega) | decide) hx hb dX9_firm_33 (by decide) (fun c33_ => ?_) (fun c33_ => ?_)
        · refine lv_iconst (v := iZ 0) hx hb dX9_firm_40 rfl ?_
          refine lv_iconst (v := iZ 0) hx hb dX9_firm_41 rfl ?_
          refine va_calli (va_runV (As := [.int (iZ (1)), .int (iZ (0)), .int (iZ (0))]) (rest := []) ⟨hx, hb, hml, hown, hts⟩ (s_RcountLeaves l dC dI cI cZ cII cIII h0 H.size μ (6) (1100) (1) (0) (0) (rowB_6) (by exact hI.1.2.2.1) (by decide)) (cwV 3 hts (gV_G k527 k528 k529 k3 k530) rfl rfl rfl (by decide +kernel) ⟨Nat.le_of_ble_eq_true rfl, Nat.le_of_ble_eq_true rfl⟩) ⟨fun a U g mk q => by obtain ⟨q0, q1, qP, qK, qM⟩ := q; exact ⟨q0, q1, qP, va_K.moved (u := U) (U := U.calling g mk a) (Vm.Alike.refl U.vm) qK, qM⟩, va_recv hK hP (ci := 4) (q0 := 6) rfl ((fw_get (by decide)).trans (by rw [(sE_rowO rowB_6)])), fun U hU hW => ⟨rfl, by rw [hU], by rw [hU]; exact hP, va_K.moved hW.alike hK, xM_warm hW hM⟩⟩ rfl rfl hl.1 rfl (lv_room (Nat.le_of_ble_eq_true rfl)) dX9_firm_42 ⟨Nat.le_of_ble_eq_true rfl, Nat.le_of_ble_eq_true rfl⟩) hS (fun q _ h => fA_le hS.1 q h) (fA_le hS.1) (fun r9 u9 t9 H1 locs ht9 hvm9 hw9 hB9 hz9 hk9 hS => ?_)
          obtain ⟨μ6, r7⟩ := u9
          obtain ⟨hP, -⟩ := hB9
          rw [ht9] at hP
          generalize H1 = H at hP hS ⊢
          obtain ⟨e9, hw9⟩ := hw9
          have e9 : r9 = iZ r7 := e9
          subst e9
          simp only at hP hw9
          have hμ6 := hw9; clear hw9
          rw [hμ6] at hP
          exact W_widen (Nat.le_of_ble_eq_true rfl) (Nat.le_of_ble_eq_true rfl) (vx_ret (W.iret (v := iZ (r7)) hx hb hr (fun t9 ht9 hW9 => ⟨⟨iZ (r7), (μ, r7), rfl, ⟨rfl, (by
                            dsimp only
                            exact ⟨hI, SY_rf⟩)⟩, by rw [ht9]; exact hP, va_K.moved hW9.alike hK⟩, hS.F ht9⟩) hS.2.2 dX9_firm_45))
        · refine lv_iconst (v := iZ 1) hx hb dX9_firm_36 rfl ?_
          refine lv_goto (tgt := 41) hx hb dX9_firm_37 (by decide) ?_
          refine lv_iconst (v := iZ 0) hx hb dX9_firm_41 rfl ?_
          refine va_calli (va_runV (As := [.int (iZ (1)), .int (iZ (1)), .int (iZ (0))]) (rest := []) ⟨hx, hb, hml, hown, hts⟩ (s_RcountLeaves l dC dI cI cZ cII cIII h0 H.size μ (6) (1100) (1) (1) (0) (rowB_6) (by exact hI.1.2.2.1) (by decide)) (cwV 3 hts (gV_G k527 k528 k529 k3 k530) rfl rfl rfl (by decide +kernel) ⟨Nat.le_of_ble_eq_true rfl, Nat.le_of_ble_eq_true rfl⟩) ⟨fun a U g mk q => by obtain ⟨q0, q1, qP, qK, qM⟩ := q; exact ⟨q0, q1, qP, va_K.moved (u := U) (U := U.calling g mk a) (Vm.Alike.refl U.vm) qK, qM⟩, va_recv hK hP (ci := 4) (q0 := 6) rfl ((fw_get (by decide)).trans (by rw [(sE_rowO rowB_6)])), fun U hU hW => ⟨rfl, by rw [hU], by rw [hU]; exact hP, va_K.moved hW.alike hK, xM_warm hW hM⟩⟩ rfl rfl hl.1 rfl (lv_room (Nat.le_of_ble_eq_true rfl)) dX9_firm_42 ⟨Nat.le_of_ble_eq_true rfl, Nat.le_of_ble_eq_true rfl⟩) hS (fun q _ h => fA_le hS.1 q h) (fA_le hS.1) (fun r9 u9 t9 H1 locs ht9 hvm9 hw9 hB9 hz9 hk9 hS => ?_)
          obtain ⟨μ8, r10⟩ := u9
          obtain ⟨hP, -⟩ := hB9
          rw [ht9] at hP
          generalize H1 = H at hP hS ⊢
          obtain ⟨e9, hw9⟩ := hw9
          have e9 : r9 = iZ r10 := e9
          subst e9
          simp only at hP hw9
          have hμ8 := hw9; clear hw9
          rw [hμ8] at hP
          exact W_widen (Nat.le_of_ble_eq_true rfl) (Nat.le_of_ble_eq_true rfl) (vx_ret (W.iret (v := iZ (r10)) hx hb hr (fun t9 ht9 hW9 => ⟨⟨iZ (r10), (μ, r10), rfl, ⟨rfl, (by
                            dsimp only
                            exact ⟨hI, SY_rf⟩)⟩, by rw [ht9]; exact hP, va_K.moved hW9.alike hK⟩, hS.F ht9⟩) hS.2.2 dX9_firm_45))
set_option maxHeartbeats 4000000 in
set_option maxRecDepth 100000 in
theorem p_step (l : Launch) (hfl : l.stackTraces = false) (dC : Nat → ClassId) (dI : Nat → Nat → Nat) (cI cZ cII cIII : ClassId) (h0 sz : Nat) (μ : va_M) (pg : Int) (kn : Int) (wh : Int) (T : List Tk) (hI : CI T μ) (h_pg : inR pg) (h_kn : inR kn) (h_wh : inR wh) : vx_Met l yX9_step (Cond.code yX9_step cX9_step 4 (some .int) :: wsG) ({ frames := 8, cells := 1, slots := 6, locals := 131 } : Room) (va_Pc [.ref h0, .int (iZ (pg)), .int (iZ (kn)), .int (iZ (wh))] (fun U => U.heap.size = sz ∧ va_P (dC, dI) vwCl (fw (sE cI cZ cII cIII h0) h0 233 μ) U.heap ∧ va_K (dC, dI) vwCl (sT cI cZ cII cIII) U ∧ xM U ∧ xX (fA h0 233 sz) U)) (va_Qi (fun (r9 : Int32) (u : va_M × Int) => r9 = iZ u.2 ∧ (fun (u : va_M) (r : Int) => CI T u ∧ SY μ u) u.1 u.2) (fun u t => va_P (dC, dI) vwCl (fw (sE cI cZ cII cIII h0) h0 233 u.1) t.heap ∧ va_K (dC, dI) vwCl (sT cI cZ cII cIII) t) (fA h0 233 sz)) (vx_X (fun (u : va_M) => CI T u ∧ SY μ u) (fun E u t => E ∈ (["java/util/NoSuchElementException", "java/lang/IllegalArgumentException"] : List String) ∧ va_P (dC, dI) vwCl (fw (sE cI cZ cII cIII h0) h0 233 u) t.heap ∧ va_K (dC, dI) vwCl (sT cI cZ cII cIII) t) (fA h0 233 sz)) 1 6 (fA h0 233 sz) := by
  refine vx_ofW (cc := cX9_step) (maxL := 4) (ret := (some .int)) (by decide) rfl ?_
  intro p e s m args below meth c s₁ B hml hnt hv
  obtain ⟨rfl, hsz, hP, hK, hM, hEx⟩ := hv
  have hx := B.exec
  have hb := B.bytes
  have hr := B.returns
  have hts : ∀ w ∈ wsG, w.before _ s = true := hG_of (atoms_spec (ws := (Cond.code yX9_step cX9_step 4 (some .int) :: wsG)) B.pre)
  have hown : s.vm.findClass RX9 = some m.cls := findClass_of_methodNamed B.named
  have hlocks := B.notSynchronized
  subst hsz
  have hS : va_S (fA h0 233 s.heap.size) s.heap s.heap [] := va_S.rf
  have hl := lv_entry ([.ref h0, .int (iZ (pg)), .int (iZ (kn)), .int (iZ (wh))]) (n := 4) (Nat.le_of_ble_eq_true rfl)
  rw [lg_entry_eq]
  generalize (lg_sl ([.ref h0, .int (iZ (pg)), .int (iZ (kn)), .int (iZ (wh))]) ++ List.replicate (4 - (lg_sl ([.ref h0, .int (iZ (pg)), .int (iZ (kn)), .int (iZ (wh))])).length) Slot.unset).toArray = ls at hl ⊢
  have hl : lv_has ls 4 [(0, .ref h0), (1, .int (iZ (pg))), (2, .int (iZ (kn))), (3, .int (iZ (wh)))] := hl
  have hlc := CI_lc hI
  have h66 := CI_n6 hI
  refine lv_aload_n hx hb dX9_step_0 rfl (lv_at hl 0 rfl) ?_
  refine lv_iload_n hx hb dX9_step_1 rfl (lv_at hl 1 rfl) ?_
  by_cases hn2_ : 0 ≤ pg ∧ pg < μ 0 2
  · refine va_callv (va_runV (As := [.int (iZ (pg))]) (rest := []) ⟨hx, hb, hml, hown, hts⟩ (s_needPage l dC dI cI cZ cII cIII h0 s.heap.size μ (pg) (by first | assumption | omega | exact CI_lc hI | exact CI_cn hI | exact (CI_n6 hI).1 | decide) (by first | assumption | omega | exact CI_lc hI | exact CI_cn hI | exact (CI_n6 hI).1 | decide) (by exact hn2_)) (cwV 1 hts (gV_G k735 k737 ks_yX9_needPage k1 k738) rfl rfl rfl (by decide +kernel) ⟨Nat.le_of_ble_eq_true rfl, Nat.le_of_ble_eq_true rfl⟩) ⟨fun a U g mk q => by obtain ⟨q0, q1, qP, qK, qM⟩ := q; exact ⟨q0, q1, qP, va_K.moved (u := U) (U := U.calling g mk a) (Vm.Alike.refl U.vm) qK, qM⟩, va_recv hK hP (ci := 9) (q0 := 0) rfl ((fw_get (by decide)).trans (by rw [sE_0]; rfl)), fun U hU hW => ⟨rfl, by rw [hU], by rw [hU]; exact hP, va_K.moved hW.alike hK, xM_warm hW hM⟩⟩ rfl rfl hl.1 rfl (lv_room (Nat.le_of_ble_eq_true rfl)) dX9_step_2 ⟨Nat.le_of_ble_eq_true rfl, Nat.le_of_ble_eq_true rfl⟩) hS (fun q _ h => fA_le hS.1 q h) (fA_le hS.1) (fun u9 t9 H1 locs ht9 hvm9 hw9 hB9 hz9 hk9 hS => ?_)
    obtain ⟨hP, -⟩ := hB9
    rw [ht9] at hP
    generalize H1 = H at hP hS ⊢
    obtain ⟨μ1, eμ1⟩ : ∃ x : va_M, x = u9 := ⟨_, rfl⟩
    rw [← eμ1] at hP hw9
    have hμ1 := hw9; clear hw9
    rw [hμ1] at hP
    refine lv_aload_n hx hb dX9_step_5 rfl (lv_at hl 0 rfl) ?_
    refine lv_iload_n hx hb dX9_step_6 rfl (lv_at hl 3 rfl) ?_
    refine fz_if_lt (tgt := 19) (by first | assumption | (constructor <;> omega) | decide) hx hb dX9_step_7 (by decide) (fun c7_ => ?_) (fun c7_ => ?_)
    · refine lv_iconst (v := iZ 0) hx hb dX9_step_19 rfl ?_
      refine vx_callv (vx_runV (As := [.int (iZ (0))]) (rest := []) ⟨hx, hb, hml, hown, hts⟩ (x_needArgument l hfl dC dI cI cZ cII cIII h0 H.size μ  ) (cwV 1 hts (gV_G k596 k598 ks_yX9_needArgument k1 k599) rfl rfl rfl (by decide +kernel) ⟨Nat.le_of_ble_eq_true rfl, Nat.le_of_ble_eq_true rfl⟩) ⟨fun a U g mk q => by obtain ⟨q0, q1, qP, qK, qM, qE⟩ := q; exact ⟨q0, q1, qP, va_K.moved (u := U) (U := U.calling g mk a) (Vm.Alike.refl U.vm) qK, qM, xX_call qE⟩, va_recv hK hP (ci := 9) (q0 := 0) rfl ((fw_get (by decide)).trans (by rw [sE_0]; rfl)), fun U hU hW => ⟨rfl, by rw [hU], by rw [hU]; exact hP, va_K.moved hW.alike hK, xM_warm hW hM, xX_at hEx hS (fun q h => fA_le hS.1 q h) hU hW⟩⟩ rfl rfl hl.1 rfl (lv_room (Nat.le_of_ble_eq_true rfl)) dX9_step_20 ⟨Nat.le_of_ble_eq_true rfl, Nat.le_of_ble_eq_true rfl⟩) hS (fun q _ h => fA_le hS.1 q h) (fA_le hS.1) (fun q _ h => fA_le hS.1 q h) (fun E9 ce9 q9 u9 t9 H1 locs ht9 hvm9 hpx9 hBX9 hz9 hk9 hS hce9 hcv9 hcl9 => ?_) (fun u9 t9 H1 locs ht9 hvm9 hw9 hB9 hz9 hk9 hS => hw9.elim)
      obtain ⟨hE9, hP9, hK9⟩ := hBX9
      exact vx_out (fun x hx9 => (hnt x hx9).elim) hlocks hce9 hcv9 hcl9 (fun t8 ht8 hW8 => ⟨u9, (by
                    show CI T u9 ∧ SY μ u9
                    exact CI_thr hI hpx9), ⟨(show ∀ z ∈ (["java/lang/IllegalArgumentException"] : List String), z ∈ (["java/util/NoSuchElementException", "java/lang/IllegalArgumentException"] : List String) by decide +kernel) E9 hE9, by rw [ht8, ← ht9]; exact hP9, va_K.moved hW8 hK⟩, hS.F ht8⟩) hS.2.2 (Nat.le_of_ble_eq_true rfl) (Nat.le_of_ble_eq_true rfl)
    · refine lv_iload_n hx hb dX9_step_10 rfl (lv_at hl 3 rfl) ?_
      refine lv_iconst (v := iZ 2) hx hb dX9_step_11 rfl ?_
      refine fz_icmp_gt (tgt := 19) (by first | assumption | (constructor <;> omega) | decide) (by decide) hx hb dX9_step_12 (by decide) (fun c12_ => ?_) (fun c12_ => ?_)
      · refine lv_iconst (v := iZ 0) hx hb dX9_step_19 rfl ?_
        refine vx_callv (vx_runV (As := [.int (iZ (0))]) (rest := []) ⟨hx, hb, hml, hown, hts⟩ (x_needArgument l hfl dC dI cI cZ cII cIII h0 H.size μ  ) (cwV 1 hts (gV_G k596 k598 ks_yX9_needArgument k1 k599) rfl rfl rfl (by decide +kernel) ⟨Nat.le_of_ble_eq_true rfl, Nat.le_of_ble_eq_true rfl⟩) ⟨fun a U g mk q => by obtain ⟨q0, q1, qP, qK, qM, qE⟩ := q; exact ⟨q0, q1, qP, va_K.moved (u := U) (U := U.calling g mk a) (Vm.Alike.refl U.vm) qK, qM, xX_call qE⟩, va_recv hK hP (ci := 9) (q0 := 0) rfl ((fw_get (by decide)).trans (by rw [sE_0]; rfl)), fun U hU hW => ⟨rfl, by rw [hU], by rw [hU]; exact hP, va_K.moved hW.alike hK, xM_warm hW hM, xX_at hEx hS (fun q h => fA_le hS.1 q h) hU hW⟩⟩ rfl rfl hl.1 rfl (lv_room (Nat.le_of_ble_eq_true rfl)) dX9_step_20 ⟨Nat.le_of_ble_eq_true rfl, Nat.le_of_ble_eq_true rfl⟩) hS (fun q _ h => fA_le hS.1 q h) (fA_le hS.1) (fun q _ h => fA_le hS.1 q h) (fun E9 ce9 q9 u9 t9 H1 locs ht9 hvm9 hpx9 hBX9 hz9 hk9 hS hce9 hcv9 hcl9 => ?_) (fun u9 t9 H1 locs ht9 hvm9 hw9 hB9 hz9 hk9 hS => hw9.elim)
        obtain ⟨hE9, hP9, hK9⟩ := hBX9
        exact vx_out (fun x hx9 => (hnt x hx9).elim) hlocks hce9 hcv9 hcl9 (fun t8 ht8 hW8 => ⟨u9, (by
                        show CI T u9 ∧ SY μ u9
                        exact CI_thr hI hpx9), ⟨(show ∀ z ∈ (["java/lang/IllegalArgumentException"] : List String), z ∈ (["java/util/NoSuchElementException", "java/lang/IllegalArgumentException"] : List String) by decide +kernel) E9 hE9, by rw [ht8, ← ht9]; exact hP9, va_K.moved hW8 hK⟩, hS.F ht8⟩) hS.2.2 (Nat.le_of_ble_eq_true rfl) (Nat.le_of_ble_eq_true rfl)
      · refine lv_iconst (v := iZ 1) hx hb dX9_step_15 rfl ?_
        refine lv_goto (tgt := 20) hx hb dX9_step_16 (by decide) ?_
        refine va_callv (va_runV (As := [.int (iZ (1))]) (rest := []) ⟨hx, hb, hml, hown, hts⟩ (s_needArgument l dC dI cI cZ cII cIII h0 H.size μ  ) (cwV 1 hts (gV_G k596 k598 ks_yX9_needArgument k1 k599) rfl rfl rfl (by decide +kernel) ⟨Nat.le_of_ble_eq_true rfl, Nat.le_of_ble_eq_true rfl⟩) ⟨fun a U g mk q => by obtain ⟨q0, q1, qP, qK, qM⟩ := q; exact ⟨q0, q1, qP, va_K.moved (u := U) (U := U.calling g mk a) (Vm.Alike.refl U.vm) qK, qM⟩, va_recv hK hP (ci := 9) (q0 := 0) rfl ((fw_get (by decide)).trans (by rw [sE_0]; rfl)), fun U hU hW => ⟨rfl, by rw [hU], by rw [hU]; exact hP, va_K.moved hW.alike hK, xM_warm hW hM⟩⟩ rfl rfl hl.1 rfl (lv_room (Nat.le_of_ble_eq_true rfl)) dX9_step_20 ⟨Nat.le_of_ble_eq_true rfl, Nat.le_of_ble_eq_true rfl⟩) hS (fun q _ h => fA_le hS.1 q h) (fA_le hS.1) (fun u9 t9 H1 locs ht9 hvm9 hw9 hB9 hz9 hk9 hS => ?_)
        obtain ⟨hP, -⟩ := hB9
        rw [ht9] at hP
        generalize H1 = H at hP hS ⊢
        obtain ⟨μ2, eμ2⟩ : ∃ x : va_M, x = u9 := ⟨_, rfl⟩
        rw [← eμ2] at hP hw9
        have hμ2 := hw9; clear hw9
        rw [hμ2] at hP
        obtain ⟨hl1, hl2⟩ := CI_lf hI pg (by omega) (by omega)
        have hn9 := hl1.1.2
        refine lv_iload_n hx hb dX9_step_23 rfl (lv_at hl 2 rfl) ?_
        refine fz_if_lt (tgt := 58) (by first | assumption | (constructor <;> omega) | decide) hx hb dX9_step_24 (by decide) (fun c24_ => ?_) (fun c24_ => ?_)
        · refine lv_iconst (v := iZ (-1)) hx hb dX9_step_58 rfl ?_
          exact W_widen (Nat.le_of_ble_eq_true rfl) (Nat.le_of_ble_eq_true rfl) (vx_ret (W.iret (v := iZ ((-1))) hx hb hr (fun t9 ht9 hW9 => ⟨⟨iZ ((-1)), (μ, (-1)), rfl, ⟨rfl, (by
                            dsimp only
                            exact ⟨hI, SY_rf⟩)⟩, by rw [ht9]; exact hP, va_K.moved hW9.alike hK⟩, hS.F ht9⟩) hS.2.2 dX9_step_59))
        · refine lv_iload_n hx hb dX9_step_27 rfl (lv_at hl 2 rfl) ?_
          refine lv_aload_n hx hb dX9_step_28 rfl (lv_at hl 0 rfl) ?_
          refine fz_get (D := (dC, dI)) (ci := 9) (v := .ref (h0 + 5)) (C := RX9) (T := TX9) (N := 15) hx hb hts inG9 hown hK hP (k := 0) (by decide) (F := (sF0 h0)) sE_0 rfl 1 (by decide) (hts _ k333) (fun _ h9 => h9) rfl dX9_step_29 ?_
          refine lv_iload_n hx hb dX9_step_32 rfl (lv_at hl 1 rfl) ?_
          refine fz_ald (k := 5) (n := 8) (k2 := (113 + (pg).toNat * 15)) hx hb hK hP 1 rfl (by decide) sE_5 rfl ⟨by omega, by omega⟩ (by decide) (if_pos (by omega)) dX9_step_33 ?_
          refine fz_get (D := (dC, dI)) (ci := 1) (v := .int (iZ (μ (113 + (pg).toNat * 15) 5))) (C := RX1) (T := TX1) (N := 8) hx hb hts inG1 hown hK hP (k := (113 + (pg).toNat * 15)) (by omega) (F := (sLF h0 (113 + (pg).toNat * 15))) (sE_leafO (show (pg).toNat < 8 by omega) rfl) rfl 5 (by decide) (hts _ k308) (fun _ h9 => h9) rfl dX9_step_34 ?_
          refine fz_icmp_ge (tgt := 58) (by first | assumption | (constructor <;> omega) | decide) (by first | assumption | (constructor <;> omega) | decide) hx hb dX9_step_37 (by decide) (fun c37_ => ?_) (fun c37_ => ?_)
          · refine lv_iconst (v := iZ (-1)) hx hb dX9_step_58 rfl ?_
            exact W_widen (Nat.le_of_ble_eq_true rfl) (Nat.le_of_ble_eq_true rfl) (vx_ret (W.iret (v := iZ ((-1))) hx hb hr (fun t9 ht9 hW9 => ⟨⟨iZ ((-1)), (μ, (-1)), rfl, ⟨rfl, (by
                                dsimp only
                                exact ⟨hI, SY_rf⟩)⟩, by rw [ht9]; exact hP, va_K.moved hW9.alike hK⟩, hS.F ht9⟩) hS.2.2 dX9_step_59))
          · refine lv_aload_n hx hb dX9_step_40 rfl (lv_at hl 0 rfl) ?_
            refine fz_get (D := (dC, dI)) (ci := 9) (v := .ref (h0 + 5)) (C := RX9) (T := TX9) (N := 15) hx hb hts inG9 hown hK hP (k := 0) (by decide) (F := (sF0 h0)) sE_0 rfl 1 (by decide) (hts _ k333) (fun _ h9 => h9) rfl dX9_step_41 ?_
            refine lv_iload_n hx hb dX9_step_44 rfl (lv_at hl 1 rfl) ?_
            refine fz_ald (k := 5) (n := 8) (k2 := (113 + (pg).toNat * 15)) hx hb hK hP 1 rfl (by decide) sE_5 rfl ⟨by omega, by omega⟩ (by decide) (if_pos (by omega)) dX9_step_45 ?_
            refine fz_get (D := (dC, dI)) (ci := 1) (v := .ref (h0 + ((113 + (pg).toNat * 15) + 9))) (C := RX1) (T := TX1) (N := 8) hx hb hts inG1 hown hK hP (k := (113 + (pg).toNat * 15)) (by omega) (F := (sLF h0 (113 + (pg).toNat * 15))) (sE_leafO (show (pg).toNat < 8 by omega) rfl) rfl 4 (by decide) (hts _ k306) (fun _ h9 => h9) rfl dX9_step_46 ?_
            refine lv_iload_n hx hb dX9_step_49 rfl (lv_at hl 2 rfl) ?_
            refine lv_iconst (v := iZ 3) hx hb dX9_step_50 rfl ?_
            refine lv_imul hx hb dX9_step_51 ?_
            refine lv_topi (fun x9 ex9 => ?_)
            obtain rfl : x9 = iZ (kn * 3) := ex9.trans (iZ_mul _ _)
            refine lv_iload_n hx hb dX9_step_52 rfl (lv_at hl 3 rfl) ?_
            refine lv_iadd hx hb dX9_step_53 ?_
            refine lv_topi (fun x9 ex9 => ?_)
            obtain rfl : x9 = iZ ((kn * 3) + wh) := ex9.trans (iZ_add _ _)
            refine fz_ld (k := ((113 + (pg).toNat * 15) + 9)) (n := 180) hx hb hK hP 0 (by omega) (sE_leafA 9 180 (show (pg).toNat < 8 by omega) rfl (by decide)) rfl ⟨by omega, by omega⟩ (by decide) dX9_step_54 ?_
            refine lv_goto (tgt := 59) hx hb dX9_step_55 (by decide) ?_
            exact W_widen (Nat.le_of_ble_eq_true rfl) (Nat.le_of_ble_eq_true rfl) (vx_ret (W.iret (v := iZ (μ ((113 + (pg).toNat * 15) + 9) ((kn * 3) + wh).toNat)) hx hb hr (fun t9 ht9 hW9 => ⟨⟨iZ (μ ((113 + (pg).toNat * 15) + 9) ((kn * 3) + wh).toNat), (μ, μ ((113 + (pg).toNat * 15) + 9) ((kn * 3) + wh).toNat), rfl, ⟨rfl, (by
                                dsimp only
                                exact ⟨hI, SY_rf⟩)⟩, by rw [ht9]; exact hP, va_K.moved hW9.alike hK⟩, hS.F ht9⟩) hS.2.2 dX9_step_59))
  · refine vx_callv (vx_runV (As := [.int (iZ (pg))]) (rest := []) ⟨hx, hb, hml, hown, hts⟩ (x_needPage l hfl dC dI cI cZ cII cIII h0 s.heap.size μ (pg) (by first | assumption | omega | exact CI_lc hI | exact CI_cn hI | exact (CI_n6 hI).1 | decide) (by first | assumption | omega | exact CI_lc hI | exact CI_cn hI | exact (CI_n6 hI).1 | decide) (hn2_)) (cwV 1 hts (gV_G k735 k737 ks_yX9_needPage k1 k738) rfl rfl rfl (by decide +kernel) ⟨Nat.le_of_ble_eq_true rfl, Nat.le_of_ble_eq_true rfl⟩) ⟨fun a U g mk q => by obtain ⟨q0, q1, qP, qK, qM, qE⟩ := q; exact ⟨q0, q1, qP, va_K.moved (u := U) (U := U.calling g mk a) (Vm.Alike.refl U.vm) qK, qM, xX_call qE⟩, va_recv hK hP (ci := 9) (q0 := 0) rfl ((fw_get (by decide)).trans (by rw [sE_0]; rfl)), fun U hU hW => ⟨rfl, by rw [hU], by rw [hU]; exact hP, va_K.moved hW.alike hK, xM_warm hW hM, xX_at hEx hS (fun q h => fA_le hS.1 q h) hU hW⟩⟩ rfl rfl hl.1 rfl (lv_room (Nat.le_of_ble_eq_true rfl)) dX9_step_2 ⟨Nat.le_of_ble_eq_true rfl, Nat.le_of_ble_eq_true rfl⟩) hS (fun q _ h => fA_le hS.1 q h) (fA_le hS.1) (fun q _ h => fA_le hS.1 q h) (fun E9 ce9 q9 u9 t9 H1 locs ht9 hvm9 hpx9 hBX9 hz9 hk9 hS hce9 hcv9 hcl9 => ?_) (fun u9 t9 H1 locs ht9 hvm9 hw9 hB9 hz9 hk9 hS => hw9.elim)
    obtain ⟨hE9, hP9, hK9⟩ := hBX9
    exact vx_out (fun x hx9 => (hnt x hx9).elim) hlocks hce9 hcv9 hcl9 (fun t8 ht8 hW8 => ⟨u9, (by
                show CI T u9 ∧ SY μ u9
                exact CI_thr hI hpx9), ⟨(show ∀ z ∈ (["java/util/NoSuchElementException"] : List String), z ∈ (["java/util/NoSuchElementException", "java/lang/IllegalArgumentException"] : List String) by decide +kernel) E9 hE9, by rw [ht8, ← ht9]; exact hP9, va_K.moved hW8 hK⟩, hS.F ht8⟩) hS.2.2 (Nat.le_of_ble_eq_true rfl) (Nat.le_of_ble_eq_true rfl)
set_option maxHeartbeats 4000000 in
set_option maxRecDepth 100000 in
theorem p_status (l : Launch) (dC : Nat → ClassId) (dI : Nat → Nat → Nat) (cI cZ cII cIII : ClassId) (h0 sz : Nat) (μ : va_M) (wh : Int) (T : List Tk) (hI : CI T μ) (h_wh : inR wh) : Met l yX9_status (Cond.code yX9_status cX9_status 2 (some .int) :: wsG) ({ frames := 1, cells := 0, slots := 0, locals := 14 } : Room) (va_Pc [.ref h0, .int (iZ (wh))] (fun U => U.heap.size = sz ∧ va_P (dC, dI) vwCl (fw (sE cI cZ cII cIII h0) h0 233 μ) U.heap ∧ va_K (dC, dI) vwCl (sT cI cZ cII cIII) U ∧ xM U)) (va_Qi (fun (r9 : Int32) (u : va_M × Int) => r9 = iZ u.2 ∧ (fun (u : va_M) (r : Int) => CI T u ∧ SY μ u) u.1 u.2) (fun u t => va_P (dC, dI) vwCl (fw (sE cI cZ cII cIII h0) h0 233 u.1) t.heap ∧ va_K (dC, dI) vwCl (sT cI cZ cII cIII) t) (fA h0 233 sz)) 0 0 (fA h0 233 sz) := by
  refine Met.ofW (cc := cX9_status) (maxL := 2) (ret := (some .int)) (by decide) rfl ?_
  intro p e s m args below meth c s₁ B hml hv
  obtain ⟨rfl, hsz, hP, hK, hM⟩ := hv
  have hx := B.exec
  have hb := B.bytes
  have hr := B.returns
  have hts : ∀ w ∈ wsG, w.before _ s = true := hG_of (atoms_spec (ws := (Cond.code yX9_status cX9_status 2 (some .int) :: wsG)) B.pre)
  have hown : s.vm.findClass RX9 = some m.cls := findClass_of_methodNamed B.named
  have hlocks := B.notSynchronized
  subst hsz
  have hS : va_S (fA h0 233 s.heap.size) s.heap s.heap [] := va_S.rf
  have hl := lv_entry ([.ref h0, .int (iZ (wh))]) (n := 2) (Nat.le_of_ble_eq_true rfl)
  rw [lg_entry_eq]
  generalize (lg_sl ([.ref h0, .int (iZ (wh))]) ++ List.replicate (2 - (lg_sl ([.ref h0, .int (iZ (wh))])).length) Slot.unset).toArray = ls at hl ⊢
  have hl : lv_has ls 2 [(0, .ref h0), (1, .int (iZ (wh)))] := hl
  have hlc := CI_lc hI
  have h66 := CI_n6 hI
  refine lv_iload_n hx hb dX9_status_0 rfl (lv_at hl 1 rfl) ?_
  refine fz_if_lt (tgt := 22) (by first | assumption | (constructor <;> omega) | decide) hx hb dX9_status_1 (by decide) (fun c1_ => ?_) (fun c1_ => ?_)
  · refine lv_iconst (v := iZ (-1)) hx hb dX9_status_22 rfl ?_
    exact W.iret (v := iZ ((-1))) hx hb hr (fun t9 ht9 hW9 => ⟨⟨iZ ((-1)), (μ, (-1)), rfl, ⟨rfl, (by
                dsimp only
                exact ⟨hI, SY_rf⟩)⟩, by rw [ht9]; exact hP, va_K.moved hW9.alike hK⟩, hS.F ht9⟩) hS.2.2 dX9_status_23
  · refine lv_iload_n hx hb dX9_status_4 rfl (lv_at hl 1 rfl) ?_
    refine lv_aload_n hx hb dX9_status_5 rfl (lv_at hl 0 rfl) ?_
    refine fz_get (D := (dC, dI)) (ci := 9) (v := .ref (h0 + 112)) (C := RX9) (T := TX9) (N := 15) hx hb hts inG9 hown hK hP (k := 0) (by decide) (F := (sF0 h0)) sE_0 rfl 14 (by decide) (hts _ k346) (fun _ h9 => h9) rfl dX9_status_6 ?_
    refine fz_len (k := 112) (n := 3) hx hb hK hP 0 (by decide) sE_112 rfl dX9_status_9 ?_
    refine fz_icmp_ge (tgt := 22) (by first | assumption | (constructor <;> omega) | decide) (by decide) hx hb dX9_status_10 (by decide) (fun c10_ => ?_) (fun c10_ => ?_)
    · refine lv_iconst (v := iZ (-1)) hx hb dX9_status_22 rfl ?_
      exact W.iret (v := iZ ((-1))) hx hb hr (fun t9 ht9 hW9 => ⟨⟨iZ ((-1)), (μ, (-1)), rfl, ⟨rfl, (by
                    dsimp only
                    exact ⟨hI, SY_rf⟩)⟩, by rw [ht9]; exact hP, va_K.moved hW9.alike hK⟩, hS.F ht9⟩) hS.2.2 dX9_status_23
    · refine lv_aload_n hx hb dX9_status_13 rfl (lv_at hl 0 rfl) ?_
      refine fz_get (D := (dC, dI)) (ci := 9) (v := .ref (h0 + 112)) (C := RX9) (T := TX9) (N := 15) hx hb hts inG9 hown hK hP (k := 0) (by decide) (F := (sF0 h0)) sE_0 rfl 14 (by decide) (hts _ k346) (fun _ h9 => h9) rfl dX9_status_14 ?_
      refine lv_iload_n hx hb dX9_status_17 rfl (lv_at hl 1 rfl) ?_
      refine fz_ld (k := 112) (n := 3) hx hb hK hP 0 (by decide) sE_112 rfl ⟨by omega, by omega⟩ (by decide) dX9_status_18 ?_
      refine lv_goto (tgt := 23) hx hb dX9_status_19 (by decide) ?_
      exact W.iret (v := iZ (μ 112 (wh).toNat)) hx hb hr (fun t9 ht9 hW9 => ⟨⟨iZ (μ 112 (wh).toNat), (μ, μ 112 (wh).toNat), rfl, ⟨rfl, (by
                    dsimp only
                    exact ⟨hI, SY_rf⟩)⟩, by rw [ht9]; exact hP, va_K.moved hW9.alike hK⟩, hS.F ht9⟩) hS.2.2 dX9_status_23
set_option maxHeartbeats 4000000 in
set_option maxRecDepth 100000 in
theorem p_similar (l : Launch) (hfl : l.stackTraces = false) (dC : Nat → ClassId) (dI : Nat → Nat → Nat) (cI cZ cII cIII : ClassId) (h0 sz : Nat) (μ : va_M) (pg : Int) (ot : Int) (T : List Tk) (hI : CI T μ) (h_pg : inR pg) (h_ot : inR ot) : vx_Met l yX9_similar (Cond.code yX9_similar cX9_similar 5 (some .boolean) :: wsG) ({ frames := 8, cells := 1, slots := 6, locals := 131 } : Room) (va_Pc [.ref h0, .int (iZ (pg)), .int (iZ (ot))] (fun U => U.heap.size = sz ∧ va_P (dC, dI) vwCl (fw (sE cI cZ cII cIII h0) h0 233 μ) U.heap ∧ va_K (dC, dI) vwCl (sT cI cZ cII cIII) U ∧ xM U ∧ xX (fA h0 233 sz) U)) (va_Qi (fun (r9 : Int32) (u : va_M × Int) => r9 = iZ u.2 ∧ (fun (u : va_M) (r : Int) => CI T u ∧ SY μ u) u.1 u.2) (fun u t => va_P (dC, dI) vwCl (fw (sE cI cZ cII cIII h0) h0 233 u.1) t.heap ∧ va_K (dC, dI) vwCl (sT cI cZ cII cIII) t) (fA h0 233 sz)) (vx_X (fun (u : va_M) => CI T u ∧ SY μ u) (fun E u t => E ∈ (["java/util/NoSuchElementException"] : List String) ∧ va_P (dC, dI) vwCl (fw (sE cI cZ cII cIII h0) h0 233 u) t.heap ∧ va_K (dC, dI) vwCl (sT cI cZ cII cIII) t) (fA h0 233 sz)) 1 6 (fA h0 233 sz) := by
  refine vx_ofW (cc := cX9_similar) (maxL := 5) (ret := (some .boolean)) (by decide) rfl ?_
  intro p e s m args below meth c s₁ B hml hnt hv
  obtain ⟨rfl, hsz, hP, hK, hM, hEx⟩ := hv
  have hx := B.exec
  have hb := B.bytes
  have hr := B.returns
  have hts : ∀ w ∈ wsG, w.before _ s = true := hG_of (atoms_spec (ws := (Cond.code yX9_similar cX9_similar 5 (some .boolean) :: wsG)) B.pre)
  have hown : s.vm.findClass RX9 = some m.cls := findClass_of_methodNamed B.named
  have hlocks := B.notSynchronized
  subst hsz
  have hS : va_S (fA h0 233 s.heap.size) s.heap s.heap [] := va_S.rf
  have hl := lv_entry ([.ref h0, .int (iZ (pg)), .int (iZ (ot))]) (n := 5) (Nat.le_of_ble_eq_true rfl)
  rw [lg_entry_eq]
  generalize (lg_sl ([.ref h0, .int (iZ (pg)), .int (iZ (ot))]) ++ List.replicate (5 - (lg_sl ([.ref h0, .int (iZ (pg)), .int (iZ (ot))])).length) Slot.unset).toArray = ls at hl ⊢
  have hl : lv_has ls 5 [(0, .ref h0), (1, .int (iZ (pg))), (2, .int (iZ (ot)))] := hl
  have hlc := CI_lc hI
  have h66 := CI_n6 hI
  refine lv_aload_n hx hb dX9_similar_0 rfl (lv_at hl 0 rfl) ?_
  refine lv_iload_n hx hb dX9_similar_1 rfl (lv_at hl 1 rfl) ?_
  by_cases hn2_ : 0 ≤ pg ∧ pg < μ 0 2
  · refine va_callv (va_runV (As := [.int (iZ (pg))]) (rest := []) ⟨hx, hb, hml, hown, hts⟩ (s_needPage l dC dI cI cZ cII cIII h0 s.heap.size μ (pg) (by first | assumption | omega | exact CI_lc hI | exact CI_cn hI | exact (CI_n6 hI).1 | decide) (by first | assumption | omega | exact CI_lc hI | exact CI_cn hI | exact (CI_n6 hI).1 | decide) (by exact hn2_)) (cwV 1 hts (gV_G k735 k737 ks_yX9_needPage k1 k738) rfl rfl rfl (by decide +kernel) ⟨Nat.le_of_ble_eq_true rfl, Nat.le_of_ble_eq_true rfl⟩) ⟨fun a U g mk q => by obtain ⟨q0, q1, qP, qK, qM⟩ := q; exact ⟨q0, q1, qP, va_K.moved (u := U) (U := U.calling g mk a) (Vm.Alike.refl U.vm) qK, qM⟩, va_recv hK hP (ci := 9) (q0 := 0) rfl ((fw_get (by decide)).trans (by rw [sE_0]; rfl)), fun U hU hW => ⟨rfl, by rw [hU], by rw [hU]; exact hP, va_K.moved hW.alike hK, xM_warm hW hM⟩⟩ rfl rfl hl.1 rfl (lv_room (Nat.le_of_ble_eq_true rfl)) dX9_similar_2 ⟨Nat.le_of_ble_eq_true rfl, Nat.le_of_ble_eq_true rfl⟩) hS (fun q _ h => fA_le hS.1 q h) (fA_le hS.1) (fun u9 t9 H1 locs ht9 hvm9 hw9 hB9 hz9 hk9 hS => ?_)
    obtain ⟨hP, -⟩ := hB9
    rw [ht9] at hP
    generalize H1 = H at hP hS ⊢
    obtain ⟨μ1, eμ1⟩ : ∃ x : va_M, x = u9 := ⟨_, rfl⟩
    rw [← eμ1] at hP hw9
    have hμ1 := hw9; clear hw9
    rw [hμ1] at hP
    refine lv_aload_n hx hb dX9_similar_5 rfl (lv_at hl 0 rfl) ?_
    refine lv_iload_n hx hb dX9_similar_6 rfl (lv_at hl 2 rfl) ?_
    by_cases hn7_ : 0 ≤ ot ∧ ot < μ 0 2
    · refine va_callv (va_runV (As := [.int (iZ (ot))]) (rest := []) ⟨hx, hb, hml, hown, hts⟩ (s_needPage l dC dI cI cZ cII cIII h0 H.size μ (ot) (by first | assumption | omega | exact CI_lc hI | exact CI_cn hI | exact (CI_n6 hI).1 | decide) (by first | assumption | omega | exact CI_lc hI | exact CI_cn hI | exact (CI_n6 hI).1 | decide) (by exact hn7_)) (cwV 1 hts (gV_G k735 k737 ks_yX9_needPage k1 k738) rfl rfl rfl (by decide +kernel) ⟨Nat.le_of_ble_eq_true rfl, Nat.le_of_ble_eq_true rfl⟩) ⟨fun a U g mk q => by obtain ⟨q0, q1, qP, qK, qM⟩ := q; exact ⟨q0, q1, qP, va_K.moved (u := U) (U := U.calling g mk a) (Vm.Alike.refl U.vm) qK, qM⟩, va_recv hK hP (ci := 9) (q0 := 0) rfl ((fw_get (by decide)).trans (by rw [sE_0]; rfl)), fun U hU hW => ⟨rfl, by rw [hU], by rw [hU]; exact hP, va_K.moved hW.alike hK, xM_warm hW hM⟩⟩ rfl rfl hl.1 rfl (lv_room (Nat.le_of_ble_eq_true rfl)) dX9_similar_7 ⟨Nat.le_of_ble_eq_true rfl, Nat.le_of_ble_eq_true rfl⟩) hS (fun q _ h => fA_le hS.1 q h) (fA_le hS.1) (fun u9 t9 H1 locs ht9 hvm9 hw9 hB9 hz9 hk9 hS => ?_)
      obtain ⟨hP, -⟩ := hB9
      rw [ht9] at hP
      generalize H1 = H at hP hS ⊢
      obtain ⟨μ2, eμ2⟩ : ∃ x : va_M, x = u9 := ⟨_, rfl⟩
      rw [← eμ2] at hP hw9
      have hμ2 := hw9; clear hw9
      rw [hμ2] at hP
      obtain ⟨hl1, hl2⟩ := CI_lf hI pg (by omega) (by omega)
      obtain ⟨hm1, hm2⟩ := CI_lf hI ot (by omega) (by omega)
      have hg1 := hl1.2.2.2
      have hg2 := hm1.2.2.2
      have la := rG_len hg1
      have lb := rG_len hg2
      refine lv_aload_n hx hb dX9_similar_10 rfl (lv_at hl 0 rfl) ?_
      refine fz_get (D := (dC, dI)) (ci := 9) (v := .ref (h0 + 5)) (C := RX9) (T := TX9) (N := 15) hx hb hts inG9 hown hK hP (k := 0) (by decide) (F := (sF0 h0)) sE_0 rfl 1 (by decide) (hts _ k333) (fun _ h9 => h9) rfl dX9_similar_11 ?_
      refine lv_iload_n hx hb dX9_similar_14 rfl (lv_at hl 1 rfl) ?_
      refine fz_ald (k := 5) (n := 8) (k2 := (113 + (pg).toNat * 15)) hx hb hK hP 1 rfl (by decide) sE_5 rfl ⟨by omega, by omega⟩ (by decide) (if_pos (by omega)) dX9_similar_15 ?_
      refine fz_get (D := (dC, dI)) (ci := 1) (v := .ref (h0 + ((113 + (pg).toNat * 15) + 3))) (C := RX1) (T := TX1) (N := 8) hx hb hts inG1 hown hK hP (k := (113 + (pg).toNat * 15)) (by omega) (F := (sLF h0 (113 + (pg).toNat * 15))) (sE_leafO (show (pg).toNat < 8 by omega) rfl) rfl 3 (by decide) (hts _ k304) (fun _ h9 => h9) rfl dX9_similar_16 ?_
      refine lv_astore_n (lv' := [(3, .ref (h0 + ((113 + (pg).toNat * 15) + 3))), (0, .ref h0), (1, .int (iZ (pg))), (2, .int (iZ (ot)))]) hx hb dX9_similar_19 rfl hl (by decide) rfl (fun ls hl => ?_)
      refine lv_aload_n hx hb dX9_similar_20 rfl (lv_at hl 1 rfl) ?_
      refine fz_get (D := (dC, dI)) (ci := 9) (v := .ref (h0 + 5)) (C := RX9) (T := TX9) (N := 15) hx hb hts inG9 hown hK hP (k := 0) (by decide) (F := (sF0 h0)) sE_0 rfl 1 (by decide) (hts _ k333) (fun _ h9 => h9) rfl dX9_similar_21 ?_
      refine lv_iload_n hx hb dX9_similar_24 rfl (lv_at hl 3 rfl) ?_
      refine fz_ald (k := 5) (n := 8) (k2 := (113 + (ot).toNat * 15)) hx hb hK hP 1 rfl (by decide) sE_5 rfl ⟨by omega, by omega⟩ (by decide) (if_pos (by omega)) dX9_similar_25 ?_
      refine fz_get (D := (dC, dI)) (ci := 1) (v := .ref (h0 + ((113 + (ot).toNat * 15) + 3))) (C := RX1) (T := TX1) (N := 8) hx hb hts inG1 hown hK hP (k := (113 + (ot).toNat * 15)) (by omega) (F := (sLF h0 (113 + (ot).toNat * 15))) (sE_leafO (show (ot).toNat < 8 by omega) rfl) rfl 3 (by decide) (hts _ k304) (fun _ h9 => h9) rfl dX9_similar_26 ?_
      refine lv_astore (lv' := [(4, .ref (h0 + ((113 + (ot).toNat * 15) + 3))), (3, .ref (h0 + ((113 + (pg).toNat * 15) + 3))), (0, .ref h0), (1, .int (iZ (pg))), (2, .int (iZ (ot)))]) hx hb dX9_similar_29 hl (by decide) rfl (fun ls hl => ?_)
      refine lv_aload_n hx hb dX9_similar_31 rfl (lv_at hl 1 rfl) ?_
      refine fz_get (D := (dC, dI)) (ci := 4) (v := .int (iZ (μ ((113 + (pg).toNat * 15) + 3) 5))) (C := RX4) (T := TX4) (N := 8) hx hb hts inG4 hown hK hP (k := ((113 + (pg).toNat * 15) + 3)) (by omega) (F := (sRF h0 ((113 + (pg).toNat * 15) + 3))) (sE_rowO (rowB_L (show (pg).toNat < 8 by omega) rfl)) rfl 5 (by decide) (hts _ k99) (fun _ h9 => h9) rfl dX9_similar_32 ?_
      refine lv_aload hx hb dX9_similar_35 (lv_at hl 0 rfl) ?_
      refine fz_get (D := (dC, dI)) (ci := 4) (v := .int (iZ (μ ((113 + (ot).toNat * 15) + 3) 5))) (C := RX4) (T := TX4) (N := 8) hx hb hts inG4 hown hK hP (k := ((113 + (ot).toNat * 15) + 3)) (by omega) (F := (sRF h0 ((113 + (ot).toNat * 15) + 3))) (sE_rowO (rowB_L (show (ot).toNat < 8 by omega) rfl)) rfl 5 (by decide) (hts _ k99) (fun _ h9 => h9) rfl dX9_similar_37 ?_
      refine fz_icmp_ne (tgt := 62) (by first | assumption | (constructor <;> omega) | decide) (by first | assumption | (constructor <;> omega) | decide) hx hb dX9_similar_40 (by decide) (fun c40_ => ?_) (fun c40_ => ?_)
      · refine lv_iconst (v := iZ 0) hx hb dX9_similar_62 rfl ?_
        exact W_widen (Nat.le_of_ble_eq_true rfl) (Nat.le_of_ble_eq_true rfl) (vx_ret (W.zret (v := iZ (0)) hx hb hr (by decide +kernel) (fun t9 ht9 hW9 => ⟨⟨iZ (0), (μ, 0), rfl, ⟨rfl, (by
                        dsimp only
                        exact ⟨hI, SY_rf⟩)⟩, by rw [ht9]; exact hP, va_K.moved hW9.alike hK⟩, hS.F ht9⟩) hS.2.2 dX9_similar_63))
      · refine lv_aload_n hx hb dX9_similar_43 rfl (lv_at hl 1 rfl) ?_
        refine lv_iconst (v := iZ 0) hx hb dX9_similar_44 rfl ?_
        refine lv_aload hx hb dX9_similar_45 (lv_at hl 0 rfl) ?_
        refine lv_iconst (v := iZ 0) hx hb dX9_similar_47 rfl ?_
        refine lv_aload_n hx hb dX9_similar_48 rfl (lv_at hl 1 rfl) ?_
        refine fz_get (D := (dC, dI)) (ci := 4) (v := .int (iZ (μ ((113 + (pg).toNat * 15) + 3) 5))) (C := RX4) (T := TX4) (N := 8) hx hb hts inG4 hown hK hP (k := ((113 + (pg).toNat * 15) + 3)) (by omega) (F := (sRF h0 ((113 + (pg).toNat * 15) + 3))) (sE_rowO (rowB_L (show (pg).toNat < 8 by omega) rfl)) rfl 5 (by decide) (hts _ k99) (fun _ h9 => h9) rfl dX9_similar_49 ?_
        refine va_calli (va_runV (As := [.int (iZ (0)), .ref (h0 + ((113 + (ot).toNat * 15) + 3)), .int (iZ (0)), .int (iZ (μ ((113 + (pg).toNat * 15) + 3) 5))]) (rest := []) ⟨hx, hb, hml, hown, hts⟩ (s_Rmatches l dC dI cI cZ cII cIII h0 H.size μ (((113 + (pg).toNat * 15) + 3)) (96) (((113 + (ot).toNat * 15) + 3)) (96) (0) (0) (μ ((113 + (pg).toNat * 15) + 3) 5) ((rowB_L (show (pg).toNat < 8 by omega) rfl)) ((rowB_L (show (ot).toNat < 8 by omega) rfl)) (by exact hg1.1) (by exact hg2.1) (by first | assumption | omega | exact CI_lc hI | exact CI_cn hI | exact (CI_n6 hI).1 | decide) (by first | assumption | omega | exact CI_lc hI | exact CI_cn hI | exact (CI_n6 hI).1 | decide) (by first | assumption | omega | exact CI_lc hI | exact CI_cn hI | exact (CI_n6 hI).1 | decide) (by first | assumption | omega | exact CI_lc hI | exact CI_cn hI | exact (CI_n6 hI).1 | decide) (by first | assumption | omega | exact CI_lc hI | exact CI_cn hI | exact (CI_n6 hI).1 | decide) (by first | assumption | omega | exact CI_lc hI | exact CI_cn hI | exact (CI_n6 hI).1 | decide)) (cwV 4 hts (gV_G k1100 k442 k443 k3 k444) rfl rfl rfl (by decide +kernel) ⟨Nat.le_of_ble_eq_true rfl, Nat.le_of_ble_eq_true rfl⟩) ⟨fun a U g mk q => by obtain ⟨q0, q1, qP, qK, qM⟩ := q; exact ⟨q0, q1, qP, va_K.moved (u := U) (U := U.calling g mk a) (Vm.Alike.refl U.vm) qK, qM⟩, va_recv hK hP (ci := 4) (q0 := ((113 + (pg).toNat * 15) + 3)) rfl ((fw_get (by omega)).trans (by rw [(sE_rowO (rowB_L (show (pg).toNat < 8 by omega) rfl))])), fun U hU hW => ⟨rfl, by rw [hU], by rw [hU]; exact hP, va_K.moved hW.alike hK, xM_warm hW hM⟩⟩ rfl rfl hl.1 rfl (lv_room (Nat.le_of_ble_eq_true rfl)) dX9_similar_52 ⟨Nat.le_of_ble_eq_true rfl, Nat.le_of_ble_eq_true rfl⟩) hS (fun q _ h => fA_le hS.1 q h) (fA_le hS.1) (fun r9 u9 t9 H1 locs ht9 hvm9 hw9 hB9 hz9 hk9 hS => ?_)
        obtain ⟨μq, rq⟩ := u9
        obtain ⟨hP, -⟩ := hB9
        rw [ht9] at hP
        generalize H1 = H at hP hS ⊢
        obtain ⟨e9, hw9⟩ := hw9
        have e9 : r9 = iZ rq := e9
        subst e9
        simp only at hP hw9
        have hμq := hw9; clear hw9
        rw [hμq.1] at hP; have hμq := hμq.2
        have hrq := hμq
        have hr01 : rq = 0 ∨ rq = 1 := hrq.elim (fun h => Or.inr h.1) (fun h => Or.inl h.1)
        refine fz_if_eq (tgt := 62) (by first | assumption | (constructor <;> omega) | decide) hx hb dX9_similar_55 (by decide) (fun c55_ => ?_) (fun c55_ => ?_)
        · refine lv_iconst (v := iZ 0) hx hb dX9_similar_62 rfl ?_
          exact W_widen (Nat.le_of_ble_eq_true rfl) (Nat.le_of_ble_eq_true rfl) (vx_ret (W.zret (v := iZ (0)) hx hb hr (by decide +kernel) (fun t9 ht9 hW9 => ⟨⟨iZ (0), (μ, 0), rfl, ⟨rfl, (by
                            dsimp only
                            exact ⟨hI, SY_rf⟩)⟩, by rw [ht9]; exact hP, va_K.moved hW9.alike hK⟩, hS.F ht9⟩) hS.2.2 dX9_similar_63))
        · refine lv_iconst (v := iZ 1) hx hb dX9_similar_58 rfl ?_
          refine lv_goto (tgt := 63) hx hb dX9_similar_59 (by decide) ?_
          exact W_widen (Nat.le_of_ble_eq_true rfl) (Nat.le_of_ble_eq_true rfl) (vx_ret (W.zret (v := iZ (1)) hx hb hr (by decide +kernel) (fun t9 ht9 hW9 => ⟨⟨iZ (1), (μ, 1), rfl, ⟨rfl, (by
                            dsimp only
                            exact ⟨hI, SY_rf⟩)⟩, by rw [ht9]; exact hP, va_K.moved hW9.alike hK⟩, hS.F ht9⟩) hS.2.2 dX9_similar_63))
    · refine vx_callv (vx_runV (As := [.int (iZ (ot))]) (rest := []) ⟨hx, hb, hml, hown, hts⟩ (x_needPage l hfl dC dI cI cZ cII cIII h0 H.size μ (ot) (by first | assumption | omega | exact CI_lc hI | exact CI_cn hI | exact (CI_n6 hI).1 | decide) (by first | assumption | omega | exact CI_lc hI | exact CI_cn hI | exact (CI_n6 hI).1 | decide) (hn7_)) (cwV 1 hts (gV_G k735 k737 ks_yX9_needPage k1 k738) rfl rfl rfl (by decide +kernel) ⟨Nat.le_of_ble_eq_true rfl, Nat.le_of_ble_eq_true rfl⟩) ⟨fun a U g mk q => by obtain ⟨q0, q1, qP, qK, qM, qE⟩ := q; exact ⟨q0, q1, qP, va_K.moved (u := U) (U := U.calling g mk a) (Vm.Alike.refl U.vm) qK, qM, xX_call qE⟩, va_recv hK hP (ci := 9) (q0 := 0) rfl ((fw_get (by decide)).trans (by rw [sE_0]; rfl)), fun U hU hW => ⟨rfl, by rw [hU], by rw [hU]; exact hP, va_K.moved hW.alike hK, xM_warm hW hM, xX_at hEx hS (fun q h => fA_le hS.1 q h) hU hW⟩⟩ rfl rfl hl.1 rfl (lv_room (Nat.le_of_ble_eq_true rfl)) dX9_similar_7 ⟨Nat.le_of_ble_eq_true rfl, Nat.le_of_ble_eq_true rfl⟩) hS (fun q _ h => fA_le hS.1 q h) (fA_le hS.1) (fun q _ h => fA_le hS.1 q h) (fun E9 ce9 q9 u9 t9 H1 locs ht9 hvm9 hpx9 hBX9 hz9 hk9 hS hce9 hcv9 hcl9 => ?_) (fun u9 t9 H1 locs ht9 hvm9 hw9 hB9 hz9 hk9 hS => hw9.elim)
      obtain ⟨hE9, hP9, hK9⟩ := hBX9
      exact vx_out (fun x hx9 => (hnt x hx9).elim) hlocks hce9 hcv9 hcl9 (fun t8 ht8 hW8 => ⟨u9, (by
                    show CI T u9 ∧ SY μ u9
                    exact CI_thr hI hpx9), ⟨hE9, by rw [ht8, ← ht9]; exact hP9, va_K.moved hW8 hK⟩, hS.F ht8⟩) hS.2.2 (Nat.le_of_ble_eq_true rfl) (Nat.le_of_ble_eq_true rfl)
  · refine vx_callv (vx_runV (As := [.int (iZ (pg))]) (rest := []) ⟨hx, hb, hml, hown, hts⟩ (x_needPage l hfl dC dI cI cZ cII cIII h0 s.heap.size μ (pg) (by first | assumption | omega | exact CI_lc hI | exact CI_cn hI | exact (CI_n6 hI).1 | decide) (by first | assumption | omega | exact CI_lc hI | exact CI_cn hI | exact (CI_n6 hI).1 | decide) (hn2_)) (cwV 1 hts (gV_G k735 k737 ks_yX9_needPage k1 k738) rfl rfl rfl (by decide +kernel) ⟨Nat.le_of_ble_eq_true rfl, Nat.le_of_ble_eq_true rfl⟩) ⟨fun a U g mk q => by obtain ⟨q0, q1, qP, qK, qM, qE⟩ := q; exact ⟨q0, q1, qP, va_K.moved (u := U) (U := U.calling g mk a) (Vm.Alike.refl U.vm) qK, qM, xX_call qE⟩, va_recv hK hP (ci := 9) (q0 := 0) rfl ((fw_get (by decide)).trans (by rw [sE_0]; rfl)), fun U hU hW => ⟨rfl, by rw [hU], by rw [hU]; exact hP, va_K.moved hW.alike hK, xM_warm hW hM, xX_at hEx hS (fun q h => fA_le hS.1 q h) hU hW⟩⟩ rfl rfl hl.1 rfl (lv_room (Nat.le_of_ble_eq_true rfl)) dX9_similar_2 ⟨Nat.le_of_ble_eq_true rfl, Nat.le_of_ble_eq_true rfl⟩) hS (fun q _ h => fA_le hS.1 q h) (fA_le hS.1) (fun q _ h => fA_le hS.1 q h) (fun E9 ce9 q9 u9 t9 H1 locs ht9 hvm9 hpx9 hBX9 hz9 hk9 hS hce9 hcv9 hcl9 => ?_) (fun u9 t9 H1 locs ht9 hvm9 hw9 hB9 hz9 hk9 hS => hw9.elim)
    obtain ⟨hE9, hP9, hK9⟩ := hBX9
    exact vx_out (fun x hx9 => (hnt x hx9).elim) hlocks hce9 hcv9 hcl9 (fun t8 ht8 hW8 => ⟨u9, (by
                show CI T u9 ∧ SY μ u9
                exact CI_thr hI hpx9), ⟨hE9, by rw [ht8, ← ht9]; exact hP9, va_K.moved hW8 hK⟩, hS.F ht8⟩) hS.2.2 (Nat.le_of_ble_eq_true rfl) (Nat.le_of_ble_eq_true rfl)
set_option maxHeartbeats 4000000 in
set_option maxRecDepth 100000 in
theorem p_alike (l : Launch) (hfl : l.stackTraces = false) (dC : Nat → ClassId) (dI : Nat → Nat → Nat) (cI cZ cII cIII : ClassId) (h0 sz : Nat) (μ : va_M) (nd : Int) (ne : Int) (T : List Tk) (hI : CI T μ) (h_nd : inR nd) (h_ne : inR ne) : vx_Met l yX9_alike (Cond.code yX9_alike cX9_alike 6 (some .boolean) :: wsG) ({ frames := 8, cells := 1, slots := 6, locals := 132 } : Room) (va_Pc [.ref h0, .int (iZ (nd)), .int (iZ (ne))] (fun U => U.heap.size = sz ∧ va_P (dC, dI) vwCl (fw (sE cI cZ cII cIII h0) h0 233 μ) U.heap ∧ va_K (dC, dI) vwCl (sT cI cZ cII cIII) U ∧ xM U ∧ xX (fA h0 233 sz) U)) (va_Qi (fun (r9 : Int32) (u : va_M × Int) => r9 = iZ u.2 ∧ (fun (u : va_M) (r : Int) => CI T u ∧ SY μ u) u.1 u.2) (fun u t => va_P (dC, dI) vwCl (fw (sE cI cZ cII cIII h0) h0 233 u.1) t.heap ∧ va_K (dC, dI) vwCl (sT cI cZ cII cIII) t) (fA h0 233 sz)) (vx_X (fun (u : va_M) => CI T u ∧ SY μ u) (fun E u t => E ∈ (["java/util/NoSuchElementException"] : List String) ∧ va_P (dC, dI) vwCl (fw (sE cI cZ cII cIII h0) h0 233 u) t.heap ∧ va_K (dC, dI) vwCl (sT cI cZ cII cIII) t) (fA h0 233 sz)) 1 6 (fA h0 233 sz) := by
  refine vx_ofW (cc := cX9_alike) (maxL := 6) (ret := (some .boolean)) (by decide) rfl ?_
  intro p e s m args below meth c s₁ B hml hnt hv
  obtain ⟨rfl, hsz, hP, hK, hM, hEx⟩ := hv
  have hx := B.exec
  have hb := B.bytes
  have hr := B.returns
  have hts : ∀ w ∈ wsG, w.before _ s = true := hG_of (atoms_spec (ws := (Cond.code yX9_alike cX9_alike 6 (some .boolean) :: wsG)) B.pre)
  have hown : s.vm.findClass RX9 = some m.cls := findClass_of_methodNamed B.named
  have hlocks := B.notSynchronized
  subst hsz
  have hS : va_S (fA h0 233 s.heap.size) s.heap s.heap [] := va_S.rf
  have hl := lv_entry ([.ref h0, .int (iZ (nd)), .int (iZ (ne))]) (n := 6) (Nat.le_of_ble_eq_true rfl)
  rw [lg_entry_eq]
  generalize (lg_sl ([.ref h0, .int (iZ (nd)), .int (iZ (ne))]) ++ List.replicate (6 - (lg_sl ([.ref h0, .int (iZ (nd)), .int (iZ (ne))])).length) Slot.unset).toArray = ls at hl ⊢
  have hl : lv_has ls 6 [(0, .ref h0), (1, .int (iZ (nd))), (2, .int (iZ (ne)))] := hl
  have hlc := CI_lc hI
  have h66 := CI_n6 hI
  refine lv_aload_n hx hb dX9_alike_0 rfl (lv_at hl 0 rfl) ?_
  refine lv_aload_n hx hb dX9_alike_1 rfl (lv_at hl 0 rfl) ?_
  refine fz_get (D := (dC, dI)) (ci := 9) (v := .ref (h0 + 6)) (C := RX9) (T := TX9) (N := 15) hx hb hts inG9 hown hK hP (k := 0) (by decide) (F := (sF0 h0)) sE_0 rfl 3 (by decide) (hts _ k335) (fun _ h9 => h9) rfl dX9_alike_2 ?_
  refine lv_iload_n hx hb dX9_alike_5 rfl (lv_at hl 1 rfl) ?_
  by_cases hn6_ : 0 ≤ nd ∧ nd < μ 6 6
  · refine va_callv (va_runV (As := [.ref (h0 + 6), .int (iZ (nd))]) (rest := []) ⟨hx, hb, hml, hown, hts⟩ (s_needNode l dC dI cI cZ cII cIII h0 s.heap.size μ (6) (1100) (nd) (rowB_6) (by first | assumption | omega | exact CI_lc hI | exact CI_cn hI | exact (CI_n6 hI).1 | decide) (by first | assumption | omega | exact CI_lc hI | exact CI_cn hI | exact (CI_n6 hI).1 | decide) (by exact hn6_)) (cwV 2 hts (gV_G k914 k916 ks_yX9_needNode k1 k917) rfl rfl rfl (by decide +kernel) ⟨Nat.le_of_ble_eq_true rfl, Nat.le_of_ble_eq_true rfl⟩) ⟨fun a U g mk q => by obtain ⟨q0, q1, qP, qK, qM⟩ := q; exact ⟨q0, q1, qP, va_K.moved (u := U) (U := U.calling g mk a) (Vm.Alike.refl U.vm) qK, qM⟩, va_recv hK hP (ci := 9) (q0 := 0) rfl ((fw_get (by decide)).trans (by rw [sE_0]; rfl)), fun U hU hW => ⟨rfl, by rw [hU], by rw [hU]; exact hP, va_K.moved hW.alike hK, xM_warm hW hM⟩⟩ rfl rfl hl.1 rfl (lv_room (Nat.le_of_ble_eq_true rfl)) dX9_alike_6 ⟨Nat.le_of_ble_eq_true rfl, Nat.le_of_ble_eq_true rfl⟩) hS (fun q _ h => fA_le hS.1 q h) (fA_le hS.1) (fun u9 t9 H1 locs ht9 hvm9 hw9 hB9 hz9 hk9 hS => ?_)
    obtain ⟨hP, -⟩ := hB9
    rw [ht9] at hP
    generalize H1 = H at hP hS ⊢
    obtain ⟨μ1, eμ1⟩ : ∃ x : va_M, x = u9 := ⟨_, rfl⟩
    rw [← eμ1] at hP hw9
    have hμ1 := hw9; clear hw9
    rw [hμ1] at hP
    refine lv_aload_n hx hb dX9_alike_9 rfl (lv_at hl 0 rfl) ?_
    refine lv_aload_n hx hb dX9_alike_10 rfl (lv_at hl 0 rfl) ?_
    refine fz_get (D := (dC, dI)) (ci := 9) (v := .ref (h0 + 6)) (C := RX9) (T := TX9) (N := 15) hx hb hts inG9 hown hK hP (k := 0) (by decide) (F := (sF0 h0)) sE_0 rfl 3 (by decide) (hts _ k335) (fun _ h9 => h9) rfl dX9_alike_11 ?_
    refine lv_iload_n hx hb dX9_alike_14 rfl (lv_at hl 2 rfl) ?_
    by_cases hn15_ : 0 ≤ ne ∧ ne < μ 6 6
    · refine va_callv (va_runV (As := [.ref (h0 + 6), .int (iZ (ne))]) (rest := []) ⟨hx, hb, hml, hown, hts⟩ (s_needNode l dC dI cI cZ cII cIII h0 H.size μ (6) (1100) (ne) (rowB_6) (by first | assumption | omega | exact CI_lc hI | exact CI_cn hI | exact (CI_n6 hI).1 | decide) (by first | assumption | omega | exact CI_lc hI | exact CI_cn hI | exact (CI_n6 hI).1 | decide) (by exact hn15_)) (cwV 2 hts (gV_G k914 k916 ks_yX9_needNode k1 k917) rfl rfl rfl (by decide +kernel) ⟨Nat.le_of_ble_eq_true rfl, Nat.le_of_ble_eq_true rfl⟩) ⟨fun a U g mk q => by obtain ⟨q0, q1, qP, qK, qM⟩ := q; exact ⟨q0, q1, qP, va_K.moved (u := U) (U := U.calling g mk a) (Vm.Alike.refl U.vm) qK, qM⟩, va_recv hK hP (ci := 9) (q0 := 0) rfl ((fw_get (by decide)).trans (by rw [sE_0]; rfl)), fun U hU hW => ⟨rfl, by rw [hU], by rw [hU]; exact hP, va_K.moved hW.alike hK, xM_warm hW hM⟩⟩ rfl rfl hl.1 rfl (lv_room (Nat.le_of_ble_eq_true rfl)) dX9_alike_15 ⟨Nat.le_of_ble_eq_true rfl, Nat.le_of_ble_eq_true rfl⟩) hS (fun q _ h => fA_le hS.1 q h) (fA_le hS.1) (fun u9 t9 H1 locs ht9 hvm9 hw9 hB9 hz9 hk9 hS => ?_)
      obtain ⟨hP, -⟩ := hB9
      rw [ht9] at hP
      generalize H1 = H at hP hS ⊢
      obtain ⟨μ2, eμ2⟩ : ∃ x : va_M, x = u9 := ⟨_, rfl⟩
      rw [← eμ2] at hP hw9
      have hμ2 := hw9; clear hw9
      rw [hμ2] at hP
      have p1 : 0 ≤ μ 11 nd.toNat ∧ μ 11 nd.toNat < μ 6 5 := rG_p hI.1.2.2.1 nd (by omega) (by omega)
      have p2 : 0 ≤ μ 11 ne.toNat ∧ μ 11 ne.toNat < μ 6 5 := rG_p hI.1.2.2.1 ne (by omega) (by omega)
      have q1 : 0 ≤ μ (6 + 2) (μ 11 nd.toNat).toNat ∧ μ (6 + 2) (μ 11 nd.toNat).toNat < μ 6 5 := rG_m hI.1.2.2.1 (μ 11 nd.toNat) p1.1 p1.2
      have q2 : 0 ≤ μ (6 + 2) (μ 11 ne.toNat).toNat ∧ μ (6 + 2) (μ 11 ne.toNat).toNat < μ 6 5 := rG_m hI.1.2.2.1 (μ 11 ne.toNat) p2.1 p2.2
      refine lv_aload_n hx hb dX9_alike_18 rfl (lv_at hl 0 rfl) ?_
      refine fz_get (D := (dC, dI)) (ci := 9) (v := .ref (h0 + 6)) (C := RX9) (T := TX9) (N := 15) hx hb hts inG9 hown hK hP (k := 0) (by decide) (F := (sF0 h0)) sE_0 rfl 3 (by decide) (hts _ k335) (fun _ h9 => h9) rfl dX9_alike_19 ?_
      refine fz_get (D := (dC, dI)) (ci := 4) (v := .ref (h0 + 11)) (C := RX4) (T := TX4) (N := 8) hx hb hts inG4 hown hK hP (k := 6) (by decide) (F := (sRF h0 6)) (sE_rowO rowB_6) rfl 4 (by decide) (hts _ k91) (fun _ h9 => h9) rfl dX9_alike_22 ?_
      refine lv_iload_n hx hb dX9_alike_25 rfl (lv_at hl 1 rfl) ?_
      refine fz_ld (k := 11) (n := 1100) hx hb hK hP 0 (by decide) (sE_rowA (r := 5) rowB_6 (by decide)) rfl ⟨by omega, by omega⟩ (by decide) dX9_alike_26 ?_
      refine lv_istore_n (lv' := [(3, .int (iZ (μ 11 (nd).toNat))), (0, .ref h0), (1, .int (iZ (nd))), (2, .int (iZ (ne)))]) hx hb dX9_alike_27 rfl hl (by decide) rfl (fun ls hl => ?_)
      refine lv_aload_n hx hb dX9_alike_28 rfl (lv_at hl 1 rfl) ?_
      refine fz_get (D := (dC, dI)) (ci := 9) (v := .ref (h0 + 6)) (C := RX9) (T := TX9) (N := 15) hx hb hts inG9 hown hK hP (k := 0) (by decide) (F := (sF0 h0)) sE_0 rfl 3 (by decide) (hts _ k335) (fun _ h9 => h9) rfl dX9_alike_29 ?_
      refine fz_get (D := (dC, dI)) (ci := 4) (v := .ref (h0 + 11)) (C := RX4) (T := TX4) (N := 8) hx hb hts inG4 hown hK hP (k := 6) (by decide) (F := (sRF h0 6)) (sE_rowO rowB_6) rfl 4 (by decide) (hts _ k91) (fun _ h9 => h9) rfl dX9_alike_32 ?_
      refine lv_iload_n hx hb dX9_alike_35 rfl (lv_at hl 3 rfl) ?_
      refine fz_ld (k := 11) (n := 1100) hx hb hK hP 0 (by decide) (sE_rowA (r := 5) rowB_6 (by decide)) rfl ⟨by omega, by omega⟩ (by decide) dX9_alike_36 ?_
      refine lv_istore (lv' := [(4, .int (iZ (μ 11 (ne).toNat))), (3, .int (iZ (μ 11 (nd).toNat))), (0, .ref h0), (1, .int (iZ (nd))), (2, .int (iZ (ne)))]) hx hb dX9_alike_37 hl (by decide) rfl (fun ls hl => ?_)
      refine lv_aload_n hx hb dX9_alike_39 rfl (lv_at hl 2 rfl) ?_
      refine fz_get (D := (dC, dI)) (ci := 9) (v := .ref (h0 + 6)) (C := RX9) (T := TX9) (N := 15) hx hb hts inG9 hown hK hP (k := 0) (by decide) (F := (sF0 h0)) sE_0 rfl 3 (by decide) (hts _ k335) (fun _ h9 => h9) rfl dX9_alike_40 ?_
      refine lv_iload_n hx hb dX9_alike_43 rfl (lv_at hl 1 rfl) ?_
      refine va_calli (va_runV (As := [.int (iZ (μ 11 (nd).toNat))]) (rest := []) ⟨hx, hb, hml, hown, hts⟩ (s_Rafter l dC dI cI cZ cII cIII h0 H.size μ (6) (1100) (μ 11 (nd).toNat) (rowB_6) (by omega) (by constructor <;> omega)) (cwV 1 hts (gV_G k1099 k438 k439 k3 k440) rfl rfl rfl (by decide +kernel) ⟨Nat.le_of_ble_eq_true rfl, Nat.le_of_ble_eq_true rfl⟩) ⟨fun a U g mk q => by obtain ⟨q0, q1, qP, qK, qM⟩ := q; exact ⟨q0, q1, qP, va_K.moved (u := U) (U := U.calling g mk a) (Vm.Alike.refl U.vm) qK, qM⟩, va_recv hK hP (ci := 4) (q0 := 6) rfl ((fw_get (by decide)).trans (by rw [(sE_rowO rowB_6)])), fun U hU hW => ⟨rfl, by rw [hU], by rw [hU]; exact hP, va_K.moved hW.alike hK, xM_warm hW hM⟩⟩ rfl rfl hl.1 rfl (lv_room (Nat.le_of_ble_eq_true rfl)) dX9_alike_44 ⟨Nat.le_of_ble_eq_true rfl, Nat.le_of_ble_eq_true rfl⟩) hS (fun q _ h => fA_le hS.1 q h) (fA_le hS.1) (fun r9 u9 t9 H1 locs ht9 hvm9 hw9 hB9 hz9 hk9 hS => ?_)
      obtain ⟨μa, ra⟩ := u9
      obtain ⟨hP, -⟩ := hB9
      rw [ht9] at hP
      generalize H1 = H at hP hS ⊢
      obtain ⟨e9, hw9⟩ := hw9
      have e9 : r9 = iZ ra := e9
      subst e9
      simp only at hP hw9
      have hμa := hw9; clear hw9
      rw [hμa.1] at hP; have hμa := hμa.2
      have hra := hμa
      refine lv_iload_n hx hb dX9_alike_47 rfl (lv_at hl 1 rfl) ?_
      refine lv_isub hx hb dX9_alike_48 ?_
      refine lv_topi (fun x9 ex9 => ?_)
      obtain rfl : x9 = iZ (ra - (μ 11 (nd).toNat)) := ex9.trans (iZ_sub _ _)
      refine lv_istore (lv' := [(5, .int (iZ (ra - (μ 11 (nd).toNat)))), (4, .int (iZ (μ 11 (ne).toNat))), (3, .int (iZ (μ 11 (nd).toNat))), (0, .ref h0), (1, .int (iZ (nd))), (2, .int (iZ (ne)))]) hx hb dX9_alike_49 hl (by decide) rfl (fun ls hl => ?_)
      refine lv_iload hx hb dX9_alike_51 (lv_at hl 0 rfl) ?_
      refine lv_aload_n hx hb dX9_alike_53 rfl (lv_at hl 3 rfl) ?_
      refine fz_get (D := (dC, dI)) (ci := 9) (v := .ref (h0 + 6)) (C := RX9) (T := TX9) (N := 15) hx hb hts inG9 hown hK hP (k := 0) (by decide) (F := (sF0 h0)) sE_0 rfl 3 (by decide) (hts _ k335) (fun _ h9 => h9) rfl dX9_alike_54 ?_
      refine lv_iload hx hb dX9_alike_57 (lv_at hl 1 rfl) ?_
      refine va_calli (va_runV (As := [.int (iZ (μ 11 (ne).toNat))]) (rest := [.int (iZ (ra - (μ 11 (nd).toNat)))]) ⟨hx, hb, hml, hown, hts⟩ (s_Rafter l dC dI cI cZ cII cIII h0 H.size μ (6) (1100) (μ 11 (ne).toNat) (rowB_6) (by omega) (by constructor <;> omega)) (cwV 1 hts (gV_G k1099 k438 k439 k3 k440) rfl rfl rfl (by decide +kernel) ⟨Nat.le_of_ble_eq_true rfl, Nat.le_of_ble_eq_true rfl⟩) ⟨fun a U g mk q => by obtain ⟨q0, q1, qP, qK, qM⟩ := q; exact ⟨q0, q1, qP, va_K.moved (u := U) (U := U.calling g mk a) (Vm.Alike.refl U.vm) qK, qM⟩, va_recv hK hP (ci := 4) (q0 := 6) rfl ((fw_get (by decide)).trans (by rw [(sE_rowO rowB_6)])), fun U hU hW => ⟨rfl, by rw [hU], by rw [hU]; exact hP, va_K.moved hW.alike hK, xM_warm hW hM⟩⟩ rfl rfl hl.1 rfl (lv_room (Nat.le_of_ble_eq_true rfl)) dX9_alike_59 ⟨Nat.le_of_ble_eq_true rfl, Nat.le_of_ble_eq_true rfl⟩) hS (fun q _ h => fA_le hS.1 q h) (fA_le hS.1) (fun r9 u9 t9 H1 locs ht9 hvm9 hw9 hB9 hz9 hk9 hS => ?_)
      obtain ⟨μb, rb⟩ := u9
      obtain ⟨hP, -⟩ := hB9
      rw [ht9] at hP
      generalize H1 = H at hP hS ⊢
      obtain ⟨e9, hw9⟩ := hw9
      have e9 : r9 = iZ rb := e9
      subst e9
      simp only at hP hw9
      have hμb := hw9; clear hw9
      rw [hμb.1] at hP; have hμb := hμb.2
      have hrb := hμb
      refine lv_iload hx hb dX9_alike_62 (lv_at hl 1 rfl) ?_
      refine lv_isub hx hb dX9_alike_64 ?_
      refine lv_topi (fun x9 ex9 => ?_)
      obtain rfl : x9 = iZ (rb - (μ 11 (ne).toNat)) := ex9.trans (iZ_sub _ _)
      refine fz_icmp_ne (tgt := 91) (by first | assumption | (constructor <;> omega) | decide) (by first | assumption | (constructor <;> omega) | decide) hx hb dX9_alike_65 (by decide) (fun c65_ => ?_) (fun c65_ => ?_)
      · refine lv_iconst (v := iZ 0) hx hb dX9_alike_91 rfl ?_
        exact W_widen (Nat.le_of_ble_eq_true rfl) (Nat.le_of_ble_eq_true rfl) (vx_ret (W.zret (v := iZ (0)) hx hb hr (by decide +kernel) (fun t9 ht9 hW9 => ⟨⟨iZ (0), (μ, 0), rfl, ⟨rfl, (by
                        dsimp only
                        exact ⟨hI, SY_rf⟩)⟩, by rw [ht9]; exact hP, va_K.moved hW9.alike hK⟩, hS.F ht9⟩) hS.2.2 dX9_alike_92))
      · refine lv_aload_n hx hb dX9_alike_68 rfl (lv_at hl 3 rfl) ?_
        refine fz_get (D := (dC, dI)) (ci := 9) (v := .ref (h0 + 6)) (C := RX9) (T := TX9) (N := 15) hx hb hts inG9 hown hK hP (k := 0) (by decide) (F := (sF0 h0)) sE_0 rfl 3 (by decide) (hts _ k335) (fun _ h9 => h9) rfl dX9_alike_69 ?_
        refine lv_iload_n hx hb dX9_alike_72 rfl (lv_at hl 2 rfl) ?_
        refine lv_aload_n hx hb dX9_alike_73 rfl (lv_at hl 3 rfl) ?_
        refine fz_get (D := (dC, dI)) (ci := 9) (v := .ref (h0 + 6)) (C := RX9) (T := TX9) (N := 15) hx hb hts inG9 hown hK hP (k := 0) (by decide) (F := (sF0 h0)) sE_0 rfl 3 (by decide) (hts _ k335) (fun _ h9 => h9) rfl dX9_alike_74 ?_
        refine lv_iload hx hb dX9_alike_77 (lv_at hl 1 rfl) ?_
        refine lv_iload hx hb dX9_alike_79 (lv_at hl 0 rfl) ?_
        refine va_calli (va_runV (As := [.int (iZ (μ 11 (nd).toNat)), .ref (h0 + 6), .int (iZ (μ 11 (ne).toNat)), .int (iZ (ra - (μ 11 (nd).toNat)))]) (rest := []) ⟨hx, hb, hml, hown, hts⟩ (s_Rmatches l dC dI cI cZ cII cIII h0 H.size μ (6) (1100) (6) (1100) (μ 11 (nd).toNat) (μ 11 (ne).toNat) (ra - (μ 11 (nd).toNat)) (rowB_6) (rowB_6) (by exact hI.1.2.2.1.1) (by exact hI.1.2.2.1.1) (by exact (rG_len hI.1.2.2.1)) (by exact (rG_len hI.1.2.2.1)) (by first | assumption | omega | exact CI_lc hI | exact CI_cn hI | exact (CI_n6 hI).1 | decide) (by first | assumption | omega | exact CI_lc hI | exact CI_cn hI | exact (CI_n6 hI).1 | decide) (by first | assumption | omega | exact CI_lc hI | exact CI_cn hI | exact (CI_n6 hI).1 | decide) (by first | assumption | omega | exact CI_lc hI | exact CI_cn hI | exact (CI_n6 hI).1 | decide)) (cwV 4 hts (gV_G k1100 k442 k443 k3 k444) rfl rfl rfl (by decide +kernel) ⟨Nat.le_of_ble_eq_true rfl, Nat.le_of_ble_eq_true rfl⟩) ⟨fun a U g mk q => by obtain ⟨q0, q1, qP, qK, qM⟩ := q; exact ⟨q0, q1, qP, va_K.moved (u := U) (U := U.calling g mk a) (Vm.Alike.refl U.vm) qK, qM⟩, va_recv hK hP (ci := 4) (q0 := 6) rfl ((fw_get (by decide)).trans (by rw [(sE_rowO rowB_6)])), fun U hU hW => ⟨rfl, by rw [hU], by rw [hU]; exact hP, va_K.moved hW.alike hK, xM_warm hW hM⟩⟩ rfl rfl hl.1 rfl (lv_room (Nat.le_of_ble_eq_true rfl)) dX9_alike_81 ⟨Nat.le_of_ble_eq_true rfl, Nat.le_of_ble_eq_true rfl⟩) hS (fun q _ h => fA_le hS.1 q h) (fA_le hS.1) (fun r9 u9 t9 H1 locs ht9 hvm9 hw9 hB9 hz9 hk9 hS => ?_)
        obtain ⟨μq, rq⟩ := u9
        obtain ⟨hP, -⟩ := hB9
        rw [ht9] at hP
        generalize H1 = H at hP hS ⊢
        obtain ⟨e9, hw9⟩ := hw9
        have e9 : r9 = iZ rq := e9
        subst e9
        simp only at hP hw9
        have hμq := hw9; clear hw9
        rw [hμq.1] at hP; have hμq := hμq.2
        have hrq := hμq
        have hr01 : rq = 0 ∨ rq = 1 := hrq.elim (fun h => Or.inr h.1) (fun h => Or.inl h.1)
        refine fz_if_eq (tgt := 91) (by first | assumption | (constructor <;> omega) | decide) hx hb dX9_alike_84 (by decide) (fun c84_ => ?_) (fun c84_ => ?_)
        · refine lv_iconst (v := iZ 0) hx hb dX9_alike_91 rfl ?_
          exact W_widen (Nat.le_of_ble_eq_true rfl) (Nat.le_of_ble_eq_true rfl) (vx_ret (W.zret (v := iZ (0)) hx hb hr (by decide +kernel) (fun t9 ht9 hW9 => ⟨⟨iZ (0), (μ, 0), rfl, ⟨rfl, (by
                            dsimp only
                            exact ⟨hI, SY_rf⟩)⟩, by rw [ht9]; exact hP, va_K.moved hW9.alike hK⟩, hS.F ht9⟩) hS.2.2 dX9_alike_92))
        · refine lv_iconst (v := iZ 1) hx hb dX9_alike_87 rfl ?_
          refine lv_goto (tgt := 92) hx hb dX9_alike_88 (by decide) ?_
          exact W_widen (Nat.le_of_ble_eq_true rfl) (Nat.le_of_ble_eq_true rfl) (vx_ret (W.zret (v := iZ (1)) hx hb hr (by decide +kernel) (fun t9 ht9 hW9 => ⟨⟨iZ (1), (μ, 1), rfl, ⟨rfl, (by
                            dsimp only
                            exact ⟨hI, SY_rf⟩)⟩, by rw [ht9]; exact hP, va_K.moved hW9.alike hK⟩, hS.F ht9⟩) hS.2.2 dX9_alike_92))
    · refine vx_callv (vx_runV (As := [.ref (h0 + 6), .int (iZ (ne))]) (rest := []) ⟨hx, hb, hml, hown, hts⟩ (x_needNode l hfl dC dI cI cZ cII cIII h0 H.size μ (6) (1100) (ne) (rowB_6) (by first | assumption | omega | exact CI_lc hI | exact CI_cn hI | exact (CI_n6 hI).1 | decide) (by first | assumption | omega | exact CI_lc hI | exact CI_cn hI | exact (CI_n6 hI).1 | decide) (hn15_)) (cwV 2 hts (gV_G k914 k916 ks_yX9_needNode k1 k917) rfl rfl rfl (by decide +kernel) ⟨Nat.le_of_ble_eq_true rfl, Nat.le_of_ble_eq_true rfl⟩) ⟨fun a U g mk q => by obtain ⟨q0, q1, qP, qK, qM, qE⟩ := q; exact ⟨q0, q1, qP, va_K.moved (u := U) (U := U.calling g mk a) (Vm.Alike.refl U.vm) qK, qM, xX_call qE⟩, va_recv hK hP (ci := 9) (q0 := 0) rfl ((fw_get (by decide)).trans (by rw [sE_0]; rfl)), fun U hU hW => ⟨rfl, by rw [hU], by rw [hU]; exact hP, va_K.moved hW.alike hK, xM_warm hW hM, xX_at hEx hS (fun q h => fA_le hS.1 q h) hU hW⟩⟩ rfl rfl hl.1 rfl (lv_room (Nat.le_of_ble_eq_true rfl)) dX9_alike_15 ⟨Nat.le_of_ble_eq_true rfl, Nat.le_of_ble_eq_true rfl⟩) hS (fun q _ h => fA_le hS.1 q h) (fA_le hS.1) (fun q _ h => fA_le hS.1 q h) (fun E9 ce9 q9 u9 t9 H1 locs ht9 hvm9 hpx9 hBX9 hz9 hk9 hS hce9 hcv9 hcl9 => ?_) (fun u9 t9 H1 locs ht9 hvm9 hw9 hB9 hz9 hk9 hS => hw9.elim)
      obtain ⟨hE9, hP9, hK9⟩ := hBX9
      exact vx_out (fun x hx9 => (hnt x hx9).elim) hlocks hce9 hcv9 hcl9 (fun t8 ht8 hW8 => ⟨u9, (by
                    show CI T u9 ∧ SY μ u9
                    exact CI_thr hI hpx9), ⟨hE9, by rw [ht8, ← ht9]; exact hP9, va_K.moved hW8 hK⟩, hS.F ht8⟩) hS.2.2 (Nat.le_of_ble_eq_true rfl) (Nat.le_of_ble_eq_true rfl)
  · refine vx_callv (vx_runV (As := [.ref (h0 + 6), .int (iZ (nd))]) (rest := []) ⟨hx, hb, hml, hown, hts⟩ (x_needNode l hfl dC dI cI cZ cII cIII h0 s.heap.size μ (6) (1100) (nd) (rowB_6) (by first | assumption | omega | exact CI_lc hI | exact CI_cn hI | exact (CI_n6 hI).1 | decide) (by first | assumption | omega | exact CI_lc hI | exact CI_cn hI | exact (CI_n6 hI).1 | decide) (hn6_)) (cwV 2 hts (gV_G k914 k916 ks_yX9_needNode k1 k917) rfl rfl rfl (by decide +kernel) ⟨Nat.le_of_ble_eq_true rfl, Nat.le_of_ble_eq_true rfl⟩) ⟨fun a U g mk q => by obtain ⟨q0, q1, qP, qK, qM, qE⟩ := q; exact ⟨q0, q1, qP, va_K.moved (u := U) (U := U.calling g mk a) (Vm.Alike.refl U.vm) qK, qM, xX_call qE⟩, va_recv hK hP (ci := 9) (q0 := 0) rfl ((fw_get (by decide)).trans (by rw [sE_0]; rfl)), fun U hU hW => ⟨rfl, by rw [hU], by rw [hU]; exact hP, va_K.moved hW.alike hK, xM_warm hW hM, xX_at hEx hS (fun q h => fA_le hS.1 q h) hU hW⟩⟩ rfl rfl hl.1 rfl (lv_room (Nat.le_of_ble_eq_true rfl)) dX9_alike_6 ⟨Nat.le_of_ble_eq_true rfl, Nat.le_of_ble_eq_true rfl⟩) hS (fun q _ h => fA_le hS.1 q h) (fA_le hS.1) (fun q _ h => fA_le hS.1 q h) (fun E9 ce9 q9 u9 t9 H1 locs ht9 hvm9 hpx9 hBX9 hz9 hk9 hS hce9 hcv9 hcl9 => ?_) (fun u9 t9 H1 locs ht9 hvm9 hw9 hB9 hz9 hk9 hS => hw9.elim)
    obtain ⟨hE9, hP9, hK9⟩ := hBX9
    exact vx_out (fun x hx9 => (hnt x hx9).elim) hlocks hce9 hcv9 hcl9 (fun t8 ht8 hW8 => ⟨u9, (by
                show CI T u9 ∧ SY μ u9
                exact CI_thr hI hpx9), ⟨hE9, by rw [ht8, ← ht9]; exact hP9, va_K.moved hW8 hK⟩, hS.F ht8⟩) hS.2.2 (Nat.le_of_ble_eq_true rfl) (Nat.le_of_ble_eq_true rfl)

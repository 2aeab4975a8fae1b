set_option maxRecDepth 100000 in
theorem k79 : (Cond.fieldLink "PageSkeleton$Tidier" (37 : Nat) "PageSkeleton$Row" "code" "[I") ∈ wsG := wsG_a1 79 rfl rfl
set_option maxRecDepth 100000 in
theorem k84 : (Cond.fieldLink "PageSkeleton$Tidier" (40 : Nat) "PageSkeleton$Row" "mate" "[I") ∈ wsG := wsG_a1 84 rfl rfl
set_option maxRecDepth 100000 in
theorem k437 : (Cond.methodLink "PageSkeleton$Tidier" (60 : Nat) ({ cls := "PageSkeleton$Row", name := "after", desc := "(I)I" } : MethodName)) ∈ wsG := wsG_a2 197 rfl rfl
set_option maxRecDepth 100000 in
theorem k441 : (Cond.methodLink "PageSkeleton$Tidier" (64 : Nat) ({ cls := "PageSkeleton$Row", name := "matches", desc := "(ILPageSkeleton$Row;II)Z" } : MethodName)) ∈ wsG := wsG_a2 201 rfl rfl
set_option maxRecDepth 100000 in
theorem k442 : (Cond.instanceMethod ({ cls := "PageSkeleton$Row", name := "matches", desc := "(ILPageSkeleton$Row;II)Z" } : MethodName)) ∈ wsG := wsG_a2 202 rfl rfl
set_option maxRecDepth 100000 in
theorem k443 : (Cond.selects "PageSkeleton$Row" ({ cls := "PageSkeleton$Row", name := "matches", desc := "(ILPageSkeleton$Row;II)Z" } : MethodName) ({ cls := "PageSkeleton$Row", name := "matches", desc := "(ILPageSkeleton$Row;II)Z" } : MethodName)) ∈ wsG := wsG_a2 203 rfl rfl
set_option maxRecDepth 100000 in
theorem k444 : (Cond.code ({ cls := "PageSkeleton$Row", name := "matches", desc := "(ILPageSkeleton$Row;II)Z" } : MethodName) prog_6_method_14_code (6 : Nat) (Option.some FieldType.boolean)) ∈ wsG := wsG_a2 204 rfl rfl
set_option maxRecDepth 100000 in
theorem k448 : (Cond.methodLink "PageSkeleton$Tidier" (68 : Nat) ({ cls := "PageSkeleton$Tidier", name := "join", desc := "(LPageSkeleton$Row;III)Z" } : MethodName)) ∈ wsG := wsG_a2 208 rfl rfl
set_option maxRecDepth 100000 in
theorem k450 : (Cond.instanceMethod ({ cls := "PageSkeleton$Tidier", name := "join", desc := "(LPageSkeleton$Row;III)Z" } : MethodName)) ∈ wsG := wsG_a2 210 rfl rfl
set_option maxRecDepth 100000 in
theorem k451 : (Cond.code ({ cls := "PageSkeleton$Tidier", name := "join", desc := "(LPageSkeleton$Row;III)Z" } : MethodName) prog_8_method_7_code (5 : Nat) (Option.some FieldType.boolean)) ∈ wsG := wsG_a2 211 rfl rfl
set_option maxRecDepth 100000 in
theorem k452 : (Cond.methodLink "PageSkeleton$Tidier" (78 : Nat) ({ cls := "PageSkeleton$Row", name := "fuseInto", desc := "(III)V" } : MethodName)) ∈ wsG := wsG_a2 212 rfl rfl
set_option maxRecDepth 100000 in
theorem k453 : (Cond.instanceMethod ({ cls := "PageSkeleton$Row", name := "fuseInto", desc := "(III)V" } : MethodName)) ∈ wsG := wsG_a2 213 rfl rfl
set_option maxRecDepth 100000 in
theorem k454 : (Cond.selects "PageSkeleton$Row" ({ cls := "PageSkeleton$Row", name := "fuseInto", desc := "(III)V" } : MethodName) ({ cls := "PageSkeleton$Row", name := "fuseInto", desc := "(III)V" } : MethodName)) ∈ wsG := wsG_a2 214 rfl rfl
set_option maxRecDepth 100000 in
theorem k455 : (Cond.code ({ cls := "PageSkeleton$Row", name := "fuseInto", desc := "(III)V" } : MethodName) prog_6_method_16_code (5 : Nat) (Option.none : Option Jvm.ClassFile.FieldType)) ∈ wsG := wsG_a2 215 rfl rfl
set_option maxRecDepth 100000 in
theorem k459 : (Cond.methodLink "PageSkeleton$Tidier" (82 : Nat) ({ cls := "PageSkeleton$Row", name := "remove", desc := "(II)V" } : MethodName)) ∈ wsG := wsG_a2 219 rfl rfl
set_option maxRecDepth 100000 in
theorem k460 : (Cond.instanceMethod ({ cls := "PageSkeleton$Row", name := "remove", desc := "(II)V" } : MethodName)) ∈ wsG := wsG_a2 220 rfl rfl
set_option maxRecDepth 100000 in
theorem k461 : (Cond.selects "PageSkeleton$Row" ({ cls := "PageSkeleton$Row", name := "remove", desc := "(II)V" } : MethodName) ({ cls := "PageSkeleton$Row", name := "remove", desc := "(II)V" } : MethodName)) ∈ wsG := wsG_a2 221 rfl rfl
set_option maxRecDepth 100000 in
theorem k462 : (Cond.code ({ cls := "PageSkeleton$Row", name := "remove", desc := "(II)V" } : MethodName) prog_6_method_17_code (3 : Nat) (Option.none : Option Jvm.ClassFile.FieldType)) ∈ wsG := wsG_a2 222 rfl rfl
set_option maxRecDepth 100000 in
theorem k466 : (Cond.methodLink "PageSkeleton$Tidier" (86 : Nat) ({ cls := "PageSkeleton$Row", name := "seal", desc := "()V" } : MethodName)) ∈ wsG := wsG_a2 226 rfl rfl
set_option maxRecDepth 100000 in
theorem k467 : (Cond.methodLink "PageSkeleton$Tidier" (72 : Nat) ({ cls := "java/lang/Math", name := "max", desc := "(II)I" } : MethodName)) ∈ wsG := wsG_a2 227 rfl rfl
set_option maxRecDepth 100000 in
theorem ks_yX6_join : Cond.selects RX6 yX6_join yX6_join ∈ wsG := wsG_p 3 rfl rfl
theorem dX6_join_0 : decode cX6_join 0 = .ok (.aload_n 1, 1) := by decide +kernel
theorem dX6_join_1 : decode cX6_join 1 = .ok (.iload_n 2, 1) := by decide +kernel
theorem dX6_join_2 : decode cX6_join 2 = .ok (.iload_n 3, 1) := by decide +kernel
theorem dX6_join_3 : decode cX6_join 3 = .ok (.iload 4, 2) := by decide +kernel
theorem dX6_join_5 : decode cX6_join 5 = .ok (.invokevirtual 78, 3) := by decide +kernel
theorem dX6_join_8 : decode cX6_join 8 = .ok (.aload_n 1, 1) := by decide +kernel
theorem dX6_join_9 : decode cX6_join 9 = .ok (.iload_n 3, 1) := by decide +kernel
theorem dX6_join_10 : decode cX6_join 10 = .ok (.iload_n 3, 1) := by decide +kernel
theorem dX6_join_11 : decode cX6_join 11 = .ok (.iload 4, 2) := by decide +kernel
theorem dX6_join_13 : decode cX6_join 13 = .ok (.iadd, 1) := by decide +kernel
theorem dX6_join_14 : decode cX6_join 14 = .ok (.invokevirtual 82, 3) := by decide +kernel
theorem dX6_join_17 : decode cX6_join 17 = .ok (.aload_n 1, 1) := by decide +kernel
theorem dX6_join_18 : decode cX6_join 18 = .ok (.invokevirtual 86, 3) := by decide +kernel
theorem dX6_join_21 : decode cX6_join 21 = .ok (.iconst 1, 1) := by decide +kernel
theorem dX6_join_22 : decode cX6_join 22 = .ok (.ireturn, 1) := by decide +kernel
theorem dX6_joinAhead_0 : decode cX6_joinAhead 0 = .ok (.iload_n 2, 1) := by decide +kernel
theorem dX6_joinAhead_1 : decode cX6_joinAhead 1 = .ok (.istore 4, 2) := by decide +kernel
theorem dX6_joinAhead_3 : decode cX6_joinAhead 3 = .ok (.iload 4, 2) := by decide +kernel
theorem dX6_joinAhead_5 : decode cX6_joinAhead 5 = .ok (.iload_n 3, 1) := by decide +kernel
theorem dX6_joinAhead_6 : decode cX6_joinAhead 6 = .ok (.if_icmp .ge 93, 3) := by decide +kernel
theorem dX6_joinAhead_9 : decode cX6_joinAhead 9 = .ok (.aload_n 1, 1) := by decide +kernel
theorem dX6_joinAhead_10 : decode cX6_joinAhead 10 = .ok (.getfield 37, 3) := by decide +kernel
theorem dX6_joinAhead_13 : decode cX6_joinAhead 13 = .ok (.iload 4, 2) := by decide +kernel
theorem dX6_joinAhead_15 : decode cX6_joinAhead 15 = .ok (.iaload, 1) := by decide +kernel
theorem dX6_joinAhead_16 : decode cX6_joinAhead 16 = .ok (.sipush 514, 3) := by decide +kernel
theorem dX6_joinAhead_19 : decode cX6_joinAhead 19 = .ok (.if_icmp .ne 62, 3) := by decide +kernel
theorem dX6_joinAhead_22 : decode cX6_joinAhead 22 = .ok (.aload_n 1, 1) := by decide +kernel
theorem dX6_joinAhead_23 : decode cX6_joinAhead 23 = .ok (.getfield 40, 3) := by decide +kernel
theorem dX6_joinAhead_26 : decode cX6_joinAhead 26 = .ok (.iload 4, 2) := by decide +kernel
theorem dX6_joinAhead_28 : decode cX6_joinAhead 28 = .ok (.iaload, 1) := by decide +kernel
theorem dX6_joinAhead_29 : decode cX6_joinAhead 29 = .ok (.iload 4, 2) := by decide +kernel
theorem dX6_joinAhead_31 : decode cX6_joinAhead 31 = .ok (.isub, 1) := by decide +kernel
theorem dX6_joinAhead_32 : decode cX6_joinAhead 32 = .ok (.iconst 1, 1) := by decide +kernel
theorem dX6_joinAhead_33 : decode cX6_joinAhead 33 = .ok (.isub, 1) := by decide +kernel
theorem dX6_joinAhead_34 : decode cX6_joinAhead 34 = .ok (.istore 5, 2) := by decide +kernel
theorem dX6_joinAhead_36 : decode cX6_joinAhead 36 = .ok (.iload 4, 2) := by decide +kernel
theorem dX6_joinAhead_38 : decode cX6_joinAhead 38 = .ok (.iload 5, 2) := by decide +kernel
theorem dX6_joinAhead_40 : decode cX6_joinAhead 40 = .ok (.isub, 1) := by decide +kernel
theorem dX6_joinAhead_41 : decode cX6_joinAhead 41 = .ok (.iload_n 2, 1) := by decide +kernel
theorem dX6_joinAhead_42 : decode cX6_joinAhead 42 = .ok (.if_icmp .lt 39, 3) := by decide +kernel
theorem dX6_joinAhead_45 : decode cX6_joinAhead 45 = .ok (.aload_n 1, 1) := by decide +kernel
theorem dX6_joinAhead_46 : decode cX6_joinAhead 46 = .ok (.iload 4, 2) := by decide +kernel
theorem dX6_joinAhead_48 : decode cX6_joinAhead 48 = .ok (.iload 5, 2) := by decide +kernel
theorem dX6_joinAhead_50 : decode cX6_joinAhead 50 = .ok (.isub, 1) := by decide +kernel
theorem dX6_joinAhead_51 : decode cX6_joinAhead 51 = .ok (.aload_n 1, 1) := by decide +kernel
theorem dX6_joinAhead_52 : decode cX6_joinAhead 52 = .ok (.iload 4, 2) := by decide +kernel
theorem dX6_joinAhead_54 : decode cX6_joinAhead 54 = .ok (.iconst 1, 1) := by decide +kernel
theorem dX6_joinAhead_55 : decode cX6_joinAhead 55 = .ok (.iadd, 1) := by decide +kernel
theorem dX6_joinAhead_56 : decode cX6_joinAhead 56 = .ok (.iload 5, 2) := by decide +kernel
theorem dX6_joinAhead_58 : decode cX6_joinAhead 58 = .ok (.invokevirtual 64, 3) := by decide +kernel
theorem dX6_joinAhead_61 : decode cX6_joinAhead 61 = .ok (.ifCond .eq 20, 3) := by decide +kernel
theorem dX6_joinAhead_64 : decode cX6_joinAhead 64 = .ok (.aload_n 0, 1) := by decide +kernel
theorem dX6_joinAhead_65 : decode cX6_joinAhead 65 = .ok (.aload_n 1, 1) := by decide +kernel
theorem dX6_joinAhead_66 : decode cX6_joinAhead 66 = .ok (.iload 4, 2) := by decide +kernel
theorem dX6_joinAhead_68 : decode cX6_joinAhead 68 = .ok (.iconst 1, 1) := by decide +kernel
theorem dX6_joinAhead_69 : decode cX6_joinAhead 69 = .ok (.iadd, 1) := by decide +kernel
theorem dX6_joinAhead_70 : decode cX6_joinAhead 70 = .ok (.iload 4, 2) := by decide +kernel
theorem dX6_joinAhead_72 : decode cX6_joinAhead 72 = .ok (.iload 5, 2) := by decide +kernel
theorem dX6_joinAhead_74 : decode cX6_joinAhead 74 = .ok (.isub, 1) := by decide +kernel
theorem dX6_joinAhead_75 : decode cX6_joinAhead 75 = .ok (.iload 5, 2) := by decide +kernel
theorem dX6_joinAhead_77 : decode cX6_joinAhead 77 = .ok (.invokevirtual 68, 3) := by decide +kernel
theorem dX6_joinAhead_80 : decode cX6_joinAhead 80 = .ok (.ireturn, 1) := by decide +kernel
theorem dX6_joinAhead_81 : decode cX6_joinAhead 81 = .ok (.iload 4, 2) := by decide +kernel
theorem dX6_joinAhead_83 : decode cX6_joinAhead 83 = .ok (.iconst 1, 1) := by decide +kernel
theorem dX6_joinAhead_84 : decode cX6_joinAhead 84 = .ok (.iadd, 1) := by decide +kernel
theorem dX6_joinAhead_85 : decode cX6_joinAhead 85 = .ok (.aload_n 1, 1) := by decide +kernel
theorem dX6_joinAhead_86 : decode cX6_joinAhead 86 = .ok (.iload 4, 2) := by decide +kernel
theorem dX6_joinAhead_88 : decode cX6_joinAhead 88 = .ok (.invokevirtual 60, 3) := by decide +kernel
theorem dX6_joinAhead_91 : decode cX6_joinAhead 91 = .ok (.invokestatic 72, 3) := by decide +kernel
theorem dX6_joinAhead_94 : decode cX6_joinAhead 94 = .ok (.istore 4, 2) := by decide +kernel
theorem dX6_joinAhead_96 : decode cX6_joinAhead 96 = .ok (.goto (-93), 3) := by decide +kernel
theorem dX6_joinAhead_99 : decode cX6_joinAhead 99 = .ok (.iconst 0, 1) := by decide +kernel
theorem dX6_joinAhead_100 : decode cX6_joinAhead 100 = .ok (.ireturn, 1) := by decide +kernel
theorem dX6_joinBehind_0 : decode cX6_joinBehind 0 = .ok (.iload_n 2, 1) := by decide +kernel
theorem dX6_joinBehind_1 : decode cX6_joinBehind 1 = .ok (.istore 4, 2) := by decide +kernel
theorem dX6_joinBehind_3 : decode cX6_joinBehind 3 = .ok (.iload 4, 2) := by decide +kernel
theorem dX6_joinBehind_5 : decode cX6_joinBehind 5 = .ok (.iload_n 3, 1) := by decide +kernel
theorem dX6_joinBehind_6 : decode cX6_joinBehind 6 = .ok (.if_icmp .ge 98, 3) := by decide +kernel
theorem dX6_joinBehind_9 : decode cX6_joinBehind 9 = .ok (.aload_n 1, 1) := by decide +kernel
theorem dX6_joinBehind_10 : decode cX6_joinBehind 10 = .ok (.getfield 37, 3) := by decide +kernel
theorem dX6_joinBehind_13 : decode cX6_joinBehind 13 = .ok (.iload 4, 2) := by decide +kernel
theorem dX6_joinBehind_15 : decode cX6_joinBehind 15 = .ok (.iaload, 1) := by decide +kernel
theorem dX6_joinBehind_16 : decode cX6_joinBehind 16 = .ok (.sipush 514, 3) := by decide +kernel
theorem dX6_joinBehind_19 : decode cX6_joinBehind 19 = .ok (.if_icmp .ne 67, 3) := by decide +kernel
theorem dX6_joinBehind_22 : decode cX6_joinBehind 22 = .ok (.aload_n 1, 1) := by decide +kernel
theorem dX6_joinBehind_23 : decode cX6_joinBehind 23 = .ok (.getfield 40, 3) := by decide +kernel
theorem dX6_joinBehind_26 : decode cX6_joinBehind 26 = .ok (.iload 4, 2) := by decide +kernel
theorem dX6_joinBehind_28 : decode cX6_joinBehind 28 = .ok (.iaload, 1) := by decide +kernel
theorem dX6_joinBehind_29 : decode cX6_joinBehind 29 = .ok (.iload 4, 2) := by decide +kernel
theorem dX6_joinBehind_31 : decode cX6_joinBehind 31 = .ok (.isub, 1) := by decide +kernel
theorem dX6_joinBehind_32 : decode cX6_joinBehind 32 = .ok (.iconst 1, 1) := by decide +kernel
theorem dX6_joinBehind_33 : decode cX6_joinBehind 33 = .ok (.isub, 1) := by decide +kernel
theorem dX6_joinBehind_34 : decode cX6_joinBehind 34 = .ok (.istore 5, 2) := by decide +kernel
theorem dX6_joinBehind_36 : decode cX6_joinBehind 36 = .ok (.aload_n 1, 1) := by decide +kernel
theorem dX6_joinBehind_37 : decode cX6_joinBehind 37 = .ok (.getfield 40, 3) := by decide +kernel
theorem dX6_joinBehind_40 : decode cX6_joinBehind 40 = .ok (.iload 4, 2) := by decide +kernel
theorem dX6_joinBehind_42 : decode cX6_joinBehind 42 = .ok (.iaload, 1) := by decide +kernel
theorem dX6_joinBehind_43 : decode cX6_joinBehind 43 = .ok (.iconst 1, 1) := by decide +kernel
theorem dX6_joinBehind_44 : decode cX6_joinBehind 44 = .ok (.iadd, 1) := by decide +kernel
theorem dX6_joinBehind_45 : decode cX6_joinBehind 45 = .ok (.istore 6, 2) := by decide +kernel
theorem dX6_joinBehind_47 : decode cX6_joinBehind 47 = .ok (.iload 6, 2) := by decide +kernel
theorem dX6_joinBehind_49 : decode cX6_joinBehind 49 = .ok (.iload 5, 2) := by decide +kernel
theorem dX6_joinBehind_51 : decode cX6_joinBehind 51 = .ok (.iadd, 1) := by decide +kernel
theorem dX6_joinBehind_52 : decode cX6_joinBehind 52 = .ok (.iload_n 3, 1) := by decide +kernel
theorem dX6_joinBehind_53 : decode cX6_joinBehind 53 = .ok (.if_icmp .gt 33, 3) := by decide +kernel
theorem dX6_joinBehind_56 : decode cX6_joinBehind 56 = .ok (.aload_n 1, 1) := by decide +kernel
theorem dX6_joinBehind_57 : decode cX6_joinBehind 57 = .ok (.iload 4, 2) := by decide +kernel
theorem dX6_joinBehind_59 : decode cX6_joinBehind 59 = .ok (.iconst 1, 1) := by decide +kernel
theorem dX6_joinBehind_60 : decode cX6_joinBehind 60 = .ok (.iadd, 1) := by decide +kernel
theorem dX6_joinBehind_61 : decode cX6_joinBehind 61 = .ok (.aload_n 1, 1) := by decide +kernel
theorem dX6_joinBehind_62 : decode cX6_joinBehind 62 = .ok (.iload 6, 2) := by decide +kernel
theorem dX6_joinBehind_64 : decode cX6_joinBehind 64 = .ok (.iload 5, 2) := by decide +kernel
theorem dX6_joinBehind_66 : decode cX6_joinBehind 66 = .ok (.invokevirtual 64, 3) := by decide +kernel
theorem dX6_joinBehind_69 : decode cX6_joinBehind 69 = .ok (.ifCond .eq 17, 3) := by decide +kernel
theorem dX6_joinBehind_72 : decode cX6_joinBehind 72 = .ok (.aload_n 0, 1) := by decide +kernel
theorem dX6_joinBehind_73 : decode cX6_joinBehind 73 = .ok (.aload_n 1, 1) := by decide +kernel
theorem dX6_joinBehind_74 : decode cX6_joinBehind 74 = .ok (.iload 4, 2) := by decide +kernel
theorem dX6_joinBehind_76 : decode cX6_joinBehind 76 = .ok (.iconst 1, 1) := by decide +kernel
theorem dX6_joinBehind_77 : decode cX6_joinBehind 77 = .ok (.iadd, 1) := by decide +kernel
theorem dX6_joinBehind_78 : decode cX6_joinBehind 78 = .ok (.iload 6, 2) := by decide +kernel
theorem dX6_joinBehind_80 : decode cX6_joinBehind 80 = .ok (.iload 5, 2) := by decide +kernel
theorem dX6_joinBehind_82 : decode cX6_joinBehind 82 = .ok (.invokevirtual 68, 3) := by decide +kernel
theorem dX6_joinBehind_85 : decode cX6_joinBehind 85 = .ok (.ireturn, 1) := by decide +kernel
theorem dX6_joinBehind_86 : decode cX6_joinBehind 86 = .ok (.iload 4, 2) := by decide +kernel
theorem dX6_joinBehind_88 : decode cX6_joinBehind 88 = .ok (.iconst 1, 1) := by decide +kernel
theorem dX6_joinBehind_89 : decode cX6_joinBehind 89 = .ok (.iadd, 1) := by decide +kernel
theorem dX6_joinBehind_90 : decode cX6_joinBehind 90 = .ok (.aload_n 1, 1) := by decide +kernel
theorem dX6_joinBehind_91 : decode cX6_joinBehind 91 = .ok (.iload 4, 2) := by decide +kernel
theorem dX6_joinBehind_93 : decode cX6_joinBehind 93 = .ok (.invokevirtual 60, 3) := by decide +kernel
theorem dX6_joinBehind_96 : decode cX6_joinBehind 96 = .ok (.invokestatic 72, 3) := by decide +kernel
theorem dX6_joinBehind_99 : decode cX6_joinBehind 99 = .ok (.istore 4, 2) := by decide +kernel
theorem dX6_joinBehind_101 : decode cX6_joinBehind 101 = .ok (.goto (-98), 3) := by decide +kernel
theorem dX6_joinBehind_104 : decode cX6_joinBehind 104 = .ok (.iconst 0, 1) := by decide +kernel
theorem dX6_joinBehind_105 : decode cX6_joinBehind 105 = .ok (.ireturn, 1) := by decide +kernel
theorem dX6_joinTwins_0 : decode cX6_joinTwins 0 = .ok (.iload_n 2, 1) := by decide +kernel
theorem dX6_joinTwins_1 : decode cX6_joinTwins 1 = .ok (.istore 4, 2) := by decide +kernel
theorem dX6_joinTwins_3 : decode cX6_joinTwins 3 = .ok (.iload 4, 2) := by decide +kernel
theorem dX6_joinTwins_5 : decode cX6_joinTwins 5 = .ok (.iload_n 3, 1) := by decide +kernel
theorem dX6_joinTwins_6 : decode cX6_joinTwins 6 = .ok (.if_icmp .ge 108, 3) := by decide +kernel
theorem dX6_joinTwins_9 : decode cX6_joinTwins 9 = .ok (.aload_n 1, 1) := by decide +kernel
theorem dX6_joinTwins_10 : decode cX6_joinTwins 10 = .ok (.iload 4, 2) := by decide +kernel
theorem dX6_joinTwins_12 : decode cX6_joinTwins 12 = .ok (.invokevirtual 60, 3) := by decide +kernel
theorem dX6_joinTwins_15 : decode cX6_joinTwins 15 = .ok (.istore 5, 2) := by decide +kernel
theorem dX6_joinTwins_17 : decode cX6_joinTwins 17 = .ok (.iload 5, 2) := by decide +kernel
theorem dX6_joinTwins_19 : decode cX6_joinTwins 19 = .ok (.iload_n 3, 1) := by decide +kernel
theorem dX6_joinTwins_20 : decode cX6_joinTwins 20 = .ok (.if_icmp .ge 76, 3) := by decide +kernel
theorem dX6_joinTwins_23 : decode cX6_joinTwins 23 = .ok (.aload_n 1, 1) := by decide +kernel
theorem dX6_joinTwins_24 : decode cX6_joinTwins 24 = .ok (.getfield 37, 3) := by decide +kernel
theorem dX6_joinTwins_27 : decode cX6_joinTwins 27 = .ok (.iload 4, 2) := by decide +kernel
theorem dX6_joinTwins_29 : decode cX6_joinTwins 29 = .ok (.iaload, 1) := by decide +kernel
theorem dX6_joinTwins_30 : decode cX6_joinTwins 30 = .ok (.sipush 514, 3) := by decide +kernel
theorem dX6_joinTwins_33 : decode cX6_joinTwins 33 = .ok (.if_icmp .ne 63, 3) := by decide +kernel
theorem dX6_joinTwins_36 : decode cX6_joinTwins 36 = .ok (.aload_n 1, 1) := by decide +kernel
theorem dX6_joinTwins_37 : decode cX6_joinTwins 37 = .ok (.getfield 37, 3) := by decide +kernel
theorem dX6_joinTwins_40 : decode cX6_joinTwins 40 = .ok (.iload 5, 2) := by decide +kernel
theorem dX6_joinTwins_42 : decode cX6_joinTwins 42 = .ok (.iaload, 1) := by decide +kernel
theorem dX6_joinTwins_43 : decode cX6_joinTwins 43 = .ok (.sipush 514, 3) := by decide +kernel
theorem dX6_joinTwins_46 : decode cX6_joinTwins 46 = .ok (.if_icmp .ne 50, 3) := by decide +kernel
theorem dX6_joinTwins_49 : decode cX6_joinTwins 49 = .ok (.iload 5, 2) := by decide +kernel
theorem dX6_joinTwins_51 : decode cX6_joinTwins 51 = .ok (.iload 4, 2) := by decide +kernel
theorem dX6_joinTwins_53 : decode cX6_joinTwins 53 = .ok (.isub, 1) := by decide +kernel
theorem dX6_joinTwins_54 : decode cX6_joinTwins 54 = .ok (.istore 6, 2) := by decide +kernel
theorem dX6_joinTwins_56 : decode cX6_joinTwins 56 = .ok (.iload 6, 2) := by decide +kernel
theorem dX6_joinTwins_58 : decode cX6_joinTwins 58 = .ok (.aload_n 1, 1) := by decide +kernel
theorem dX6_joinTwins_59 : decode cX6_joinTwins 59 = .ok (.iload 5, 2) := by decide +kernel
theorem dX6_joinTwins_61 : decode cX6_joinTwins 61 = .ok (.invokevirtual 60, 3) := by decide +kernel
theorem dX6_joinTwins_64 : decode cX6_joinTwins 64 = .ok (.iload 5, 2) := by decide +kernel
theorem dX6_joinTwins_66 : decode cX6_joinTwins 66 = .ok (.isub, 1) := by decide +kernel
theorem dX6_joinTwins_67 : decode cX6_joinTwins 67 = .ok (.if_icmp .ne 29, 3) := by decide +kernel
theorem dX6_joinTwins_70 : decode cX6_joinTwins 70 = .ok (.aload_n 1, 1) := by decide +kernel
theorem dX6_joinTwins_71 : decode cX6_joinTwins 71 = .ok (.iload 4, 2) := by decide +kernel
theorem dX6_joinTwins_73 : decode cX6_joinTwins 73 = .ok (.aload_n 1, 1) := by decide +kernel
theorem dX6_joinTwins_74 : decode cX6_joinTwins 74 = .ok (.iload 5, 2) := by decide +kernel
theorem dX6_joinTwins_76 : decode cX6_joinTwins 76 = .ok (.iload 6, 2) := by decide +kernel
theorem dX6_joinTwins_78 : decode cX6_joinTwins 78 = .ok (.invokevirtual 64, 3) := by decide +kernel
theorem dX6_joinTwins_81 : decode cX6_joinTwins 81 = .ok (.ifCond .eq 15, 3) := by decide +kernel
theorem dX6_joinTwins_84 : decode cX6_joinTwins 84 = .ok (.aload_n 0, 1) := by decide +kernel
theorem dX6_joinTwins_85 : decode cX6_joinTwins 85 = .ok (.aload_n 1, 1) := by decide +kernel
theorem dX6_joinTwins_86 : decode cX6_joinTwins 86 = .ok (.iload 4, 2) := by decide +kernel
theorem dX6_joinTwins_88 : decode cX6_joinTwins 88 = .ok (.iload 5, 2) := by decide +kernel
theorem dX6_joinTwins_90 : decode cX6_joinTwins 90 = .ok (.iload 6, 2) := by decide +kernel
theorem dX6_joinTwins_92 : decode cX6_joinTwins 92 = .ok (.invokevirtual 68, 3) := by decide +kernel
theorem dX6_joinTwins_95 : decode cX6_joinTwins 95 = .ok (.ireturn, 1) := by decide +kernel
theorem dX6_joinTwins_96 : decode cX6_joinTwins 96 = .ok (.iload 4, 2) := by decide +kernel
theorem dX6_joinTwins_98 : decode cX6_joinTwins 98 = .ok (.iconst 1, 1) := by decide +kernel
theorem dX6_joinTwins_99 : decode cX6_joinTwins 99 = .ok (.iadd, 1) := by decide +kernel
theorem dX6_joinTwins_100 : decode cX6_joinTwins 100 = .ok (.aload_n 1, 1) := by decide +kernel
theorem dX6_joinTwins_101 : decode cX6_joinTwins 101 = .ok (.iload 4, 2) := by decide +kernel
theorem dX6_joinTwins_103 : decode cX6_joinTwins 103 = .ok (.invokevirtual 60, 3) := by decide +kernel
theorem dX6_joinTwins_106 : decode cX6_joinTwins 106 = .ok (.invokestatic 72, 3) := by decide +kernel
theorem dX6_joinTwins_109 : decode cX6_joinTwins 109 = .ok (.istore 4, 2) := by decide +kernel
theorem dX6_joinTwins_111 : decode cX6_joinTwins 111 = .ok (.goto (-108), 3) := by decide +kernel
theorem dX6_joinTwins_114 : decode cX6_joinTwins 114 = .ok (.iconst 0, 1) := by decide +kernel
theorem dX6_joinTwins_115 : decode cX6_joinTwins 115 = .ok (.ireturn, 1) := by decide +kernel
/-! the tidier: what is taken out of a row; twins joined, and what stands ahead of a repeat or behind it -/
theorem sAl_dl {a b : Int} (h : sAl a b) : dl a = dl b := by
  rcases h with h | ⟨h1, h2⟩
  · rw [h]
  · rw [dl_0 h1.2, dl_0 h2.2]
theorem sAl_s {a b : Int} (h : sAl a b) : sAl b a := h.elim (fun h => Or.inl h.symm) (fun h => Or.inr ⟨h.2, h.1⟩)
theorem sFu_dl {a b : Int} (h : sAl a b) : dl (sFu a b) = dl a := by
  unfold sFu
  split
  · rfl
  · rcases h with h | ⟨h1, h2⟩
    · exact absurd h (by assumption)
    · rw [dl_0 h1.2]; rfl
theorem sFu_v {a b : Int} (h : vS a) : vS (sFu a b) := by
  unfold sFu
  split
  · exact h
  · unfold vS; omega
theorem sgA_uc {μ : va_M} {c sp dp n : Nat} (h : sgA μ c) : sgA (uc μ c sp c dp n) c := fun i => by
  unfold uc
  split
  · exact h _
  · exact h _
theorem Dp_rmv {f g : Nat → Int} {x n L : Nat} (h1 : ∀ j, j < x → dl (g j) = dl (f j)) (h2 : ∀ j, x ≤ j → j < L → dl (g j) = dl (f (j + n))) (he : Dp f (x + n) = Dp f x) : (∀ j, j ≤ x → Dp g j = Dp f j) ∧ ∀ j, x ≤ j → j ≤ L → Dp g j = Dp f (j + n) := by
  have e1 : ∀ j, j ≤ x → Dp g j = Dp f j := fun j hj => Dp_eq j (fun i hi => h1 i (by (first | ((try clear e1); (try clear he); (try clear h2); (try clear h1); omega) | omega)))
  refine ⟨e1, fun j h8 h9 => ?_⟩
  have e2 := Dp_sh (f := f) (g := g) (x + n) x (j - x) (fun i hi => by rw [h2 _ (by (first | ((try clear hi); (try clear e2); (try clear h9); (try clear h8); (try clear e1); (try clear he); (try clear h2); (try clear h1); omega) | omega)) (by (first | ((try clear e2); (try clear e1); (try clear he); (try clear h2); (try clear h1); omega) | omega)), show x + i + n = x + n + i by (first | ((try clear hi); (try clear e2); (try clear h9); (try clear h8); (try clear e1); (try clear he); (try clear h2); (try clear h1); omega) | omega)])
  have e3 := e1 x (Nat.le_refl _)
  rw [show x + (j - x) = j by (first | ((try clear e3); (try clear e2); (try clear h9); (try clear e1); (try clear he); (try clear h2); (try clear h1); omega) | omega), show x + n + (j - x) = j + n by (first | ((try clear e3); (try clear e2); (try clear h9); (try clear e1); (try clear he); (try clear h2); (try clear h1); omega) | omega)] at e2
  (first | ((try clear h9); (try clear h8); (try clear e1); (try clear h2); (try clear h1); omega) | omega)
/-- a line that is balanced -/
def gL (f : Nat → Int) (n : Nat) : Prop := Dp f n = 0 ∧ ∀ j, j ≤ n → 0 ≤ Dp f j ∧ (j < n → vS (f j))
theorem gL_w {μ : va_M} {c n : Nat} (h : gL (μ c) n) : ∃ w : Rw, rW0 w ∧ sL w = n ∧ SA μ c w 0 := by
  have e0 : Dp (μ c) 0 = 0 := rfl
  exact parse μ c n 0 (fun j _ hj => (h.2 j (by (first | ((try clear e0); omega) | omega))).2 (by (first | ((try clear e0); omega) | omega))) (fun j _ hj => by rw [e0]; exact (h.2 j (by (first | ((try clear e0); omega) | omega))).1) (by rw [Nat.zero_add, h.1, e0])
theorem rG_gL {μ : va_M} {q rm : Nat} (h : rG μ q rm) : gL (μ (q + 1)) (μ q 5).toNat := by
  have h1 := rG_bal h
  have h2 := rG_len h
  exact ⟨h1.1, fun j hj => ⟨(h1.2 j (by (first | ((try clear h1); omega) | omega))).1, fun h9 => (h1.2 j (by (first | ((try clear hj); (try clear h1); omega) | omega))).2 (by (first | ((try clear hj); (try clear h1); omega) | omega))⟩⟩
/-- the stretch from p1 to as many signs ahead of the row's end -/
def rng (μ : va_M) (q : Nat) (p1 bh : Int) : Prop := (0 ≤ p1 ∧ p1 ≤ 1100 ∧ 0 ≤ bh ∧ bh ≤ 1100) ∧ (p1 < μ q 5 - bh → seg (μ (q + 1)) p1.toNat (μ q 5 - bh).toNat)
theorem rng_rm {μ u : va_M} {q : Nat} {p1 bh x n : Int} (hrg : rng μ q p1 bh) (h1 : p1 ≤ x) (h2 : x + n ≤ μ q 5 - bh) (h0 : 0 ≤ n) (h5 : u q 5 = μ q 5 - n) (hd1 : ∀ j : Nat, j ≤ x.toNat → Dp (u (q + 1)) j = Dp (μ (q + 1)) j) (hd2 : ∀ j : Nat, x.toNat ≤ j → j ≤ (μ q 5 - n).toNat → Dp (u (q + 1)) j = Dp (μ (q + 1)) (j + n.toNat)) : rng u q p1 bh := by
  have hr1 := hrg.1
  refine ⟨hrg.1, fun h => ?_⟩
  obtain ⟨s1, s2, s3⟩ := hrg.2 (by (first | ((try clear s3); (try clear s2); (try clear s1); (try clear hr1); (try clear hd2); (try clear hd1); (try clear h2); (try clear h1); omega) | omega))
  have e1 := hd1 p1.toNat (by (first | ((try clear e1); (try clear s3); (try clear s2); (try clear s1); (try clear h); (try clear hd2); (try clear hd1); (try clear h5); (try clear h2); omega) | omega))
  refine ⟨by (first | ((try clear e1); (try clear s3); (try clear s2); (try clear s1); (try clear hd2); (try clear hd1); (try clear h5); (try clear h2); (try clear h1); omega) | omega), ?_, fun j h8 h9 => ?_⟩
  · rw [hd2 _ (by (first | ((try clear h9); (try clear h8); (try clear j); (try clear e1); (try clear s3); (try clear s2); (try clear s1); (try clear hd2); (try clear hd1); (try clear h1); omega) | omega)) (by (first | ((try clear h9); (try clear h8); (try clear j); (try clear e1); (try clear s3); (try clear s2); (try clear s1); (try clear hd2); (try clear hd1); (try clear h2); (try clear h1); omega) | omega)), e1, show (u q 5 - bh).toNat + n.toNat = (μ q 5 - bh).toNat by (first | ((try clear h9); (try clear h8); (try clear j); (try clear e1); (try clear s3); (try clear s2); (try clear hd2); (try clear hd1); (try clear h2); (try clear h1); omega) | omega)]; exact s2
  · rw [e1]
    by_cases h6 : j ≤ x.toNat
    · rw [hd1 j h6]; exact s3 j h8 (by (first | ((try clear h8); (try clear e1); (try clear s3); (try clear s2); (try clear hd2); (try clear hd1); omega) | omega))
    · rw [hd2 j (by (first | ((try clear h9); (try clear h8); (try clear e1); (try clear s3); (try clear s2); (try clear s1); (try clear h); (try clear hr1); (try clear hd2); (try clear hd1); (try clear h5); (try clear h2); (try clear h1); omega) | omega)) (by (first | ((try clear h6); (try clear h8); (try clear e1); (try clear s3); (try clear s2); (try clear s1); (try clear hd2); (try clear hd1); (try clear h2); omega) | omega))]; exact s3 _ (by (first | ((try clear h6); (try clear h9); (try clear e1); (try clear s3); (try clear s2); (try clear s1); (try clear h); (try clear hr1); (try clear hd2); (try clear hd1); (try clear h5); (try clear h2); (try clear h1); omega) | omega)) (by (first | ((try clear h6); (try clear h8); (try clear e1); (try clear s3); (try clear s2); (try clear hd2); (try clear hd1); omega) | omega))
theorem rng_fr {μ u : va_M} {q : Nat} {p1 bh : Int} (hrg : rng μ q p1 bh) (h5 : u q 5 = μ q 5) (h1 : ∀ y, u (q + 1) y = μ (q + 1) y) : rng u q p1 bh := by
  have e : u (q + 1) = μ (q + 1) := funext h1
  unfold rng
  rw [h5, e]
  exact hrg
/-- what joining asks for -/
def jok (μ : va_M) (q : Nat) (p1 p2 n : Int) : Prop := ((0 ≤ p1 ∧ p1 + n ≤ μ q 5) ∧ (0 ≤ p2 ∧ p2 + n ≤ μ q 5) ∧ 0 ≤ n ∧ (p1 + n ≤ p2 ∨ p2 + n ≤ p1)) ∧ (∀ t : Nat, (t : Int) < n → sAl (μ (q + 1) (p1.toNat + t)) (μ (q + 1) (p2.toNat + t))) ∧ Dp (μ (q + 1)) (p2 + n).toNat = Dp (μ (q + 1)) p2.toNat
/-- the two lines of Dp: what is ahead of x stays, what is from x on was n further on -/
def dRm (f g : Nat → Int) (x n L : Int) : Prop := (∀ j : Nat, j ≤ x.toNat → Dp g j = Dp f j) ∧ ∀ j : Nat, x.toNat ≤ j → j ≤ L.toNat → Dp g j = Dp f (j + n.toNat)
set_option maxHeartbeats 4000000 in
theorem join_mem {μ μ1 μ2 : va_M} {q rm : Nat} {p1 p2 n : Int} (hG : rG μ q rm) (h7 : μ q 7 = 0) (hj : jok μ q p1 p2 n) (hf1 : fr (fun x y => x = q + 1 ∧ p1.toNat ≤ y ∧ y < p1.toNat + n.toNat) μ μ1) (hv1 : ∀ t : Nat, t < n.toNat → μ1 (q + 1) (p1.toNat + t) = sFu (μ (q + 1) (p1.toNat + t)) (μ (q + 1) (p2.toNat + t))) (h2 : μ2 = uz (uc μ1 (q + 1) (p2 + n).toNat (q + 1) p2.toNat (μ1 q 5 - (p2 + n)).toNat) q 5 (μ1 q 5 - (p2 + n - p2))) :
    (∃ w : Rw, rW0 w ∧ sL w ≤ rm ∧ μ2 q 7 = 0 ∧ SA μ2 (q + 1) w 0 ∧ μ2 q 5 = sL w) ∧ sgA μ2 (q + 1) ∧ mA μ2 q rm ∧ fr (fun x y => x = q + 1 ∨ (x = q ∧ y = 5)) μ μ2 ∧ μ2 q 5 = μ q 5 - n ∧ dRm (μ (q + 1)) (μ2 (q + 1)) p2 n (μ q 5 - n) := by
  obtain ⟨⟨b1, b2, b3, b4⟩, hal, he⟩ := hj
  have hl := rG_len hG
  have hgl := rG_gL hG
  have e5 : μ1 q 5 = μ q 5 := hf1 _ _ (by (first | ((try clear e5); (try clear hgl); (try clear he); (try clear hal); (try clear b4); (try clear b3); (try clear b2); (try clear b1); (try clear h2); (try clear hv1); (try clear hf1); (try clear h7); omega) | omega))
  rw [e5] at h2
  have d1 : ∀ j, dl (μ1 (q + 1) j) = dl (μ (q + 1) j) ∧ (vS (μ (q + 1) j) → vS (μ1 (q + 1) j)) := fun j => by
    by_cases h9 : p1.toNat ≤ j ∧ j < p1.toNat + n.toNat
    · have hv := hv1 (j - p1.toNat) (by (first | ((try clear d1); (try clear e5); (try clear hgl); (try clear he); (try clear hal); (try clear b4); (try clear b3); (try clear b2); (try clear b1); (try clear h2); (try clear hv1); (try clear hf1); (try clear h7); omega) | omega))
      have ha := hal (j - p1.toNat) (by (first | ((try clear ha); (try clear d1); (try clear e5); (try clear hgl); (try clear he); (try clear hal); (try clear b4); (try clear b3); (try clear b2); (try clear b1); (try clear h2); (try clear hv1); (try clear hf1); (try clear h7); omega) | omega))
      rw [show p1.toNat + (j - p1.toNat) = j by (first | ((try clear ha); (try clear d1); (try clear e5); (try clear hgl); (try clear he); (try clear hal); (try clear b4); (try clear b3); (try clear b2); (try clear b1); (try clear h2); (try clear hv1); (try clear hf1); (try clear h7); omega) | omega)] at hv ha
      rw [hv]
      exact ⟨sFu_dl ha, sFu_v⟩
    · rw [hf1 _ _ (fun h => h9 ⟨h.2.1, h.2.2⟩)]; exact ⟨rfl, id⟩
  have s1 : sgA μ1 (q + 1) := fun i => by
    by_cases h9 : p1.toNat ≤ i ∧ i < p1.toNat + n.toNat
    · have hv := hv1 (i - p1.toNat) (by (first | ((try clear d1); (try clear e5); (try clear hgl); (try clear he); (try clear hal); (try clear b4); (try clear b3); (try clear b2); (try clear b1); (try clear h2); (try clear hv1); (try clear hf1); (try clear h7); omega) | omega))
      rw [show p1.toNat + (i - p1.toNat) = i by (first | ((try clear d1); (try clear e5); (try clear hgl); (try clear he); (try clear hal); (try clear b4); (try clear b3); (try clear b2); (try clear b1); (try clear h2); (try clear hv1); (try clear hf1); (try clear h7); omega) | omega)] at hv
      rw [hv]
      exact sFu_b (hG.1 _)
    · rw [hf1 _ _ (fun h => h9 ⟨h.2.1, h.2.2⟩)]; exact hG.1 _
  have a1 : ∀ j, j < p2.toNat → μ2 (q + 1) j = μ1 (q + 1) j := fun j hj => by rw [h2, uz_n (by (first | ((try clear a1); (try clear d1); (try clear e5); (try clear hgl); (try clear he); (try clear hal); (try clear b4); (try clear b3); (try clear b2); (try clear b1); (try clear h2); (try clear hv1); (try clear hf1); (try clear h7); omega) | omega)), uc_n (by (first | ((try clear a1); (try clear d1); (try clear e5); (try clear hgl); (try clear he); (try clear hal); (try clear b4); (try clear b3); (try clear b2); (try clear b1); (try clear h2); (try clear hv1); (try clear hf1); (try clear h7); omega) | omega))]
  have a2 : ∀ j, p2.toNat ≤ j → j < (μ q 5 - n).toNat → μ2 (q + 1) j = μ1 (q + 1) (j + n.toNat) := fun j h8 h9 => by
    rw [h2, uz_n (by (first | ((try clear h9); (try clear h8); (try clear a2); (try clear a1); (try clear d1); (try clear e5); (try clear hgl); (try clear he); (try clear hal); (try clear b4); (try clear b3); (try clear b2); (try clear b1); (try clear h2); (try clear hv1); (try clear hf1); (try clear h7); omega) | omega)), uc_s (by (first | ((try clear a2); (try clear a1); (try clear d1); (try clear hgl); (try clear he); (try clear hal); (try clear b4); (try clear b3); (try clear h2); (try clear hv1); (try clear hf1); (try clear h7); omega) | omega))]
    congr 1
    (first | ((try clear a2); (try clear a1); (try clear d1); (try clear hgl); (try clear he); (try clear hal); (try clear b4); (try clear b1); (try clear h2); (try clear hv1); (try clear hf1); (try clear h7); omega) | omega)
  have f5 : μ2 q 5 = μ q 5 - n := by rw [h2, uz_s]; (first | ((try clear f5); (try clear a2); (try clear a1); (try clear d1); (try clear e5); (try clear hgl); (try clear he); (try clear hal); (try clear b4); (try clear b3); (try clear b2); (try clear b1); (try clear h2); (try clear hv1); (try clear hf1); (try clear h7); omega) | omega)
  have D := Dp_rmv (f := μ (q + 1)) (g := μ2 (q + 1)) (x := p2.toNat) (n := n.toNat) (L := (μ q 5 - n).toNat) (fun j h => by rw [a1 j h]; exact (d1 j).1) (fun j h8 h9 => by rw [a2 j h8 h9]; exact (d1 _).1) (by rw [show p2.toNat + n.toNat = (p2 + n).toNat by (first | ((try clear D); (try clear a2); (try clear a1); (try clear d1); (try clear hgl); (try clear he); (try clear hal); (try clear b4); (try clear b1); (try clear h2); (try clear hv1); (try clear hf1); (try clear h7); omega) | omega)]; exact he)
  have g2 : gL (μ2 (q + 1)) (μ q 5 - n).toNat := by
    refine ⟨by rw [D.2 _ (by (first | ((try clear D); (try clear a2); (try clear a1); (try clear d1); (try clear hgl); (try clear he); (try clear hal); (try clear b4); (try clear b3); (try clear h2); (try clear hv1); (try clear hf1); (try clear h7); omega) | omega)) (Nat.le_refl _), show (μ q 5 - n).toNat + n.toNat = (μ q 5).toNat by (first | ((try clear D); (try clear a2); (try clear a1); (try clear d1); (try clear hgl); (try clear he); (try clear hal); (try clear b4); (try clear b2); (try clear h2); (try clear hv1); (try clear hf1); (try clear h7); omega) | omega)]; exact hgl.1, fun j hj => ?_⟩
    by_cases h9 : j ≤ p2.toNat
    · refine ⟨by rw [D.1 j h9]; exact (hgl.2 j (by (first | ((try clear D); (try clear a2); (try clear a1); (try clear d1); (try clear hgl); (try clear he); (try clear hal); (try clear b4); (try clear h2); (try clear hv1); (try clear hf1); (try clear h7); omega) | omega))).1, fun h8 => ?_⟩
      by_cases h6 : j = p2.toNat
      · rw [a2 j (by (first | ((try clear h8); (try clear h9); (try clear D); (try clear f5); (try clear a2); (try clear a1); (try clear d1); (try clear e5); (try clear hgl); (try clear he); (try clear hal); (try clear b4); (try clear b3); (try clear b2); (try clear b1); (try clear h2); (try clear hv1); (try clear hf1); (try clear h7); omega) | omega)) h8]; exact (d1 _).2 ((hgl.2 _ (by (first | ((try clear h8); (try clear h9); (try clear D); (try clear a2); (try clear a1); (try clear d1); (try clear hgl); (try clear he); (try clear hal); (try clear b4); (try clear h2); (try clear hv1); (try clear hf1); (try clear h7); omega) | omega))).2 (by (first | ((try clear h9); (try clear D); (try clear a2); (try clear a1); (try clear d1); (try clear hgl); (try clear he); (try clear hal); (try clear b4); (try clear h2); (try clear hv1); (try clear hf1); (try clear h7); omega) | omega)))
      · rw [a1 j (by (first | ((try clear h8); (try clear D); (try clear f5); (try clear a2); (try clear a1); (try clear d1); (try clear e5); (try clear hgl); (try clear he); (try clear hal); (try clear b4); (try clear b3); (try clear b2); (try clear b1); (try clear h2); (try clear hv1); (try clear hf1); (try clear h7); omega) | omega))]; exact (d1 _).2 ((hgl.2 _ (by (first | ((try clear h8); (try clear D); (try clear a2); (try clear a1); (try clear d1); (try clear hgl); (try clear he); (try clear hal); (try clear b4); (try clear h2); (try clear hv1); (try clear hf1); (try clear h7); omega) | omega))).2 (by (first | ((try clear h8); (try clear D); (try clear a2); (try clear a1); (try clear d1); (try clear hgl); (try clear he); (try clear hal); (try clear b4); (try clear h2); (try clear hv1); (try clear hf1); (try clear h7); omega) | omega)))
    · refine ⟨by rw [D.2 j (by (first | ((try clear D); (try clear f5); (try clear a2); (try clear a1); (try clear d1); (try clear e5); (try clear hgl); (try clear he); (try clear hal); (try clear b4); (try clear b3); (try clear b2); (try clear b1); (try clear h2); (try clear hv1); (try clear hf1); (try clear h7); omega) | omega)) hj]; exact (hgl.2 _ (by (first | ((try clear D); (try clear a2); (try clear a1); (try clear d1); (try clear hgl); (try clear he); (try clear hal); (try clear b4); (try clear h2); (try clear hv1); (try clear hf1); (try clear h7); omega) | omega))).1, fun h8 => ?_⟩
      rw [a2 j (by (first | ((try clear h8); (try clear D); (try clear f5); (try clear a2); (try clear a1); (try clear d1); (try clear e5); (try clear hgl); (try clear he); (try clear hal); (try clear b4); (try clear b3); (try clear b2); (try clear b1); (try clear h2); (try clear hv1); (try clear hf1); (try clear h7); omega) | omega)) h8]; exact (d1 _).2 ((hgl.2 _ (by (first | ((try clear h9); (try clear D); (try clear a2); (try clear a1); (try clear d1); (try clear hgl); (try clear he); (try clear hal); (try clear b4); (try clear h2); (try clear hv1); (try clear hf1); (try clear h7); omega) | omega))).2 (by (first | ((try clear h9); (try clear D); (try clear a2); (try clear a1); (try clear d1); (try clear hgl); (try clear he); (try clear hal); (try clear b4); (try clear h2); (try clear hv1); (try clear hf1); (try clear h7); omega) | omega)))
  have hfr : fr (fun x y => x = q + 1 ∨ (x = q ∧ y = 5)) μ μ2 := fun x y h => by
    rw [h2, uz_n (by (first | ((try clear hfr); (try clear D); (try clear f5); (try clear a2); (try clear a1); (try clear d1); (try clear e5); (try clear hgl); (try clear he); (try clear hal); (try clear b4); (try clear b3); (try clear b2); (try clear b1); (try clear h2); (try clear hv1); (try clear hf1); (try clear h7); omega) | omega)), uc_n (by (first | ((try clear hfr); (try clear D); (try clear f5); (try clear a2); (try clear a1); (try clear d1); (try clear e5); (try clear hgl); (try clear he); (try clear hal); (try clear b4); (try clear b3); (try clear b2); (try clear b1); (try clear h2); (try clear hv1); (try clear hf1); (try clear h7); omega) | omega))]
    exact hf1 _ _ (by (first | ((try clear hfr); (try clear D); (try clear f5); (try clear a2); (try clear a1); (try clear d1); (try clear e5); (try clear hgl); (try clear he); (try clear hal); (try clear b4); (try clear b3); (try clear b2); (try clear b1); (try clear h2); (try clear hv1); (try clear hf1); (try clear h7); omega) | omega))
  obtain ⟨w, w1, w2, w3⟩ := gL_w g2
  refine ⟨⟨w, w1, by (first | ((try clear w3); (try clear w1); (try clear hfr); (try clear D); (try clear a2); (try clear a1); (try clear d1); (try clear hgl); (try clear he); (try clear hal); (try clear b4); (try clear b2); (try clear b1); (try clear h2); (try clear hv1); (try clear hf1); (try clear h7); omega) | omega), by rw [hfr _ _ (by (first | ((try clear w3); (try clear w2); (try clear w1); (try clear hfr); (try clear D); (try clear f5); (try clear a2); (try clear a1); (try clear d1); (try clear e5); (try clear hgl); (try clear he); (try clear hal); (try clear b4); (try clear b3); (try clear b2); (try clear b1); (try clear h2); (try clear hv1); (try clear hf1); (try clear h7); omega) | omega))]; exact h7, w3, by (first | ((try clear w3); (try clear w1); (try clear hfr); (try clear D); (try clear a2); (try clear a1); (try clear d1); (try clear hgl); (try clear he); (try clear hal); (try clear b4); (try clear b3); (try clear b2); (try clear h2); (try clear hv1); (try clear hf1); (try clear h7); omega) | omega)⟩, ?_, fun y => by rw [hfr _ _ (by (first | ((try clear w3); (try clear w2); (try clear w1); (try clear hfr); (try clear D); (try clear f5); (try clear a2); (try clear a1); (try clear d1); (try clear e5); (try clear hgl); (try clear he); (try clear hal); (try clear b4); (try clear b3); (try clear b2); (try clear b1); (try clear h2); (try clear hv1); (try clear hf1); (try clear h7); omega) | omega))]; exact hG.2.1 y, hfr, f5, D⟩
  intro i
  rw [h2, uz_n (by (first | ((try clear w3); (try clear w2); (try clear w1); (try clear hfr); (try clear D); (try clear f5); (try clear a2); (try clear a1); (try clear d1); (try clear e5); (try clear hgl); (try clear he); (try clear hal); (try clear b4); (try clear b3); (try clear b2); (try clear b1); (try clear h2); (try clear hv1); (try clear hf1); (try clear h7); omega) | omega))]
  exact sgA_uc s1 i
def LTq (q x y : Nat) : Prop := LEq q x y ∨ (38 ≤ x ∧ x ≤ 40)
theorem Dp_al {f : Nat → Int} {a b n : Nat} (h : ∀ t : Nat, t < n → sAl (f (a + t)) (f (b + t))) : Dp f (b + n) - Dp f b = Dp f (a + n) - Dp f a := Dp_sh a b n (fun j hj => (sAl_dl (h j hj)).symm)

theorem k79 : (Cond.fieldLink "PageSkeleton$Tidier" (37 : Nat) "PageSkeleton$Row" "code" "[I") ∈ wsG := wsG_at 79 (by decide +kernel) (by decide +kernel)
theorem k84 : (Cond.fieldLink "PageSkeleton$Tidier" (40 : Nat) "PageSkeleton$Row" "mate" "[I") ∈ wsG := wsG_at 84 (by decide +kernel) (by decide +kernel)
theorem k437 : (Cond.methodLink "PageSkeleton$Tidier" (60 : Nat) ({ cls := "PageSkeleton$Row", name := "after", desc := "(I)I" } : MethodName)) ∈ wsG := wsG_at 437 (by decide +kernel) (by decide +kernel)
theorem k441 : (Cond.methodLink "PageSkeleton$Tidier" (64 : Nat) ({ cls := "PageSkeleton$Row", name := "matches", desc := "(ILPageSkeleton$Row;II)Z" } : MethodName)) ∈ wsG := wsG_at 441 (by decide +kernel) (by decide +kernel)
theorem k442 : (Cond.instanceMethod ({ cls := "PageSkeleton$Row", name := "matches", desc := "(ILPageSkeleton$Row;II)Z" } : MethodName)) ∈ wsG := wsG_at 442 (by decide +kernel) (by decide +kernel)
theorem k443 : (Cond.selects "PageSkeleton$Row" ({ cls := "PageSkeleton$Row", name := "matches", desc := "(ILPageSkeleton$Row;II)Z" } : MethodName) ({ cls := "PageSkeleton$Row", name := "matches", desc := "(ILPageSkeleton$Row;II)Z" } : MethodName)) ∈ wsG := wsG_at 443 (by decide +kernel) (by decide +kernel)
theorem k444 : (Cond.code ({ cls := "PageSkeleton$Row", name := "matches", desc := "(ILPageSkeleton$Row;II)Z" } : MethodName) prog_6_method_14_code (6 : Nat) (Option.some FieldType.boolean)) ∈ wsG := wsG_at 444 (by decide +kernel) (by decide +kernel)
theorem k448 : (Cond.methodLink "PageSkeleton$Tidier" (68 : Nat) ({ cls := "PageSkeleton$Tidier", name := "join", desc := "(LPageSkeleton$Row;III)Z" } : MethodName)) ∈ wsG := wsG_at 448 (by decide +kernel) (by decide +kernel)
theorem k450 : (Cond.instanceMethod ({ cls := "PageSkeleton$Tidier", name := "join", desc := "(LPageSkeleton$Row;III)Z" } : MethodName)) ∈ wsG := wsG_at 450 (by decide +kernel) (by decide +kernel)
theorem k451 : (Cond.code ({ cls := "PageSkeleton$Tidier", name := "join", desc := "(LPageSkeleton$Row;III)Z" } : MethodName) prog_8_method_7_code (5 : Nat) (Option.some FieldType.boolean)) ∈ wsG := wsG_at 451 (by decide +kernel) (by decide +kernel)
theorem k452 : (Cond.methodLink "PageSkeleton$Tidier" (78 : Nat) ({ cls := "PageSkeleton$Row", name := "fuseInto", desc := "(III)V" } : MethodName)) ∈ wsG := wsG_at 452 (by decide +kernel) (by decide +kernel)
theorem k453 : (Cond.instanceMethod ({ cls := "PageSkeleton$Row", name := "fuseInto", desc := "(III)V" } : MethodName)) ∈ wsG := wsG_at 453 (by decide +kernel) (by decide +kernel)
theorem k454 : (Cond.selects "PageSkeleton$Row" ({ cls := "PageSkeleton$Row", name := "fuseInto", desc := "(III)V" } : MethodName) ({ cls := "PageSkeleton$Row", name := "fuseInto", desc := "(III)V" } : MethodName)) ∈ wsG := wsG_at 454 (by decide +kernel) (by decide +kernel)
theorem k455 : (Cond.code ({ cls := "PageSkeleton$Row", name := "fuseInto", desc := "(III)V" } : MethodName) prog_6_method_16_code (5 : Nat) (Option.none : Option Jvm.ClassFile.FieldType)) ∈ wsG := wsG_at 455 (by decide +kernel) (by decide +kernel)
theorem k459 : (Cond.methodLink "PageSkeleton$Tidier" (82 : Nat) ({ cls := "PageSkeleton$Row", name := "remove", desc := "(II)V" } : MethodName)) ∈ wsG := wsG_at 459 (by decide +kernel) (by decide +kernel)
theorem k460 : (Cond.instanceMethod ({ cls := "PageSkeleton$Row", name := "remove", desc := "(II)V" } : MethodName)) ∈ wsG := wsG_at 460 (by decide +kernel) (by decide +kernel)
theorem k461 : (Cond.selects "PageSkeleton$Row" ({ cls := "PageSkeleton$Row", name := "remove", desc := "(II)V" } : MethodName) ({ cls := "PageSkeleton$Row", name := "remove", desc := "(II)V" } : MethodName)) ∈ wsG := wsG_at 461 (by decide +kernel) (by decide +kernel)
theorem k462 : (Cond.code ({ cls := "PageSkeleton$Row", name := "remove", desc := "(II)V" } : MethodName) prog_6_method_17_code (3 : Nat) (Option.none : Option Jvm.ClassFile.FieldType)) ∈ wsG := wsG_at 462 (by decide +kernel) (by decide +kernel)
theorem k466 : (Cond.methodLink "PageSkeleton$Tidier" (86 : Nat) ({ cls := "PageSkeleton$Row", name := "seal", desc := "()V" } : MethodName)) ∈ wsG := wsG_at 466 (by decide +kernel) (by decide +kernel)
theorem k467 : (Cond.methodLink "PageSkeleton$Tidier" (72 : Nat) ({ cls := "java/lang/Math", name := "max", desc := "(II)I" } : MethodName)) ∈ wsG := wsG_at 467 (by decide +kernel) (by decide +kernel)
theorem ks_yX6_join : Cond.selects RX6 yX6_join yX6_join ∈ wsG := wsG_mem (by decide +kernel) (by decide +kernel)
theorem dX6_join_0 : decode cX6_join 0 = .ok (.aload_n 1, 1) := by decide +kernel
theorem dX6_join_1 : decode cX6_join 1 = .ok (.iload_n 2, 1) := by decide +kernel
theorem dX6_join_2 : decode cX6_join 2 = .ok (.iload_n 3, 1) := by decide +kernel
theorem dX6_join_3 : decode cX6_join 3 = .ok (.iload 4, 2) := by decide +kernel
theorem dX6_join_5 : decode cX6_join 5 = .ok (.invokevirtual 78, 3) := by decide +kernel
theorem dX6_join_8 : decode cX6_join 8 = .ok (.aload_n 1, 1) := by decide +kernel
theorem dX6_join_9 : decode cX6_join 9 = .ok (.iload_n 3, 1) := by decide +kernel
theorem dX6_join_10 : decode cX6_join 10 = .ok (.iload_n 3, 1) := by decide +kernel
theorem dX6_join_11 : decode cX6_join 11 = .ok (.iload 4, 2) := by decide +kernel
theorem dX6_join_13 : decode cX6_join 13 = .ok (.iadd, 1) := by decide +kernel
theorem dX6_join_14 : decode cX6_join 14 = .ok (.invokevirtual 82, 3) := by decide +kernel
theorem dX6_join_17 : decode cX6_join 17 = .ok (.aload_n 1, 1) := by decide +kernel
theorem dX6_join_18 : decode cX6_join 18 = .ok (.invokevirtual 86, 3) := by decide +kernel
theorem dX6_join_21 : decode cX6_join 21 = .ok (.iconst 1, 1) := by decide +kernel
theorem dX6_join_22 : decode cX6_join 22 = .ok (.ireturn, 1) := by decide +kernel
theorem dX6_joinAhead_0 : decode cX6_joinAhead 0 = .ok (.iload_n 2, 1) := by decide +kernel
theorem dX6_joinAhead_1 : decode cX6_joinAhead 1 = .ok (.istore 4, 2) := by decide +kernel
theorem dX6_joinAhead_3 : decode cX6_joinAhead 3 = .ok (.iload 4, 2) := by decide +kernel
theorem dX6_joinAhead_5 : decode cX6_joinAhead 5 = .ok (.iload_n 3, 1) := by decide +kernel
theorem dX6_joinAhead_6 : decode cX6_joinAhead 6 = .ok (.if_icmp .ge 93, 3) := by decide +kernel
theorem dX6_joinAhead_9 : decode cX6_joinAhead 9 = .ok (.aload_n 1, 1) := by decide +kernel
theorem dX6_joinAhead_10 : decode cX6_joinAhead 10 = .ok (.getfield 37, 3) := by decide +kernel
theorem dX6_joinAhead_13 : decode cX6_joinAhead 13 = .ok (.iload 4, 2) := by decide +kernel
theorem dX6_joinAhead_15 : decode cX6_joinAhead 15 = .ok (.iaload, 1) := by decide +kernel
theorem dX6_joinAhead_16 : decode cX6_joinAhead 16 = .ok (.sipush 514, 3) := by decide +kernel
theorem dX6_joinAhead_19 : decode cX6_joinAhead 19 = .ok (.if_icmp .ne 62, 3) := by decide +kernel
theorem dX6_joinAhead_22 : decode cX6_joinAhead 22 = .ok (.aload_n 1, 1) := by decide +kernel
theorem dX6_joinAhead_23 : decode cX6_joinAhead 23 = .ok (.getfield 40, 3) := by decide +kernel
theorem dX6_joinAhead_26 : decode cX6_joinAhead 26 = .ok (.iload 4, 2) := by decide +kernel
theorem dX6_joinAhead_28 : decode cX6_joinAhead 28 = .ok (.iaload, 1) := by decide +kernel
theorem dX6_joinAhead_29 : decode cX6_joinAhead 29 = .ok (.iload 4, 2) := by decide +kernel
theorem dX6_joinAhead_31 : decode cX6_joinAhead 31 = .ok (.isub, 1) := by decide +kernel
theorem dX6_joinAhead_32 : decode cX6_joinAhead 32 = .ok (.iconst 1, 1) := by decide +kernel
theorem dX6_joinAhead_33 : decode cX6_joinAhead 33 = .ok (.isub, 1) := by decide +kernel
theorem dX6_joinAhead_34 : decode cX6_joinAhead 34 = .ok (.istore 5, 2) := by decide +kernel
theorem dX6_joinAhead_36 : decode cX6_joinAhead 36 = .ok (.iload 4, 2) := by decide +kernel
theorem dX6_joinAhead_38 : decode cX6_joinAhead 38 = .ok (.iload 5, 2) := by decide +kernel
theorem dX6_joinAhead_40 : decode cX6_joinAhead 40 = .ok (.isub, 1) := by decide +kernel
theorem dX6_joinAhead_41 : decode cX6_joinAhead 41 = .ok (.iload_n 2, 1) := by decide +kernel
theorem dX6_joinAhead_42 : decode cX6_joinAhead 42 = .ok (.if_icmp .lt 39, 3) := by decide +kernel
theorem dX6_joinAhead_45 : decode cX6_joinAhead 45 = .ok (.aload_n 1, 1) := by decide +kernel
theorem dX6_joinAhead_46 : decode cX6_joinAhead 46 = .ok (.iload 4, 2) := by decide +kernel
theorem dX6_joinAhead_48 : decode cX6_joinAhead 48 = .ok (.iload 5, 2) := by decide +kernel
theorem dX6_joinAhead_50 : decode cX6_joinAhead 50 = .ok (.isub, 1) := by decide +kernel
theorem dX6_joinAhead_51 : decode cX6_joinAhead 51 = .ok (.aload_n 1, 1) := by decide +kernel
theorem dX6_joinAhead_52 : decode cX6_joinAhead 52 = .ok (.iload 4, 2) := by decide +kernel
theorem dX6_joinAhead_54 : decode cX6_joinAhead 54 = .ok (.iconst 1, 1) := by decide +kernel
theorem dX6_joinAhead_55 : decode cX6_joinAhead 55 = .ok (.iadd, 1) := by decide +kernel
theorem dX6_joinAhead_56 : decode cX6_joinAhead 56 = .ok (.iload 5, 2) := by decide +kernel
theorem dX6_joinAhead_58 : decode cX6_joinAhead 58 = .ok (.invokevirtual 64, 3) := by decide +kernel
theorem dX6_joinAhead_61 : decode cX6_joinAhead 61 = .ok (.ifCond .eq 20, 3) := by decide +kernel
theorem dX6_joinAhead_64 : decode cX6_joinAhead 64 = .ok (.aload_n 0, 1) := by decide +kernel
theorem dX6_joinAhead_65 : decode cX6_joinAhead 65 = .ok (.aload_n 1, 1) := by decide +kernel
theorem dX6_joinAhead_66 : decode cX6_joinAhead 66 = .ok (.iload 4, 2) := by decide +kernel
theorem dX6_joinAhead_68 : decode cX6_joinAhead 68 = .ok (.iconst 1, 1) := by decide +kernel
theorem dX6_joinAhead_69 : decode cX6_joinAhead 69 = .ok (.iadd, 1) := by decide +kernel
theorem dX6_joinAhead_70 : decode cX6_joinAhead 70 = .ok (.iload 4, 2) := by decide +kernel
theorem dX6_joinAhead_72 : decode cX6_joinAhead 72 = .ok (.iload 5, 2) := by decide +kernel
theorem dX6_joinAhead_74 : decode cX6_joinAhead 74 = .ok (.isub, 1) := by decide +kernel
theorem dX6_joinAhead_75 : decode cX6_joinAhead 75 = .ok (.iload 5, 2) := by decide +kernel
theorem dX6_joinAhead_77 : decode cX6_joinAhead 77 = .ok (.invokevirtual 68, 3) := by decide +kernel
theorem dX6_joinAhead_80 : decode cX6_joinAhead 80 = .ok (.ireturn, 1) := by decide +kernel
theorem dX6_joinAhead_81 : decode cX6_joinAhead 81 = .ok (.iload 4, 2) := by decide +kernel
theorem dX6_joinAhead_83 : decode cX6_joinAhead 83 = .ok (.iconst 1, 1) := by decide +kernel
theorem dX6_joinAhead_84 : decode cX6_joinAhead 84 = .ok (.iadd, 1) := by decide +kernel
theorem dX6_joinAhead_85 : decode cX6_joinAhead 85 = .ok (.aload_n 1, 1) := by decide +kernel
theorem dX6_joinAhead_86 : decode cX6_joinAhead 86 = .ok (.iload 4, 2) := by decide +kernel
theorem dX6_joinAhead_88 : decode cX6_joinAhead 88 = .ok (.invokevirtual 60, 3) := by decide +kernel
theorem dX6_joinAhead_91 : decode cX6_joinAhead 91 = .ok (.invokestatic 72, 3) := by decide +kernel
theorem dX6_joinAhead_94 : decode cX6_joinAhead 94 = .ok (.istore 4, 2) := by decide +kernel
theorem dX6_joinAhead_96 : decode cX6_joinAhead 96 = .ok (.goto (-93), 3) := by decide +kernel
theorem dX6_joinAhead_99 : decode cX6_joinAhead 99 = .ok (.iconst 0, 1) := by decide +kernel
theorem dX6_joinAhead_100 : decode cX6_joinAhead 100 = .ok (.ireturn, 1) := by decide +kernel
theorem dX6_joinBehind_0 : decode cX6_joinBehind 0 = .ok (.iload_n 2, 1) := by decide +kernel
theorem dX6_joinBehind_1 : decode cX6_joinBehind 1 = .ok (.istore 4, 2) := by decide +kernel
theorem dX6_joinBehind_3 : decode cX6_joinBehind 3 = .ok (.iload 4, 2) := by decide +kernel
theorem dX6_joinBehind_5 : decode cX6_joinBehind 5 = .ok (.iload_n 3, 1) := by decide +kernel
theorem dX6_joinBehind_6 : decode cX6_joinBehind 6 = .ok (.if_icmp .ge 98, 3) := by decide +kernel
theorem dX6_joinBehind_9 : decode cX6_joinBehind 9 = .ok (.aload_n 1, 1) := by decide +kernel
theorem dX6_joinBehind_10 : decode cX6_joinBehind 10 = .ok (.getfield 37, 3) := by decide +kernel
theorem dX6_joinBehind_13 : decode cX6_joinBehind 13 = .ok (.iload 4, 2) := by decide +kernel
theorem dX6_joinBehind_15 : decode cX6_joinBehind 15 = .ok (.iaload, 1) := by decide +kernel
theorem dX6_joinBehind_16 : decode cX6_joinBehind 16 = .ok (.sipush 514, 3) := by decide +kernel
theorem dX6_joinBehind_19 : decode cX6_joinBehind 19 = .ok (.if_icmp .ne 67, 3) := by decide +kernel
theorem dX6_joinBehind_22 : decode cX6_joinBehind 22 = .ok (.aload_n 1, 1) := by decide +kernel
theorem dX6_joinBehind_23 : decode cX6_joinBehind 23 = .ok (.getfield 40, 3) := by decide +kernel
theorem dX6_joinBehind_26 : decode cX6_joinBehind 26 = .ok (.iload 4, 2) := by decide +kernel
theorem dX6_joinBehind_28 : decode cX6_joinBehind 28 = .ok (.iaload, 1) := by decide +kernel
theorem dX6_joinBehind_29 : decode cX6_joinBehind 29 = .ok (.iload 4, 2) := by decide +kernel
theorem dX6_joinBehind_31 : decode cX6_joinBehind 31 = .ok (.isub, 1) := by decide +kernel
theorem dX6_joinBehind_32 : decode cX6_joinBehind 32 = .ok (.iconst 1, 1) := by decide +kernel
theorem dX6_joinBehind_33 : decode cX6_joinBehind 33 = .ok (.isub, 1) := by decide +kernel
theorem dX6_joinBehind_34 : decode cX6_joinBehind 34 = .ok (.istore 5, 2) := by decide +kernel
theorem dX6_joinBehind_36 : decode cX6_joinBehind 36 = .ok (.aload_n 1, 1) := by decide +kernel
theorem dX6_joinBehind_37 : decode cX6_joinBehind 37 = .ok (.getfield 40, 3) := by decide +kernel
theorem dX6_joinBehind_40 : decode cX6_joinBehind 40 = .ok (.iload 4, 2) := by decide +kernel
theorem dX6_joinBehind_42 : decode cX6_joinBehind 42 = .ok (.iaload, 1) := by decide +kernel
theorem dX6_joinBehind_43 : decode cX6_joinBehind 43 = .ok (.iconst 1, 1) := by decide +kernel
theorem dX6_joinBehind_44 : decode cX6_joinBehind 44 = .ok (.iadd, 1) := by decide +kernel
theorem dX6_joinBehind_45 : decode cX6_joinBehind 45 = .ok (.istore 6, 2) := by decide +kernel
theorem dX6_joinBehind_47 : decode cX6_joinBehind 47 = .ok (.iload 6, 2) := by decide +kernel
theorem dX6_joinBehind_49 : decode cX6_joinBehind 49 = .ok (.iload 5, 2) := by decide +kernel
theorem dX6_joinBehind_51 : decode cX6_joinBehind 51 = .ok (.iadd, 1) := by decide +kernel
theorem dX6_joinBehind_52 : decode cX6_joinBehind 52 = .ok (.iload_n 3, 1) := by decide +kernel
theorem dX6_joinBehind_53 : decode cX6_joinBehind 53 = .ok (.if_icmp .gt 33, 3) := by decide +kernel
theorem dX6_joinBehind_56 : decode cX6_joinBehind 56 = .ok (.aload_n 1, 1) := by decide +kernel
theorem dX6_joinBehind_57 : decode cX6_joinBehind 57 = .ok (.iload 4, 2) := by decide +kernel
theorem dX6_joinBehind_59 : decode cX6_joinBehind 59 = .ok (.iconst 1, 1) := by decide +kernel
theorem dX6_joinBehind_60 : decode cX6_joinBehind 60 = .ok (.iadd, 1) := by decide +kernel
theorem dX6_joinBehind_61 : decode cX6_joinBehind 61 = .ok (.aload_n 1, 1) := by decide +kernel
theorem dX6_joinBehind_62 : decode cX6_joinBehind 62 = .ok (.iload 6, 2) := by decide +kernel
theorem dX6_joinBehind_64 : decode cX6_joinBehind 64 = .ok (.iload 5, 2) := by decide +kernel
theorem dX6_joinBehind_66 : decode cX6_joinBehind 66 = .ok (.invokevirtual 64, 3) := by decide +kernel
theorem dX6_joinBehind_69 : decode cX6_joinBehind 69 = .ok (.ifCond .eq 17, 3) := by decide +kernel
theorem dX6_joinBehind_72 : decode cX6_joinBehind 72 = .ok (.aload_n 0, 1) := by decide +kernel
theorem dX6_joinBehind_73 : decode cX6_joinBehind 73 = .ok (.aload_n 1, 1) := by decide +kernel
theorem dX6_joinBehind_74 : decode cX6_joinBehind 74 = .ok (.iload 4, 2) := by decide +kernel
theorem dX6_joinBehind_76 : decode cX6_joinBehind 76 = .ok (.iconst 1, 1) := by decide +kernel
theorem dX6_joinBehind_77 : decode cX6_joinBehind 77 = .ok (.iadd, 1) := by decide +kernel
theorem dX6_joinBehind_78 : decode cX6_joinBehind 78 = .ok (.iload 6, 2) := by decide +kernel
theorem dX6_joinBehind_80 : decode cX6_joinBehind 80 = .ok (.iload 5, 2) := by decide +kernel
theorem dX6_joinBehind_82 : decode cX6_joinBehind 82 = .ok (.invokevirtual 68, 3) := by decide +kernel
theorem dX6_joinBehind_85 : decode cX6_joinBehind 85 = .ok (.ireturn, 1) := by decide +kernel
theorem dX6_joinBehind_86 : decode cX6_joinBehind 86 = .ok (.iload 4, 2) := by decide +kernel
theorem dX6_joinBehind_88 : decode cX6_joinBehind 88 = .ok (.iconst 1, 1) := by decide +kernel
theorem dX6_joinBehind_89 : decode cX6_joinBehind 89 = .ok (.iadd, 1) := by decide +kernel
theorem dX6_joinBehind_90 : decode cX6_joinBehind 90 = .ok (.aload_n 1, 1) := by decide +kernel
theorem dX6_joinBehind_91 : decode cX6_joinBehind 91 = .ok (.iload 4, 2) := by decide +kernel
theorem dX6_joinBehind_93 : decode cX6_joinBehind 93 = .ok (.invokevirtual 60, 3) := by decide +kernel
theorem dX6_joinBehind_96 : decode cX6_joinBehind 96 = .ok (.invokestatic 72, 3) := by decide +kernel
theorem dX6_joinBehind_99 : decode cX6_joinBehind 99 = .ok (.istore 4, 2) := by decide +kernel
theorem dX6_joinBehind_101 : decode cX6_joinBehind 101 = .ok (.goto (-98), 3) := by decide +kernel
theorem dX6_joinBehind_104 : decode cX6_joinBehind 104 = .ok (.iconst 0, 1) := by decide +kernel
theorem dX6_joinBehind_105 : decode cX6_joinBehind 105 = .ok (.ireturn, 1) := by decide +kernel
theorem dX6_joinTwins_0 : decode cX6_joinTwins 0 = .ok (.iload_n 2, 1) := by decide +kernel
theorem dX6_joinTwins_1 : decode cX6_joinTwins 1 = .ok (.istore 4, 2) := by decide +kernel
theorem dX6_joinTwins_3 : decode cX6_joinTwins 3 = .ok (.iload 4, 2) := by decide +kernel
theorem dX6_joinTwins_5 : decode cX6_joinTwins 5 = .ok (.iload_n 3, 1) := by decide +kernel
theorem dX6_joinTwins_6 : decode cX6_joinTwins 6 = .ok (.if_icmp .ge 108, 3) := by decide +kernel
theorem dX6_joinTwins_9 : decode cX6_joinTwins 9 = .ok (.aload_n 1, 1) := by decide +kernel
theorem dX6_joinTwins_10 : decode cX6_joinTwins 10 = .ok (.iload 4, 2) := by decide +kernel
theorem dX6_joinTwins_12 : decode cX6_joinTwins 12 = .ok (.invokevirtual 60, 3) := by decide +kernel
theorem dX6_joinTwins_15 : decode cX6_joinTwins 15 = .ok (.istore 5, 2) := by decide +kernel
theorem dX6_joinTwins_17 : decode cX6_joinTwins 17 = .ok (.iload 5, 2) := by decide +kernel
theorem dX6_joinTwins_19 : decode cX6_joinTwins 19 = .ok (.iload_n 3, 1) := by decide +kernel
theorem dX6_joinTwins_20 : decode cX6_joinTwins 20 = .ok (.if_icmp .ge 76, 3) := by decide +kernel
theorem dX6_joinTwins_23 : decode cX6_joinTwins 23 = .ok (.aload_n 1, 1) := by decide +kernel
theorem dX6_joinTwins_24 : decode cX6_joinTwins 24 = .ok (.getfield 37, 3) := by decide +kernel
theorem dX6_joinTwins_27 : decode cX6_joinTwins 27 = .ok (.iload 4, 2) := by decide +kernel
theorem dX6_joinTwins_29 : decode cX6_joinTwins 29 = .ok (.iaload, 1) := by decide +kernel
theorem dX6_joinTwins_30 : decode cX6_joinTwins 30 = .ok (.sipush 514, 3) := by decide +kernel
theorem dX6_joinTwins_33 : decode cX6_joinTwins 33 = .ok (.if_icmp .ne 63, 3) := by decide +kernel
theorem dX6_joinTwins_36 : decode cX6_joinTwins 36 = .ok (.aload_n 1, 1) := by decide +kernel
theorem dX6_joinTwins_37 : decode cX6_joinTwins 37 = .ok (.getfield 37, 3) := by decide +kernel
theorem dX6_joinTwins_40 : decode cX6_joinTwins 40 = .ok (.iload 5, 2) := by decide +kernel
theorem dX6_joinTwins_42 : decode cX6_joinTwins 42 = .ok (.iaload, 1) := by decide +kernel
theorem dX6_joinTwins_43 : decode cX6_joinTwins 43 = .ok (.sipush 514, 3) := by decide +kernel
theorem dX6_joinTwins_46 : decode cX6_joinTwins 46 = .ok (.if_icmp .ne 50, 3) := by decide +kernel
theorem dX6_joinTwins_49 : decode cX6_joinTwins 49 = .ok (.iload 5, 2) := by decide +kernel
theorem dX6_joinTwins_51 : decode cX6_joinTwins 51 = .ok (.iload 4, 2) := by decide +kernel
theorem dX6_joinTwins_53 : decode cX6_joinTwins 53 = .ok (.isub, 1) := by decide +kernel
theorem dX6_joinTwins_54 : decode cX6_joinTwins 54 = .ok (.istore 6, 2) := by decide +kernel
theorem dX6_joinTwins_56 : decode cX6_joinTwins 56 = .ok (.iload 6, 2) := by decide +kernel
theorem dX6_joinTwins_58 : decode cX6_joinTwins 58 = .ok (.aload_n 1, 1) := by decide +kernel
theorem dX6_joinTwins_59 : decode cX6_joinTwins 59 = .ok (.iload 5, 2) := by decide +kernel
theorem dX6_joinTwins_61 : decode cX6_joinTwins 61 = .ok (.invokevirtual 60, 3) := by decide +kernel
theorem dX6_joinTwins_64 : decode cX6_joinTwins 64 = .ok (.iload 5, 2) := by decide +kernel
theorem dX6_joinTwins_66 : decode cX6_joinTwins 66 = .ok (.isub, 1) := by decide +kernel
theorem dX6_joinTwins_67 : decode cX6_joinTwins 67 = .ok (.if_icmp .ne 29, 3) := by decide +kernel
theorem dX6_joinTwins_70 : decode cX6_joinTwins 70 = .ok (.aload_n 1, 1) := by decide +kernel
theorem dX6_joinTwins_71 : decode cX6_joinTwins 71 = .ok (.iload 4, 2) := by decide +kernel
theorem dX6_joinTwins_73 : decode cX6_joinTwins 73 = .ok (.aload_n 1, 1) := by decide +kernel
theorem dX6_joinTwins_74 : decode cX6_joinTwins 74 = .ok (.iload 5, 2) := by decide +kernel
theorem dX6_joinTwins_76 : decode cX6_joinTwins 76 = .ok (.iload 6, 2) := by decide +kernel
theorem dX6_joinTwins_78 : decode cX6_joinTwins 78 = .ok (.invokevirtual 64, 3) := by decide +kernel
theorem dX6_joinTwins_81 : decode cX6_joinTwins 81 = .ok (.ifCond .eq 15, 3) := by decide +kernel
theorem dX6_joinTwins_84 : decode cX6_joinTwins 84 = .ok (.aload_n 0, 1) := by decide +kernel
theorem dX6_joinTwins_85 : decode cX6_joinTwins 85 = .ok (.aload_n 1, 1) := by decide +kernel
theorem dX6_joinTwins_86 : decode cX6_joinTwins 86 = .ok (.iload 4, 2) := by decide +kernel
theorem dX6_joinTwins_88 : decode cX6_joinTwins 88 = .ok (.iload 5, 2) := by decide +kernel
theorem dX6_joinTwins_90 : decode cX6_joinTwins 90 = .ok (.iload 6, 2) := by decide +kernel
theorem dX6_joinTwins_92 : decode cX6_joinTwins 92 = .ok (.invokevirtual 68, 3) := by decide +kernel
theorem dX6_joinTwins_95 : decode cX6_joinTwins 95 = .ok (.ireturn, 1) := by decide +kernel
theorem dX6_joinTwins_96 : decode cX6_joinTwins 96 = .ok (.iload 4, 2) := by decide +kernel
theorem dX6_joinTwins_98 : decode cX6_joinTwins 98 = .ok (.iconst 1, 1) := by decide +kernel
theorem dX6_joinTwins_99 : decode cX6_joinTwins 99 = .ok (.iadd, 1) := by decide +kernel
theorem dX6_joinTwins_100 : decode cX6_joinTwins 100 = .ok (.aload_n 1, 1) := by decide +kernel
theorem dX6_joinTwins_101 : decode cX6_joinTwins 101 = .ok (.iload 4, 2) := by decide +kernel
theorem dX6_joinTwins_103 : decode cX6_joinTwins 103 = .ok (.invokevirtual 60, 3) := by decide +kernel
theorem dX6_joinTwins_106 : decode cX6_joinTwins 106 = .ok (.invokestatic 72, 3) := by decide +kernel
theorem dX6_joinTwins_109 : decode cX6_joinTwins 109 = .ok (.istore 4, 2) := by decide +kernel
theorem dX6_joinTwins_111 : decode cX6_joinTwins 111 = .ok (.goto (-108), 3) := by decide +kernel
theorem dX6_joinTwins_114 : decode cX6_joinTwins 114 = .ok (.iconst 0, 1) := by decide +kernel
theorem dX6_joinTwins_115 : decode cX6_joinTwins 115 = .ok (.ireturn, 1) := by decide +kernel
/-! the tidier: what is taken out of a row; twins joined, and what stands ahead of a repeat or behind it -/
theorem sAl_dl {a b : Int} (h : sAl a b) : dl a = dl b := by
  rcases h with h | ⟨h1, h2⟩
  · rw [h]
  · rw [dl_0 h1.2, dl_0 h2.2]
theorem sAl_s {a b : Int} (h : sAl a b) : sAl b a := h.elim (fun h => Or.inl h.symm) (fun h => Or.inr ⟨h.2, h.1⟩)
theorem sFu_dl {a b : Int} (h : sAl a b) : dl (sFu a b) = dl a := by
  unfold sFu
  split
  · rfl
  · rcases h with h | ⟨h1, h2⟩
    · exact absurd h (by assumption)
    · rw [dl_0 h1.2]; rfl
theorem sFu_v {a b : Int} (h : vS a) : vS (sFu a b) := by
  unfold sFu
  split
  · exact h
  · unfold vS; omega
theorem sgA_uc {μ : va_M} {c sp dp n : Nat} (h : sgA μ c) : sgA (uc μ c sp c dp n) c := fun i => by
  unfold uc
  split
  · exact h _
  · exact h _
theorem Dp_rmv {f g : Nat → Int} {x n L : Nat} (h1 : ∀ j, j < x → dl (g j) = dl (f j)) (h2 : ∀ j, x ≤ j → j < L → dl (g j) = dl (f (j + n))) (he : Dp f (x + n) = Dp f x) : (∀ j, j ≤ x → Dp g j = Dp f j) ∧ ∀ j, x ≤ j → j ≤ L → Dp g j = Dp f (j + n) := by
  have e1 : ∀ j, j ≤ x → Dp g j = Dp f j := fun j hj => Dp_eq j (fun i hi => h1 i (by omega))
  refine ⟨e1, fun j h8 h9 => ?_⟩
  have e2 := Dp_sh (f := f) (g := g) (x + n) x (j - x) (fun i hi => by rw [h2 _ (by omega) (by omega), show x + i + n = x + n + i by omega])
  have e3 := e1 x (Nat.le_refl _)
  rw [show x + (j - x) = j by omega, show x + n + (j - x) = j + n by omega] at e2
  omega
/-- a line that is balanced -/
def gL (f : Nat → Int) (n : Nat) : Prop := Dp f n = 0 ∧ ∀ j, j ≤ n → 0 ≤ Dp f j ∧ (j < n → vS (f j))
theorem gL_w {μ : va_M} {c n : Nat} (h : gL (μ c) n) : ∃ w : Rw, rW0 w ∧ sL w = n ∧ SA μ c w 0 := by
  have e0 : Dp (μ c) 0 = 0 := rfl
  exact parse μ c n 0 (fun j _ hj => (h.2 j (by omega)).2 (by omega)) (fun j _ hj => by rw [e0]; exact (h.2 j (by omega)).1) (by rw [Nat.zero_add, h.1, e0])
theorem rG_gL {μ : va_M} {q rm : Nat} (h : rG μ q rm) : gL (μ (q + 1)) (μ q 5).toNat := by
  have h1 := rG_bal h
  have h2 := rG_len h
  exact ⟨h1.1, fun j hj => ⟨(h1.2 j (by omega)).1, fun h9 => (h1.2 j (by omega)).2 (by omega)⟩⟩
/-- the stretch from p1 to as many signs ahead of the row's end -/
def rng (μ : va_M) (q : Nat) (p1 bh : Int) : Prop := (0 ≤ p1 ∧ p1 ≤ 1100 ∧ 0 ≤ bh ∧ bh ≤ 1100) ∧ (p1 < μ q 5 - bh → seg (μ (q + 1)) p1.toNat (μ q 5 - bh).toNat)
theorem rng_rm {μ u : va_M} {q : Nat} {p1 bh x n : Int} (hrg : rng μ q p1 bh) (h1 : p1 ≤ x) (h2 : x + n ≤ μ q 5 - bh) (h0 : 0 ≤ n) (h5 : u q 5 = μ q 5 - n) (hd1 : ∀ j : Nat, j ≤ x.toNat → Dp (u (q + 1)) j = Dp (μ (q + 1)) j) (hd2 : ∀ j : Nat, x.toNat ≤ j → j ≤ (μ q 5 - n).toNat → Dp (u (q + 1)) j = Dp (μ (q + 1)) (j + n.toNat)) : rng u q p1 bh := by
  have hr1 := hrg.1
  refine ⟨hrg.1, fun h => ?_⟩
  obtain ⟨s1, s2, s3⟩ := hrg.2 (by omega)
  have e1 := hd1 p1.toNat (by omega)
  refine ⟨by omega, ?_, fun j h8 h9 => ?_⟩
  · rw [hd2 _ (by omega) (by omega), e1, show (u q 5 - bh).toNat + n.toNat = (μ q 5 - bh).toNat by omega]; exact s2
  · rw [e1]
    by_cases h6 : j ≤ x.toNat
    · rw [hd1 j h6]; exact s3 j h8 (by omega)
    · rw [hd2 j (by omega) (by omega)]; exact s3 _ (by omega) (by omega)
theorem rng_fr {μ u : va_M} {q : Nat} {p1 bh : Int} (hrg : rng μ q p1 bh) (h5 : u q 5 = μ q 5) (h1 : ∀ y, u (q + 1) y = μ (q + 1) y) : rng u q p1 bh := by
  have e : u (q + 1) = μ (q + 1) := funext h1
  unfold rng
  rw [h5, e]
  exact hrg
/-- what joining asks for -/
def jok (μ : va_M) (q : Nat) (p1 p2 n : Int) : Prop := ((0 ≤ p1 ∧ p1 + n ≤ μ q 5) ∧ (0 ≤ p2 ∧ p2 + n ≤ μ q 5) ∧ 0 ≤ n ∧ (p1 + n ≤ p2 ∨ p2 + n ≤ p1)) ∧ (∀ t : Nat, (t : Int) < n → sAl (μ (q + 1) (p1.toNat + t)) (μ (q + 1) (p2.toNat + t))) ∧ Dp (μ (q + 1)) (p2 + n).toNat = Dp (μ (q + 1)) p2.toNat
/-- the two lines of Dp: what is ahead of x stays, what is from x on was n further on -/
def dRm (f g : Nat → Int) (x n L : Int) : Prop := (∀ j : Nat, j ≤ x.toNat → Dp g j = Dp f j) ∧ ∀ j : Nat, x.toNat ≤ j → j ≤ L.toNat → Dp g j = Dp f (j + n.toNat)
set_option maxHeartbeats 4000000 in
theorem join_mem {μ μ1 μ2 : va_M} {q rm : Nat} {p1 p2 n : Int} (hG : rG μ q rm) (h7 : μ q 7 = 0) (hj : jok μ q p1 p2 n) (hf1 : fr (fun x y => x = q + 1 ∧ p1.toNat ≤ y ∧ y < p1.toNat + n.toNat) μ μ1) (hv1 : ∀ t : Nat, t < n.toNat → μ1 (q + 1) (p1.toNat + t) = sFu (μ (q + 1) (p1.toNat + t)) (μ (q + 1) (p2.toNat + t))) (h2 : μ2 = uz (uc μ1 (q + 1) (p2 + n).toNat (q + 1) p2.toNat (μ1 q 5 - (p2 + n)).toNat) q 5 (μ1 q 5 - (p2 + n - p2))) :
    (∃ w : Rw, rW0 w ∧ sL w ≤ rm ∧ μ2 q 7 = 0 ∧ SA μ2 (q + 1) w 0 ∧ μ2 q 5 = sL w) ∧ sgA μ2 (q + 1) ∧ mA μ2 q rm ∧ fr (fun x y => x = q + 1 ∨ (x = q ∧ y = 5)) μ μ2 ∧ μ2 q 5 = μ q 5 - n ∧ dRm (μ (q + 1)) (μ2 (q + 1)) p2 n (μ q 5 - n) := by
  obtain ⟨⟨b1, b2, b3, b4⟩, hal, he⟩ := hj
  have hl := rG_len hG
  have hgl := rG_gL hG
  have e5 : μ1 q 5 = μ q 5 := hf1 _ _ (by omega)
  rw [e5] at h2
  have d1 : ∀ j, dl (μ1 (q + 1) j) = dl (μ (q + 1) j) ∧ (vS (μ (q + 1) j) → vS (μ1 (q + 1) j)) := fun j => by
    by_cases h9 : p1.toNat ≤ j ∧ j < p1.toNat + n.toNat
    · have hv := hv1 (j - p1.toNat) (by omega)
      have ha := hal (j - p1.toNat) (by omega)
      rw [show p1.toNat + (j - p1.toNat) = j by omega] at hv ha
      rw [hv]
      exact ⟨sFu_dl ha, sFu_v⟩
    · rw [hf1 _ _ (fun h => h9 ⟨h.2.1, h.2.2⟩)]; exact ⟨rfl, id⟩
  have s1 : sgA μ1 (q + 1) := fun i => by
    by_cases h9 : p1.toNat ≤ i ∧ i < p1.toNat + n.toNat
    · have hv := hv1 (i - p1.toNat) (by omega)
      rw [show p1.toNat + (i - p1.toNat) = i by omega] at hv
      rw [hv]
      exact sFu_b (hG.1 _)
    · rw [hf1 _ _ (fun h => h9 ⟨h.2.1, h.2.2⟩)]; exact hG.1 _
  have a1 : ∀ j, j < p2.toNat → μ2 (q + 1) j = μ1 (q + 1) j := fun j hj => by rw [h2, uz_n (by omega), uc_n (by omega)]
  have a2 : ∀ j, p2.toNat ≤ j → j < (μ q 5 - n).toNat → μ2 (q + 1) j = μ1 (q + 1) (j + n.toNat) := fun j h8 h9 => by
    rw [h2, uz_n (by omega), uc_s (by omega)]
    congr 1
    omega
  have f5 : μ2 q 5 = μ q 5 - n := by rw [h2, uz_s]; omega
  have D := Dp_rmv (f := μ (q + 1)) (g := μ2 (q + 1)) (x := p2.toNat) (n := n.toNat) (L := (μ q 5 - n).toNat) (fun j h => by rw [a1 j h]; exact (d1 j).1) (fun j h8 h9 => by rw [a2 j h8 h9]; exact (d1 _).1) (by rw [show p2.toNat + n.toNat = (p2 + n).toNat by omega]; exact he)
  have g2 : gL (μ2 (q + 1)) (μ q 5 - n).toNat := by
    refine ⟨by rw [D.2 _ (by omega) (Nat.le_refl _), show (μ q 5 - n).toNat + n.toNat = (μ q 5).toNat by omega]; exact hgl.1, fun j hj => ?_⟩
    by_cases h9 : j ≤ p2.toNat
    · refine ⟨by rw [D.1 j h9]; exact (hgl.2 j (by omega)).1, fun h8 => ?_⟩
      by_cases h6 : j = p2.toNat
      · rw [a2 j (by omega) h8]; exact (d1 _).2 ((hgl.2 _ (by omega)).2 (by omega))
      · rw [a1 j (by omega)]; exact (d1 _).2 ((hgl.2 _ (by omega)).2 (by omega))
    · refine ⟨by rw [D.2 j (by omega) hj]; exact (hgl.2 _ (by omega)).1, fun h8 => ?_⟩
      rw [a2 j (by omega) h8]; exact (d1 _).2 ((hgl.2 _ (by omega)).2 (by omega))
  have hfr : fr (fun x y => x = q + 1 ∨ (x = q ∧ y = 5)) μ μ2 := fun x y h => by
    rw [h2, uz_n (by omega), uc_n (by omega)]
    exact hf1 _ _ (by omega)
  obtain ⟨w, w1, w2, w3⟩ := gL_w g2
  refine ⟨⟨w, w1, by omega, by rw [hfr _ _ (by omega)]; exact h7, w3, by omega⟩, ?_, fun y => by rw [hfr _ _ (by omega)]; exact hG.2.1 y, hfr, f5, D⟩
  intro i
  rw [h2, uz_n (by omega)]
  exact sgA_uc s1 i
def LTq (q x y : Nat) : Prop := LEq q x y ∨ (38 ≤ x ∧ x ≤ 40)
theorem Dp_al {f : Nat → Int} {a b n : Nat} (h : ∀ t : Nat, t < n → sAl (f (a + t)) (f (b + t))) : Dp f (b + n) - Dp f b = Dp f (a + n) - Dp f a := Dp_sh a b n (fun j hj => (sAl_dl (h j hj)).symm)
set_option maxHeartbeats 4000000 in
set_option maxRecDepth 100000 in
theorem s_Tjoin (l : Launch) (dC : Nat → ClassId) (dI : Nat → Nat → Nat) (cI cZ cII cIII : ClassId) (h0 sz : Nat) (μ : va_M) (q : Nat) (rm : Nat) (p1 : Int) (p2 : Int) (n : Int) (hq : rowB q rm) (hG : rG μ q rm) (h7 : μ q 7 = 0) (hj : jok μ q p1 p2 n) : Met l yX6_join (Cond.code yX6_join cX6_join 5 (some .boolean) :: wsG) ({ frames := 3, cells := 0, slots := 0, locals := 70 } : Room) (va_Pc [.ref (h0 + 38), .ref (h0 + q), .int (iZ (p1)), .int (iZ (p2)), .int (iZ (n))] (fun U => U.heap.size = sz ∧ va_P (dC, dI) vwCl (fw (sE cI cZ cII cIII h0) h0 233 μ) U.heap ∧ va_K (dC, dI) vwCl (sT cI cZ cII cIII) U ∧ xM U)) (va_Qi (fun (r9 : Int32) (u : va_M × Int) => r9 = iZ u.2 ∧ (fun (u : va_M) (r : Int) => r = 1 ∧ rG u q rm ∧ fr (LEq q) μ u ∧ u q 5 = μ q 5 - n ∧ dRm (μ (q + 1)) (u (q + 1)) p2 n (μ q 5 - n)) u.1 u.2) (fun u t => va_P (dC, dI) vwCl (fw (sE cI cZ cII cIII h0) h0 233 u.1) t.heap ∧ va_K (dC, dI) vwCl (sT cI cZ cII cIII) t) (fA h0 233 sz)) 0 0 (fA h0 233 sz) := by
  refine Met.ofW (cc := cX6_join) (maxL := 5) (ret := (some .boolean)) (by decide) rfl ?_
  intro p e s m args below meth c s₁ B hml hv
  obtain ⟨rfl, hsz, hP, hK, hM⟩ := hv
  have hx := B.exec
  have hb := B.bytes
  have hr := B.returns
  have hts : ∀ w ∈ wsG, w.before _ s = true := hG_of (atoms_spec (ws := (Cond.code yX6_join cX6_join 5 (some .boolean) :: wsG)) B.pre)
  have hown : s.vm.findClass RX6 = some m.cls := findClass_of_methodNamed B.named
  have hlocks := B.notSynchronized
  subst hsz
  have hS : va_S (fA h0 233 s.heap.size) s.heap s.heap [] := va_S.rf
  have hl := lv_entry ([.ref (h0 + 38), .ref (h0 + q), .int (iZ (p1)), .int (iZ (p2)), .int (iZ (n))]) (n := 5) (Nat.le_of_ble_eq_true rfl)
  rw [lg_entry_eq]
  generalize (lg_sl ([.ref (h0 + 38), .ref (h0 + q), .int (iZ (p1)), .int (iZ (p2)), .int (iZ (n))]) ++ List.replicate (5 - (lg_sl ([.ref (h0 + 38), .ref (h0 + q), .int (iZ (p1)), .int (iZ (p2)), .int (iZ (n))])).length) Slot.unset).toArray = ls at hl ⊢
  have hl : lv_has ls 5 [(0, .ref (h0 + 38)), (1, .ref (h0 + q)), (2, .int (iZ (p1))), (3, .int (iZ (p2))), (4, .int (iZ (n)))] := hl
  have hqb := rowB_b hq
  obtain ⟨hj1, hj2, hj3⟩ := hj
  have hrm := rG_rm hq hG
  refine lv_aload_n hx hb dX6_join_0 rfl (lv_at hl 1 rfl) ?_
  refine lv_iload_n hx hb dX6_join_1 rfl (lv_at hl 2 rfl) ?_
  refine lv_iload_n hx hb dX6_join_2 rfl (lv_at hl 3 rfl) ?_
  refine lv_iload hx hb dX6_join_3 (lv_at hl 4 rfl) ?_
  refine va_callv (va_runV (As := [.int (iZ (p1)), .int (iZ (p2)), .int (iZ (n))]) (rest := []) ⟨hx, hb, hml, hown, hts⟩ (s_RfuseInto l dC dI cI cZ cII cIII h0 s.heap.size μ (q) (rm) (p1) (p2) (n) (hq) (by exact hG.1) (by first | assumption | ((try clear hμ1); (try clear hμ2); (try clear hμ3); omega) | omega | exact ⟨by (first | ((try clear hμ1); (try clear hμ2); (try clear hμ3); omega) | omega), by (first | ((try clear hμ1); (try clear hμ2); (try clear hμ3); omega) | omega)⟩) (by first | assumption | ((try clear hμ1); (try clear hμ2); (try clear hμ3); omega) | omega | exact ⟨by (first | ((try clear hμ1); (try clear hμ2); (try clear hμ3); omega) | omega), by (first | ((try clear hμ1); (try clear hμ2); (try clear hμ3); omega) | omega)⟩) (by first | assumption | ((try clear hμ1); (try clear hμ2); (try clear hμ3); omega) | omega | exact ⟨by (first | ((try clear hμ1); (try clear hμ2); (try clear hμ3); omega) | omega), by (first | ((try clear hμ1); (try clear hμ2); (try clear hμ3); omega) | omega)⟩) (by first | assumption | ((try clear hμ1); (try clear hμ2); (try clear hμ3); omega) | omega | exact ⟨by (first | ((try clear hμ1); (try clear hμ2); (try clear hμ3); omega) | omega), by (first | ((try clear hμ1); (try clear hμ2); (try clear hμ3); omega) | omega)⟩)) (cwV 3 hts (gV_G k452 k453 k454 k3 k455) rfl rfl rfl (by decide +kernel) ⟨Nat.le_of_ble_eq_true rfl, Nat.le_of_ble_eq_true rfl⟩) ⟨fun a U g mk q => by obtain ⟨q0, q1, qP, qK, qM⟩ := q; exact ⟨q0, q1, qP, va_K.moved (u := U) (U := U.calling g mk a) (Vm.Alike.refl U.vm) qK, qM⟩, va_recv hK hP (ci := 4) (q0 := q) rfl ((fw_get (by (first | ((try clear hμ1); (try clear hμ2); (try clear hμ3); omega) | omega))).trans (by rw [(sE_rowO hq)])), fun U hU hW => ⟨rfl, by rw [hU], by rw [hU]; exact hP, va_K.moved hW.alike hK, xM_warm hW hM⟩⟩ rfl rfl hl.1 rfl (lv_room (Nat.le_of_ble_eq_true rfl)) dX6_join_5 ⟨Nat.le_of_ble_eq_true rfl, Nat.le_of_ble_eq_true rfl⟩) hS (fun q _ h => fA_le hS.1 q h) (fA_le hS.1) (fun u9 t9 H1 locs ht9 hvm9 hw9 hB9 hz9 hk9 hS => ?_)
  obtain ⟨hP, -⟩ := hB9
  rw [ht9] at hP
  generalize H1 = H at hP hS ⊢
  obtain ⟨μ1, eμ1⟩ : ∃ x : va_M, x = u9 := ⟨_, rfl⟩
  rw [← eμ1] at hP hw9
  have hμ1 := hw9; clear hw9
  obtain ⟨f1_, v1_⟩ := hμ1
  have e15 : μ1 q 5 = μ q 5 := f1_ _ _ (by (first | ((try clear hμ1); (try clear hμ2); (try clear hμ3); omega) | omega))
  refine lv_aload_n hx hb dX6_join_8 rfl (lv_at hl 1 rfl) ?_
  refine lv_iload_n hx hb dX6_join_9 rfl (lv_at hl 3 rfl) ?_
  refine lv_iload_n hx hb dX6_join_10 rfl (lv_at hl 3 rfl) ?_
  refine lv_iload hx hb dX6_join_11 (lv_at hl 4 rfl) ?_
  refine lv_iadd hx hb dX6_join_13 ?_
  refine lv_topi (fun x9 ex9 => ?_)
  obtain rfl : x9 = iZ (p2 + n) := ex9.trans (iZ_add _ _)
  refine va_callv (va_runV (As := [.int (iZ (p2)), .int (iZ (p2 + n))]) (rest := []) ⟨hx, hb, hml, hown, hts⟩ (s_Rremove l dC dI cI cZ cII cIII h0 H.size μ1 (q) (rm) (p2) (p2 + n) (hq) (by first | assumption | ((try clear hμ1); (try clear hμ2); (try clear hμ3); omega) | omega | exact ⟨by (first | ((try clear hμ1); (try clear hμ2); (try clear hμ3); omega) | omega), by (first | ((try clear hμ1); (try clear hμ2); (try clear hμ3); omega) | omega)⟩) (by first | assumption | ((try clear hμ1); (try clear hμ2); (try clear hμ3); omega) | omega | exact ⟨by (first | ((try clear hμ1); (try clear hμ2); (try clear hμ3); omega) | omega), by (first | ((try clear hμ1); (try clear hμ2); (try clear hμ3); omega) | omega)⟩)) (cwV 2 hts (gV_G k459 k460 k461 k3 k462) rfl rfl rfl (by decide +kernel) ⟨Nat.le_of_ble_eq_true rfl, Nat.le_of_ble_eq_true rfl⟩) ⟨fun a U g mk q => by obtain ⟨q0, q1, qP, qK, qM⟩ := q; exact ⟨q0, q1, qP, va_K.moved (u := U) (U := U.calling g mk a) (Vm.Alike.refl U.vm) qK, qM⟩, va_recv hK hP (ci := 4) (q0 := q) rfl ((fw_get (by (first | ((try clear hμ1); (try clear hμ2); (try clear hμ3); omega) | omega))).trans (by rw [(sE_rowO hq)])), fun U hU hW => ⟨rfl, by rw [hU], by rw [hU]; exact hP, va_K.moved hW.alike hK, xM_warm hW hM⟩⟩ rfl rfl hl.1 rfl (lv_room (Nat.le_of_ble_eq_true rfl)) dX6_join_14 ⟨Nat.le_of_ble_eq_true rfl, Nat.le_of_ble_eq_true rfl⟩) hS (fun q _ h => fA_le hS.1 q h) (fA_le hS.1) (fun u9 t9 H1 locs ht9 hvm9 hw9 hB9 hz9 hk9 hS => ?_)
  obtain ⟨hP, -⟩ := hB9
  rw [ht9] at hP
  generalize H1 = H at hP hS ⊢
  obtain ⟨μ2, eμ2⟩ : ∃ x : va_M, x = u9 := ⟨_, rfl⟩
  rw [← eμ2] at hP hw9
  have hμ2 := hw9; clear hw9
  obtain ⟨⟨w, w1_, w2_, w3_⟩, s2_, m2_, f2_, l2_, D_⟩ := join_mem hG h7 ⟨hj1, hj2, hj3⟩ f1_ v1_ hμ2
  refine lv_aload_n hx hb dX6_join_17 rfl (lv_at hl 1 rfl) ?_
  refine va_callv (va_runV (As := []) (rest := []) ⟨hx, hb, hml, hown, hts⟩ (s_Rseal l dC dI cI cZ cII cIII h0 H.size μ2 (q) (rm) (w) (hq) (by (first | ((try clear hμ1); (try clear hμ2); (try clear hμ3); omega) | omega)) (by exact ⟨w1_, Or.inl w3_⟩)) (cwV 0 hts (gV_G k466 k415 k416 k3 k417) rfl rfl rfl (by decide +kernel) ⟨Nat.le_of_ble_eq_true rfl, Nat.le_of_ble_eq_true rfl⟩) ⟨fun a U g mk q => by obtain ⟨q0, q1, qP, qK, qM⟩ := q; exact ⟨q0, q1, qP, va_K.moved (u := U) (U := U.calling g mk a) (Vm.Alike.refl U.vm) qK, qM⟩, va_recv hK hP (ci := 4) (q0 := q) rfl ((fw_get (by (first | ((try clear hμ1); (try clear hμ2); (try clear hμ3); omega) | omega))).trans (by rw [(sE_rowO hq)])), fun U hU hW => ⟨rfl, by rw [hU], by rw [hU]; exact hP, va_K.moved hW.alike hK, xM_warm hW hM⟩⟩ rfl rfl hl.1 rfl (lv_room (Nat.le_of_ble_eq_true rfl)) dX6_join_18 ⟨Nat.le_of_ble_eq_true rfl, Nat.le_of_ble_eq_true rfl⟩) hS (fun q _ h => fA_le hS.1 q h) (fA_le hS.1) (fun u9 t9 H1 locs ht9 hvm9 hw9 hB9 hz9 hk9 hS => ?_)
  obtain ⟨hP, -⟩ := hB9
  rw [ht9] at hP
  generalize H1 = H at hP hS ⊢
  obtain ⟨μ3, eμ3⟩ : ∃ x : va_M, x = u9 := ⟨_, rfl⟩
  rw [← eμ3] at hP hw9
  have hμ3 := hw9; clear hw9
  obtain ⟨r3_, f3_⟩ := hμ3
  refine lv_iconst (v := iZ 1) hx hb dX6_join_21 rfl ?_
  exact W.zret (v := iZ (1)) hx hb hr (by decide +kernel) (fun t9 ht9 hW9 => ⟨⟨iZ (1), (μ3, 1), rfl, ⟨rfl, (by
            dsimp only
            have e1 : ∀ y, μ3 (q + 1) y = μ2 (q + 1) y := fun y => f3_ _ _ (by unfold SEw SEq; omega)
            refine ⟨rfl, rG_seal w1_ w2_ (Or.inl w3_) s2_ m2_ r3_ f3_, fr_trans (fr_mono f2_ (fun x y h => by unfold LEq; omega)) (fr_mono f3_ (fun x y h => by unfold SEw SEq at h; unfold LEq; omega)), ?_, ?_⟩
            · have := r3_.1.1; omega
            · rw [funext e1]; exact D_)⟩, by rw [ht9]; exact hP, va_K.moved hW9.alike hK⟩, hS.F ht9⟩) hS.2.2 dX6_join_22
set_option maxHeartbeats 4000000 in
set_option maxRecDepth 100000 in
theorem LX6_joinTwins_3 {p : Program} {l : Launch} {e : Env} {R : Room} {s : State} {m : MethodId} {args : Array Value} {below : List Frame} {meth : Method} {c : Code} {cells slots : Nat} {Q : State → Prop} {dC : Nat → ClassId} {dI : Nat → Nat → Nat} {h0 : Nat} {cI cZ cII cIII : ClassId} (hx : p.tables.exec = Jvm.exec) (hb : c.code = cX6_joinTwins) (hml : c.maxLocals = 7) (hown : s.vm.findClass RX6 = some m.cls) (hts : ∀ w ∈ wsG, w.before args s = true) (hK : va_K (dC, dI) vwCl (sT cI cZ cII cIII) s) (hM : xM s) (hRf : 4 ≤ R.frames) (hRl : 94 ≤ R.locals) (hRc : cells ≤ R.cells) (hRs : slots ≤ R.slots) (μ0 : va_M) (q : Nat) (rm : Nat) (p1 : Int) (p2 : Int) (bh : Int) (hq : rowB q rm) (hG : rG μ0 q rm) (hrg : rng μ0 q p1 bh) (hp2 : p2 = μ0 q 5 - bh) (hexit84 : ∀ (i : Int) (nx : Int) (sg : Int) (μ : va_M) (H : Heap) (locs : List Loc) (ls : Array Slot), (μ = μ0) → (jok μ0 q (i) (nx) sg) → (p1 ≤ nx ∧ nx + sg ≤ p2 ∧ p1 < p2 ∧ -5000 ≤ i ∧ i ≤ 5000 ∧ -5000 ≤ sg ∧ sg ≤ 5000) → va_P (dC, dI) vwCl (fw (sE cI cZ cII cIII h0) h0 233 μ) H → va_S (fA h0 233 s.heap.size) s.heap H locs → lv_has ls 7 [(6, .int (iZ (sg))), (5, .int (iZ (nx))), (4, .int (iZ (i))), (3, .int (iZ (p2))), (2, .int (iZ (p1))), (1, .ref (h0 + q)), (0, .ref (h0 + 38))] → W p l e R s m args below meth c H locs cells slots Q (F0 m 84 ls [])) (hexit114 : ∀ (i : Int) (nx : Int) (sg : Int) (μ : va_M) (H : Heap) (locs : List Loc) (ls : Array Slot), (μ = μ0) → va_P (dC, dI) vwCl (fw (sE cI cZ cII cIII h0) h0 233 μ) H → va_S (fA h0 233 s.heap.size) s.heap H locs → lv_has ls 7 [] → W p l e R s m args below meth c H locs cells slots Q (F0 m 114 ls [])) :
    ∀ (n9 : Nat) (i : Int) (nx : Int) (sg : Int) (μ : va_M) (H : Heap) (locs : List Loc) (ls : Array Slot), (μ = μ0) → (p1 ≤ i ∧ (i ≤ p2 ∨ i = p1)) → (Dp (μ0 (q + 1)) i.toNat = Dp (μ0 (q + 1)) p1.toNat) → (1101 - i).toNat < n9 → va_P (dC, dI) vwCl (fw (sE cI cZ cII cIII h0) h0 233 μ) H → va_S (fA h0 233 s.heap.size) s.heap H locs → lv_has ls 7 [(4, .int (iZ (i))), (3, .int (iZ (p2))), (2, .int (iZ (p1))), (1, .ref (h0 + q)), (0, .ref (h0 + 38))] → W p l e R s m args below meth c H locs cells slots Q (F0 m 3 ls []) := by
  intro n9
  induction n9 with
  | zero => intro i nx sg μ H locs ls hm9_ hi hD hm9 hP hS hl; exact absurd hm9 (Nat.not_lt_zero _)
  | succ n9 ih =>
    intro i nx sg μ H locs ls hm9_ hi hD hm9 hP hS hl
    subst hm9_
    have hrm := rG_rm hq hG
    have hqb := rowB_b hq
    have hr1 := hrg.1
    refine lv_iload hx hb dX6_joinTwins_3 (lv_at hl 0 rfl) ?_
    refine lv_iload_n hx hb dX6_joinTwins_5 rfl (lv_at hl 1 rfl) ?_
    refine fz_icmp_ge (tgt := 114) (by constructor <;> (first | ((try clear hμa); (try clear hμk); (try clear hμn); (try clear hμq); (try clear hrn); (try clear hra); (try clear hrk); (try clear hrq); (try clear hr01); omega) | omega)) (by constructor <;> (first | ((try clear hμa); (try clear hμk); (try clear hμn); (try clear hμq); (try clear hrn); (try clear hra); (try clear hrk); (try clear hrq); (try clear hr01); omega) | omega)) hx hb dX6_joinTwins_6 (by decide) (fun c6_ => ?_) (fun c6_ => ?_)
    · exact hexit114 (i) (nx) (sg) μ H locs ls (by rfl) hP hS (lv_sub hl [] rfl)
    · have hsg : seg (μ (q + 1)) p1.toNat p2.toNat := by rw [hp2]; exact hrg.2 (by (first | ((try clear hμa); (try clear hμk); (try clear hμn); (try clear hμq); (try clear hrn); (try clear hra); (try clear hrk); (try clear hrq); (try clear hr01); omega) | omega))
      obtain ⟨m_, e1_, e2_, e3_, e4_, e5_, e6_, e7_⟩ := seg_af hG (a := p1.toNat) (b := p2.toNat) (i := i.toNat) (by (first | ((try clear hμa); (try clear hμk); (try clear hμn); (try clear hμq); (try clear hrn); (try clear hra); (try clear hrk); (try clear hrq); (try clear hr01); omega) | omega)) hsg (by (first | ((try clear hμa); (try clear hμk); (try clear hμn); (try clear hμq); (try clear hrn); (try clear hra); (try clear hrk); (try clear hrq); (try clear hr01); omega) | omega)) (by (first | ((try clear hμa); (try clear hμk); (try clear hμn); (try clear hμq); (try clear hrn); (try clear hra); (try clear hrk); (try clear hrq); (try clear hr01); omega) | omega)) hD
      have hs1 := hG.1 i.toNat
      refine lv_aload_n hx hb dX6_joinTwins_9 rfl (lv_at hl 3 rfl) ?_
      refine lv_iload hx hb dX6_joinTwins_10 (lv_at hl 0 rfl) ?_
      refine va_calli (va_runV (As := [.int (iZ (i))]) (rest := []) ⟨hx, hb, hml, hown, hts⟩ (s_Rafter l dC dI cI cZ cII cIII h0 H.size μ (q) (rm) (i) (hq) (by first | assumption | ((try clear hμa); (try clear hμk); (try clear hμn); (try clear hμq); (try clear hrn); (try clear hra); (try clear hrk); (try clear hrq); (try clear hr01); omega) | omega | exact ⟨by (first | ((try clear hμa); (try clear hμk); (try clear hμn); (try clear hμq); (try clear hrn); (try clear hra); (try clear hrk); (try clear hrq); (try clear hr01); omega) | omega), by (first | ((try clear hμa); (try clear hμk); (try clear hμn); (try clear hμq); (try clear hrn); (try clear hra); (try clear hrk); (try clear hrq); (try clear hr01); omega) | omega)⟩) (by constructor <;> (first | ((try clear hμa); (try clear hμk); (try clear hμn); (try clear hμq); (try clear hrn); (try clear hra); (try clear hrk); (try clear hrq); (try clear hr01); omega) | omega))) (cwV 1 hts (gV_G k437 k438 k439 k3 k440) rfl rfl rfl (by decide +kernel) ⟨by show 1 + 1 ≤ _; omega, by show 8 + (2 + 11) + (14) ≤ _; omega⟩) ⟨fun a U g mk q => by obtain ⟨q0, q1, qP, qK, qM⟩ := q; exact ⟨q0, q1, qP, va_K.moved (u := U) (U := U.calling g mk a) (Vm.Alike.refl U.vm) qK, qM⟩, va_recv hK hP (ci := 4) (q0 := q) rfl ((fw_get (by (first | ((try clear hμa); (try clear hμk); (try clear hμn); (try clear hμq); (try clear hrn); (try clear hra); (try clear hrk); (try clear hrq); (try clear hr01); omega) | omega))).trans (by rw [(sE_rowO hq)])), fun U hU hW => ⟨rfl, by rw [hU], by rw [hU]; exact hP, va_K.moved hW.alike hK, xM_warm hW hM⟩⟩ rfl rfl hl.1 rfl (lv_room (Nat.le_of_ble_eq_true rfl)) dX6_joinTwins_12 ⟨hRc, hRs⟩) hS (fun q _ h => fA_le hS.1 q h) (fA_le hS.1) (fun r9 u9 t9 H1 locs ht9 hvm9 hw9 hB9 hz9 hk9 hS => ?_)
      obtain ⟨μn, rn⟩ := u9
      obtain ⟨hP, -⟩ := hB9
      rw [ht9] at hP
      generalize H1 = H at hP hS ⊢
      obtain ⟨e9, hw9⟩ := hw9
      have e9 : r9 = iZ rn := e9
      subst e9
      simp only at hP hw9
      have hμn := hw9; clear hw9
      rw [hμn.1] at hP; have hμn := hμn.2
      have hrn := hμn
      refine lv_istore (lv' := [(5, .int (iZ (rn))), (4, .int (iZ (i))), (3, .int (iZ (p2))), (2, .int (iZ (p1))), (1, .ref (h0 + q)), (0, .ref (h0 + 38))]) hx hb dX6_joinTwins_15 hl (by decide) rfl (fun ls hl => ?_)
      refine lv_iload hx hb dX6_joinTwins_17 (lv_at hl 0 rfl) ?_
      refine lv_iload_n hx hb dX6_joinTwins_19 rfl (lv_at hl 2 rfl) ?_
      refine fz_icmp_ge (tgt := 96) (by constructor <;> (first | ((try clear hμa); (try clear hμk); (try clear hμn); (try clear hμq); (try clear hrn); (try clear hra); (try clear hrk); (try clear hrq); (try clear hr01); omega) | omega)) (by constructor <;> (first | ((try clear hμa); (try clear hμk); (try clear hμn); (try clear hμq); (try clear hrn); (try clear hra); (try clear hrk); (try clear hrq); (try clear hr01); omega) | omega)) hx hb dX6_joinTwins_20 (by decide) (fun c20_ => ?_) (fun c20_ => ?_)
      · refine lv_iload hx hb dX6_joinTwins_96 (lv_at hl 1 rfl) ?_
        refine lv_iconst (v := iZ 1) hx hb dX6_joinTwins_98 rfl ?_
        refine lv_iadd hx hb dX6_joinTwins_99 ?_
        refine lv_topi (fun x9 ex9 => ?_)
        obtain rfl : x9 = iZ (i + 1) := ex9.trans (iZ_add _ _)
        refine lv_aload_n hx hb dX6_joinTwins_100 rfl (lv_at hl 4 rfl) ?_
        refine lv_iload hx hb dX6_joinTwins_101 (lv_at hl 1 rfl) ?_
        refine va_calli (va_runV (As := [.int (iZ (i))]) (rest := [.int (iZ (i + 1))]) ⟨hx, hb, hml, hown, hts⟩ (s_Rafter l dC dI cI cZ cII cIII h0 H.size μ (q) (rm) (i) (hq) (by first | assumption | ((try clear hμa); (try clear hμk); (try clear hμn); (try clear hμq); (try clear hrn); (try clear hra); (try clear hrk); (try clear hrq); (try clear hr01); omega) | omega | exact ⟨by (first | ((try clear hμa); (try clear hμk); (try clear hμn); (try clear hμq); (try clear hrn); (try clear hra); (try clear hrk); (try clear hrq); (try clear hr01); omega) | omega), by (first | ((try clear hμa); (try clear hμk); (try clear hμn); (try clear hμq); (try clear hrn); (try clear hra); (try clear hrk); (try clear hrq); (try clear hr01); omega) | omega)⟩) (by constructor <;> (first | ((try clear hμa); (try clear hμk); (try clear hμn); (try clear hμq); (try clear hrn); (try clear hra); (try clear hrk); (try clear hrq); (try clear hr01); omega) | omega))) (cwV 1 hts (gV_G k437 k438 k439 k3 k440) rfl rfl rfl (by decide +kernel) ⟨by show 1 + 1 ≤ _; omega, by show 8 + (2 + 11) + (14) ≤ _; omega⟩) ⟨fun a U g mk q => by obtain ⟨q0, q1, qP, qK, qM⟩ := q; exact ⟨q0, q1, qP, va_K.moved (u := U) (U := U.calling g mk a) (Vm.Alike.refl U.vm) qK, qM⟩, va_recv hK hP (ci := 4) (q0 := q) rfl ((fw_get (by (first | ((try clear hμa); (try clear hμk); (try clear hμn); (try clear hμq); (try clear hrn); (try clear hra); (try clear hrk); (try clear hrq); (try clear hr01); omega) | omega))).trans (by rw [(sE_rowO hq)])), fun U hU hW => ⟨rfl, by rw [hU], by rw [hU]; exact hP, va_K.moved hW.alike hK, xM_warm hW hM⟩⟩ rfl rfl hl.1 rfl (lv_room (Nat.le_of_ble_eq_true rfl)) dX6_joinTwins_103 ⟨hRc, hRs⟩) hS (fun q _ h => fA_le hS.1 q h) (fA_le hS.1) (fun r9 u9 t9 H1 locs ht9 hvm9 hw9 hB9 hz9 hk9 hS => ?_)
        obtain ⟨μa, ra⟩ := u9
        obtain ⟨hP, -⟩ := hB9
        rw [ht9] at hP
        generalize H1 = H at hP hS ⊢
        obtain ⟨e9, hw9⟩ := hw9
        have e9 : r9 = iZ ra := e9
        subst e9
        simp only at hP hw9
        have hμa := hw9; clear hw9
        rw [hμa.1] at hP; have hμa := hμa.2
        have hra := hμa
        refine va_mmax hx hb (hml.trans hl.1.symm) hown (hts _ k467) (hts _ k75) (hts _ k4) (hts _ k76) (Nat.le_trans (Nat.le_of_ble_eq_true rfl) hRf) (Nat.le_trans (m := 94) (Nat.le_of_ble_eq_true rfl) hRl) hRc hRs dX6_joinTwins_106 ?_
        refine lv_topi (fun x9 ex9 => ?_)
        obtain rfl : x9 = iZ (max (i + 1) ra) := ex9.trans (iZ_mx (by constructor <;> (first | ((try clear hμa); (try clear hμk); (try clear hμn); (try clear hμq); (try clear hrn); (try clear hra); (try clear hrk); (try clear hrq); (try clear hr01); omega) | omega)) (by constructor <;> (first | ((try clear hμa); (try clear hμk); (try clear hμn); (try clear hμq); (try clear hrn); (try clear hra); (try clear hrk); (try clear hrq); (try clear hr01); omega) | omega)))
        refine lv_istore (lv' := [(4, .int (iZ (max (i + 1) ra))), (5, .int (iZ (rn))), (3, .int (iZ (p2))), (2, .int (iZ (p1))), (1, .ref (h0 + q)), (0, .ref (h0 + 38))]) hx hb dX6_joinTwins_109 hl (by decide) rfl (fun ls hl => ?_)
        refine lv_goto (tgt := 3) hx hb dX6_joinTwins_111 (by decide) ?_
        exact ih (max (i + 1) ra) (nx) (sg) μ H locs ls (by rfl) (by (first | ((try clear hμa); (try clear hμk); (try clear hμn); (try clear hμq); (try clear hrn); (try clear hra); (try clear hrk); (try clear hrq); (try clear hr01); omega) | omega)) (by rw [show (max (i + 1) ra).toNat = m_ + 1 by (first | ((try clear hμa); (try clear hμk); (try clear hμn); (try clear hμq); (try clear hrn); (try clear hra); (try clear hrk); (try clear hrq); (try clear hr01); omega) | omega)]; exact e4_.trans hD) (by (first | ((try clear hμa); (try clear hμk); (try clear hμn); (try clear hμq); (try clear hrn); (try clear hra); (try clear hrk); (try clear hrq); (try clear hr01); omega) | omega)) hP hS (lv_sub hl [0, 2, 3, 4, 5] rfl)
      · obtain ⟨m2_, g1_, g2_, g3_, g4_, g5_, g6_, g7_⟩ := seg_af hG (a := p1.toNat) (b := p2.toNat) (i := m_ + 1) (by (first | ((try clear hμa); (try clear hμk); (try clear hμn); (try clear hμq); (try clear hrn); (try clear hra); (try clear hrk); (try clear hrq); (try clear hr01); omega) | omega)) hsg (by (first | ((try clear hμa); (try clear hμk); (try clear hμn); (try clear hμq); (try clear hrn); (try clear hra); (try clear hrk); (try clear hrq); (try clear hr01); omega) | omega)) (by (first | ((try clear hμa); (try clear hμk); (try clear hμn); (try clear hμq); (try clear hrn); (try clear hra); (try clear hrk); (try clear hrq); (try clear hr01); omega) | omega)) (e4_.trans hD)
        have ern : rn.toNat = m_ + 1 := by (first | ((try clear hμa); (try clear hμk); (try clear hμn); (try clear hμq); (try clear hrn); (try clear hra); (try clear hrk); (try clear hrq); (try clear hr01); omega) | omega)
        have hs2 := hG.1 rn.toNat
        have g8_ : μ (q + 2) rn.toNat = m2_ := by rw [ern]; exact g1_
        refine lv_aload_n hx hb dX6_joinTwins_23 rfl (lv_at hl 4 rfl) ?_
        refine fz_get (D := (dC, dI)) (ci := 4) (v := .ref (h0 + (q + 1))) (C := RX4) (T := TX4) (N := 8) hx hb hts inG4 hown hK hP (k := q) (by (first | ((try clear hμa); (try clear hμk); (try clear hμn); (try clear hμq); (try clear hrn); (try clear hra); (try clear hrk); (try clear hrq); (try clear hr01); omega) | omega)) (F := (sRF h0 q)) (sE_rowO hq) rfl 0 (by decide) (hts _ k79) (fun _ h9 => h9) rfl dX6_joinTwins_24 ?_
        refine lv_iload hx hb dX6_joinTwins_27 (lv_at hl 1 rfl) ?_
        refine fz_ld (k := (q + 1)) (n := rm) hx hb hK hP 0 (by (first | ((try clear hμa); (try clear hμk); (try clear hμn); (try clear hμq); (try clear hrn); (try clear hra); (try clear hrk); (try clear hrq); (try clear hr01); omega) | omega)) (sE_rowA (r := 1) hq (by decide)) rfl ⟨by (first | ((try clear hμa); (try clear hμk); (try clear hμn); (try clear hμq); (try clear hrn); (try clear hra); (try clear hrk); (try clear hrq); (try clear hr01); omega) | omega), by (first | ((try clear hμa); (try clear hμk); (try clear hμn); (try clear hμq); (try clear hrn); (try clear hra); (try clear hrk); (try clear hrq); (try clear hr01); omega) | omega)⟩ (by (first | ((try clear hμa); (try clear hμk); (try clear hμn); (try clear hμq); (try clear hrn); (try clear hra); (try clear hrk); (try clear hrq); (try clear hr01); omega) | omega)) dX6_joinTwins_29 ?_
        refine lv_sipush (v := iZ 514) hx hb dX6_joinTwins_30 rfl ?_
        refine fz_icmp_ne (tgt := 96) (by constructor <;> (first | ((try clear hμa); (try clear hμk); (try clear hμn); (try clear hμq); (try clear hrn); (try clear hra); (try clear hrk); (try clear hrq); (try clear hr01); omega) | omega)) (by decide) hx hb dX6_joinTwins_33 (by decide) (fun c33_ => ?_) (fun c33_ => ?_)
        · refine lv_iload hx hb dX6_joinTwins_96 (lv_at hl 1 rfl) ?_
          refine lv_iconst (v := iZ 1) hx hb dX6_joinTwins_98 rfl ?_
          refine lv_iadd hx hb dX6_joinTwins_99 ?_
          refine lv_topi (fun x9 ex9 => ?_)
          obtain rfl : x9 = iZ (i + 1) := ex9.trans (iZ_add _ _)
          refine lv_aload_n hx hb dX6_joinTwins_100 rfl (lv_at hl 4 rfl) ?_
          refine lv_iload hx hb dX6_joinTwins_101 (lv_at hl 1 rfl) ?_
          refine va_calli (va_runV (As := [.int (iZ (i))]) (rest := [.int (iZ (i + 1))]) ⟨hx, hb, hml, hown, hts⟩ (s_Rafter l dC dI cI cZ cII cIII h0 H.size μ (q) (rm) (i) (hq) (by first | assumption | ((try clear hμa); (try clear hμk); (try clear hμn); (try clear hμq); (try clear hrn); (try clear hra); (try clear hrk); (try clear hrq); (try clear hr01); omega) | omega | exact ⟨by (first | ((try clear hμa); (try clear hμk); (try clear hμn); (try clear hμq); (try clear hrn); (try clear hra); (try clear hrk); (try clear hrq); (try clear hr01); omega) | omega), by (first | ((try clear hμa); (try clear hμk); (try clear hμn); (try clear hμq); (try clear hrn); (try clear hra); (try clear hrk); (try clear hrq); (try clear hr01); omega) | omega)⟩) (by constructor <;> (first | ((try clear hμa); (try clear hμk); (try clear hμn); (try clear hμq); (try clear hrn); (try clear hra); (try clear hrk); (try clear hrq); (try clear hr01); omega) | omega))) (cwV 1 hts (gV_G k437 k438 k439 k3 k440) rfl rfl rfl (by decide +kernel) ⟨by show 1 + 1 ≤ _; omega, by show 8 + (2 + 11) + (14) ≤ _; omega⟩) ⟨fun a U g mk q => by obtain ⟨q0, q1, qP, qK, qM⟩ := q; exact ⟨q0, q1, qP, va_K.moved (u := U) (U := U.calling g mk a) (Vm.Alike.refl U.vm) qK, qM⟩, va_recv hK hP (ci := 4) (q0 := q) rfl ((fw_get (by (first | ((try clear hμa); (try clear hμk); (try clear hμn); (try clear hμq); (try clear hrn); (try clear hra); (try clear hrk); (try clear hrq); (try clear hr01); omega) | omega))).trans (by rw [(sE_rowO hq)])), fun U hU hW => ⟨rfl, by rw [hU], by rw [hU]; exact hP, va_K.moved hW.alike hK, xM_warm hW hM⟩⟩ rfl rfl hl.1 rfl (lv_room (Nat.le_of_ble_eq_true rfl)) dX6_joinTwins_103 ⟨hRc, hRs⟩) hS (fun q _ h => fA_le hS.1 q h) (fA_le hS.1) (fun r9 u9 t9 H1 locs ht9 hvm9 hw9 hB9 hz9 hk9 hS => ?_)
          obtain ⟨μa, ra⟩ := u9
          obtain ⟨hP, -⟩ := hB9
          rw [ht9] at hP
          generalize H1 = H at hP hS ⊢
          obtain ⟨e9, hw9⟩ := hw9
          have e9 : r9 = iZ ra := e9
          subst e9
          simp only at hP hw9
          have hμa := hw9; clear hw9
          rw [hμa.1] at hP; have hμa := hμa.2
          have hra := hμa
          refine va_mmax hx hb (hml.trans hl.1.symm) hown (hts _ k467) (hts _ k75) (hts _ k4) (hts _ k76) (Nat.le_trans (Nat.le_of_ble_eq_true rfl) hRf) (Nat.le_trans (m := 94) (Nat.le_of_ble_eq_true rfl) hRl) hRc hRs dX6_joinTwins_106 ?_
          refine lv_topi (fun x9 ex9 => ?_)
          obtain rfl : x9 = iZ (max (i + 1) ra) := ex9.trans (iZ_mx (by constructor <;> (first | ((try clear hμa); (try clear hμk); (try clear hμn); (try clear hμq); (try clear hrn); (try clear hra); (try clear hrk); (try clear hrq); (try clear hr01); omega) | omega)) (by constructor <;> (first | ((try clear hμa); (try clear hμk); (try clear hμn); (try clear hμq); (try clear hrn); (try clear hra); (try clear hrk); (try clear hrq); (try clear hr01); omega) | omega)))
          refine lv_istore (lv' := [(4, .int (iZ (max (i + 1) ra))), (5, .int (iZ (rn))), (3, .int (iZ (p2))), (2, .int (iZ (p1))), (1, .ref (h0 + q)), (0, .ref (h0 + 38))]) hx hb dX6_joinTwins_109 hl (by decide) rfl (fun ls hl => ?_)
          refine lv_goto (tgt := 3) hx hb dX6_joinTwins_111 (by decide) ?_
          exact ih (max (i + 1) ra) (nx) (sg) μ H locs ls (by rfl) (by (first | ((try clear hμa); (try clear hμk); (try clear hμn); (try clear hμq); (try clear hrn); (try clear hra); (try clear hrk); (try clear hrq); (try clear hr01); omega) | omega)) (by rw [show (max (i + 1) ra).toNat = m_ + 1 by (first | ((try clear hμa); (try clear hμk); (try clear hμn); (try clear hμq); (try clear hrn); (try clear hra); (try clear hrk); (try clear hrq); (try clear hr01); omega) | omega)]; exact e4_.trans hD) (by (first | ((try clear hμa); (try clear hμk); (try clear hμn); (try clear hμq); (try clear hrn); (try clear hra); (try clear hrk); (try clear hrq); (try clear hr01); omega) | omega)) hP hS (lv_sub hl [0, 2, 3, 4, 5] rfl)
        · refine lv_aload_n hx hb dX6_joinTwins_36 rfl (lv_at hl 4 rfl) ?_
          refine fz_get (D := (dC, dI)) (ci := 4) (v := .ref (h0 + (q + 1))) (C := RX4) (T := TX4) (N := 8) hx hb hts inG4 hown hK hP (k := q) (by (first | ((try clear hμa); (try clear hμk); (try clear hμn); (try clear hμq); (try clear hrn); (try clear hra); (try clear hrk); (try clear hrq); (try clear hr01); omega) | omega)) (F := (sRF h0 q)) (sE_rowO hq) rfl 0 (by decide) (hts _ k79) (fun _ h9 => h9) rfl dX6_joinTwins_37 ?_
          refine lv_iload hx hb dX6_joinTwins_40 (lv_at hl 0 rfl) ?_
          refine fz_ld (k := (q + 1)) (n := rm) hx hb hK hP 0 (by (first | ((try clear hμa); (try clear hμk); (try clear hμn); (try clear hμq); (try clear hrn); (try clear hra); (try clear hrk); (try clear hrq); (try clear hr01); omega) | omega)) (sE_rowA (r := 1) hq (by decide)) rfl ⟨by (first | ((try clear hμa); (try clear hμk); (try clear hμn); (try clear hμq); (try clear hrn); (try clear hra); (try clear hrk); (try clear hrq); (try clear hr01); omega) | omega), by (first | ((try clear hμa); (try clear hμk); (try clear hμn); (try clear hμq); (try clear hrn); (try clear hra); (try clear hrk); (try clear hrq); (try clear hr01); omega) | omega)⟩ (by (first | ((try clear hμa); (try clear hμk); (try clear hμn); (try clear hμq); (try clear hrn); (try clear hra); (try clear hrk); (try clear hrq); (try clear hr01); omega) | omega)) dX6_joinTwins_42 ?_
          refine lv_sipush (v := iZ 514) hx hb dX6_joinTwins_43 rfl ?_
          refine fz_icmp_ne (tgt := 96) (by constructor <;> (first | ((try clear hμa); (try clear hμk); (try clear hμn); (try clear hμq); (try clear hrn); (try clear hra); (try clear hrk); (try clear hrq); (try clear hr01); omega) | omega)) (by decide) hx hb dX6_joinTwins_46 (by decide) (fun c46_ => ?_) (fun c46_ => ?_)
          · refine lv_iload hx hb dX6_joinTwins_96 (lv_at hl 1 rfl) ?_
            refine lv_iconst (v := iZ 1) hx hb dX6_joinTwins_98 rfl ?_
            refine lv_iadd hx hb dX6_joinTwins_99 ?_
            refine lv_topi (fun x9 ex9 => ?_)
            obtain rfl : x9 = iZ (i + 1) := ex9.trans (iZ_add _ _)
            refine lv_aload_n hx hb dX6_joinTwins_100 rfl (lv_at hl 4 rfl) ?_
            refine lv_iload hx hb dX6_joinTwins_101 (lv_at hl 1 rfl) ?_
            refine va_calli (va_runV (As := [.int (iZ (i))]) (rest := [.int (iZ (i + 1))]) ⟨hx, hb, hml, hown, hts⟩ (s_Rafter l dC dI cI cZ cII cIII h0 H.size μ (q) (rm) (i) (hq) (by first | assumption | ((try clear hμa); (try clear hμk); (try clear hμn); (try clear hμq); (try clear hrn); (try clear hra); (try clear hrk); (try clear hrq); (try clear hr01); omega) | omega | exact ⟨by (first | ((try clear hμa); (try clear hμk); (try clear hμn); (try clear hμq); (try clear hrn); (try clear hra); (try clear hrk); (try clear hrq); (try clear hr01); omega) | omega), by (first | ((try clear hμa); (try clear hμk); (try clear hμn); (try clear hμq); (try clear hrn); (try clear hra); (try clear hrk); (try clear hrq); (try clear hr01); omega) | omega)⟩) (by constructor <;> (first | ((try clear hμa); (try clear hμk); (try clear hμn); (try clear hμq); (try clear hrn); (try clear hra); (try clear hrk); (try clear hrq); (try clear hr01); omega) | omega))) (cwV 1 hts (gV_G k437 k438 k439 k3 k440) rfl rfl rfl (by decide +kernel) ⟨by show 1 + 1 ≤ _; omega, by show 8 + (2 + 11) + (14) ≤ _; omega⟩) ⟨fun a U g mk q => by obtain ⟨q0, q1, qP, qK, qM⟩ := q; exact ⟨q0, q1, qP, va_K.moved (u := U) (U := U.calling g mk a) (Vm.Alike.refl U.vm) qK, qM⟩, va_recv hK hP (ci := 4) (q0 := q) rfl ((fw_get (by (first | ((try clear hμa); (try clear hμk); (try clear hμn); (try clear hμq); (try clear hrn); (try clear hra); (try clear hrk); (try clear hrq); (try clear hr01); omega) | omega))).trans (by rw [(sE_rowO hq)])), fun U hU hW => ⟨rfl, by rw [hU], by rw [hU]; exact hP, va_K.moved hW.alike hK, xM_warm hW hM⟩⟩ rfl rfl hl.1 rfl (lv_room (Nat.le_of_ble_eq_true rfl)) dX6_joinTwins_103 ⟨hRc, hRs⟩) hS (fun q _ h => fA_le hS.1 q h) (fA_le hS.1) (fun r9 u9 t9 H1 locs ht9 hvm9 hw9 hB9 hz9 hk9 hS => ?_)
            obtain ⟨μa, ra⟩ := u9
            obtain ⟨hP, -⟩ := hB9
            rw [ht9] at hP
            generalize H1 = H at hP hS ⊢
            obtain ⟨e9, hw9⟩ := hw9
            have e9 : r9 = iZ ra := e9
            subst e9
            simp only at hP hw9
            have hμa := hw9; clear hw9
            rw [hμa.1] at hP; have hμa := hμa.2
            have hra := hμa
            refine va_mmax hx hb (hml.trans hl.1.symm) hown (hts _ k467) (hts _ k75) (hts _ k4) (hts _ k76) (Nat.le_trans (Nat.le_of_ble_eq_true rfl) hRf) (Nat.le_trans (m := 94) (Nat.le_of_ble_eq_true rfl) hRl) hRc hRs dX6_joinTwins_106 ?_
            refine lv_topi (fun x9 ex9 => ?_)
            obtain rfl : x9 = iZ (max (i + 1) ra) := ex9.trans (iZ_mx (by constructor <;> (first | ((try clear hμa); (try clear hμk); (try clear hμn); (try clear hμq); (try clear hrn); (try clear hra); (try clear hrk); (try clear hrq); (try clear hr01); omega) | omega)) (by constructor <;> (first | ((try clear hμa); (try clear hμk); (try clear hμn); (try clear hμq); (try clear hrn); (try clear hra); (try clear hrk); (try clear hrq); (try clear hr01); omega) | omega)))
            refine lv_istore (lv' := [(4, .int (iZ (max (i + 1) ra))), (5, .int (iZ (rn))), (3, .int (iZ (p2))), (2, .int (iZ (p1))), (1, .ref (h0 + q)), (0, .ref (h0 + 38))]) hx hb dX6_joinTwins_109 hl (by decide) rfl (fun ls hl => ?_)
            refine lv_goto (tgt := 3) hx hb dX6_joinTwins_111 (by decide) ?_
            exact ih (max (i + 1) ra) (nx) (sg) μ H locs ls (by rfl) (by (first | ((try clear hμa); (try clear hμk); (try clear hμn); (try clear hμq); (try clear hrn); (try clear hra); (try clear hrk); (try clear hrq); (try clear hr01); omega) | omega)) (by rw [show (max (i + 1) ra).toNat = m_ + 1 by (first | ((try clear hμa); (try clear hμk); (try clear hμn); (try clear hμq); (try clear hrn); (try clear hra); (try clear hrk); (try clear hrq); (try clear hr01); omega) | omega)]; exact e4_.trans hD) (by (first | ((try clear hμa); (try clear hμk); (try clear hμn); (try clear hμq); (try clear hrn); (try clear hra); (try clear hrk); (try clear hrq); (try clear hr01); omega) | omega)) hP hS (lv_sub hl [0, 2, 3, 4, 5] rfl)
          · refine lv_iload hx hb dX6_joinTwins_49 (lv_at hl 0 rfl) ?_
            refine lv_iload hx hb dX6_joinTwins_51 (lv_at hl 1 rfl) ?_
            refine lv_isub hx hb dX6_joinTwins_53 ?_
            refine lv_topi (fun x9 ex9 => ?_)
            obtain rfl : x9 = iZ (rn - i) := ex9.trans (iZ_sub _ _)
            refine lv_istore (lv' := [(6, .int (iZ (rn - i))), (5, .int (iZ (rn))), (4, .int (iZ (i))), (3, .int (iZ (p2))), (2, .int (iZ (p1))), (1, .ref (h0 + q)), (0, .ref (h0 + 38))]) hx hb dX6_joinTwins_54 hl (by decide) rfl (fun ls hl => ?_)
            refine lv_iload hx hb dX6_joinTwins_56 (lv_at hl 0 rfl) ?_
            refine lv_aload_n hx hb dX6_joinTwins_58 rfl (lv_at hl 5 rfl) ?_
            refine lv_iload hx hb dX6_joinTwins_59 (lv_at hl 1 rfl) ?_
            refine va_calli (va_runV (As := [.int (iZ (rn))]) (rest := [.int (iZ (rn - i))]) ⟨hx, hb, hml, hown, hts⟩ (s_Rafter l dC dI cI cZ cII cIII h0 H.size μ (q) (rm) (rn) (hq) (by first | assumption | ((try clear hμa); (try clear hμk); (try clear hμn); (try clear hμq); (try clear hrn); (try clear hra); (try clear hrk); (try clear hrq); (try clear hr01); omega) | omega | exact ⟨by (first | ((try clear hμa); (try clear hμk); (try clear hμn); (try clear hμq); (try clear hrn); (try clear hra); (try clear hrk); (try clear hrq); (try clear hr01); omega) | omega), by (first | ((try clear hμa); (try clear hμk); (try clear hμn); (try clear hμq); (try clear hrn); (try clear hra); (try clear hrk); (try clear hrq); (try clear hr01); omega) | omega)⟩) (by constructor <;> (first | ((try clear hμa); (try clear hμk); (try clear hμn); (try clear hμq); (try clear hrn); (try clear hra); (try clear hrk); (try clear hrq); (try clear hr01); omega) | omega))) (cwV 1 hts (gV_G k437 k438 k439 k3 k440) rfl rfl rfl (by decide +kernel) ⟨by show 1 + 1 ≤ _; omega, by show 8 + (2 + 11) + (14) ≤ _; omega⟩) ⟨fun a U g mk q => by obtain ⟨q0, q1, qP, qK, qM⟩ := q; exact ⟨q0, q1, qP, va_K.moved (u := U) (U := U.calling g mk a) (Vm.Alike.refl U.vm) qK, qM⟩, va_recv hK hP (ci := 4) (q0 := q) rfl ((fw_get (by (first | ((try clear hμa); (try clear hμk); (try clear hμn); (try clear hμq); (try clear hrn); (try clear hra); (try clear hrk); (try clear hrq); (try clear hr01); omega) | omega))).trans (by rw [(sE_rowO hq)])), fun U hU hW => ⟨rfl, by rw [hU], by rw [hU]; exact hP, va_K.moved hW.alike hK, xM_warm hW hM⟩⟩ rfl rfl hl.1 rfl (lv_room (Nat.le_of_ble_eq_true rfl)) dX6_joinTwins_61 ⟨hRc, hRs⟩) hS (fun q _ h => fA_le hS.1 q h) (fA_le hS.1) (fun r9 u9 t9 H1 locs ht9 hvm9 hw9 hB9 hz9 hk9 hS => ?_)
            obtain ⟨μk, rk⟩ := u9
            obtain ⟨hP, -⟩ := hB9
            rw [ht9] at hP
            generalize H1 = H at hP hS ⊢
            obtain ⟨e9, hw9⟩ := hw9
            have e9 : r9 = iZ rk := e9
            subst e9
            simp only at hP hw9
            have hμk := hw9; clear hw9
            rw [hμk.1] at hP; have hμk := hμk.2
            have hrk := hμk
            refine lv_iload hx hb dX6_joinTwins_64 (lv_at hl 1 rfl) ?_
            refine lv_isub hx hb dX6_joinTwins_66 ?_
            refine lv_topi (fun x9 ex9 => ?_)
            obtain rfl : x9 = iZ (rk - rn) := ex9.trans (iZ_sub _ _)
            refine fz_icmp_ne (tgt := 96) (by constructor <;> (first | ((try clear hμa); (try clear hμk); (try clear hμn); (try clear hμq); (try clear hrn); (try clear hra); (try clear hrk); (try clear hrq); (try clear hr01); omega) | omega)) (by constructor <;> (first | ((try clear hμa); (try clear hμk); (try clear hμn); (try clear hμq); (try clear hrn); (try clear hra); (try clear hrk); (try clear hrq); (try clear hr01); omega) | omega)) hx hb dX6_joinTwins_67 (by decide) (fun c67_ => ?_) (fun c67_ => ?_)
            · refine lv_iload hx hb dX6_joinTwins_96 (lv_at hl 2 rfl) ?_
              refine lv_iconst (v := iZ 1) hx hb dX6_joinTwins_98 rfl ?_
              refine lv_iadd hx hb dX6_joinTwins_99 ?_
              refine lv_topi (fun x9 ex9 => ?_)
              obtain rfl : x9 = iZ (i + 1) := ex9.trans (iZ_add _ _)
              refine lv_aload_n hx hb dX6_joinTwins_100 rfl (lv_at hl 5 rfl) ?_
              refine lv_iload hx hb dX6_joinTwins_101 (lv_at hl 2 rfl) ?_
              refine va_calli (va_runV (As := [.int (iZ (i))]) (rest := [.int (iZ (i + 1))]) ⟨hx, hb, hml, hown, hts⟩ (s_Rafter l dC dI cI cZ cII cIII h0 H.size μ (q) (rm) (i) (hq) (by first | assumption | ((try clear hμa); (try clear hμk); (try clear hμn); (try clear hμq); (try clear hrn); (try clear hra); (try clear hrk); (try clear hrq); (try clear hr01); omega) | omega | exact ⟨by (first | ((try clear hμa); (try clear hμk); (try clear hμn); (try clear hμq); (try clear hrn); (try clear hra); (try clear hrk); (try clear hrq); (try clear hr01); omega) | omega), by (first | ((try clear hμa); (try clear hμk); (try clear hμn); (try clear hμq); (try clear hrn); (try clear hra); (try clear hrk); (try clear hrq); (try clear hr01); omega) | omega)⟩) (by constructor <;> (first | ((try clear hμa); (try clear hμk); (try clear hμn); (try clear hμq); (try clear hrn); (try clear hra); (try clear hrk); (try clear hrq); (try clear hr01); omega) | omega))) (cwV 1 hts (gV_G k437 k438 k439 k3 k440) rfl rfl rfl (by decide +kernel) ⟨by show 1 + 1 ≤ _; omega, by show 8 + (2 + 11) + (14) ≤ _; omega⟩) ⟨fun a U g mk q => by obtain ⟨q0, q1, qP, qK, qM⟩ := q; exact ⟨q0, q1, qP, va_K.moved (u := U) (U := U.calling g mk a) (Vm.Alike.refl U.vm) qK, qM⟩, va_recv hK hP (ci := 4) (q0 := q) rfl ((fw_get (by (first | ((try clear hμa); (try clear hμk); (try clear hμn); (try clear hμq); (try clear hrn); (try clear hra); (try clear hrk); (try clear hrq); (try clear hr01); omega) | omega))).trans (by rw [(sE_rowO hq)])), fun U hU hW => ⟨rfl, by rw [hU], by rw [hU]; exact hP, va_K.moved hW.alike hK, xM_warm hW hM⟩⟩ rfl rfl hl.1 rfl (lv_room (Nat.le_of_ble_eq_true rfl)) dX6_joinTwins_103 ⟨hRc, hRs⟩) hS (fun q _ h => fA_le hS.1 q h) (fA_le hS.1) (fun r9 u9 t9 H1 locs ht9 hvm9 hw9 hB9 hz9 hk9 hS => ?_)
              obtain ⟨μa, ra⟩ := u9
              obtain ⟨hP, -⟩ := hB9
              rw [ht9] at hP
              generalize H1 = H at hP hS ⊢
              obtain ⟨e9, hw9⟩ := hw9
              have e9 : r9 = iZ ra := e9
              subst e9
              simp only at hP hw9
              have hμa := hw9; clear hw9
              rw [hμa.1] at hP; have hμa := hμa.2
              have hra := hμa
              refine va_mmax hx hb (hml.trans hl.1.symm) hown (hts _ k467) (hts _ k75) (hts _ k4) (hts _ k76) (Nat.le_trans (Nat.le_of_ble_eq_true rfl) hRf) (Nat.le_trans (m := 94) (Nat.le_of_ble_eq_true rfl) hRl) hRc hRs dX6_joinTwins_106 ?_
              refine lv_topi (fun x9 ex9 => ?_)
              obtain rfl : x9 = iZ (max (i + 1) ra) := ex9.trans (iZ_mx (by constructor <;> (first | ((try clear hμa); (try clear hμk); (try clear hμn); (try clear hμq); (try clear hrn); (try clear hra); (try clear hrk); (try clear hrq); (try clear hr01); omega) | omega)) (by constructor <;> (first | ((try clear hμa); (try clear hμk); (try clear hμn); (try clear hμq); (try clear hrn); (try clear hra); (try clear hrk); (try clear hrq); (try clear hr01); omega) | omega)))
              refine lv_istore (lv' := [(4, .int (iZ (max (i + 1) ra))), (6, .int (iZ (rn - i))), (5, .int (iZ (rn))), (3, .int (iZ (p2))), (2, .int (iZ (p1))), (1, .ref (h0 + q)), (0, .ref (h0 + 38))]) hx hb dX6_joinTwins_109 hl (by decide) rfl (fun ls hl => ?_)
              refine lv_goto (tgt := 3) hx hb dX6_joinTwins_111 (by decide) ?_
              exact ih (max (i + 1) ra) (nx) (sg) μ H locs ls (by rfl) (by (first | ((try clear hμa); (try clear hμk); (try clear hμn); (try clear hμq); (try clear hrn); (try clear hra); (try clear hrk); (try clear hrq); (try clear hr01); omega) | omega)) (by rw [show (max (i + 1) ra).toNat = m_ + 1 by (first | ((try clear hμa); (try clear hμk); (try clear hμn); (try clear hμq); (try clear hrn); (try clear hra); (try clear hrk); (try clear hrq); (try clear hr01); omega) | omega)]; exact e4_.trans hD) (by (first | ((try clear hμa); (try clear hμk); (try clear hμn); (try clear hμq); (try clear hrn); (try clear hra); (try clear hrk); (try clear hrq); (try clear hr01); omega) | omega)) hP hS (lv_sub hl [0, 3, 4, 5, 6] rfl)
            · refine lv_aload_n hx hb dX6_joinTwins_70 rfl (lv_at hl 5 rfl) ?_
              refine lv_iload hx hb dX6_joinTwins_71 (lv_at hl 2 rfl) ?_
              refine lv_aload_n hx hb dX6_joinTwins_73 rfl (lv_at hl 5 rfl) ?_
              refine lv_iload hx hb dX6_joinTwins_74 (lv_at hl 1 rfl) ?_
              refine lv_iload hx hb dX6_joinTwins_76 (lv_at hl 0 rfl) ?_
              refine va_calli (va_runV (As := [.int (iZ (i)), .ref (h0 + q), .int (iZ (rn)), .int (iZ (rn - i))]) (rest := []) ⟨hx, hb, hml, hown, hts⟩ (s_Rmatches l dC dI cI cZ cII cIII h0 H.size μ (q) (rm) (q) (rm) (i) (rn) (rn - i) (hq) (hq) (by exact hG.1) (by exact hG.1) (by first | assumption | ((try clear hμa); (try clear hμk); (try clear hμn); (try clear hμq); (try clear hrn); (try clear hra); (try clear hrk); (try clear hrq); (try clear hr01); omega) | omega | exact ⟨by (first | ((try clear hμa); (try clear hμk); (try clear hμn); (try clear hμq); (try clear hrn); (try clear hra); (try clear hrk); (try clear hrq); (try clear hr01); omega) | omega), by (first | ((try clear hμa); (try clear hμk); (try clear hμn); (try clear hμq); (try clear hrn); (try clear hra); (try clear hrk); (try clear hrq); (try clear hr01); omega) | omega)⟩) (by first | assumption | ((try clear hμa); (try clear hμk); (try clear hμn); (try clear hμq); (try clear hrn); (try clear hra); (try clear hrk); (try clear hrq); (try clear hr01); omega) | omega | exact ⟨by (first | ((try clear hμa); (try clear hμk); (try clear hμn); (try clear hμq); (try clear hrn); (try clear hra); (try clear hrk); (try clear hrq); (try clear hr01); omega) | omega), by (first | ((try clear hμa); (try clear hμk); (try clear hμn); (try clear hμq); (try clear hrn); (try clear hra); (try clear hrk); (try clear hrq); (try clear hr01); omega) | omega)⟩) (by first | assumption | ((try clear hμa); (try clear hμk); (try clear hμn); (try clear hμq); (try clear hrn); (try clear hra); (try clear hrk); (try clear hrq); (try clear hr01); omega) | omega | exact ⟨by (first | ((try clear hμa); (try clear hμk); (try clear hμn); (try clear hμq); (try clear hrn); (try clear hra); (try clear hrk); (try clear hrq); (try clear hr01); omega) | omega), by (first | ((try clear hμa); (try clear hμk); (try clear hμn); (try clear hμq); (try clear hrn); (try clear hra); (try clear hrk); (try clear hrq); (try clear hr01); omega) | omega)⟩) (by first | assumption | ((try clear hμa); (try clear hμk); (try clear hμn); (try clear hμq); (try clear hrn); (try clear hra); (try clear hrk); (try clear hrq); (try clear hr01); omega) | omega | exact ⟨by (first | ((try clear hμa); (try clear hμk); (try clear hμn); (try clear hμq); (try clear hrn); (try clear hra); (try clear hrk); (try clear hrq); (try clear hr01); omega) | omega), by (first | ((try clear hμa); (try clear hμk); (try clear hμn); (try clear hμq); (try clear hrn); (try clear hra); (try clear hrk); (try clear hrq); (try clear hr01); omega) | omega)⟩) (by first | assumption | ((try clear hμa); (try clear hμk); (try clear hμn); (try clear hμq); (try clear hrn); (try clear hra); (try clear hrk); (try clear hrq); (try clear hr01); omega) | omega | exact ⟨by (first | ((try clear hμa); (try clear hμk); (try clear hμn); (try clear hμq); (try clear hrn); (try clear hra); (try clear hrk); (try clear hrq); (try clear hr01); omega) | omega), by (first | ((try clear hμa); (try clear hμk); (try clear hμn); (try clear hμq); (try clear hrn); (try clear hra); (try clear hrk); (try clear hrq); (try clear hr01); omega) | omega)⟩) (by first | assumption | ((try clear hμa); (try clear hμk); (try clear hμn); (try clear hμq); (try clear hrn); (try clear hra); (try clear hrk); (try clear hrq); (try clear hr01); omega) | omega | exact ⟨by (first | ((try clear hμa); (try clear hμk); (try clear hμn); (try clear hμq); (try clear hrn); (try clear hra); (try clear hrk); (try clear hrq); (try clear hr01); omega) | omega), by (first | ((try clear hμa); (try clear hμk); (try clear hμn); (try clear hμq); (try clear hrn); (try clear hra); (try clear hrk); (try clear hrq); (try clear hr01); omega) | omega)⟩)) (cwV 4 hts (gV_G k441 k442 k443 k3 k444) rfl rfl rfl (by decide +kernel) ⟨by show 2 + 1 ≤ _; omega, by show 8 + (6 + 11) + (35) ≤ _; omega⟩) ⟨fun a U g mk q => by obtain ⟨q0, q1, qP, qK, qM⟩ := q; exact ⟨q0, q1, qP, va_K.moved (u := U) (U := U.calling g mk a) (Vm.Alike.refl U.vm) qK, qM⟩, va_recv hK hP (ci := 4) (q0 := q) rfl ((fw_get (by (first | ((try clear hμa); (try clear hμk); (try clear hμn); (try clear hμq); (try clear hrn); (try clear hra); (try clear hrk); (try clear hrq); (try clear hr01); omega) | omega))).trans (by rw [(sE_rowO hq)])), fun U hU hW => ⟨rfl, by rw [hU], by rw [hU]; exact hP, va_K.moved hW.alike hK, xM_warm hW hM⟩⟩ rfl rfl hl.1 rfl (lv_room (Nat.le_of_ble_eq_true rfl)) dX6_joinTwins_78 ⟨hRc, hRs⟩) hS (fun q _ h => fA_le hS.1 q h) (fA_le hS.1) (fun r9 u9 t9 H1 locs ht9 hvm9 hw9 hB9 hz9 hk9 hS => ?_)
              obtain ⟨μq, rq⟩ := u9
              obtain ⟨hP, -⟩ := hB9
              rw [ht9] at hP
              generalize H1 = H at hP hS ⊢
              obtain ⟨e9, hw9⟩ := hw9
              have e9 : r9 = iZ rq := e9
              subst e9
              simp only at hP hw9
              have hμq := hw9; clear hw9
              rw [hμq.1] at hP; have hμq := hμq.2
              have hrq := hμq
              have hr01 : rq = 0 ∨ rq = 1 := hrq.elim (fun h => Or.inr h.1) (fun h => Or.inl h.1)
              refine fz_if_eq (tgt := 96) (by constructor <;> (first | ((try clear hμa); (try clear hμk); (try clear hμn); (try clear hμq); (try clear hrn); (try clear hra); (try clear hrk); (try clear hrq); (try clear hr01); omega) | omega)) hx hb dX6_joinTwins_81 (by decide) (fun c81_ => ?_) (fun c81_ => ?_)
              · refine lv_iload hx hb dX6_joinTwins_96 (lv_at hl 2 rfl) ?_
                refine lv_iconst (v := iZ 1) hx hb dX6_joinTwins_98 rfl ?_
                refine lv_iadd hx hb dX6_joinTwins_99 ?_
                refine lv_topi (fun x9 ex9 => ?_)
                obtain rfl : x9 = iZ (i + 1) := ex9.trans (iZ_add _ _)
                refine lv_aload_n hx hb dX6_joinTwins_100 rfl (lv_at hl 5 rfl) ?_
                refine lv_iload hx hb dX6_joinTwins_101 (lv_at hl 2 rfl) ?_
                refine va_calli (va_runV (As := [.int (iZ (i))]) (rest := [.int (iZ (i + 1))]) ⟨hx, hb, hml, hown, hts⟩ (s_Rafter l dC dI cI cZ cII cIII h0 H.size μ (q) (rm) (i) (hq) (by first | assumption | ((try clear hμa); (try clear hμk); (try clear hμn); (try clear hμq); (try clear hrn); (try clear hra); (try clear hrk); (try clear hrq); (try clear hr01); omega) | omega | exact ⟨by (first | ((try clear hμa); (try clear hμk); (try clear hμn); (try clear hμq); (try clear hrn); (try clear hra); (try clear hrk); (try clear hrq); (try clear hr01); omega) | omega), by (first | ((try clear hμa); (try clear hμk); (try clear hμn); (try clear hμq); (try clear hrn); (try clear hra); (try clear hrk); (try clear hrq); (try clear hr01); omega) | omega)⟩) (by constructor <;> (first | ((try clear hμa); (try clear hμk); (try clear hμn); (try clear hμq); (try clear hrn); (try clear hra); (try clear hrk); (try clear hrq); (try clear hr01); omega) | omega))) (cwV 1 hts (gV_G k437 k438 k439 k3 k440) rfl rfl rfl (by decide +kernel) ⟨by show 1 + 1 ≤ _; omega, by show 8 + (2 + 11) + (14) ≤ _; omega⟩) ⟨fun a U g mk q => by obtain ⟨q0, q1, qP, qK, qM⟩ := q; exact ⟨q0, q1, qP, va_K.moved (u := U) (U := U.calling g mk a) (Vm.Alike.refl U.vm) qK, qM⟩, va_recv hK hP (ci := 4) (q0 := q) rfl ((fw_get (by (first | ((try clear hμa); (try clear hμk); (try clear hμn); (try clear hμq); (try clear hrn); (try clear hra); (try clear hrk); (try clear hrq); (try clear hr01); omega) | omega))).trans (by rw [(sE_rowO hq)])), fun U hU hW => ⟨rfl, by rw [hU], by rw [hU]; exact hP, va_K.moved hW.alike hK, xM_warm hW hM⟩⟩ rfl rfl hl.1 rfl (lv_room (Nat.le_of_ble_eq_true rfl)) dX6_joinTwins_103 ⟨hRc, hRs⟩) hS (fun q _ h => fA_le hS.1 q h) (fA_le hS.1) (fun r9 u9 t9 H1 locs ht9 hvm9 hw9 hB9 hz9 hk9 hS => ?_)
                obtain ⟨μa, ra⟩ := u9
                obtain ⟨hP, -⟩ := hB9
                rw [ht9] at hP
                generalize H1 = H at hP hS ⊢
                obtain ⟨e9, hw9⟩ := hw9
                have e9 : r9 = iZ ra := e9
                subst e9
                simp only at hP hw9
                have hμa := hw9; clear hw9
                rw [hμa.1] at hP; have hμa := hμa.2
                have hra := hμa
                refine va_mmax hx hb (hml.trans hl.1.symm) hown (hts _ k467) (hts _ k75) (hts _ k4) (hts _ k76) (Nat.le_trans (Nat.le_of_ble_eq_true rfl) hRf) (Nat.le_trans (m := 94) (Nat.le_of_ble_eq_true rfl) hRl) hRc hRs dX6_joinTwins_106 ?_
                refine lv_topi (fun x9 ex9 => ?_)
                obtain rfl : x9 = iZ (max (i + 1) ra) := ex9.trans (iZ_mx (by constructor <;> (first | ((try clear hμa); (try clear hμk); (try clear hμn); (try clear hμq); (try clear hrn); (try clear hra); (try clear hrk); (try clear hrq); (try clear hr01); omega) | omega)) (by constructor <;> (first | ((try clear hμa); (try clear hμk); (try clear hμn); (try clear hμq); (try clear hrn); (try clear hra); (try clear hrk); (try clear hrq); (try clear hr01); omega) | omega)))
                refine lv_istore (lv' := [(4, .int (iZ (max (i + 1) ra))), (6, .int (iZ (rn - i))), (5, .int (iZ (rn))), (3, .int (iZ (p2))), (2, .int (iZ (p1))), (1, .ref (h0 + q)), (0, .ref (h0 + 38))]) hx hb dX6_joinTwins_109 hl (by decide) rfl (fun ls hl => ?_)
                refine lv_goto (tgt := 3) hx hb dX6_joinTwins_111 (by decide) ?_
                exact ih (max (i + 1) ra) (nx) (sg) μ H locs ls (by rfl) (by (first | ((try clear hμa); (try clear hμk); (try clear hμn); (try clear hμq); (try clear hrn); (try clear hra); (try clear hrk); (try clear hrq); (try clear hr01); omega) | omega)) (by rw [show (max (i + 1) ra).toNat = m_ + 1 by (first | ((try clear hμa); (try clear hμk); (try clear hμn); (try clear hμq); (try clear hrn); (try clear hra); (try clear hrk); (try clear hrq); (try clear hr01); omega) | omega)]; exact e4_.trans hD) (by (first | ((try clear hμa); (try clear hμk); (try clear hμn); (try clear hμq); (try clear hrn); (try clear hra); (try clear hrk); (try clear hrq); (try clear hr01); omega) | omega)) hP hS (lv_sub hl [0, 3, 4, 5, 6] rfl)
              · have hmt := hrq.elim (fun h => h.2.2) (fun h => absurd h.1 (by (first | ((try clear hμa); (try clear hμk); (try clear hμn); (try clear hμq); (try clear hrn); (try clear hra); (try clear hrk); (try clear hrq); (try clear hr01); omega) | omega)))
                exact hexit84 (i) (rn) (rn - i) μ H locs ls (by rfl) (by
                                        refine ⟨⟨by (first | ((try clear hμa); (try clear hμk); (try clear hμn); (try clear hμq); (try clear hrn); (try clear hra); (try clear hrk); (try clear hrq); (try clear hr01); omega) | omega), by (first | ((try clear hμa); (try clear hμk); (try clear hμn); (try clear hμq); (try clear hrn); (try clear hra); (try clear hrk); (try clear hrq); (try clear hr01); omega) | omega), by (first | ((try clear hμa); (try clear hμk); (try clear hμn); (try clear hμq); (try clear hrn); (try clear hra); (try clear hrk); (try clear hrq); (try clear hr01); omega) | omega), by (first | ((try clear hμa); (try clear hμk); (try clear hμn); (try clear hμq); (try clear hrn); (try clear hra); (try clear hrk); (try clear hrq); (try clear hr01); omega) | omega)⟩, hmt, ?_⟩
                                        rw [show (rn + (rn - i)).toNat = m2_ + 1 by (first | ((try clear hμa); (try clear hμk); (try clear hμn); (try clear hμq); (try clear hrn); (try clear hra); (try clear hrk); (try clear hrq); (try clear hr01); omega) | omega), ern]; exact g4_) (by (first | ((try clear hμa); (try clear hμk); (try clear hμn); (try clear hμq); (try clear hrn); (try clear hra); (try clear hrk); (try clear hrq); (try clear hr01); omega) | omega)) hP hS (lv_sub hl [0, 1, 2, 3, 4, 5, 6] rfl)
set_option maxHeartbeats 4000000 in
set_option maxRecDepth 100000 in
theorem s_TjoinTwins (l : Launch) (dC : Nat → ClassId) (dI : Nat → Nat → Nat) (cI cZ cII cIII : ClassId) (h0 sz : Nat) (μ : va_M) (q : Nat) (rm : Nat) (p1 : Int) (p2 : Int) (bh : Int) (hq : rowB q rm) (hG : rG μ q rm) (hrg : rng μ q p1 bh) (hp2 : p2 = μ q 5 - bh) : Met l yX6_joinTwins (Cond.code yX6_joinTwins cX6_joinTwins 7 (some .boolean) :: wsG) ({ frames := 4, cells := 0, slots := 0, locals := 94 } : Room) (va_Pc [.ref (h0 + 38), .ref (h0 + q), .int (iZ (p1)), .int (iZ (p2))] (fun U => U.heap.size = sz ∧ va_P (dC, dI) vwCl (fw (sE cI cZ cII cIII h0) h0 233 μ) U.heap ∧ va_K (dC, dI) vwCl (sT cI cZ cII cIII) U ∧ xM U)) (va_Qi (fun (r9 : Int32) (u : va_M × Int) => r9 = iZ u.2 ∧ (fun (u : va_M) (r : Int) => (r = 0 ∨ r = 1) ∧ fr (LTq q) μ u ∧ rG u q rm ∧ rng u q p1 bh ∧ (r = 0 → u q 5 = μ q 5)) u.1 u.2) (fun u t => va_P (dC, dI) vwCl (fw (sE cI cZ cII cIII h0) h0 233 u.1) t.heap ∧ va_K (dC, dI) vwCl (sT cI cZ cII cIII) t) (fA h0 233 sz)) 0 0 (fA h0 233 sz) := by
  refine Met.ofW (cc := cX6_joinTwins) (maxL := 7) (ret := (some .boolean)) (by decide) rfl ?_
  intro p e s m args below meth c s₁ B hml hv
  obtain ⟨rfl, hsz, hP, hK, hM⟩ := hv
  have hx := B.exec
  have hb := B.bytes
  have hr := B.returns
  have hts : ∀ w ∈ wsG, w.before _ s = true := hG_of (atoms_spec (ws := (Cond.code yX6_joinTwins cX6_joinTwins 7 (some .boolean) :: wsG)) B.pre)
  have hown : s.vm.findClass RX6 = some m.cls := findClass_of_methodNamed B.named
  have hlocks := B.notSynchronized
  subst hsz
  have hS : va_S (fA h0 233 s.heap.size) s.heap s.heap [] := va_S.rf
  have hl := lv_entry ([.ref (h0 + 38), .ref (h0 + q), .int (iZ (p1)), .int (iZ (p2))]) (n := 7) (Nat.le_of_ble_eq_true rfl)
  rw [lg_entry_eq]
  generalize (lg_sl ([.ref (h0 + 38), .ref (h0 + q), .int (iZ (p1)), .int (iZ (p2))]) ++ List.replicate (7 - (lg_sl ([.ref (h0 + 38), .ref (h0 + q), .int (iZ (p1)), .int (iZ (p2))])).length) Slot.unset).toArray = ls at hl ⊢
  have hl : lv_has ls 7 [(0, .ref (h0 + 38)), (1, .ref (h0 + q)), (2, .int (iZ (p1))), (3, .int (iZ (p2)))] := hl
  have hqb := rowB_b hq
  refine lv_iload_n hx hb dX6_joinTwins_0 rfl (lv_at hl 2 rfl) ?_
  refine lv_istore (lv' := [(4, .int (iZ (p1))), (0, .ref (h0 + 38)), (1, .ref (h0 + q)), (2, .int (iZ (p1))), (3, .int (iZ (p2)))]) hx hb dX6_joinTwins_1 hl (by decide) rfl (fun ls hl => ?_)
  refine LX6_joinTwins_3 hx hb hml hown hts hK hM (Nat.le_of_ble_eq_true rfl) (Nat.le_of_ble_eq_true rfl) (Nat.le_of_ble_eq_true rfl) (Nat.le_of_ble_eq_true rfl) (μ) (q) (rm) (p1) (p2) (bh) (by assumption) (by exact hG) (by assumption) (by assumption) ?_ ?_ _ (p1) (0) (0) μ s.heap [] ls (by rfl) (by exact ⟨Int.le_refl _, Or.inr rfl⟩) (by exact rfl) (Nat.lt_succ_self _) hP hS (lv_sub hl [0, 4, 3, 2, 1] rfl)
  · intro i_1 nx_1 sg_1 μ1_ H locs ls q1_1 q2_1 q5_1 hP hS hl
    have hl : lv_has ls 7 [(6, .int (iZ (sg_1))), (5, .int (iZ (nx_1))), (4, .int (iZ (i_1))), (3, .int (iZ (p2))), (2, .int (iZ (p1))), (1, .ref (h0 + q)), (0, .ref (h0 + 38))] := hl
    have hPn84 := hP
    obtain rfl := q1_1
    have hP := hPn84
    have jk_ := q2_1
    have jr_ := q5_1
    have jk1_ := jk_.1
    have hrm := rG_rm hq hG
    have hrx := hrg.1
    have h7_ : μ1_ q 7 = 0 := (rG_ov hG).elim id (fun h => by (first | ((try clear hμ2); (try clear hr1_); omega) | omega))
    refine lv_aload_n hx hb dX6_joinTwins_84 rfl (lv_at hl 6 rfl) ?_
    refine lv_aload_n hx hb dX6_joinTwins_85 rfl (lv_at hl 5 rfl) ?_
    refine lv_iload hx hb dX6_joinTwins_86 (lv_at hl 2 rfl) ?_
    refine lv_iload hx hb dX6_joinTwins_88 (lv_at hl 1 rfl) ?_
    refine lv_iload hx hb dX6_joinTwins_90 (lv_at hl 0 rfl) ?_
    refine va_calli (va_runV (As := [.ref (h0 + q), .int (iZ (i_1)), .int (iZ (nx_1)), .int (iZ (sg_1))]) (rest := []) ⟨hx, hb, hml, hown, hts⟩ (s_Tjoin l dC dI cI cZ cII cIII h0 H.size μ1_ (q) (rm) (i_1) (nx_1) (sg_1) (hq) (by exact hG) (by exact h7_) (by exact jk_)) (cwV 4 hts (gV_G k448 k450 ks_yX6_join k6 k451) rfl rfl rfl (by decide +kernel) ⟨Nat.le_of_ble_eq_true rfl, Nat.le_of_ble_eq_true rfl⟩) ⟨fun a U g mk q => by obtain ⟨q0, q1, qP, qK, qM⟩ := q; exact ⟨q0, q1, qP, va_K.moved (u := U) (U := U.calling g mk a) (Vm.Alike.refl U.vm) qK, qM⟩, va_recv hK hP (ci := 6) (q0 := 38) rfl ((fw_get (by decide)).trans (by rw [sE_38])), fun U hU hW => ⟨rfl, by rw [hU], by rw [hU]; exact hP, va_K.moved hW.alike hK, xM_warm hW hM⟩⟩ rfl rfl hl.1 rfl (lv_room (Nat.le_of_ble_eq_true rfl)) dX6_joinTwins_92 ⟨Nat.le_of_ble_eq_true rfl, Nat.le_of_ble_eq_true rfl⟩) hS (fun q _ h => fA_le hS.1 q h) (fA_le hS.1) (fun r9 u9 t9 H1 locs ht9 hvm9 hw9 hB9 hz9 hk9 hS => ?_)
    obtain ⟨μ2, r3⟩ := u9
    obtain ⟨hP, -⟩ := hB9
    rw [ht9] at hP
    generalize H1 = H at hP hS ⊢
    obtain ⟨e9, hw9⟩ := hw9
    have e9 : r9 = iZ r3 := e9
    subst e9
    simp only at hP hw9
    have hμ2 := hw9; clear hw9
    have hr1_ := hμ2.1
    exact W.zret (v := iZ (r3)) hx hb hr (by exact fz_narZ (by (first | ((try clear hμ2); (try clear hr1_); omega) | omega))) (fun t9 ht9 hW9 => ⟨⟨iZ (r3), (μ2, r3), rfl, ⟨rfl, (by
                dsimp only
                obtain ⟨k1, k2, k3, k4, k5⟩ := hμ2
                exact ⟨Or.inr k1, fr_mono k3 (fun x y h => Or.inl h), k2, rng_rm hrg (by (first | ((try clear hμ2); (try clear hr1_); omega) | omega)) (by (first | ((try clear hμ2); (try clear hr1_); omega) | omega)) (by (first | ((try clear hμ2); (try clear hr1_); omega) | omega)) k4 k5.1 k5.2, fun h => absurd (k1.symm.trans h) (by decide)⟩)⟩, by rw [ht9]; exact hP, va_K.moved hW9.alike hK⟩, hS.F ht9⟩) hS.2.2 dX6_joinTwins_95
  · intro i_4 nx_4 sg_4 μ4_ H locs ls q3_4 hP hS hl
    have hl : lv_has ls 7 [] := hl
    have hPn114 := hP
    obtain rfl := q3_4
    have hP := hPn114
    refine lv_iconst (v := iZ 0) hx hb dX6_joinTwins_114 rfl ?_
    exact W.zret (v := iZ (0)) hx hb hr (by decide +kernel) (fun t9 ht9 hW9 => ⟨⟨iZ (0), (μ4_, 0), rfl, ⟨rfl, (by
                dsimp only
                exact ⟨Or.inl rfl, fr_rfl, hG, hrg, fun _ => rfl⟩)⟩, by rw [ht9]; exact hP, va_K.moved hW9.alike hK⟩, hS.F ht9⟩) hS.2.2 dX6_joinTwins_115
set_option maxHeartbeats 4000000 in
set_option maxRecDepth 100000 in
theorem LX6_joinAhead_3 {p : Program} {l : Launch} {e : Env} {R : Room} {s : State} {m : MethodId} {args : Array Value} {below : List Frame} {meth : Method} {c : Code} {cells slots : Nat} {Q : State → Prop} {dC : Nat → ClassId} {dI : Nat → Nat → Nat} {h0 : Nat} {cI cZ cII cIII : ClassId} (hx : p.tables.exec = Jvm.exec) (hb : c.code = cX6_joinAhead) (hml : c.maxLocals = 6) (hown : s.vm.findClass RX6 = some m.cls) (hts : ∀ w ∈ wsG, w.before args s = true) (hK : va_K (dC, dI) vwCl (sT cI cZ cII cIII) s) (hM : xM s) (hRf : 4 ≤ R.frames) (hRl : 94 ≤ R.locals) (hRc : cells ≤ R.cells) (hRs : slots ≤ R.slots) (μ0 : va_M) (q : Nat) (rm : Nat) (p1 : Int) (p2 : Int) (bh : Int) (hq : rowB q rm) (hG : rG μ0 q rm) (hrg : rng μ0 q p1 bh) (hp2 : p2 = μ0 q 5 - bh) (hexit64 : ∀ (i : Int) (sg : Int) (μ : va_M) (H : Heap) (locs : List Loc) (ls : Array Slot), (μ = μ0) → (jok μ0 q (i + 1) (i - sg) sg) → (p1 ≤ i - sg ∧ i - sg + sg ≤ p2 ∧ p1 < p2 ∧ -5000 ≤ i ∧ i ≤ 5000 ∧ -5000 ≤ sg ∧ sg ≤ 5000) → va_P (dC, dI) vwCl (fw (sE cI cZ cII cIII h0) h0 233 μ) H → va_S (fA h0 233 s.heap.size) s.heap H locs → lv_has ls 6 [(5, .int (iZ (sg))), (4, .int (iZ (i))), (3, .int (iZ (p2))), (2, .int (iZ (p1))), (1, .ref (h0 + q)), (0, .ref (h0 + 38))] → W p l e R s m args below meth c H locs cells slots Q (F0 m 64 ls [])) (hexit99 : ∀ (i : Int) (sg : Int) (μ : va_M) (H : Heap) (locs : List Loc) (ls : Array Slot), (μ = μ0) → va_P (dC, dI) vwCl (fw (sE cI cZ cII cIII h0) h0 233 μ) H → va_S (fA h0 233 s.heap.size) s.heap H locs → lv_has ls 6 [] → W p l e R s m args below meth c H locs cells slots Q (F0 m 99 ls [])) :
    ∀ (n9 : Nat) (i : Int) (sg : Int) (μ : va_M) (H : Heap) (locs : List Loc) (ls : Array Slot), (μ = μ0) → (p1 ≤ i ∧ (i ≤ p2 ∨ i = p1)) → (Dp (μ0 (q + 1)) i.toNat = Dp (μ0 (q + 1)) p1.toNat) → (1101 - i).toNat < n9 → va_P (dC, dI) vwCl (fw (sE cI cZ cII cIII h0) h0 233 μ) H → va_S (fA h0 233 s.heap.size) s.heap H locs → lv_has ls 6 [(4, .int (iZ (i))), (3, .int (iZ (p2))), (2, .int (iZ (p1))), (1, .ref (h0 + q)), (0, .ref (h0 + 38))] → W p l e R s m args below meth c H locs cells slots Q (F0 m 3 ls []) := by
  intro n9
  induction n9 with
  | zero => intro i sg μ H locs ls hm9_ hi hD hm9 hP hS hl; exact absurd hm9 (Nat.not_lt_zero _)
  | succ n9 ih =>
    intro i sg μ H locs ls hm9_ hi hD hm9 hP hS hl
    subst hm9_
    have hrm := rG_rm hq hG
    have hqb := rowB_b hq
    have hr1 := hrg.1
    refine lv_iload hx hb dX6_joinAhead_3 (lv_at hl 0 rfl) ?_
    refine lv_iload_n hx hb dX6_joinAhead_5 rfl (lv_at hl 1 rfl) ?_
    refine fz_icmp_ge (tgt := 99) (by constructor <;> (first | ((try clear hμa); (try clear hμq); (try clear hra); (try clear hrq); (try clear hr01); omega) | omega)) (by constructor <;> (first | ((try clear hμa); (try clear hμq); (try clear hra); (try clear hrq); (try clear hr01); omega) | omega)) hx hb dX6_joinAhead_6 (by decide) (fun c6_ => ?_) (fun c6_ => ?_)
    · exact hexit99 (i) (sg) μ H locs ls (by rfl) hP hS (lv_sub hl [] rfl)
    · have hsg : seg (μ (q + 1)) p1.toNat p2.toNat := by rw [hp2]; exact hrg.2 (by (first | ((try clear hμa); (try clear hμq); (try clear hra); (try clear hrq); (try clear hr01); omega) | omega))
      obtain ⟨m_, e1_, e2_, e3_, e4_, e5_, e6_, e7_⟩ := seg_af hG (a := p1.toNat) (b := p2.toNat) (i := i.toNat) (by (first | ((try clear hμa); (try clear hμq); (try clear hra); (try clear hrq); (try clear hr01); omega) | omega)) hsg (by (first | ((try clear hμa); (try clear hμq); (try clear hra); (try clear hrq); (try clear hr01); omega) | omega)) (by (first | ((try clear hμa); (try clear hμq); (try clear hra); (try clear hrq); (try clear hr01); omega) | omega)) hD
      have hs1 := hG.1 i.toNat
      refine lv_aload_n hx hb dX6_joinAhead_9 rfl (lv_at hl 3 rfl) ?_
      refine fz_get (D := (dC, dI)) (ci := 4) (v := .ref (h0 + (q + 1))) (C := RX4) (T := TX4) (N := 8) hx hb hts inG4 hown hK hP (k := q) (by (first | ((try clear hμa); (try clear hμq); (try clear hra); (try clear hrq); (try clear hr01); omega) | omega)) (F := (sRF h0 q)) (sE_rowO hq) rfl 0 (by decide) (hts _ k79) (fun _ h9 => h9) rfl dX6_joinAhead_10 ?_
      refine lv_iload hx hb dX6_joinAhead_13 (lv_at hl 0 rfl) ?_
      refine fz_ld (k := (q + 1)) (n := rm) hx hb hK hP 0 (by (first | ((try clear hμa); (try clear hμq); (try clear hra); (try clear hrq); (try clear hr01); omega) | omega)) (sE_rowA (r := 1) hq (by decide)) rfl ⟨by (first | ((try clear hμa); (try clear hμq); (try clear hra); (try clear hrq); (try clear hr01); omega) | omega), by (first | ((try clear hμa); (try clear hμq); (try clear hra); (try clear hrq); (try clear hr01); omega) | omega)⟩ (by (first | ((try clear hμa); (try clear hμq); (try clear hra); (try clear hrq); (try clear hr01); omega) | omega)) dX6_joinAhead_15 ?_
      refine lv_sipush (v := iZ 514) hx hb dX6_joinAhead_16 rfl ?_
      refine fz_icmp_ne (tgt := 81) (by constructor <;> (first | ((try clear hμa); (try clear hμq); (try clear hra); (try clear hrq); (try clear hr01); omega) | omega)) (by decide) hx hb dX6_joinAhead_19 (by decide) (fun c19_ => ?_) (fun c19_ => ?_)
      · refine lv_iload hx hb dX6_joinAhead_81 (lv_at hl 0 rfl) ?_
        refine lv_iconst (v := iZ 1) hx hb dX6_joinAhead_83 rfl ?_
        refine lv_iadd hx hb dX6_joinAhead_84 ?_
        refine lv_topi (fun x9 ex9 => ?_)
        obtain rfl : x9 = iZ (i + 1) := ex9.trans (iZ_add _ _)
        refine lv_aload_n hx hb dX6_joinAhead_85 rfl (lv_at hl 3 rfl) ?_
        refine lv_iload hx hb dX6_joinAhead_86 (lv_at hl 0 rfl) ?_
        refine va_calli (va_runV (As := [.int (iZ (i))]) (rest := [.int (iZ (i + 1))]) ⟨hx, hb, hml, hown, hts⟩ (s_Rafter l dC dI cI cZ cII cIII h0 H.size μ (q) (rm) (i) (hq) (by first | assumption | ((try clear hμa); (try clear hμq); (try clear hra); (try clear hrq); (try clear hr01); omega) | omega | exact ⟨by (first | ((try clear hμa); (try clear hμq); (try clear hra); (try clear hrq); (try clear hr01); omega) | omega), by (first | ((try clear hμa); (try clear hμq); (try clear hra); (try clear hrq); (try clear hr01); omega) | omega)⟩) (by constructor <;> (first | ((try clear hμa); (try clear hμq); (try clear hra); (try clear hrq); (try clear hr01); omega) | omega))) (cwV 1 hts (gV_G k437 k438 k439 k3 k440) rfl rfl rfl (by decide +kernel) ⟨by show 1 + 1 ≤ _; omega, by show 8 + (2 + 11) + (14) ≤ _; omega⟩) ⟨fun a U g mk q => by obtain ⟨q0, q1, qP, qK, qM⟩ := q; exact ⟨q0, q1, qP, va_K.moved (u := U) (U := U.calling g mk a) (Vm.Alike.refl U.vm) qK, qM⟩, va_recv hK hP (ci := 4) (q0 := q) rfl ((fw_get (by (first | ((try clear hμa); (try clear hμq); (try clear hra); (try clear hrq); (try clear hr01); omega) | omega))).trans (by rw [(sE_rowO hq)])), fun U hU hW => ⟨rfl, by rw [hU], by rw [hU]; exact hP, va_K.moved hW.alike hK, xM_warm hW hM⟩⟩ rfl rfl hl.1 rfl (lv_room (Nat.le_of_ble_eq_true rfl)) dX6_joinAhead_88 ⟨hRc, hRs⟩) hS (fun q _ h => fA_le hS.1 q h) (fA_le hS.1) (fun r9 u9 t9 H1 locs ht9 hvm9 hw9 hB9 hz9 hk9 hS => ?_)
        obtain ⟨μa, ra⟩ := u9
        obtain ⟨hP, -⟩ := hB9
        rw [ht9] at hP
        generalize H1 = H at hP hS ⊢
        obtain ⟨e9, hw9⟩ := hw9
        have e9 : r9 = iZ ra := e9
        subst e9
        simp only at hP hw9
        have hμa := hw9; clear hw9
        rw [hμa.1] at hP; have hμa := hμa.2
        have hra := hμa
        refine va_mmax hx hb (hml.trans hl.1.symm) hown (hts _ k467) (hts _ k75) (hts _ k4) (hts _ k76) (Nat.le_trans (Nat.le_of_ble_eq_true rfl) hRf) (Nat.le_trans (m := 94) (Nat.le_of_ble_eq_true rfl) hRl) hRc hRs dX6_joinAhead_91 ?_
        refine lv_topi (fun x9 ex9 => ?_)
        obtain rfl : x9 = iZ (max (i + 1) ra) := ex9.trans (iZ_mx (by constructor <;> (first | ((try clear hμa); (try clear hμq); (try clear hra); (try clear hrq); (try clear hr01); omega) | omega)) (by constructor <;> (first | ((try clear hμa); (try clear hμq); (try clear hra); (try clear hrq); (try clear hr01); omega) | omega)))
        refine lv_istore (lv' := [(4, .int (iZ (max (i + 1) ra))), (3, .int (iZ (p2))), (2, .int (iZ (p1))), (1, .ref (h0 + q)), (0, .ref (h0 + 38))]) hx hb dX6_joinAhead_94 hl (by decide) rfl (fun ls hl => ?_)
        refine lv_goto (tgt := 3) hx hb dX6_joinAhead_96 (by decide) ?_
        exact ih (max (i + 1) ra) (sg) μ H locs ls (by rfl) (by (first | ((try clear hμa); (try clear hμq); (try clear hra); (try clear hrq); (try clear hr01); omega) | omega)) (by rw [show (max (i + 1) ra).toNat = m_ + 1 by (first | ((try clear hμa); (try clear hμq); (try clear hra); (try clear hrq); (try clear hr01); omega) | omega)]; exact e4_.trans hD) (by (first | ((try clear hμa); (try clear hμq); (try clear hra); (try clear hrq); (try clear hr01); omega) | omega)) hP hS (lv_sub hl [0, 1, 2, 3, 4] rfl)
      · have c1_ := (e7_ (by (first | ((try clear hμa); (try clear hμq); (try clear hra); (try clear hrq); (try clear hr01); omega) | omega))).1
        refine lv_aload_n hx hb dX6_joinAhead_22 rfl (lv_at hl 3 rfl) ?_
        refine fz_get (D := (dC, dI)) (ci := 4) (v := .ref (h0 + (q + 2))) (C := RX4) (T := TX4) (N := 8) hx hb hts inG4 hown hK hP (k := q) (by (first | ((try clear hμa); (try clear hμq); (try clear hra); (try clear hrq); (try clear hr01); omega) | omega)) (F := (sRF h0 q)) (sE_rowO hq) rfl 1 (by decide) (hts _ k84) (fun _ h9 => h9) rfl dX6_joinAhead_23 ?_
        refine lv_iload hx hb dX6_joinAhead_26 (lv_at hl 0 rfl) ?_
        refine fz_ld (k := (q + 2)) (n := rm) hx hb hK hP 0 (by (first | ((try clear hμa); (try clear hμq); (try clear hra); (try clear hrq); (try clear hr01); omega) | omega)) (sE_rowA (r := 2) hq (by decide)) rfl ⟨by (first | ((try clear hμa); (try clear hμq); (try clear hra); (try clear hrq); (try clear hr01); omega) | omega), by (first | ((try clear hμa); (try clear hμq); (try clear hra); (try clear hrq); (try clear hr01); omega) | omega)⟩ (by (first | ((try clear hμa); (try clear hμq); (try clear hra); (try clear hrq); (try clear hr01); omega) | omega)) dX6_joinAhead_28 ?_
        refine lv_iload hx hb dX6_joinAhead_29 (lv_at hl 0 rfl) ?_
        refine lv_isub hx hb dX6_joinAhead_31 ?_
        refine lv_topi (fun x9 ex9 => ?_)
        obtain rfl : x9 = iZ ((μ (q + 2) (i).toNat) - i) := ex9.trans (iZ_sub _ _)
        refine lv_iconst (v := iZ 1) hx hb dX6_joinAhead_32 rfl ?_
        refine lv_isub hx hb dX6_joinAhead_33 ?_
        refine lv_topi (fun x9 ex9 => ?_)
        obtain rfl : x9 = iZ (((μ (q + 2) (i).toNat) - i) - 1) := ex9.trans (iZ_sub _ _)
        refine lv_istore (lv' := [(5, .int (iZ (((μ (q + 2) (i).toNat) - i) - 1))), (4, .int (iZ (i))), (3, .int (iZ (p2))), (2, .int (iZ (p1))), (1, .ref (h0 + q)), (0, .ref (h0 + 38))]) hx hb dX6_joinAhead_34 hl (by decide) rfl (fun ls hl => ?_)
        refine lv_iload hx hb dX6_joinAhead_36 (lv_at hl 1 rfl) ?_
        refine lv_iload hx hb dX6_joinAhead_38 (lv_at hl 0 rfl) ?_
        refine lv_isub hx hb dX6_joinAhead_40 ?_
        refine lv_topi (fun x9 ex9 => ?_)
        obtain rfl : x9 = iZ (i - (((μ (q + 2) (i).toNat) - i) - 1)) := ex9.trans (iZ_sub _ _)
        refine lv_iload_n hx hb dX6_joinAhead_41 rfl (lv_at hl 3 rfl) ?_
        refine fz_icmp_lt (tgt := 81) (by constructor <;> (first | ((try clear hμa); (try clear hμq); (try clear hra); (try clear hrq); (try clear hr01); omega) | omega)) (by constructor <;> (first | ((try clear hμa); (try clear hμq); (try clear hra); (try clear hrq); (try clear hr01); omega) | omega)) hx hb dX6_joinAhead_42 (by decide) (fun c42_ => ?_) (fun c42_ => ?_)
        · refine lv_iload hx hb dX6_joinAhead_81 (lv_at hl 1 rfl) ?_
          refine lv_iconst (v := iZ 1) hx hb dX6_joinAhead_83 rfl ?_
          refine lv_iadd hx hb dX6_joinAhead_84 ?_
          refine lv_topi (fun x9 ex9 => ?_)
          obtain rfl : x9 = iZ (i + 1) := ex9.trans (iZ_add _ _)
          refine lv_aload_n hx hb dX6_joinAhead_85 rfl (lv_at hl 4 rfl) ?_
          refine lv_iload hx hb dX6_joinAhead_86 (lv_at hl 1 rfl) ?_
          refine va_calli (va_runV (As := [.int (iZ (i))]) (rest := [.int (iZ (i + 1))]) ⟨hx, hb, hml, hown, hts⟩ (s_Rafter l dC dI cI cZ cII cIII h0 H.size μ (q) (rm) (i) (hq) (by first | assumption | ((try clear hμa); (try clear hμq); (try clear hra); (try clear hrq); (try clear hr01); omega) | omega | exact ⟨by (first | ((try clear hμa); (try clear hμq); (try clear hra); (try clear hrq); (try clear hr01); omega) | omega), by (first | ((try clear hμa); (try clear hμq); (try clear hra); (try clear hrq); (try clear hr01); omega) | omega)⟩) (by constructor <;> (first | ((try clear hμa); (try clear hμq); (try clear hra); (try clear hrq); (try clear hr01); omega) | omega))) (cwV 1 hts (gV_G k437 k438 k439 k3 k440) rfl rfl rfl (by decide +kernel) ⟨by show 1 + 1 ≤ _; omega, by show 8 + (2 + 11) + (14) ≤ _; omega⟩) ⟨fun a U g mk q => by obtain ⟨q0, q1, qP, qK, qM⟩ := q; exact ⟨q0, q1, qP, va_K.moved (u := U) (U := U.calling g mk a) (Vm.Alike.refl U.vm) qK, qM⟩, va_recv hK hP (ci := 4) (q0 := q) rfl ((fw_get (by (first | ((try clear hμa); (try clear hμq); (try clear hra); (try clear hrq); (try clear hr01); omega) | omega))).trans (by rw [(sE_rowO hq)])), fun U hU hW => ⟨rfl, by rw [hU], by rw [hU]; exact hP, va_K.moved hW.alike hK, xM_warm hW hM⟩⟩ rfl rfl hl.1 rfl (lv_room (Nat.le_of_ble_eq_true rfl)) dX6_joinAhead_88 ⟨hRc, hRs⟩) hS (fun q _ h => fA_le hS.1 q h) (fA_le hS.1) (fun r9 u9 t9 H1 locs ht9 hvm9 hw9 hB9 hz9 hk9 hS => ?_)
          obtain ⟨μa, ra⟩ := u9
          obtain ⟨hP, -⟩ := hB9
          rw [ht9] at hP
          generalize H1 = H at hP hS ⊢
          obtain ⟨e9, hw9⟩ := hw9
          have e9 : r9 = iZ ra := e9
          subst e9
          simp only at hP hw9
          have hμa := hw9; clear hw9
          rw [hμa.1] at hP; have hμa := hμa.2
          have hra := hμa
          refine va_mmax hx hb (hml.trans hl.1.symm) hown (hts _ k467) (hts _ k75) (hts _ k4) (hts _ k76) (Nat.le_trans (Nat.le_of_ble_eq_true rfl) hRf) (Nat.le_trans (m := 94) (Nat.le_of_ble_eq_true rfl) hRl) hRc hRs dX6_joinAhead_91 ?_
          refine lv_topi (fun x9 ex9 => ?_)
          obtain rfl : x9 = iZ (max (i + 1) ra) := ex9.trans (iZ_mx (by constructor <;> (first | ((try clear hμa); (try clear hμq); (try clear hra); (try clear hrq); (try clear hr01); omega) | omega)) (by constructor <;> (first | ((try clear hμa); (try clear hμq); (try clear hra); (try clear hrq); (try clear hr01); omega) | omega)))
          refine lv_istore (lv' := [(4, .int (iZ (max (i + 1) ra))), (5, .int (iZ (((μ (q + 2) (i).toNat) - i) - 1))), (3, .int (iZ (p2))), (2, .int (iZ (p1))), (1, .ref (h0 + q)), (0, .ref (h0 + 38))]) hx hb dX6_joinAhead_94 hl (by decide) rfl (fun ls hl => ?_)
          refine lv_goto (tgt := 3) hx hb dX6_joinAhead_96 (by decide) ?_
          exact ih (max (i + 1) ra) (sg) μ H locs ls (by rfl) (by (first | ((try clear hμa); (try clear hμq); (try clear hra); (try clear hrq); (try clear hr01); omega) | omega)) (by rw [show (max (i + 1) ra).toNat = m_ + 1 by (first | ((try clear hμa); (try clear hμq); (try clear hra); (try clear hrq); (try clear hr01); omega) | omega)]; exact e4_.trans hD) (by (first | ((try clear hμa); (try clear hμq); (try clear hra); (try clear hrq); (try clear hr01); omega) | omega)) hP hS (lv_sub hl [0, 2, 3, 4, 5] rfl)
        · refine lv_aload_n hx hb dX6_joinAhead_45 rfl (lv_at hl 4 rfl) ?_
          refine lv_iload hx hb dX6_joinAhead_46 (lv_at hl 1 rfl) ?_
          refine lv_iload hx hb dX6_joinAhead_48 (lv_at hl 0 rfl) ?_
          refine lv_isub hx hb dX6_joinAhead_50 ?_
          refine lv_topi (fun x9 ex9 => ?_)
          obtain rfl : x9 = iZ (i - (((μ (q + 2) (i).toNat) - i) - 1)) := ex9.trans (iZ_sub _ _)
          refine lv_aload_n hx hb dX6_joinAhead_51 rfl (lv_at hl 4 rfl) ?_
          refine lv_iload hx hb dX6_joinAhead_52 (lv_at hl 1 rfl) ?_
          refine lv_iconst (v := iZ 1) hx hb dX6_joinAhead_54 rfl ?_
          refine lv_iadd hx hb dX6_joinAhead_55 ?_
          refine lv_topi (fun x9 ex9 => ?_)
          obtain rfl : x9 = iZ (i + 1) := ex9.trans (iZ_add _ _)
          refine lv_iload hx hb dX6_joinAhead_56 (lv_at hl 0 rfl) ?_
          refine va_calli (va_runV (As := [.int (iZ (i - (((μ (q + 2) (i).toNat) - i) - 1))), .ref (h0 + q), .int (iZ (i + 1)), .int (iZ (((μ (q + 2) (i).toNat) - i) - 1))]) (rest := []) ⟨hx, hb, hml, hown, hts⟩ (s_Rmatches l dC dI cI cZ cII cIII h0 H.size μ (q) (rm) (q) (rm) (i - (((μ (q + 2) (i).toNat) - i) - 1)) (i + 1) (((μ (q + 2) (i).toNat) - i) - 1) (hq) (hq) (by exact hG.1) (by exact hG.1) (by first | assumption | ((try clear hμa); (try clear hμq); (try clear hra); (try clear hrq); (try clear hr01); omega) | omega | exact ⟨by (first | ((try clear hμa); (try clear hμq); (try clear hra); (try clear hrq); (try clear hr01); omega) | omega), by (first | ((try clear hμa); (try clear hμq); (try clear hra); (try clear hrq); (try clear hr01); omega) | omega)⟩) (by first | assumption | ((try clear hμa); (try clear hμq); (try clear hra); (try clear hrq); (try clear hr01); omega) | omega | exact ⟨by (first | ((try clear hμa); (try clear hμq); (try clear hra); (try clear hrq); (try clear hr01); omega) | omega), by (first | ((try clear hμa); (try clear hμq); (try clear hra); (try clear hrq); (try clear hr01); omega) | omega)⟩) (by first | assumption | ((try clear hμa); (try clear hμq); (try clear hra); (try clear hrq); (try clear hr01); omega) | omega | exact ⟨by (first | ((try clear hμa); (try clear hμq); (try clear hra); (try clear hrq); (try clear hr01); omega) | omega), by (first | ((try clear hμa); (try clear hμq); (try clear hra); (try clear hrq); (try clear hr01); omega) | omega)⟩) (by first | assumption | ((try clear hμa); (try clear hμq); (try clear hra); (try clear hrq); (try clear hr01); omega) | omega | exact ⟨by (first | ((try clear hμa); (try clear hμq); (try clear hra); (try clear hrq); (try clear hr01); omega) | omega), by (first | ((try clear hμa); (try clear hμq); (try clear hra); (try clear hrq); (try clear hr01); omega) | omega)⟩) (by first | assumption | ((try clear hμa); (try clear hμq); (try clear hra); (try clear hrq); (try clear hr01); omega) | omega | exact ⟨by (first | ((try clear hμa); (try clear hμq); (try clear hra); (try clear hrq); (try clear hr01); omega) | omega), by (first | ((try clear hμa); (try clear hμq); (try clear hra); (try clear hrq); (try clear hr01); omega) | omega)⟩) (by first | assumption | ((try clear hμa); (try clear hμq); (try clear hra); (try clear hrq); (try clear hr01); omega) | omega | exact ⟨by (first | ((try clear hμa); (try clear hμq); (try clear hra); (try clear hrq); (try clear hr01); omega) | omega), by (first | ((try clear hμa); (try clear hμq); (try clear hra); (try clear hrq); (try clear hr01); omega) | omega)⟩)) (cwV 4 hts (gV_G k441 k442 k443 k3 k444) rfl rfl rfl (by decide +kernel) ⟨by show 2 + 1 ≤ _; omega, by show 8 + (6 + 11) + (35) ≤ _; omega⟩) ⟨fun a U g mk q => by obtain ⟨q0, q1, qP, qK, qM⟩ := q; exact ⟨q0, q1, qP, va_K.moved (u := U) (U := U.calling g mk a) (Vm.Alike.refl U.vm) qK, qM⟩, va_recv hK hP (ci := 4) (q0 := q) rfl ((fw_get (by (first | ((try clear hμa); (try clear hμq); (try clear hra); (try clear hrq); (try clear hr01); omega) | omega))).trans (by rw [(sE_rowO hq)])), fun U hU hW => ⟨rfl, by rw [hU], by rw [hU]; exact hP, va_K.moved hW.alike hK, xM_warm hW hM⟩⟩ rfl rfl hl.1 rfl (lv_room (Nat.le_of_ble_eq_true rfl)) dX6_joinAhead_58 ⟨hRc, hRs⟩) hS (fun q _ h => fA_le hS.1 q h) (fA_le hS.1) (fun r9 u9 t9 H1 locs ht9 hvm9 hw9 hB9 hz9 hk9 hS => ?_)
          obtain ⟨μq, rq⟩ := u9
          obtain ⟨hP, -⟩ := hB9
          rw [ht9] at hP
          generalize H1 = H at hP hS ⊢
          obtain ⟨e9, hw9⟩ := hw9
          have e9 : r9 = iZ rq := e9
          subst e9
          simp only at hP hw9
          have hμq := hw9; clear hw9
          rw [hμq.1] at hP; have hμq := hμq.2
          have hrq := hμq
          have hr01 : rq = 0 ∨ rq = 1 := hrq.elim (fun h => Or.inr h.1) (fun h => Or.inl h.1)
          refine fz_if_eq (tgt := 81) (by constructor <;> (first | ((try clear hμa); (try clear hμq); (try clear hra); (try clear hrq); (try clear hr01); omega) | omega)) hx hb dX6_joinAhead_61 (by decide) (fun c61_ => ?_) (fun c61_ => ?_)
          · refine lv_iload hx hb dX6_joinAhead_81 (lv_at hl 1 rfl) ?_
            refine lv_iconst (v := iZ 1) hx hb dX6_joinAhead_83 rfl ?_
            refine lv_iadd hx hb dX6_joinAhead_84 ?_
            refine lv_topi (fun x9 ex9 => ?_)
            obtain rfl : x9 = iZ (i + 1) := ex9.trans (iZ_add _ _)
            refine lv_aload_n hx hb dX6_joinAhead_85 rfl (lv_at hl 4 rfl) ?_
            refine lv_iload hx hb dX6_joinAhead_86 (lv_at hl 1 rfl) ?_
            refine va_calli (va_runV (As := [.int (iZ (i))]) (rest := [.int (iZ (i + 1))]) ⟨hx, hb, hml, hown, hts⟩ (s_Rafter l dC dI cI cZ cII cIII h0 H.size μ (q) (rm) (i) (hq) (by first | assumption | ((try clear hμa); (try clear hμq); (try clear hra); (try clear hrq); (try clear hr01); omega) | omega | exact ⟨by (first | ((try clear hμa); (try clear hμq); (try clear hra); (try clear hrq); (try clear hr01); omega) | omega), by (first | ((try clear hμa); (try clear hμq); (try clear hra); (try clear hrq); (try clear hr01); omega) | omega)⟩) (by constructor <;> (first | ((try clear hμa); (try clear hμq); (try clear hra); (try clear hrq); (try clear hr01); omega) | omega))) (cwV 1 hts (gV_G k437 k438 k439 k3 k440) rfl rfl rfl (by decide +kernel) ⟨by show 1 + 1 ≤ _; omega, by show 8 + (2 + 11) + (14) ≤ _; omega⟩) ⟨fun a U g mk q => by obtain ⟨q0, q1, qP, qK, qM⟩ := q; exact ⟨q0, q1, qP, va_K.moved (u := U) (U := U.calling g mk a) (Vm.Alike.refl U.vm) qK, qM⟩, va_recv hK hP (ci := 4) (q0 := q) rfl ((fw_get (by (first | ((try clear hμa); (try clear hμq); (try clear hra); (try clear hrq); (try clear hr01); omega) | omega))).trans (by rw [(sE_rowO hq)])), fun U hU hW => ⟨rfl, by rw [hU], by rw [hU]; exact hP, va_K.moved hW.alike hK, xM_warm hW hM⟩⟩ rfl rfl hl.1 rfl (lv_room (Nat.le_of_ble_eq_true rfl)) dX6_joinAhead_88 ⟨hRc, hRs⟩) hS (fun q _ h => fA_le hS.1 q h) (fA_le hS.1) (fun r9 u9 t9 H1 locs ht9 hvm9 hw9 hB9 hz9 hk9 hS => ?_)
            obtain ⟨μa, ra⟩ := u9
            obtain ⟨hP, -⟩ := hB9
            rw [ht9] at hP
            generalize H1 = H at hP hS ⊢
            obtain ⟨e9, hw9⟩ := hw9
            have e9 : r9 = iZ ra := e9
            subst e9
            simp only at hP hw9
            have hμa := hw9; clear hw9
            rw [hμa.1] at hP; have hμa := hμa.2
            have hra := hμa
            refine va_mmax hx hb (hml.trans hl.1.symm) hown (hts _ k467) (hts _ k75) (hts _ k4) (hts _ k76) (Nat.le_trans (Nat.le_of_ble_eq_true rfl) hRf) (Nat.le_trans (m := 94) (Nat.le_of_ble_eq_true rfl) hRl) hRc hRs dX6_joinAhead_91 ?_
            refine lv_topi (fun x9 ex9 => ?_)
            obtain rfl : x9 = iZ (max (i + 1) ra) := ex9.trans (iZ_mx (by constructor <;> (first | ((try clear hμa); (try clear hμq); (try clear hra); (try clear hrq); (try clear hr01); omega) | omega)) (by constructor <;> (first | ((try clear hμa); (try clear hμq); (try clear hra); (try clear hrq); (try clear hr01); omega) | omega)))
            refine lv_istore (lv' := [(4, .int (iZ (max (i + 1) ra))), (5, .int (iZ (((μ (q + 2) (i).toNat) - i) - 1))), (3, .int (iZ (p2))), (2, .int (iZ (p1))), (1, .ref (h0 + q)), (0, .ref (h0 + 38))]) hx hb dX6_joinAhead_94 hl (by decide) rfl (fun ls hl => ?_)
            refine lv_goto (tgt := 3) hx hb dX6_joinAhead_96 (by decide) ?_
            exact ih (max (i + 1) ra) (sg) μ H locs ls (by rfl) (by (first | ((try clear hμa); (try clear hμq); (try clear hra); (try clear hrq); (try clear hr01); omega) | omega)) (by rw [show (max (i + 1) ra).toNat = m_ + 1 by (first | ((try clear hμa); (try clear hμq); (try clear hra); (try clear hrq); (try clear hr01); omega) | omega)]; exact e4_.trans hD) (by (first | ((try clear hμa); (try clear hμq); (try clear hra); (try clear hrq); (try clear hr01); omega) | omega)) hP hS (lv_sub hl [0, 2, 3, 4, 5] rfl)
          · have hmt := hrq.elim (fun h => h.2.2) (fun h => absurd h.1 (by (first | ((try clear hμa); (try clear hμq); (try clear hra); (try clear hrq); (try clear hr01); omega) | omega)))
            exact hexit64 (i) (((μ (q + 2) (i).toNat) - i) - 1) μ H locs ls (by rfl) (by
                                obtain ⟨c1_, c2_, c3_⟩ := e7_ (by (first | ((try clear hμa); (try clear hμq); (try clear hra); (try clear hrq); (try clear hr01); omega) | omega))
                                have c4_ := c3_.2.1
                                have hA := fun (t : Nat) (ht : (t : Int) < μ (q + 2) i.toNat - i - 1) => hmt t ht
                                have hDA := Dp_al (f := μ (q + 1)) (a := (i + 1).toNat) (b := (i - (μ (q + 2) i.toNat - i - 1)).toNat) (n := (μ (q + 2) i.toNat - i - 1).toNat) (fun t ht => sAl_s (hA t (by (first | ((try clear hμa); (try clear hμq); (try clear hra); (try clear hrq); (try clear hr01); omega) | omega))))
                                refine ⟨⟨by (first | ((try clear hμa); (try clear hμq); (try clear hra); (try clear hrq); (try clear hr01); omega) | omega), by (first | ((try clear hμa); (try clear hμq); (try clear hra); (try clear hrq); (try clear hr01); omega) | omega), by (first | ((try clear hμa); (try clear hμq); (try clear hra); (try clear hrq); (try clear hr01); omega) | omega), by (first | ((try clear hμa); (try clear hμq); (try clear hra); (try clear hrq); (try clear hr01); omega) | omega)⟩, fun t ht => sAl_s (hA t ht), ?_⟩
                                rw [show (i - (μ (q + 2) i.toNat - i - 1)).toNat + (μ (q + 2) i.toNat - i - 1).toNat = (i - (μ (q + 2) i.toNat - i - 1) + (μ (q + 2) i.toNat - i - 1)).toNat by (first | ((try clear hμa); (try clear hμq); (try clear hra); (try clear hrq); (try clear hr01); omega) | omega), show (i + 1).toNat + (μ (q + 2) i.toNat - i - 1).toNat = m_ by (first | ((try clear hμa); (try clear hμq); (try clear hra); (try clear hrq); (try clear hr01); omega) | omega), show (i + 1).toNat = i.toNat + 1 by (first | ((try clear hμa); (try clear hμq); (try clear hra); (try clear hrq); (try clear hr01); omega) | omega), c4_, Int.sub_self] at hDA
                                omega) (by (first | ((try clear hμa); (try clear hμq); (try clear hra); (try clear hrq); (try clear hr01); omega) | omega)) hP hS (lv_sub hl [0, 1, 2, 3, 4, 5] rfl)
set_option maxHeartbeats 4000000 in
set_option maxRecDepth 100000 in
theorem s_TjoinAhead (l : Launch) (dC : Nat → ClassId) (dI : Nat → Nat → Nat) (cI cZ cII cIII : ClassId) (h0 sz : Nat) (μ : va_M) (q : Nat) (rm : Nat) (p1 : Int) (p2 : Int) (bh : Int) (hq : rowB q rm) (hG : rG μ q rm) (hrg : rng μ q p1 bh) (hp2 : p2 = μ q 5 - bh) : Met l yX6_joinAhead (Cond.code yX6_joinAhead cX6_joinAhead 6 (some .boolean) :: wsG) ({ frames := 4, cells := 0, slots := 0, locals := 94 } : Room) (va_Pc [.ref (h0 + 38), .ref (h0 + q), .int (iZ (p1)), .int (iZ (p2))] (fun U => U.heap.size = sz ∧ va_P (dC, dI) vwCl (fw (sE cI cZ cII cIII h0) h0 233 μ) U.heap ∧ va_K (dC, dI) vwCl (sT cI cZ cII cIII) U ∧ xM U)) (va_Qi (fun (r9 : Int32) (u : va_M × Int) => r9 = iZ u.2 ∧ (fun (u : va_M) (r : Int) => (r = 0 ∨ r = 1) ∧ fr (LTq q) μ u ∧ rG u q rm ∧ rng u q p1 bh ∧ (r = 0 → u q 5 = μ q 5)) u.1 u.2) (fun u t => va_P (dC, dI) vwCl (fw (sE cI cZ cII cIII h0) h0 233 u.1) t.heap ∧ va_K (dC, dI) vwCl (sT cI cZ cII cIII) t) (fA h0 233 sz)) 0 0 (fA h0 233 sz) := by
  refine Met.ofW (cc := cX6_joinAhead) (maxL := 6) (ret := (some .boolean)) (by decide) rfl ?_
  intro p e s m args below meth c s₁ B hml hv
  obtain ⟨rfl, hsz, hP, hK, hM⟩ := hv
  have hx := B.exec
  have hb := B.bytes
  have hr := B.returns
  have hts : ∀ w ∈ wsG, w.before _ s = true := hG_of (atoms_spec (ws := (Cond.code yX6_joinAhead cX6_joinAhead 6 (some .boolean) :: wsG)) B.pre)
  have hown : s.vm.findClass RX6 = some m.cls := findClass_of_methodNamed B.named
  have hlocks := B.notSynchronized
  subst hsz
  have hS : va_S (fA h0 233 s.heap.size) s.heap s.heap [] := va_S.rf
  have hl := lv_entry ([.ref (h0 + 38), .ref (h0 + q), .int (iZ (p1)), .int (iZ (p2))]) (n := 6) (Nat.le_of_ble_eq_true rfl)
  rw [lg_entry_eq]
  generalize (lg_sl ([.ref (h0 + 38), .ref (h0 + q), .int (iZ (p1)), .int (iZ (p2))]) ++ List.replicate (6 - (lg_sl ([.ref (h0 + 38), .ref (h0 + q), .int (iZ (p1)), .int (iZ (p2))])).length) Slot.unset).toArray = ls at hl ⊢
  have hl : lv_has ls 6 [(0, .ref (h0 + 38)), (1, .ref (h0 + q)), (2, .int (iZ (p1))), (3, .int (iZ (p2)))] := hl
  have hqb := rowB_b hq
  refine lv_iload_n hx hb dX6_joinAhead_0 rfl (lv_at hl 2 rfl) ?_
  refine lv_istore (lv' := [(4, .int (iZ (p1))), (0, .ref (h0 + 38)), (1, .ref (h0 + q)), (2, .int (iZ (p1))), (3, .int (iZ (p2)))]) hx hb dX6_joinAhead_1 hl (by decide) rfl (fun ls hl => ?_)
  refine LX6_joinAhead_3 hx hb hml hown hts hK hM (Nat.le_of_ble_eq_true rfl) (Nat.le_of_ble_eq_true rfl) (Nat.le_of_ble_eq_true rfl) (Nat.le_of_ble_eq_true rfl) (μ) (q) (rm) (p1) (p2) (bh) (by assumption) (by exact hG) (by assumption) (by assumption) ?_ ?_ _ (p1) (0) μ s.heap [] ls (by rfl) (by exact ⟨Int.le_refl _, Or.inr rfl⟩) (by exact rfl) (Nat.lt_succ_self _) hP hS (lv_sub hl [0, 4, 3, 2, 1] rfl)
  · intro i_1 sg_1 μ1_ H locs ls q1_1 q2_1 q5_1 hP hS hl
    have hl : lv_has ls 6 [(5, .int (iZ (sg_1))), (4, .int (iZ (i_1))), (3, .int (iZ (p2))), (2, .int (iZ (p1))), (1, .ref (h0 + q)), (0, .ref (h0 + 38))] := hl
    have hPn64 := hP
    obtain rfl := q1_1
    have hP := hPn64
    have jk_ := q2_1
    have jr_ := q5_1
    have jk1_ := jk_.1
    have hrm := rG_rm hq hG
    have hrx := hrg.1
    have h7_ : μ1_ q 7 = 0 := (rG_ov hG).elim id (fun h => by (first | ((try clear hμ2); (try clear hr1_); omega) | omega))
    refine lv_aload_n hx hb dX6_joinAhead_64 rfl (lv_at hl 5 rfl) ?_
    refine lv_aload_n hx hb dX6_joinAhead_65 rfl (lv_at hl 4 rfl) ?_
    refine lv_iload hx hb dX6_joinAhead_66 (lv_at hl 1 rfl) ?_
    refine lv_iconst (v := iZ 1) hx hb dX6_joinAhead_68 rfl ?_
    refine lv_iadd hx hb dX6_joinAhead_69 ?_
    refine lv_topi (fun x9 ex9 => ?_)
    obtain rfl : x9 = iZ (i_1 + 1) := ex9.trans (iZ_add _ _)
    refine lv_iload hx hb dX6_joinAhead_70 (lv_at hl 1 rfl) ?_
    refine lv_iload hx hb dX6_joinAhead_72 (lv_at hl 0 rfl) ?_
    refine lv_isub hx hb dX6_joinAhead_74 ?_
    refine lv_topi (fun x9 ex9 => ?_)
    obtain rfl : x9 = iZ (i_1 - sg_1) := ex9.trans (iZ_sub _ _)
    refine lv_iload hx hb dX6_joinAhead_75 (lv_at hl 0 rfl) ?_
    refine va_calli (va_runV (As := [.ref (h0 + q), .int (iZ (i_1 + 1)), .int (iZ (i_1 - sg_1)), .int (iZ (sg_1))]) (rest := []) ⟨hx, hb, hml, hown, hts⟩ (s_Tjoin l dC dI cI cZ cII cIII h0 H.size μ1_ (q) (rm) (i_1 + 1) (i_1 - sg_1) (sg_1) (hq) (by exact hG) (by exact h7_) (by exact jk_)) (cwV 4 hts (gV_G k448 k450 ks_yX6_join k6 k451) rfl rfl rfl (by decide +kernel) ⟨Nat.le_of_ble_eq_true rfl, Nat.le_of_ble_eq_true rfl⟩) ⟨fun a U g mk q => by obtain ⟨q0, q1, qP, qK, qM⟩ := q; exact ⟨q0, q1, qP, va_K.moved (u := U) (U := U.calling g mk a) (Vm.Alike.refl U.vm) qK, qM⟩, va_recv hK hP (ci := 6) (q0 := 38) rfl ((fw_get (by decide)).trans (by rw [sE_38])), fun U hU hW => ⟨rfl, by rw [hU], by rw [hU]; exact hP, va_K.moved hW.alike hK, xM_warm hW hM⟩⟩ rfl rfl hl.1 rfl (lv_room (Nat.le_of_ble_eq_true rfl)) dX6_joinAhead_77 ⟨Nat.le_of_ble_eq_true rfl, Nat.le_of_ble_eq_true rfl⟩) hS (fun q _ h => fA_le hS.1 q h) (fA_le hS.1) (fun r9 u9 t9 H1 locs ht9 hvm9 hw9 hB9 hz9 hk9 hS => ?_)
    obtain ⟨μ2, r3⟩ := u9
    obtain ⟨hP, -⟩ := hB9
    rw [ht9] at hP
    generalize H1 = H at hP hS ⊢
    obtain ⟨e9, hw9⟩ := hw9
    have e9 : r9 = iZ r3 := e9
    subst e9
    simp only at hP hw9
    have hμ2 := hw9; clear hw9
    have hr1_ := hμ2.1
    exact W.zret (v := iZ (r3)) hx hb hr (by exact fz_narZ (by (first | ((try clear hμ2); (try clear hr1_); omega) | omega))) (fun t9 ht9 hW9 => ⟨⟨iZ (r3), (μ2, r3), rfl, ⟨rfl, (by
                dsimp only
                obtain ⟨k1, k2, k3, k4, k5⟩ := hμ2
                exact ⟨Or.inr k1, fr_mono k3 (fun x y h => Or.inl h), k2, rng_rm hrg (by (first | ((try clear hμ2); (try clear hr1_); omega) | omega)) (by (first | ((try clear hμ2); (try clear hr1_); omega) | omega)) (by (first | ((try clear hμ2); (try clear hr1_); omega) | omega)) k4 k5.1 k5.2, fun h => absurd (k1.symm.trans h) (by decide)⟩)⟩, by rw [ht9]; exact hP, va_K.moved hW9.alike hK⟩, hS.F ht9⟩) hS.2.2 dX6_joinAhead_80
  · intro i_4 sg_4 μ4_ H locs ls q3_4 hP hS hl
    have hl : lv_has ls 6 [] := hl
    have hPn99 := hP
    obtain rfl := q3_4
    have hP := hPn99
    refine lv_iconst (v := iZ 0) hx hb dX6_joinAhead_99 rfl ?_
    exact W.zret (v := iZ (0)) hx hb hr (by decide +kernel) (fun t9 ht9 hW9 => ⟨⟨iZ (0), (μ4_, 0), rfl, ⟨rfl, (by
                dsimp only
                exact ⟨Or.inl rfl, fr_rfl, hG, hrg, fun _ => rfl⟩)⟩, by rw [ht9]; exact hP, va_K.moved hW9.alike hK⟩, hS.F ht9⟩) hS.2.2 dX6_joinAhead_100
set_option maxHeartbeats 4000000 in
set_option maxRecDepth 100000 in
theorem LX6_joinBehind_3 {p : Program} {l : Launch} {e : Env} {R : Room} {s : State} {m : MethodId} {args : Array Value} {below : List Frame} {meth : Method} {c : Code} {cells slots : Nat} {Q : State → Prop} {dC : Nat → ClassId} {dI : Nat → Nat → Nat} {h0 : Nat} {cI cZ cII cIII : ClassId} (hx : p.tables.exec = Jvm.exec) (hb : c.code = cX6_joinBehind) (hml : c.maxLocals = 7) (hown : s.vm.findClass RX6 = some m.cls) (hts : ∀ w ∈ wsG, w.before args s = true) (hK : va_K (dC, dI) vwCl (sT cI cZ cII cIII) s) (hM : xM s) (hRf : 4 ≤ R.frames) (hRl : 94 ≤ R.locals) (hRc : cells ≤ R.cells) (hRs : slots ≤ R.slots) (μ0 : va_M) (q : Nat) (rm : Nat) (p1 : Int) (p2 : Int) (bh : Int) (hq : rowB q rm) (hG : rG μ0 q rm) (hrg : rng μ0 q p1 bh) (hp2 : p2 = μ0 q 5 - bh) (hexit72 : ∀ (i : Int) (nx : Int) (sg : Int) (μ : va_M) (H : Heap) (locs : List Loc) (ls : Array Slot), (μ = μ0) → (jok μ0 q (i + 1) (nx) sg) → (p1 ≤ nx ∧ nx + sg ≤ p2 ∧ p1 < p2 ∧ -5000 ≤ i ∧ i ≤ 5000 ∧ -5000 ≤ sg ∧ sg ≤ 5000) → va_P (dC, dI) vwCl (fw (sE cI cZ cII cIII h0) h0 233 μ) H → va_S (fA h0 233 s.heap.size) s.heap H locs → lv_has ls 7 [(6, .int (iZ (nx))), (5, .int (iZ (sg))), (4, .int (iZ (i))), (3, .int (iZ (p2))), (2, .int (iZ (p1))), (1, .ref (h0 + q)), (0, .ref (h0 + 38))] → W p l e R s m args below meth c H locs cells slots Q (F0 m 72 ls [])) (hexit104 : ∀ (i : Int) (nx : Int) (sg : Int) (μ : va_M) (H : Heap) (locs : List Loc) (ls : Array Slot), (μ = μ0) → va_P (dC, dI) vwCl (fw (sE cI cZ cII cIII h0) h0 233 μ) H → va_S (fA h0 233 s.heap.size) s.heap H locs → lv_has ls 7 [] → W p l e R s m args below meth c H locs cells slots Q (F0 m 104 ls [])) :
    ∀ (n9 : Nat) (i : Int) (nx : Int) (sg : Int) (μ : va_M) (H : Heap) (locs : List Loc) (ls : Array Slot), (μ = μ0) → (p1 ≤ i ∧ (i ≤ p2 ∨ i = p1)) → (Dp (μ0 (q + 1)) i.toNat = Dp (μ0 (q + 1)) p1.toNat) → (1101 - i).toNat < n9 → va_P (dC, dI) vwCl (fw (sE cI cZ cII cIII h0) h0 233 μ) H → va_S (fA h0 233 s.heap.size) s.heap H locs → lv_has ls 7 [(4, .int (iZ (i))), (3, .int (iZ (p2))), (2, .int (iZ (p1))), (1, .ref (h0 + q)), (0, .ref (h0 + 38))] → W p l e R s m args below meth c H locs cells slots Q (F0 m 3 ls []) := by
  intro n9
  induction n9 with
  | zero => intro i nx sg μ H locs ls hm9_ hi hD hm9 hP hS hl; exact absurd hm9 (Nat.not_lt_zero _)
  | succ n9 ih =>
    intro i nx sg μ H locs ls hm9_ hi hD hm9 hP hS hl
    subst hm9_
    have hrm := rG_rm hq hG
    have hqb := rowB_b hq
    have hr1 := hrg.1
    refine lv_iload hx hb dX6_joinBehind_3 (lv_at hl 0 rfl) ?_
    refine lv_iload_n hx hb dX6_joinBehind_5 rfl (lv_at hl 1 rfl) ?_
    refine fz_icmp_ge (tgt := 104) (by constructor <;> (first | ((try clear hμa); (try clear hμq); (try clear hra); (try clear hrq); (try clear hr01); omega) | omega)) (by constructor <;> (first | ((try clear hμa); (try clear hμq); (try clear hra); (try clear hrq); (try clear hr01); omega) | omega)) hx hb dX6_joinBehind_6 (by decide) (fun c6_ => ?_) (fun c6_ => ?_)
    · exact hexit104 (i) (nx) (sg) μ H locs ls (by rfl) hP hS (lv_sub hl [] rfl)
    · have hsg : seg (μ (q + 1)) p1.toNat p2.toNat := by rw [hp2]; exact hrg.2 (by (first | ((try clear hμa); (try clear hμq); (try clear hra); (try clear hrq); (try clear hr01); omega) | omega))
      obtain ⟨m_, e1_, e2_, e3_, e4_, e5_, e6_, e7_⟩ := seg_af hG (a := p1.toNat) (b := p2.toNat) (i := i.toNat) (by (first | ((try clear hμa); (try clear hμq); (try clear hra); (try clear hrq); (try clear hr01); omega) | omega)) hsg (by (first | ((try clear hμa); (try clear hμq); (try clear hra); (try clear hrq); (try clear hr01); omega) | omega)) (by (first | ((try clear hμa); (try clear hμq); (try clear hra); (try clear hrq); (try clear hr01); omega) | omega)) hD
      have hs1 := hG.1 i.toNat
      refine lv_aload_n hx hb dX6_joinBehind_9 rfl (lv_at hl 3 rfl) ?_
      refine fz_get (D := (dC, dI)) (ci := 4) (v := .ref (h0 + (q + 1))) (C := RX4) (T := TX4) (N := 8) hx hb hts inG4 hown hK hP (k := q) (by (first | ((try clear hμa); (try clear hμq); (try clear hra); (try clear hrq); (try clear hr01); omega) | omega)) (F := (sRF h0 q)) (sE_rowO hq) rfl 0 (by decide) (hts _ k79) (fun _ h9 => h9) rfl dX6_joinBehind_10 ?_
      refine lv_iload hx hb dX6_joinBehind_13 (lv_at hl 0 rfl) ?_
      refine fz_ld (k := (q + 1)) (n := rm) hx hb hK hP 0 (by (first | ((try clear hμa); (try clear hμq); (try clear hra); (try clear hrq); (try clear hr01); omega) | omega)) (sE_rowA (r := 1) hq (by decide)) rfl ⟨by (first | ((try clear hμa); (try clear hμq); (try clear hra); (try clear hrq); (try clear hr01); omega) | omega), by (first | ((try clear hμa); (try clear hμq); (try clear hra); (try clear hrq); (try clear hr01); omega) | omega)⟩ (by (first | ((try clear hμa); (try clear hμq); (try clear hra); (try clear hrq); (try clear hr01); omega) | omega)) dX6_joinBehind_15 ?_
      refine lv_sipush (v := iZ 514) hx hb dX6_joinBehind_16 rfl ?_
      refine fz_icmp_ne (tgt := 86) (by constructor <;> (first | ((try clear hμa); (try clear hμq); (try clear hra); (try clear hrq); (try clear hr01); omega) | omega)) (by decide) hx hb dX6_joinBehind_19 (by decide) (fun c19_ => ?_) (fun c19_ => ?_)
      · refine lv_iload hx hb dX6_joinBehind_86 (lv_at hl 0 rfl) ?_
        refine lv_iconst (v := iZ 1) hx hb dX6_joinBehind_88 rfl ?_
        refine lv_iadd hx hb dX6_joinBehind_89 ?_
        refine lv_topi (fun x9 ex9 => ?_)
        obtain rfl : x9 = iZ (i + 1) := ex9.trans (iZ_add _ _)
        refine lv_aload_n hx hb dX6_joinBehind_90 rfl (lv_at hl 3 rfl) ?_
        refine lv_iload hx hb dX6_joinBehind_91 (lv_at hl 0 rfl) ?_
        refine va_calli (va_runV (As := [.int (iZ (i))]) (rest := [.int (iZ (i + 1))]) ⟨hx, hb, hml, hown, hts⟩ (s_Rafter l dC dI cI cZ cII cIII h0 H.size μ (q) (rm) (i) (hq) (by first | assumption | ((try clear hμa); (try clear hμq); (try clear hra); (try clear hrq); (try clear hr01); omega) | omega | exact ⟨by (first | ((try clear hμa); (try clear hμq); (try clear hra); (try clear hrq); (try clear hr01); omega) | omega), by (first | ((try clear hμa); (try clear hμq); (try clear hra); (try clear hrq); (try clear hr01); omega) | omega)⟩) (by constructor <;> (first | ((try clear hμa); (try clear hμq); (try clear hra); (try clear hrq); (try clear hr01); omega) | omega))) (cwV 1 hts (gV_G k437 k438 k439 k3 k440) rfl rfl rfl (by decide +kernel) ⟨by show 1 + 1 ≤ _; omega, by show 8 + (2 + 11) + (14) ≤ _; omega⟩) ⟨fun a U g mk q => by obtain ⟨q0, q1, qP, qK, qM⟩ := q; exact ⟨q0, q1, qP, va_K.moved (u := U) (U := U.calling g mk a) (Vm.Alike.refl U.vm) qK, qM⟩, va_recv hK hP (ci := 4) (q0 := q) rfl ((fw_get (by (first | ((try clear hμa); (try clear hμq); (try clear hra); (try clear hrq); (try clear hr01); omega) | omega))).trans (by rw [(sE_rowO hq)])), fun U hU hW => ⟨rfl, by rw [hU], by rw [hU]; exact hP, va_K.moved hW.alike hK, xM_warm hW hM⟩⟩ rfl rfl hl.1 rfl (lv_room (Nat.le_of_ble_eq_true rfl)) dX6_joinBehind_93 ⟨hRc, hRs⟩) hS (fun q _ h => fA_le hS.1 q h) (fA_le hS.1) (fun r9 u9 t9 H1 locs ht9 hvm9 hw9 hB9 hz9 hk9 hS => ?_)
        obtain ⟨μa, ra⟩ := u9
        obtain ⟨hP, -⟩ := hB9
        rw [ht9] at hP
        generalize H1 = H at hP hS ⊢
        obtain ⟨e9, hw9⟩ := hw9
        have e9 : r9 = iZ ra := e9
        subst e9
        simp only at hP hw9
        have hμa := hw9; clear hw9
        rw [hμa.1] at hP; have hμa := hμa.2
        have hra := hμa
        refine va_mmax hx hb (hml.trans hl.1.symm) hown (hts _ k467) (hts _ k75) (hts _ k4) (hts _ k76) (Nat.le_trans (Nat.le_of_ble_eq_true rfl) hRf) (Nat.le_trans (m := 94) (Nat.le_of_ble_eq_true rfl) hRl) hRc hRs dX6_joinBehind_96 ?_
        refine lv_topi (fun x9 ex9 => ?_)
        obtain rfl : x9 = iZ (max (i + 1) ra) := ex9.trans (iZ_mx (by constructor <;> (first | ((try clear hμa); (try clear hμq); (try clear hra); (try clear hrq); (try clear hr01); omega) | omega)) (by constructor <;> (first | ((try clear hμa); (try clear hμq); (try clear hra); (try clear hrq); (try clear hr01); omega) | omega)))
        refine lv_istore (lv' := [(4, .int (iZ (max (i + 1) ra))), (3, .int (iZ (p2))), (2, .int (iZ (p1))), (1, .ref (h0 + q)), (0, .ref (h0 + 38))]) hx hb dX6_joinBehind_99 hl (by decide) rfl (fun ls hl => ?_)
        refine lv_goto (tgt := 3) hx hb dX6_joinBehind_101 (by decide) ?_
        exact ih (max (i + 1) ra) (nx) (sg) μ H locs ls (by rfl) (by (first | ((try clear hμa); (try clear hμq); (try clear hra); (try clear hrq); (try clear hr01); omega) | omega)) (by rw [show (max (i + 1) ra).toNat = m_ + 1 by (first | ((try clear hμa); (try clear hμq); (try clear hra); (try clear hrq); (try clear hr01); omega) | omega)]; exact e4_.trans hD) (by (first | ((try clear hμa); (try clear hμq); (try clear hra); (try clear hrq); (try clear hr01); omega) | omega)) hP hS (lv_sub hl [0, 1, 2, 3, 4] rfl)
      · have c1_ := (e7_ (by (first | ((try clear hμa); (try clear hμq); (try clear hra); (try clear hrq); (try clear hr01); omega) | omega))).1
        refine lv_aload_n hx hb dX6_joinBehind_22 rfl (lv_at hl 3 rfl) ?_
        refine fz_get (D := (dC, dI)) (ci := 4) (v := .ref (h0 + (q + 2))) (C := RX4) (T := TX4) (N := 8) hx hb hts inG4 hown hK hP (k := q) (by (first | ((try clear hμa); (try clear hμq); (try clear hra); (try clear hrq); (try clear hr01); omega) | omega)) (F := (sRF h0 q)) (sE_rowO hq) rfl 1 (by decide) (hts _ k84) (fun _ h9 => h9) rfl dX6_joinBehind_23 ?_
        refine lv_iload hx hb dX6_joinBehind_26 (lv_at hl 0 rfl) ?_
        refine fz_ld (k := (q + 2)) (n := rm) hx hb hK hP 0 (by (first | ((try clear hμa); (try clear hμq); (try clear hra); (try clear hrq); (try clear hr01); omega) | omega)) (sE_rowA (r := 2) hq (by decide)) rfl ⟨by (first | ((try clear hμa); (try clear hμq); (try clear hra); (try clear hrq); (try clear hr01); omega) | omega), by (first | ((try clear hμa); (try clear hμq); (try clear hra); (try clear hrq); (try clear hr01); omega) | omega)⟩ (by (first | ((try clear hμa); (try clear hμq); (try clear hra); (try clear hrq); (try clear hr01); omega) | omega)) dX6_joinBehind_28 ?_
        refine lv_iload hx hb dX6_joinBehind_29 (lv_at hl 0 rfl) ?_
        refine lv_isub hx hb dX6_joinBehind_31 ?_
        refine lv_topi (fun x9 ex9 => ?_)
        obtain rfl : x9 = iZ ((μ (q + 2) (i).toNat) - i) := ex9.trans (iZ_sub _ _)
        refine lv_iconst (v := iZ 1) hx hb dX6_joinBehind_32 rfl ?_
        refine lv_isub hx hb dX6_joinBehind_33 ?_
        refine lv_topi (fun x9 ex9 => ?_)
        obtain rfl : x9 = iZ (((μ (q + 2) (i).toNat) - i) - 1) := ex9.trans (iZ_sub _ _)
        refine lv_istore (lv' := [(5, .int (iZ (((μ (q + 2) (i).toNat) - i) - 1))), (4, .int (iZ (i))), (3, .int (iZ (p2))), (2, .int (iZ (p1))), (1, .ref (h0 + q)), (0, .ref (h0 + 38))]) hx hb dX6_joinBehind_34 hl (by decide) rfl (fun ls hl => ?_)
        refine lv_aload_n hx hb dX6_joinBehind_36 rfl (lv_at hl 4 rfl) ?_
        refine fz_get (D := (dC, dI)) (ci := 4) (v := .ref (h0 + (q + 2))) (C := RX4) (T := TX4) (N := 8) hx hb hts inG4 hown hK hP (k := q) (by (first | ((try clear hμa); (try clear hμq); (try clear hra); (try clear hrq); (try clear hr01); omega) | omega)) (F := (sRF h0 q)) (sE_rowO hq) rfl 1 (by decide) (hts _ k84) (fun _ h9 => h9) rfl dX6_joinBehind_37 ?_
        refine lv_iload hx hb dX6_joinBehind_40 (lv_at hl 1 rfl) ?_
        refine fz_ld (k := (q + 2)) (n := rm) hx hb hK hP 0 (by (first | ((try clear hμa); (try clear hμq); (try clear hra); (try clear hrq); (try clear hr01); omega) | omega)) (sE_rowA (r := 2) hq (by decide)) rfl ⟨by (first | ((try clear hμa); (try clear hμq); (try clear hra); (try clear hrq); (try clear hr01); omega) | omega), by (first | ((try clear hμa); (try clear hμq); (try clear hra); (try clear hrq); (try clear hr01); omega) | omega)⟩ (by (first | ((try clear hμa); (try clear hμq); (try clear hra); (try clear hrq); (try clear hr01); omega) | omega)) dX6_joinBehind_42 ?_
        refine lv_iconst (v := iZ 1) hx hb dX6_joinBehind_43 rfl ?_
        refine lv_iadd hx hb dX6_joinBehind_44 ?_
        refine lv_topi (fun x9 ex9 => ?_)
        obtain rfl : x9 = iZ ((μ (q + 2) (i).toNat) + 1) := ex9.trans (iZ_add _ _)
        refine lv_istore (lv' := [(6, .int (iZ ((μ (q + 2) (i).toNat) + 1))), (5, .int (iZ (((μ (q + 2) (i).toNat) - i) - 1))), (4, .int (iZ (i))), (3, .int (iZ (p2))), (2, .int (iZ (p1))), (1, .ref (h0 + q)), (0, .ref (h0 + 38))]) hx hb dX6_joinBehind_45 hl (by decide) rfl (fun ls hl => ?_)
        refine lv_iload hx hb dX6_joinBehind_47 (lv_at hl 0 rfl) ?_
        refine lv_iload hx hb dX6_joinBehind_49 (lv_at hl 1 rfl) ?_
        refine lv_iadd hx hb dX6_joinBehind_51 ?_
        refine lv_topi (fun x9 ex9 => ?_)
        obtain rfl : x9 = iZ (((μ (q + 2) (i).toNat) + 1) + (((μ (q + 2) (i).toNat) - i) - 1)) := ex9.trans (iZ_add _ _)
        refine lv_iload_n hx hb dX6_joinBehind_52 rfl (lv_at hl 3 rfl) ?_
        refine fz_icmp_gt (tgt := 86) (by constructor <;> (first | ((try clear hμa); (try clear hμq); (try clear hra); (try clear hrq); (try clear hr01); omega) | omega)) (by constructor <;> (first | ((try clear hμa); (try clear hμq); (try clear hra); (try clear hrq); (try clear hr01); omega) | omega)) hx hb dX6_joinBehind_53 (by decide) (fun c53_ => ?_) (fun c53_ => ?_)
        · refine lv_iload hx hb dX6_joinBehind_86 (lv_at hl 2 rfl) ?_
          refine lv_iconst (v := iZ 1) hx hb dX6_joinBehind_88 rfl ?_
          refine lv_iadd hx hb dX6_joinBehind_89 ?_
          refine lv_topi (fun x9 ex9 => ?_)
          obtain rfl : x9 = iZ (i + 1) := ex9.trans (iZ_add _ _)
          refine lv_aload_n hx hb dX6_joinBehind_90 rfl (lv_at hl 5 rfl) ?_
          refine lv_iload hx hb dX6_joinBehind_91 (lv_at hl 2 rfl) ?_
          refine va_calli (va_runV (As := [.int (iZ (i))]) (rest := [.int (iZ (i + 1))]) ⟨hx, hb, hml, hown, hts⟩ (s_Rafter l dC dI cI cZ cII cIII h0 H.size μ (q) (rm) (i) (hq) (by first | assumption | ((try clear hμa); (try clear hμq); (try clear hra); (try clear hrq); (try clear hr01); omega) | omega | exact ⟨by (first | ((try clear hμa); (try clear hμq); (try clear hra); (try clear hrq); (try clear hr01); omega) | omega), by (first | ((try clear hμa); (try clear hμq); (try clear hra); (try clear hrq); (try clear hr01); omega) | omega)⟩) (by constructor <;> (first | ((try clear hμa); (try clear hμq); (try clear hra); (try clear hrq); (try clear hr01); omega) | omega))) (cwV 1 hts (gV_G k437 k438 k439 k3 k440) rfl rfl rfl (by decide +kernel) ⟨by show 1 + 1 ≤ _; omega, by show 8 + (2 + 11) + (14) ≤ _; omega⟩) ⟨fun a U g mk q => by obtain ⟨q0, q1, qP, qK, qM⟩ := q; exact ⟨q0, q1, qP, va_K.moved (u := U) (U := U.calling g mk a) (Vm.Alike.refl U.vm) qK, qM⟩, va_recv hK hP (ci := 4) (q0 := q) rfl ((fw_get (by (first | ((try clear hμa); (try clear hμq); (try clear hra); (try clear hrq); (try clear hr01); omega) | omega))).trans (by rw [(sE_rowO hq)])), fun U hU hW => ⟨rfl, by rw [hU], by rw [hU]; exact hP, va_K.moved hW.alike hK, xM_warm hW hM⟩⟩ rfl rfl hl.1 rfl (lv_room (Nat.le_of_ble_eq_true rfl)) dX6_joinBehind_93 ⟨hRc, hRs⟩) hS (fun q _ h => fA_le hS.1 q h) (fA_le hS.1) (fun r9 u9 t9 H1 locs ht9 hvm9 hw9 hB9 hz9 hk9 hS => ?_)
          obtain ⟨μa, ra⟩ := u9
          obtain ⟨hP, -⟩ := hB9
          rw [ht9] at hP
          generalize H1 = H at hP hS ⊢
          obtain ⟨e9, hw9⟩ := hw9
          have e9 : r9 = iZ ra := e9
          subst e9
          simp only at hP hw9
          have hμa := hw9; clear hw9
          rw [hμa.1] at hP; have hμa := hμa.2
          have hra := hμa
          refine va_mmax hx hb (hml.trans hl.1.symm) hown (hts _ k467) (hts _ k75) (hts _ k4) (hts _ k76) (Nat.le_trans (Nat.le_of_ble_eq_true rfl) hRf) (Nat.le_trans (m := 94) (Nat.le_of_ble_eq_true rfl) hRl) hRc hRs dX6_joinBehind_96 ?_
          refine lv_topi (fun x9 ex9 => ?_)
          obtain rfl : x9 = iZ (max (i + 1) ra) := ex9.trans (iZ_mx (by constructor <;> (first | ((try clear hμa); (try clear hμq); (try clear hra); (try clear hrq); (try clear hr01); omega) | omega)) (by constructor <;> (first | ((try clear hμa); (try clear hμq); (try clear hra); (try clear hrq); (try clear hr01); omega) | omega)))
          refine lv_istore (lv' := [(4, .int (iZ (max (i + 1) ra))), (6, .int (iZ ((μ (q + 2) (i).toNat) + 1))), (5, .int (iZ (((μ (q + 2) (i).toNat) - i) - 1))), (3, .int (iZ (p2))), (2, .int (iZ (p1))), (1, .ref (h0 + q)), (0, .ref (h0 + 38))]) hx hb dX6_joinBehind_99 hl (by decide) rfl (fun ls hl => ?_)
          refine lv_goto (tgt := 3) hx hb dX6_joinBehind_101 (by decide) ?_
          exact ih (max (i + 1) ra) (nx) (sg) μ H locs ls (by rfl) (by (first | ((try clear hμa); (try clear hμq); (try clear hra); (try clear hrq); (try clear hr01); omega) | omega)) (by rw [show (max (i + 1) ra).toNat = m_ + 1 by (first | ((try clear hμa); (try clear hμq); (try clear hra); (try clear hrq); (try clear hr01); omega) | omega)]; exact e4_.trans hD) (by (first | ((try clear hμa); (try clear hμq); (try clear hra); (try clear hrq); (try clear hr01); omega) | omega)) hP hS (lv_sub hl [0, 3, 4, 5, 6] rfl)
        · refine lv_aload_n hx hb dX6_joinBehind_56 rfl (lv_at hl 5 rfl) ?_
          refine lv_iload hx hb dX6_joinBehind_57 (lv_at hl 2 rfl) ?_
          refine lv_iconst (v := iZ 1) hx hb dX6_joinBehind_59 rfl ?_
          refine lv_iadd hx hb dX6_joinBehind_60 ?_
          refine lv_topi (fun x9 ex9 => ?_)
          obtain rfl : x9 = iZ (i + 1) := ex9.trans (iZ_add _ _)
          refine lv_aload_n hx hb dX6_joinBehind_61 rfl (lv_at hl 5 rfl) ?_
          refine lv_iload hx hb dX6_joinBehind_62 (lv_at hl 0 rfl) ?_
          refine lv_iload hx hb dX6_joinBehind_64 (lv_at hl 1 rfl) ?_
          refine va_calli (va_runV (As := [.int (iZ (i + 1)), .ref (h0 + q), .int (iZ ((μ (q + 2) (i).toNat) + 1)), .int (iZ (((μ (q + 2) (i).toNat) - i) - 1))]) (rest := []) ⟨hx, hb, hml, hown, hts⟩ (s_Rmatches l dC dI cI cZ cII cIII h0 H.size μ (q) (rm) (q) (rm) (i + 1) ((μ (q + 2) (i).toNat) + 1) (((μ (q + 2) (i).toNat) - i) - 1) (hq) (hq) (by exact hG.1) (by exact hG.1) (by first | assumption | ((try clear hμa); (try clear hμq); (try clear hra); (try clear hrq); (try clear hr01); omega) | omega | exact ⟨by (first | ((try clear hμa); (try clear hμq); (try clear hra); (try clear hrq); (try clear hr01); omega) | omega), by (first | ((try clear hμa); (try clear hμq); (try clear hra); (try clear hrq); (try clear hr01); omega) | omega)⟩) (by first | assumption | ((try clear hμa); (try clear hμq); (try clear hra); (try clear hrq); (try clear hr01); omega) | omega | exact ⟨by (first | ((try clear hμa); (try clear hμq); (try clear hra); (try clear hrq); (try clear hr01); omega) | omega), by (first | ((try clear hμa); (try clear hμq); (try clear hra); (try clear hrq); (try clear hr01); omega) | omega)⟩) (by first | assumption | ((try clear hμa); (try clear hμq); (try clear hra); (try clear hrq); (try clear hr01); omega) | omega | exact ⟨by (first | ((try clear hμa); (try clear hμq); (try clear hra); (try clear hrq); (try clear hr01); omega) | omega), by (first | ((try clear hμa); (try clear hμq); (try clear hra); (try clear hrq); (try clear hr01); omega) | omega)⟩) (by first | assumption | ((try clear hμa); (try clear hμq); (try clear hra); (try clear hrq); (try clear hr01); omega) | omega | exact ⟨by (first | ((try clear hμa); (try clear hμq); (try clear hra); (try clear hrq); (try clear hr01); omega) | omega), by (first | ((try clear hμa); (try clear hμq); (try clear hra); (try clear hrq); (try clear hr01); omega) | omega)⟩) (by first | assumption | ((try clear hμa); (try clear hμq); (try clear hra); (try clear hrq); (try clear hr01); omega) | omega | exact ⟨by (first | ((try clear hμa); (try clear hμq); (try clear hra); (try clear hrq); (try clear hr01); omega) | omega), by (first | ((try clear hμa); (try clear hμq); (try clear hra); (try clear hrq); (try clear hr01); omega) | omega)⟩) (by first | assumption | ((try clear hμa); (try clear hμq); (try clear hra); (try clear hrq); (try clear hr01); omega) | omega | exact ⟨by (first | ((try clear hμa); (try clear hμq); (try clear hra); (try clear hrq); (try clear hr01); omega) | omega), by (first | ((try clear hμa); (try clear hμq); (try clear hra); (try clear hrq); (try clear hr01); omega) | omega)⟩)) (cwV 4 hts (gV_G k441 k442 k443 k3 k444) rfl rfl rfl (by decide +kernel) ⟨by show 2 + 1 ≤ _; omega, by show 8 + (6 + 11) + (35) ≤ _; omega⟩) ⟨fun a U g mk q => by obtain ⟨q0, q1, qP, qK, qM⟩ := q; exact ⟨q0, q1, qP, va_K.moved (u := U) (U := U.calling g mk a) (Vm.Alike.refl U.vm) qK, qM⟩, va_recv hK hP (ci := 4) (q0 := q) rfl ((fw_get (by (first | ((try clear hμa); (try clear hμq); (try clear hra); (try clear hrq); (try clear hr01); omega) | omega))).trans (by rw [(sE_rowO hq)])), fun U hU hW => ⟨rfl, by rw [hU], by rw [hU]; exact hP, va_K.moved hW.alike hK, xM_warm hW hM⟩⟩ rfl rfl hl.1 rfl (lv_room (Nat.le_of_ble_eq_true rfl)) dX6_joinBehind_66 ⟨hRc, hRs⟩) hS (fun q _ h => fA_le hS.1 q h) (fA_le hS.1) (fun r9 u9 t9 H1 locs ht9 hvm9 hw9 hB9 hz9 hk9 hS => ?_)
          obtain ⟨μq, rq⟩ := u9
          obtain ⟨hP, -⟩ := hB9
          rw [ht9] at hP
          generalize H1 = H at hP hS ⊢
          obtain ⟨e9, hw9⟩ := hw9
          have e9 : r9 = iZ rq := e9
          subst e9
          simp only at hP hw9
          have hμq := hw9; clear hw9
          rw [hμq.1] at hP; have hμq := hμq.2
          have hrq := hμq
          have hr01 : rq = 0 ∨ rq = 1 := hrq.elim (fun h => Or.inr h.1) (fun h => Or.inl h.1)
          refine fz_if_eq (tgt := 86) (by constructor <;> (first | ((try clear hμa); (try clear hμq); (try clear hra); (try clear hrq); (try clear hr01); omega) | omega)) hx hb dX6_joinBehind_69 (by decide) (fun c69_ => ?_) (fun c69_ => ?_)
          · refine lv_iload hx hb dX6_joinBehind_86 (lv_at hl 2 rfl) ?_
            refine lv_iconst (v := iZ 1) hx hb dX6_joinBehind_88 rfl ?_
            refine lv_iadd hx hb dX6_joinBehind_89 ?_
            refine lv_topi (fun x9 ex9 => ?_)
            obtain rfl : x9 = iZ (i + 1) := ex9.trans (iZ_add _ _)
            refine lv_aload_n hx hb dX6_joinBehind_90 rfl (lv_at hl 5 rfl) ?_
            refine lv_iload hx hb dX6_joinBehind_91 (lv_at hl 2 rfl) ?_
            refine va_calli (va_runV (As := [.int (iZ (i))]) (rest := [.int (iZ (i + 1))]) ⟨hx, hb, hml, hown, hts⟩ (s_Rafter l dC dI cI cZ cII cIII h0 H.size μ (q) (rm) (i) (hq) (by first | assumption | ((try clear hμa); (try clear hμq); (try clear hra); (try clear hrq); (try clear hr01); omega) | omega | exact ⟨by (first | ((try clear hμa); (try clear hμq); (try clear hra); (try clear hrq); (try clear hr01); omega) | omega), by (first | ((try clear hμa); (try clear hμq); (try clear hra); (try clear hrq); (try clear hr01); omega) | omega)⟩) (by constructor <;> (first | ((try clear hμa); (try clear hμq); (try clear hra); (try clear hrq); (try clear hr01); omega) | omega))) (cwV 1 hts (gV_G k437 k438 k439 k3 k440) rfl rfl rfl (by decide +kernel) ⟨by show 1 + 1 ≤ _; omega, by show 8 + (2 + 11) + (14) ≤ _; omega⟩) ⟨fun a U g mk q => by obtain ⟨q0, q1, qP, qK, qM⟩ := q; exact ⟨q0, q1, qP, va_K.moved (u := U) (U := U.calling g mk a) (Vm.Alike.refl U.vm) qK, qM⟩, va_recv hK hP (ci := 4) (q0 := q) rfl ((fw_get (by (first | ((try clear hμa); (try clear hμq); (try clear hra); (try clear hrq); (try clear hr01); omega) | omega))).trans (by rw [(sE_rowO hq)])), fun U hU hW => ⟨rfl, by rw [hU], by rw [hU]; exact hP, va_K.moved hW.alike hK, xM_warm hW hM⟩⟩ rfl rfl hl.1 rfl (lv_room (Nat.le_of_ble_eq_true rfl)) dX6_joinBehind_93 ⟨hRc, hRs⟩) hS (fun q _ h => fA_le hS.1 q h) (fA_le hS.1) (fun r9 u9 t9 H1 locs ht9 hvm9 hw9 hB9 hz9 hk9 hS => ?_)
            obtain ⟨μa, ra⟩ := u9
            obtain ⟨hP, -⟩ := hB9
            rw [ht9] at hP
            generalize H1 = H at hP hS ⊢
            obtain ⟨e9, hw9⟩ := hw9
            have e9 : r9 = iZ ra := e9
            subst e9
            simp only at hP hw9
            have hμa := hw9; clear hw9
            rw [hμa.1] at hP; have hμa := hμa.2
            have hra := hμa
            refine va_mmax hx hb (hml.trans hl.1.symm) hown (hts _ k467) (hts _ k75) (hts _ k4) (hts _ k76) (Nat.le_trans (Nat.le_of_ble_eq_true rfl) hRf) (Nat.le_trans (m := 94) (Nat.le_of_ble_eq_true rfl) hRl) hRc hRs dX6_joinBehind_96 ?_
            refine lv_topi (fun x9 ex9 => ?_)
            obtain rfl : x9 = iZ (max (i + 1) ra) := ex9.trans (iZ_mx (by constructor <;> (first | ((try clear hμa); (try clear hμq); (try clear hra); (try clear hrq); (try clear hr01); omega) | omega)) (by constructor <;> (first | ((try clear hμa); (try clear hμq); (try clear hra); (try clear hrq); (try clear hr01); omega) | omega)))
            refine lv_istore (lv' := [(4, .int (iZ (max (i + 1) ra))), (6, .int (iZ ((μ (q + 2) (i).toNat) + 1))), (5, .int (iZ (((μ (q + 2) (i).toNat) - i) - 1))), (3, .int (iZ (p2))), (2, .int (iZ (p1))), (1, .ref (h0 + q)), (0, .ref (h0 + 38))]) hx hb dX6_joinBehind_99 hl (by decide) rfl (fun ls hl => ?_)
            refine lv_goto (tgt := 3) hx hb dX6_joinBehind_101 (by decide) ?_
            exact ih (max (i + 1) ra) (nx) (sg) μ H locs ls (by rfl) (by (first | ((try clear hμa); (try clear hμq); (try clear hra); (try clear hrq); (try clear hr01); omega) | omega)) (by rw [show (max (i + 1) ra).toNat = m_ + 1 by (first | ((try clear hμa); (try clear hμq); (try clear hra); (try clear hrq); (try clear hr01); omega) | omega)]; exact e4_.trans hD) (by (first | ((try clear hμa); (try clear hμq); (try clear hra); (try clear hrq); (try clear hr01); omega) | omega)) hP hS (lv_sub hl [0, 3, 4, 5, 6] rfl)
          · have hmt := hrq.elim (fun h => h.2.2) (fun h => absurd h.1 (by (first | ((try clear hμa); (try clear hμq); (try clear hra); (try clear hrq); (try clear hr01); omega) | omega)))
            exact hexit72 (i) ((μ (q + 2) (i).toNat) + 1) (((μ (q + 2) (i).toNat) - i) - 1) μ H locs ls (by rfl) (by
                                obtain ⟨c1_, c2_, c3_⟩ := e7_ (by (first | ((try clear hμa); (try clear hμq); (try clear hra); (try clear hrq); (try clear hr01); omega) | omega))
                                have c4_ := c3_.2.1
                                have hDA := Dp_al (f := μ (q + 1)) (a := (i + 1).toNat) (b := (μ (q + 2) i.toNat + 1).toNat) (n := (μ (q + 2) i.toNat - i - 1).toNat) (fun t ht => hmt t (by (first | ((try clear hμa); (try clear hμq); (try clear hra); (try clear hrq); (try clear hr01); omega) | omega)))
                                refine ⟨⟨by (first | ((try clear hμa); (try clear hμq); (try clear hra); (try clear hrq); (try clear hr01); omega) | omega), by (first | ((try clear hμa); (try clear hμq); (try clear hra); (try clear hrq); (try clear hr01); omega) | omega), by (first | ((try clear hμa); (try clear hμq); (try clear hra); (try clear hrq); (try clear hr01); omega) | omega), by (first | ((try clear hμa); (try clear hμq); (try clear hra); (try clear hrq); (try clear hr01); omega) | omega)⟩, hmt, ?_⟩
                                rw [show (μ (q + 2) i.toNat + 1).toNat + (μ (q + 2) i.toNat - i - 1).toNat = (μ (q + 2) i.toNat + 1 + (μ (q + 2) i.toNat - i - 1)).toNat by (first | ((try clear hμa); (try clear hμq); (try clear hra); (try clear hrq); (try clear hr01); omega) | omega), show (i + 1).toNat + (μ (q + 2) i.toNat - i - 1).toNat = m_ by (first | ((try clear hμa); (try clear hμq); (try clear hra); (try clear hrq); (try clear hr01); omega) | omega), show (i + 1).toNat = i.toNat + 1 by (first | ((try clear hμa); (try clear hμq); (try clear hra); (try clear hrq); (try clear hr01); omega) | omega), c4_, Int.sub_self] at hDA
                                omega) (by (first | ((try clear hμa); (try clear hμq); (try clear hra); (try clear hrq); (try clear hr01); omega) | omega)) hP hS (lv_sub hl [0, 1, 2, 3, 4, 5, 6] rfl)
set_option maxHeartbeats 4000000 in
set_option maxRecDepth 100000 in
theorem s_TjoinBehind (l : Launch) (dC : Nat → ClassId) (dI : Nat → Nat → Nat) (cI cZ cII cIII : ClassId) (h0 sz : Nat) (μ : va_M) (q : Nat) (rm : Nat) (p1 : Int) (p2 : Int) (bh : Int) (hq : rowB q rm) (hG : rG μ q rm) (hrg : rng μ q p1 bh) (hp2 : p2 = μ q 5 - bh) : Met l yX6_joinBehind (Cond.code yX6_joinBehind cX6_joinBehind 7 (some .boolean) :: wsG) ({ frames := 4, cells := 0, slots := 0, locals := 94 } : Room) (va_Pc [.ref (h0 + 38), .ref (h0 + q), .int (iZ (p1)), .int (iZ (p2))] (fun U => U.heap.size = sz ∧ va_P (dC, dI) vwCl (fw (sE cI cZ cII cIII h0) h0 233 μ) U.heap ∧ va_K (dC, dI) vwCl (sT cI cZ cII cIII) U ∧ xM U)) (va_Qi (fun (r9 : Int32) (u : va_M × Int) => r9 = iZ u.2 ∧ (fun (u : va_M) (r : Int) => (r = 0 ∨ r = 1) ∧ fr (LTq q) μ u ∧ rG u q rm ∧ rng u q p1 bh ∧ (r = 0 → u q 5 = μ q 5)) u.1 u.2) (fun u t => va_P (dC, dI) vwCl (fw (sE cI cZ cII cIII h0) h0 233 u.1) t.heap ∧ va_K (dC, dI) vwCl (sT cI cZ cII cIII) t) (fA h0 233 sz)) 0 0 (fA h0 233 sz) := by
  refine Met.ofW (cc := cX6_joinBehind) (maxL := 7) (ret := (some .boolean)) (by decide) rfl ?_
  intro p e s m args below meth c s₁ B hml hv
  obtain ⟨rfl, hsz, hP, hK, hM⟩ := hv
  have hx := B.exec
  have hb := B.bytes
  have hr := B.returns
  have hts : ∀ w ∈ wsG, w.before _ s = true := hG_of (atoms_spec (ws := (Cond.code yX6_joinBehind cX6_joinBehind 7 (some .boolean) :: wsG)) B.pre)
  have hown : s.vm.findClass RX6 = some m.cls := findClass_of_methodNamed B.named
  have hlocks := B.notSynchronized
  subst hsz
  have hS : va_S (fA h0 233 s.heap.size) s.heap s.heap [] := va_S.rf
  have hl := lv_entry ([.ref (h0 + 38), .ref (h0 + q), .int (iZ (p1)), .int (iZ (p2))]) (n := 7) (Nat.le_of_ble_eq_true rfl)
  rw [lg_entry_eq]
  generalize (lg_sl ([.ref (h0 + 38), .ref (h0 + q), .int (iZ (p1)), .int (iZ (p2))]) ++ List.replicate (7 - (lg_sl ([.ref (h0 + 38), .ref (h0 + q), .int (iZ (p1)), .int (iZ (p2))])).length) Slot.unset).toArray = ls at hl ⊢
  have hl : lv_has ls 7 [(0, .ref (h0 + 38)), (1, .ref (h0 + q)), (2, .int (iZ (p1))), (3, .int (iZ (p2)))] := hl
  have hqb := rowB_b hq
  refine lv_iload_n hx hb dX6_joinBehind_0 rfl (lv_at hl 2 rfl) ?_
  refine lv_istore (lv' := [(4, .int (iZ (p1))), (0, .ref (h0 + 38)), (1, .ref (h0 + q)), (2, .int (iZ (p1))), (3, .int (iZ (p2)))]) hx hb dX6_joinBehind_1 hl (by decide) rfl (fun ls hl => ?_)
  refine LX6_joinBehind_3 hx hb hml hown hts hK hM (Nat.le_of_ble_eq_true rfl) (Nat.le_of_ble_eq_true rfl) (Nat.le_of_ble_eq_true rfl) (Nat.le_of_ble_eq_true rfl) (μ) (q) (rm) (p1) (p2) (bh) (by assumption) (by exact hG) (by assumption) (by assumption) ?_ ?_ _ (p1) (0) (0) μ s.heap [] ls (by rfl) (by exact ⟨Int.le_refl _, Or.inr rfl⟩) (by exact rfl) (Nat.lt_succ_self _) hP hS (lv_sub hl [0, 4, 3, 2, 1] rfl)
  · intro i_1 nx_1 sg_1 μ1_ H locs ls q1_1 q2_1 q5_1 hP hS hl
    have hl : lv_has ls 7 [(6, .int (iZ (nx_1))), (5, .int (iZ (sg_1))), (4, .int (iZ (i_1))), (3, .int (iZ (p2))), (2, .int (iZ (p1))), (1, .ref (h0 + q)), (0, .ref (h0 + 38))] := hl
    have hPn72 := hP
    obtain rfl := q1_1
    have hP := hPn72
    have jk_ := q2_1
    have jr_ := q5_1
    have jk1_ := jk_.1
    have hrm := rG_rm hq hG
    have hrx := hrg.1
    have h7_ : μ1_ q 7 = 0 := (rG_ov hG).elim id (fun h => by (first | ((try clear hμ2); (try clear hr1_); omega) | omega))
    refine lv_aload_n hx hb dX6_joinBehind_72 rfl (lv_at hl 6 rfl) ?_
    refine lv_aload_n hx hb dX6_joinBehind_73 rfl (lv_at hl 5 rfl) ?_
    refine lv_iload hx hb dX6_joinBehind_74 (lv_at hl 2 rfl) ?_
    refine lv_iconst (v := iZ 1) hx hb dX6_joinBehind_76 rfl ?_
    refine lv_iadd hx hb dX6_joinBehind_77 ?_
    refine lv_topi (fun x9 ex9 => ?_)
    obtain rfl : x9 = iZ (i_1 + 1) := ex9.trans (iZ_add _ _)
    refine lv_iload hx hb dX6_joinBehind_78 (lv_at hl 0 rfl) ?_
    refine lv_iload hx hb dX6_joinBehind_80 (lv_at hl 1 rfl) ?_
    refine va_calli (va_runV (As := [.ref (h0 + q), .int (iZ (i_1 + 1)), .int (iZ (nx_1)), .int (iZ (sg_1))]) (rest := []) ⟨hx, hb, hml, hown, hts⟩ (s_Tjoin l dC dI cI cZ cII cIII h0 H.size μ1_ (q) (rm) (i_1 + 1) (nx_1) (sg_1) (hq) (by exact hG) (by exact h7_) (by exact jk_)) (cwV 4 hts (gV_G k448 k450 ks_yX6_join k6 k451) rfl rfl rfl (by decide +kernel) ⟨Nat.le_of_ble_eq_true rfl, Nat.le_of_ble_eq_true rfl⟩) ⟨fun a U g mk q => by obtain ⟨q0, q1, qP, qK, qM⟩ := q; exact ⟨q0, q1, qP, va_K.moved (u := U) (U := U.calling g mk a) (Vm.Alike.refl U.vm) qK, qM⟩, va_recv hK hP (ci := 6) (q0 := 38) rfl ((fw_get (by decide)).trans (by rw [sE_38])), fun U hU hW => ⟨rfl, by rw [hU], by rw [hU]; exact hP, va_K.moved hW.alike hK, xM_warm hW hM⟩⟩ rfl rfl hl.1 rfl (lv_room (Nat.le_of_ble_eq_true rfl)) dX6_joinBehind_82 ⟨Nat.le_of_ble_eq_true rfl, Nat.le_of_ble_eq_true rfl⟩) hS (fun q _ h => fA_le hS.1 q h) (fA_le hS.1) (fun r9 u9 t9 H1 locs ht9 hvm9 hw9 hB9 hz9 hk9 hS => ?_)
    obtain ⟨μ2, r3⟩ := u9
    obtain ⟨hP, -⟩ := hB9
    rw [ht9] at hP
    generalize H1 = H at hP hS ⊢
    obtain ⟨e9, hw9⟩ := hw9
    have e9 : r9 = iZ r3 := e9
    subst e9
    simp only at hP hw9
    have hμ2 := hw9; clear hw9
    have hr1_ := hμ2.1
    exact W.zret (v := iZ (r3)) hx hb hr (by exact fz_narZ (by (first | ((try clear hμ2); (try clear hr1_); omega) | omega))) (fun t9 ht9 hW9 => ⟨⟨iZ (r3), (μ2, r3), rfl, ⟨rfl, (by
                dsimp only
                obtain ⟨k1, k2, k3, k4, k5⟩ := hμ2
                exact ⟨Or.inr k1, fr_mono k3 (fun x y h => Or.inl h), k2, rng_rm hrg (by (first | ((try clear hμ2); (try clear hr1_); omega) | omega)) (by (first | ((try clear hμ2); (try clear hr1_); omega) | omega)) (by (first | ((try clear hμ2); (try clear hr1_); omega) | omega)) k4 k5.1 k5.2, fun h => absurd (k1.symm.trans h) (by decide)⟩)⟩, by rw [ht9]; exact hP, va_K.moved hW9.alike hK⟩, hS.F ht9⟩) hS.2.2 dX6_joinBehind_85
  · intro i_4 nx_4 sg_4 μ4_ H locs ls q3_4 hP hS hl
    have hl : lv_has ls 7 [] := hl
    have hPn104 := hP
    obtain rfl := q3_4
    have hP := hPn104
    refine lv_iconst (v := iZ 0) hx hb dX6_joinBehind_104 rfl ?_
    exact W.zret (v := iZ (0)) hx hb hr (by decide +kernel) (fun t9 ht9 hW9 => ⟨⟨iZ (0), (μ4_, 0), rfl, ⟨rfl, (by
                dsimp only
                exact ⟨Or.inl rfl, fr_rfl, hG, hrg, fun _ => rfl⟩)⟩, by rw [ht9]; exact hP, va_K.moved hW9.alike hK⟩, hS.F ht9⟩) hS.2.2 dX6_joinBehind_105

theorem k480 : (Cond.methodLink "PageSkeleton$Tidier" (89 : Nat) ({ cls := "PageSkeleton$Tidier", name := "findItems", desc := "(LPageSkeleton$Row;II)V" } : MethodName)) ∈ wsG := wsG_at 480 (by decide +kernel) (by decide +kernel)
theorem k482 : (Cond.instanceMethod ({ cls := "PageSkeleton$Tidier", name := "findItems", desc := "(LPageSkeleton$Row;II)V" } : MethodName)) ∈ wsG := wsG_at 482 (by decide +kernel) (by decide +kernel)
theorem k483 : (Cond.code ({ cls := "PageSkeleton$Tidier", name := "findItems", desc := "(LPageSkeleton$Row;II)V" } : MethodName) prog_8_method_9_code (6 : Nat) (Option.none : Option Jvm.ClassFile.FieldType)) ∈ wsG := wsG_at 483 (by decide +kernel) (by decide +kernel)
theorem k487 : (Cond.methodLink "PageSkeleton$Tidier" (93 : Nat) ({ cls := "PageSkeleton$Tidier", name := "foldAt", desc := "(LPageSkeleton$Row;III)I" } : MethodName)) ∈ wsG := wsG_at 487 (by decide +kernel) (by decide +kernel)
theorem k489 : (Cond.instanceMethod ({ cls := "PageSkeleton$Tidier", name := "foldAt", desc := "(LPageSkeleton$Row;III)I" } : MethodName)) ∈ wsG := wsG_at 489 (by decide +kernel) (by decide +kernel)
theorem k490 : (Cond.code ({ cls := "PageSkeleton$Tidier", name := "foldAt", desc := "(LPageSkeleton$Row;III)I" } : MethodName) prog_8_method_10_code (8 : Nat) (Option.some FieldType.int)) ∈ wsG := wsG_at 490 (by decide +kernel) (by decide +kernel)
theorem k491 : (Cond.methodLink "PageSkeleton$Tidier" (101 : Nat) ({ cls := "PageSkeleton$Row", name := "insert", desc := "(II)V" } : MethodName)) ∈ wsG := wsG_at 491 (by decide +kernel) (by decide +kernel)
theorem k492 : (Cond.instanceMethod ({ cls := "PageSkeleton$Row", name := "insert", desc := "(II)V" } : MethodName)) ∈ wsG := wsG_at 492 (by decide +kernel) (by decide +kernel)
theorem k493 : (Cond.selects "PageSkeleton$Row" ({ cls := "PageSkeleton$Row", name := "insert", desc := "(II)V" } : MethodName) ({ cls := "PageSkeleton$Row", name := "insert", desc := "(II)V" } : MethodName)) ∈ wsG := wsG_at 493 (by decide +kernel) (by decide +kernel)
theorem k494 : (Cond.code ({ cls := "PageSkeleton$Row", name := "insert", desc := "(II)V" } : MethodName) prog_6_method_18_code (3 : Nat) (Option.none : Option Jvm.ClassFile.FieldType)) ∈ wsG := wsG_at 494 (by decide +kernel) (by decide +kernel)
theorem ks_yX6_findItems : Cond.selects RX6 yX6_findItems yX6_findItems ∈ wsG := wsG_mem (by decide +kernel) (by decide +kernel)
theorem ks_yX6_foldAt : Cond.selects RX6 yX6_foldAt yX6_foldAt ∈ wsG := wsG_mem (by decide +kernel) (by decide +kernel)
theorem dX6_findItems_0 : decode cX6_findItems 0 = .ok (.aload_n 0, 1) := by decide +kernel
theorem dX6_findItems_1 : decode cX6_findItems 1 = .ok (.iconst 0, 1) := by decide +kernel
theorem dX6_findItems_2 : decode cX6_findItems 2 = .ok (.putfield 18, 3) := by decide +kernel
theorem dX6_findItems_5 : decode cX6_findItems 5 = .ok (.aload_n 0, 1) := by decide +kernel
theorem dX6_findItems_6 : decode cX6_findItems 6 = .ok (.getfield 15, 3) := by decide +kernel
theorem dX6_findItems_9 : decode cX6_findItems 9 = .ok (.iconst 0, 1) := by decide +kernel
theorem dX6_findItems_10 : decode cX6_findItems 10 = .ok (.iconst 0, 1) := by decide +kernel
theorem dX6_findItems_11 : decode cX6_findItems 11 = .ok (.iastore, 1) := by decide +kernel
theorem dX6_findItems_12 : decode cX6_findItems 12 = .ok (.iload_n 2, 1) := by decide +kernel
theorem dX6_findItems_13 : decode cX6_findItems 13 = .ok (.istore 4, 2) := by decide +kernel
theorem dX6_findItems_15 : decode cX6_findItems 15 = .ok (.iload 4, 2) := by decide +kernel
theorem dX6_findItems_17 : decode cX6_findItems 17 = .ok (.iload_n 3, 1) := by decide +kernel
theorem dX6_findItems_18 : decode cX6_findItems 18 = .ok (.if_icmp .ge 116, 3) := by decide +kernel
theorem dX6_findItems_21 : decode cX6_findItems 21 = .ok (.aload_n 0, 1) := by decide +kernel
theorem dX6_findItems_22 : decode cX6_findItems 22 = .ok (.getfield 18, 3) := by decide +kernel
theorem dX6_findItems_25 : decode cX6_findItems 25 = .ok (.sipush 1100, 3) := by decide +kernel
theorem dX6_findItems_28 : decode cX6_findItems 28 = .ok (.if_icmp .ge 106, 3) := by decide +kernel
theorem dX6_findItems_31 : decode cX6_findItems 31 = .ok (.aload_n 1, 1) := by decide +kernel
theorem dX6_findItems_32 : decode cX6_findItems 32 = .ok (.getfield 37, 3) := by decide +kernel
theorem dX6_findItems_35 : decode cX6_findItems 35 = .ok (.iload 4, 2) := by decide +kernel
theorem dX6_findItems_37 : decode cX6_findItems 37 = .ok (.iaload, 1) := by decide +kernel
theorem dX6_findItems_38 : decode cX6_findItems 38 = .ok (.invokestatic 97, 3) := by decide +kernel
theorem dX6_findItems_41 : decode cX6_findItems 41 = .ok (.ifCond .ne 16, 3) := by decide +kernel
theorem dX6_findItems_44 : decode cX6_findItems 44 = .ok (.aload_n 1, 1) := by decide +kernel
theorem dX6_findItems_45 : decode cX6_findItems 45 = .ok (.getfield 37, 3) := by decide +kernel
theorem dX6_findItems_48 : decode cX6_findItems 48 = .ok (.iload 4, 2) := by decide +kernel
theorem dX6_findItems_50 : decode cX6_findItems 50 = .ok (.iaload, 1) := by decide +kernel
theorem dX6_findItems_51 : decode cX6_findItems 51 = .ok (.sipush 514, 3) := by decide +kernel
theorem dX6_findItems_54 : decode cX6_findItems 54 = .ok (.if_icmp .ne 7, 3) := by decide +kernel
theorem dX6_findItems_57 : decode cX6_findItems 57 = .ok (.iconst 1, 1) := by decide +kernel
theorem dX6_findItems_58 : decode cX6_findItems 58 = .ok (.goto 4, 3) := by decide +kernel
theorem dX6_findItems_61 : decode cX6_findItems 61 = .ok (.iconst 0, 1) := by decide +kernel
theorem dX6_findItems_62 : decode cX6_findItems 62 = .ok (.istore 5, 2) := by decide +kernel
theorem dX6_findItems_64 : decode cX6_findItems 64 = .ok (.aload_n 0, 1) := by decide +kernel
theorem dX6_findItems_65 : decode cX6_findItems 65 = .ok (.getfield 9, 3) := by decide +kernel
theorem dX6_findItems_68 : decode cX6_findItems 68 = .ok (.aload_n 0, 1) := by decide +kernel
theorem dX6_findItems_69 : decode cX6_findItems 69 = .ok (.getfield 18, 3) := by decide +kernel
theorem dX6_findItems_72 : decode cX6_findItems 72 = .ok (.iload 4, 2) := by decide +kernel
theorem dX6_findItems_74 : decode cX6_findItems 74 = .ok (.iastore, 1) := by decide +kernel
theorem dX6_findItems_75 : decode cX6_findItems 75 = .ok (.aload_n 0, 1) := by decide +kernel
theorem dX6_findItems_76 : decode cX6_findItems 76 = .ok (.getfield 15, 3) := by decide +kernel
theorem dX6_findItems_79 : decode cX6_findItems 79 = .ok (.aload_n 0, 1) := by decide +kernel
theorem dX6_findItems_80 : decode cX6_findItems 80 = .ok (.getfield 18, 3) := by decide +kernel
theorem dX6_findItems_83 : decode cX6_findItems 83 = .ok (.iconst 1, 1) := by decide +kernel
theorem dX6_findItems_84 : decode cX6_findItems 84 = .ok (.iadd, 1) := by decide +kernel
theorem dX6_findItems_85 : decode cX6_findItems 85 = .ok (.aload_n 0, 1) := by decide +kernel
theorem dX6_findItems_86 : decode cX6_findItems 86 = .ok (.getfield 15, 3) := by decide +kernel
theorem dX6_findItems_89 : decode cX6_findItems 89 = .ok (.aload_n 0, 1) := by decide +kernel
theorem dX6_findItems_90 : decode cX6_findItems 90 = .ok (.getfield 18, 3) := by decide +kernel
theorem dX6_findItems_93 : decode cX6_findItems 93 = .ok (.iaload, 1) := by decide +kernel
theorem dX6_findItems_94 : decode cX6_findItems 94 = .ok (.iload 5, 2) := by decide +kernel
theorem dX6_findItems_96 : decode cX6_findItems 96 = .ok (.ifCond .eq 7, 3) := by decide +kernel
theorem dX6_findItems_99 : decode cX6_findItems 99 = .ok (.iconst 1, 1) := by decide +kernel
theorem dX6_findItems_100 : decode cX6_findItems 100 = .ok (.goto 4, 3) := by decide +kernel
theorem dX6_findItems_103 : decode cX6_findItems 103 = .ok (.iconst 0, 1) := by decide +kernel
theorem dX6_findItems_104 : decode cX6_findItems 104 = .ok (.iadd, 1) := by decide +kernel
theorem dX6_findItems_105 : decode cX6_findItems 105 = .ok (.iastore, 1) := by decide +kernel
theorem dX6_findItems_106 : decode cX6_findItems 106 = .ok (.aload_n 0, 1) := by decide +kernel
theorem dX6_findItems_107 : decode cX6_findItems 107 = .ok (.dup, 1) := by decide +kernel
theorem dX6_findItems_108 : decode cX6_findItems 108 = .ok (.getfield 18, 3) := by decide +kernel
theorem dX6_findItems_111 : decode cX6_findItems 111 = .ok (.iconst 1, 1) := by decide +kernel
theorem dX6_findItems_112 : decode cX6_findItems 112 = .ok (.iadd, 1) := by decide +kernel
theorem dX6_findItems_113 : decode cX6_findItems 113 = .ok (.putfield 18, 3) := by decide +kernel
theorem dX6_findItems_116 : decode cX6_findItems 116 = .ok (.iload 4, 2) := by decide +kernel
theorem dX6_findItems_118 : decode cX6_findItems 118 = .ok (.iconst 1, 1) := by decide +kernel
theorem dX6_findItems_119 : decode cX6_findItems 119 = .ok (.iadd, 1) := by decide +kernel
theorem dX6_findItems_120 : decode cX6_findItems 120 = .ok (.aload_n 1, 1) := by decide +kernel
theorem dX6_findItems_121 : decode cX6_findItems 121 = .ok (.iload 4, 2) := by decide +kernel
theorem dX6_findItems_123 : decode cX6_findItems 123 = .ok (.invokevirtual 60, 3) := by decide +kernel
theorem dX6_findItems_126 : decode cX6_findItems 126 = .ok (.invokestatic 72, 3) := by decide +kernel
theorem dX6_findItems_129 : decode cX6_findItems 129 = .ok (.istore 4, 2) := by decide +kernel
theorem dX6_findItems_131 : decode cX6_findItems 131 = .ok (.goto (-116), 3) := by decide +kernel
theorem dX6_findItems_134 : decode cX6_findItems 134 = .ok (.aload_n 0, 1) := by decide +kernel
theorem dX6_findItems_135 : decode cX6_findItems 135 = .ok (.getfield 9, 3) := by decide +kernel
theorem dX6_findItems_138 : decode cX6_findItems 138 = .ok (.aload_n 0, 1) := by decide +kernel
theorem dX6_findItems_139 : decode cX6_findItems 139 = .ok (.getfield 18, 3) := by decide +kernel
theorem dX6_findItems_142 : decode cX6_findItems 142 = .ok (.iload_n 3, 1) := by decide +kernel
theorem dX6_findItems_143 : decode cX6_findItems 143 = .ok (.iastore, 1) := by decide +kernel
theorem dX6_findItems_144 : decode cX6_findItems 144 = .ok (.return_, 1) := by decide +kernel
theorem dX6_foldAt_0 : decode cX6_foldAt 0 = .ok (.iconst 1, 1) := by decide +kernel
theorem dX6_foldAt_1 : decode cX6_foldAt 1 = .ok (.istore 5, 2) := by decide +kernel
theorem dX6_foldAt_3 : decode cX6_foldAt 3 = .ok (.iload_n 2, 1) := by decide +kernel
theorem dX6_foldAt_4 : decode cX6_foldAt 4 = .ok (.iload_n 3, 1) := by decide +kernel
theorem dX6_foldAt_5 : decode cX6_foldAt 5 = .ok (.iadd, 1) := by decide +kernel
theorem dX6_foldAt_6 : decode cX6_foldAt 6 = .ok (.istore 6, 2) := by decide +kernel
theorem dX6_foldAt_8 : decode cX6_foldAt 8 = .ok (.iload_n 2, 1) := by decide +kernel
theorem dX6_foldAt_9 : decode cX6_foldAt 9 = .ok (.istore 7, 2) := by decide +kernel
theorem dX6_foldAt_11 : decode cX6_foldAt 11 = .ok (.iload 7, 2) := by decide +kernel
theorem dX6_foldAt_13 : decode cX6_foldAt 13 = .ok (.iload 4, 2) := by decide +kernel
theorem dX6_foldAt_15 : decode cX6_foldAt 15 = .ok (.if_icmp .ge 47, 3) := by decide +kernel
theorem dX6_foldAt_18 : decode cX6_foldAt 18 = .ok (.iload 6, 2) := by decide +kernel
theorem dX6_foldAt_20 : decode cX6_foldAt 20 = .ok (.iload_n 3, 1) := by decide +kernel
theorem dX6_foldAt_21 : decode cX6_foldAt 21 = .ok (.iadd, 1) := by decide +kernel
theorem dX6_foldAt_22 : decode cX6_foldAt 22 = .ok (.iload 4, 2) := by decide +kernel
theorem dX6_foldAt_24 : decode cX6_foldAt 24 = .ok (.if_icmp .gt 38, 3) := by decide +kernel
theorem dX6_foldAt_27 : decode cX6_foldAt 27 = .ok (.aload_n 1, 1) := by decide +kernel
theorem dX6_foldAt_28 : decode cX6_foldAt 28 = .ok (.iload_n 2, 1) := by decide +kernel
theorem dX6_foldAt_29 : decode cX6_foldAt 29 = .ok (.aload_n 1, 1) := by decide +kernel
theorem dX6_foldAt_30 : decode cX6_foldAt 30 = .ok (.iload 6, 2) := by decide +kernel
theorem dX6_foldAt_32 : decode cX6_foldAt 32 = .ok (.iload_n 3, 1) := by decide +kernel
theorem dX6_foldAt_33 : decode cX6_foldAt 33 = .ok (.invokevirtual 64, 3) := by decide +kernel
theorem dX6_foldAt_36 : decode cX6_foldAt 36 = .ok (.ifCond .eq 26, 3) := by decide +kernel
theorem dX6_foldAt_39 : decode cX6_foldAt 39 = .ok (.aload_n 1, 1) := by decide +kernel
theorem dX6_foldAt_40 : decode cX6_foldAt 40 = .ok (.iload_n 2, 1) := by decide +kernel
theorem dX6_foldAt_41 : decode cX6_foldAt 41 = .ok (.iload 6, 2) := by decide +kernel
theorem dX6_foldAt_43 : decode cX6_foldAt 43 = .ok (.iload_n 3, 1) := by decide +kernel
theorem dX6_foldAt_44 : decode cX6_foldAt 44 = .ok (.invokevirtual 78, 3) := by decide +kernel
theorem dX6_foldAt_47 : decode cX6_foldAt 47 = .ok (.iload 6, 2) := by decide +kernel
theorem dX6_foldAt_49 : decode cX6_foldAt 49 = .ok (.iload_n 3, 1) := by decide +kernel
theorem dX6_foldAt_50 : decode cX6_foldAt 50 = .ok (.iadd, 1) := by decide +kernel
theorem dX6_foldAt_51 : decode cX6_foldAt 51 = .ok (.istore 6, 2) := by decide +kernel
theorem dX6_foldAt_53 : decode cX6_foldAt 53 = .ok (.iinc 5 1, 3) := by decide +kernel
theorem dX6_foldAt_56 : decode cX6_foldAt 56 = .ok (.iinc 7 1, 3) := by decide +kernel
theorem dX6_foldAt_59 : decode cX6_foldAt 59 = .ok (.goto (-48), 3) := by decide +kernel
theorem dX6_foldAt_62 : decode cX6_foldAt 62 = .ok (.aload_n 1, 1) := by decide +kernel
theorem dX6_foldAt_63 : decode cX6_foldAt 63 = .ok (.iload_n 2, 1) := by decide +kernel
theorem dX6_foldAt_64 : decode cX6_foldAt 64 = .ok (.iload_n 3, 1) := by decide +kernel
theorem dX6_foldAt_65 : decode cX6_foldAt 65 = .ok (.iadd, 1) := by decide +kernel
theorem dX6_foldAt_66 : decode cX6_foldAt 66 = .ok (.iload 6, 2) := by decide +kernel
theorem dX6_foldAt_68 : decode cX6_foldAt 68 = .ok (.invokevirtual 82, 3) := by decide +kernel
theorem dX6_foldAt_71 : decode cX6_foldAt 71 = .ok (.aload_n 1, 1) := by decide +kernel
theorem dX6_foldAt_72 : decode cX6_foldAt 72 = .ok (.iload_n 2, 1) := by decide +kernel
theorem dX6_foldAt_73 : decode cX6_foldAt 73 = .ok (.iload_n 3, 1) := by decide +kernel
theorem dX6_foldAt_74 : decode cX6_foldAt 74 = .ok (.iadd, 1) := by decide +kernel
theorem dX6_foldAt_75 : decode cX6_foldAt 75 = .ok (.sipush 515, 3) := by decide +kernel
theorem dX6_foldAt_78 : decode cX6_foldAt 78 = .ok (.invokevirtual 101, 3) := by decide +kernel
theorem dX6_foldAt_81 : decode cX6_foldAt 81 = .ok (.aload_n 1, 1) := by decide +kernel
theorem dX6_foldAt_82 : decode cX6_foldAt 82 = .ok (.iload_n 2, 1) := by decide +kernel
theorem dX6_foldAt_83 : decode cX6_foldAt 83 = .ok (.sipush 514, 3) := by decide +kernel
theorem dX6_foldAt_86 : decode cX6_foldAt 86 = .ok (.invokevirtual 101, 3) := by decide +kernel
theorem dX6_foldAt_89 : decode cX6_foldAt 89 = .ok (.aload_n 1, 1) := by decide +kernel
theorem dX6_foldAt_90 : decode cX6_foldAt 90 = .ok (.invokevirtual 86, 3) := by decide +kernel
theorem dX6_foldAt_93 : decode cX6_foldAt 93 = .ok (.iload 5, 2) := by decide +kernel
theorem dX6_foldAt_95 : decode cX6_foldAt 95 = .ok (.ireturn, 1) := by decide +kernel
theorem dX6_foldOnce_0 : decode cX6_foldOnce 0 = .ok (.aload_n 0, 1) := by decide +kernel
theorem dX6_foldOnce_1 : decode cX6_foldOnce 1 = .ok (.aload_n 1, 1) := by decide +kernel
theorem dX6_foldOnce_2 : decode cX6_foldOnce 2 = .ok (.iload_n 2, 1) := by decide +kernel
theorem dX6_foldOnce_3 : decode cX6_foldOnce 3 = .ok (.iload_n 3, 1) := by decide +kernel
theorem dX6_foldOnce_4 : decode cX6_foldOnce 4 = .ok (.invokevirtual 89, 3) := by decide +kernel
theorem dX6_foldOnce_7 : decode cX6_foldOnce 7 = .ok (.iconst 1, 1) := by decide +kernel
theorem dX6_foldOnce_8 : decode cX6_foldOnce 8 = .ok (.istore 4, 2) := by decide +kernel
theorem dX6_foldOnce_10 : decode cX6_foldOnce 10 = .ok (.iload 4, 2) := by decide +kernel
theorem dX6_foldOnce_12 : decode cX6_foldOnce 12 = .ok (.iconst 2, 1) := by decide +kernel
theorem dX6_foldOnce_13 : decode cX6_foldOnce 13 = .ok (.imul, 1) := by decide +kernel
theorem dX6_foldOnce_14 : decode cX6_foldOnce 14 = .ok (.aload_n 0, 1) := by decide +kernel
theorem dX6_foldOnce_15 : decode cX6_foldOnce 15 = .ok (.getfield 18, 3) := by decide +kernel
theorem dX6_foldOnce_18 : decode cX6_foldOnce 18 = .ok (.if_icmp .gt 132, 3) := by decide +kernel
theorem dX6_foldOnce_21 : decode cX6_foldOnce 21 = .ok (.iconst 0, 1) := by decide +kernel
theorem dX6_foldOnce_22 : decode cX6_foldOnce 22 = .ok (.istore 5, 2) := by decide +kernel
theorem dX6_foldOnce_24 : decode cX6_foldOnce 24 = .ok (.iload 5, 2) := by decide +kernel
theorem dX6_foldOnce_26 : decode cX6_foldOnce 26 = .ok (.iload 4, 2) := by decide +kernel
theorem dX6_foldOnce_28 : decode cX6_foldOnce 28 = .ok (.iconst 2, 1) := by decide +kernel
theorem dX6_foldOnce_29 : decode cX6_foldOnce 29 = .ok (.imul, 1) := by decide +kernel
theorem dX6_foldOnce_30 : decode cX6_foldOnce 30 = .ok (.iadd, 1) := by decide +kernel
theorem dX6_foldOnce_31 : decode cX6_foldOnce 31 = .ok (.aload_n 0, 1) := by decide +kernel
theorem dX6_foldOnce_32 : decode cX6_foldOnce 32 = .ok (.getfield 18, 3) := by decide +kernel
theorem dX6_foldOnce_35 : decode cX6_foldOnce 35 = .ok (.if_icmp .gt 109, 3) := by decide +kernel
theorem dX6_foldOnce_38 : decode cX6_foldOnce 38 = .ok (.aload_n 0, 1) := by decide +kernel
theorem dX6_foldOnce_39 : decode cX6_foldOnce 39 = .ok (.getfield 15, 3) := by decide +kernel
theorem dX6_foldOnce_42 : decode cX6_foldOnce 42 = .ok (.iload 5, 2) := by decide +kernel
theorem dX6_foldOnce_44 : decode cX6_foldOnce 44 = .ok (.iload 4, 2) := by decide +kernel
theorem dX6_foldOnce_46 : decode cX6_foldOnce 46 = .ok (.iadd, 1) := by decide +kernel
theorem dX6_foldOnce_47 : decode cX6_foldOnce 47 = .ok (.iaload, 1) := by decide +kernel
theorem dX6_foldOnce_48 : decode cX6_foldOnce 48 = .ok (.aload_n 0, 1) := by decide +kernel
theorem dX6_foldOnce_49 : decode cX6_foldOnce 49 = .ok (.getfield 15, 3) := by decide +kernel
theorem dX6_foldOnce_52 : decode cX6_foldOnce 52 = .ok (.iload 5, 2) := by decide +kernel
theorem dX6_foldOnce_54 : decode cX6_foldOnce 54 = .ok (.iaload, 1) := by decide +kernel
theorem dX6_foldOnce_55 : decode cX6_foldOnce 55 = .ok (.if_icmp .le 83, 3) := by decide +kernel
theorem dX6_foldOnce_58 : decode cX6_foldOnce 58 = .ok (.aload_n 0, 1) := by decide +kernel
theorem dX6_foldOnce_59 : decode cX6_foldOnce 59 = .ok (.getfield 9, 3) := by decide +kernel
theorem dX6_foldOnce_62 : decode cX6_foldOnce 62 = .ok (.iload 5, 2) := by decide +kernel
theorem dX6_foldOnce_64 : decode cX6_foldOnce 64 = .ok (.iaload, 1) := by decide +kernel
theorem dX6_foldOnce_65 : decode cX6_foldOnce 65 = .ok (.istore 6, 2) := by decide +kernel
theorem dX6_foldOnce_67 : decode cX6_foldOnce 67 = .ok (.aload_n 0, 1) := by decide +kernel
theorem dX6_foldOnce_68 : decode cX6_foldOnce 68 = .ok (.getfield 9, 3) := by decide +kernel
theorem dX6_foldOnce_71 : decode cX6_foldOnce 71 = .ok (.iload 5, 2) := by decide +kernel
theorem dX6_foldOnce_73 : decode cX6_foldOnce 73 = .ok (.iload 4, 2) := by decide +kernel
theorem dX6_foldOnce_75 : decode cX6_foldOnce 75 = .ok (.iadd, 1) := by decide +kernel
theorem dX6_foldOnce_76 : decode cX6_foldOnce 76 = .ok (.iaload, 1) := by decide +kernel
theorem dX6_foldOnce_77 : decode cX6_foldOnce 77 = .ok (.iload 6, 2) := by decide +kernel
theorem dX6_foldOnce_79 : decode cX6_foldOnce 79 = .ok (.isub, 1) := by decide +kernel
theorem dX6_foldOnce_80 : decode cX6_foldOnce 80 = .ok (.istore 7, 2) := by decide +kernel
theorem dX6_foldOnce_82 : decode cX6_foldOnce 82 = .ok (.iload 6, 2) := by decide +kernel
theorem dX6_foldOnce_84 : decode cX6_foldOnce 84 = .ok (.iload 7, 2) := by decide +kernel
theorem dX6_foldOnce_86 : decode cX6_foldOnce 86 = .ok (.iconst 2, 1) := by decide +kernel
theorem dX6_foldOnce_87 : decode cX6_foldOnce 87 = .ok (.imul, 1) := by decide +kernel
theorem dX6_foldOnce_88 : decode cX6_foldOnce 88 = .ok (.iadd, 1) := by decide +kernel
theorem dX6_foldOnce_89 : decode cX6_foldOnce 89 = .ok (.iload_n 3, 1) := by decide +kernel
theorem dX6_foldOnce_90 : decode cX6_foldOnce 90 = .ok (.if_icmp .gt 48, 3) := by decide +kernel
theorem dX6_foldOnce_93 : decode cX6_foldOnce 93 = .ok (.aload_n 1, 1) := by decide +kernel
theorem dX6_foldOnce_94 : decode cX6_foldOnce 94 = .ok (.iload 6, 2) := by decide +kernel
theorem dX6_foldOnce_96 : decode cX6_foldOnce 96 = .ok (.aload_n 1, 1) := by decide +kernel
theorem dX6_foldOnce_97 : decode cX6_foldOnce 97 = .ok (.iload 6, 2) := by decide +kernel
theorem dX6_foldOnce_99 : decode cX6_foldOnce 99 = .ok (.iload 7, 2) := by decide +kernel
theorem dX6_foldOnce_101 : decode cX6_foldOnce 101 = .ok (.iadd, 1) := by decide +kernel
theorem dX6_foldOnce_102 : decode cX6_foldOnce 102 = .ok (.iload 7, 2) := by decide +kernel
theorem dX6_foldOnce_104 : decode cX6_foldOnce 104 = .ok (.invokevirtual 64, 3) := by decide +kernel
theorem dX6_foldOnce_107 : decode cX6_foldOnce 107 = .ok (.ifCond .eq 31, 3) := by decide +kernel
theorem dX6_foldOnce_110 : decode cX6_foldOnce 110 = .ok (.aload_n 0, 1) := by decide +kernel
theorem dX6_foldOnce_111 : decode cX6_foldOnce 111 = .ok (.iload 4, 2) := by decide +kernel
theorem dX6_foldOnce_113 : decode cX6_foldOnce 113 = .ok (.putfield 22, 3) := by decide +kernel
theorem dX6_foldOnce_116 : decode cX6_foldOnce 116 = .ok (.aload_n 0, 1) := by decide +kernel
theorem dX6_foldOnce_117 : decode cX6_foldOnce 117 = .ok (.iload 5, 2) := by decide +kernel
theorem dX6_foldOnce_119 : decode cX6_foldOnce 119 = .ok (.putfield 25, 3) := by decide +kernel
theorem dX6_foldOnce_122 : decode cX6_foldOnce 122 = .ok (.aload_n 0, 1) := by decide +kernel
theorem dX6_foldOnce_123 : decode cX6_foldOnce 123 = .ok (.aload_n 0, 1) := by decide +kernel
theorem dX6_foldOnce_124 : decode cX6_foldOnce 124 = .ok (.aload_n 1, 1) := by decide +kernel
theorem dX6_foldOnce_125 : decode cX6_foldOnce 125 = .ok (.iload 6, 2) := by decide +kernel
theorem dX6_foldOnce_127 : decode cX6_foldOnce 127 = .ok (.iload 7, 2) := by decide +kernel
theorem dX6_foldOnce_129 : decode cX6_foldOnce 129 = .ok (.iload_n 3, 1) := by decide +kernel
theorem dX6_foldOnce_130 : decode cX6_foldOnce 130 = .ok (.invokevirtual 93, 3) := by decide +kernel
theorem dX6_foldOnce_133 : decode cX6_foldOnce 133 = .ok (.putfield 28, 3) := by decide +kernel
theorem dX6_foldOnce_136 : decode cX6_foldOnce 136 = .ok (.iconst 1, 1) := by decide +kernel
theorem dX6_foldOnce_137 : decode cX6_foldOnce 137 = .ok (.ireturn, 1) := by decide +kernel
theorem dX6_foldOnce_138 : decode cX6_foldOnce 138 = .ok (.iinc 5 1, 3) := by decide +kernel
theorem dX6_foldOnce_141 : decode cX6_foldOnce 141 = .ok (.goto (-117), 3) := by decide +kernel
theorem dX6_foldOnce_144 : decode cX6_foldOnce 144 = .ok (.iinc 4 1, 3) := by decide +kernel
theorem dX6_foldOnce_147 : decode cX6_foldOnce 147 = .ok (.goto (-137), 3) := by decide +kernel
theorem dX6_foldOnce_150 : decode cX6_foldOnce 150 = .ok (.iconst 0, 1) := by decide +kernel
theorem dX6_foldOnce_151 : decode cX6_foldOnce 151 = .ok (.ireturn, 1) := by decide +kernel
/-! the tidier: its items; folded -/
theorem ins_mem {μ u : va_M} {q rm : Nat} {p s : Int} (hl : 0 ≤ μ q 5 ∧ μ q 5 ≤ rm) (hp : 0 ≤ p ∧ p ≤ μ q 5) (hg : sgA μ (q + 1)) (hs : 0 ≤ s ∧ s ≤ 515) (c1 : μ q 5 < rm → u = uz (uz (uc μ (q + 1) p.toNat (q + 1) (p + 1).toNat (μ q 5 - p).toNat) (q + 1) p.toNat s) q 5 (μ q 5 + 1)) (c2 : ¬ μ q 5 < rm → u = uz μ q 7 1) :
    sgA u (q + 1) ∧ fr (fun x y => x = q + 1 ∨ (x = q ∧ (y = 5 ∨ y = 7))) μ u ∧ (0 ≤ u q 5 ∧ u q 5 ≤ rm) ∧ (μ q 5 < rm → u q 5 = μ q 5 + 1 ∧ u q 7 = μ q 7 ∧ (∀ j, j < p.toNat → u (q + 1) j = μ (q + 1) j) ∧ u (q + 1) p.toNat = s ∧ ∀ j, p.toNat ≤ j → j < (μ q 5).toNat → u (q + 1) (j + 1) = μ (q + 1) j) ∧ (¬ μ q 5 < rm → u q 7 = 1 ∧ u q 5 = μ q 5) := by
  by_cases h9 : μ q 5 < rm
  · have e := c1 h9
    have e5 : u q 5 = μ q 5 + 1 := by rw [e, uz_s]
    refine ⟨fun i => ?_, fun x y h => by rw [e, uz_n (by omega), uz_n (by omega), uc_n (by omega)], by omega, fun _ => ⟨e5, by rw [e, uz_n (by omega), uz_n (by omega), uc_n (by omega)], fun j hj => by rw [e, uz_n (by omega), uz_n (by omega), uc_n (by omega)], by rw [e, uz_n (by omega), uz_s], fun j h7 h8 => ?_⟩, fun h => absurd h9 h⟩
    · rw [e, uz_n (by omega)]; exact sgA_uz (a := 0) (sgA_uc hg) hs i
    · rw [e, uz_n (by omega), uz_n (by omega), uc_s (by omega)]
      congr 1
      omega
  · have e := c2 h9
    exact ⟨fun i => by rw [e, uz_n (by omega)]; exact hg i, fun x y h => by rw [e, uz_n (by omega)], by rw [e, uz_n (by omega)]; exact hl, fun h => absurd h h9, fun _ => ⟨by rw [e, uz_s], by rw [e, uz_n (by omega)]⟩⟩
theorem Dp_ins {f g : Nat → Int} {x L : Nat} {s : Int} (h1 : ∀ j, j < x → g j = f j) (h0 : g x = s) (h2 : ∀ j, x ≤ j → j < L → g (j + 1) = f j) : (∀ j, j ≤ x → Dp g j = Dp f j) ∧ ∀ j, x ≤ j → j ≤ L → Dp g (j + 1) = Dp f j + dl s := by
  have e1 : ∀ j, j ≤ x → Dp g j = Dp f j := fun j hj => Dp_eq j (fun i hi => by rw [h1 i (by omega)])
  refine ⟨e1, fun j h8 h9 => ?_⟩
  have e2 := Dp_sh (f := f) (g := g) x (x + 1) (j - x) (fun i hi => by rw [← h2 (x + i) (by omega) (by omega), show x + 1 + i = x + i + 1 by omega])
  have e3 := e1 x (Nat.le_refl _)
  have e4 := Dp_s g x
  rw [h0] at e4
  rw [show x + (j - x) = j by omega, show x + 1 + (j - x) = j + 1 by omega] at e2
  omega
/-- how deep the places are, once x - p signs from p on stand in a repeat, and n signs behind them are gone -/
def dFo (f g : Nat → Int) (p x n L : Nat) : Prop := (∀ j, j ≤ p → Dp g j = Dp f j) ∧ (∀ j, p ≤ j → j ≤ x → Dp g (j + 1) = Dp f j + 1) ∧ ∀ j, x ≤ j → j + 2 ≤ L → Dp g (j + 2) = Dp f (j + n)
set_option maxHeartbeats 4000000 in
theorem fold_mem {μ μ1 μ2 μ3 μ4 : va_M} {q rm : Nat} {p n x : Int} (hG : rG μ q rm) (h7 : μ q 7 = 0) (hb : 0 ≤ p ∧ 1 ≤ n ∧ p + n ≤ x ∧ x ≤ μ q 5) (hx : Dp (μ (q + 1)) x.toNat = Dp (μ (q + 1)) (p + n).toNat) (hf1 : fr (fun x _ => x = q + 1) μ μ1) (s1 : sgA μ1 (q + 1)) (d1 : ∀ j, dl (μ1 (q + 1) j) = dl (μ (q + 1) j) ∧ (vS (μ (q + 1) j) → vS (μ1 (q + 1) j)))
    (h2 : μ2 = uz (uc μ1 (q + 1) x.toNat (q + 1) (p + n).toNat (μ1 q 5 - x).toNat) q 5 (μ1 q 5 - (x - (p + n)))) (i3 : (μ2 q 5 < rm → μ3 = uz (uz (uc μ2 (q + 1) (p + n).toNat (q + 1) (p + n + 1).toNat (μ2 q 5 - (p + n)).toNat) (q + 1) (p + n).toNat 515) q 5 (μ2 q 5 + 1)) ∧ (¬ μ2 q 5 < rm → μ3 = uz μ2 q 7 1))
    (i4 : (μ3 q 5 < rm → μ4 = uz (uz (uc μ3 (q + 1) p.toNat (q + 1) (p + 1).toNat (μ3 q 5 - p).toNat) (q + 1) p.toNat 514) q 5 (μ3 q 5 + 1)) ∧ (¬ μ3 q 5 < rm → μ4 = uz μ3 q 7 1)) :
    (∃ w : Rw, rW0 w ∧ sL w ≤ rm ∧ ((μ4 q 7 = 0 ∧ SA μ4 (q + 1) w 0 ∧ μ4 q 5 = sL w) ∨ (μ4 q 7 = 1 ∧ w = .leaf))) ∧ (0 ≤ μ4 q 5 ∧ μ4 q 5 ≤ rm) ∧ sgA μ4 (q + 1) ∧ mA μ4 q rm ∧ fr (fun x y => x = q + 1 ∨ (x = q ∧ (y = 5 ∨ y = 7))) μ μ4 ∧ (μ4 q 7 = 0 → μ4 q 5 = μ q 5 - (x - (p + n)) + 2 ∧ dFo (μ (q + 1)) (μ4 (q + 1)) p.toNat (p + n).toNat (x - (p + n)).toNat (μ4 q 5).toNat) := by
  have hl := rG_len hG
  have hgl := rG_gL hG
  have e5 : μ1 q 5 = μ q 5 := hf1 _ _ (by omega)
  rw [e5] at h2
  have l2 : μ2 q 5 = μ q 5 - (x - (p + n)) := by rw [h2, uz_s]
  have s2 : sgA μ2 (q + 1) := fun i => by rw [h2, uz_n (by omega)]; exact sgA_uc s1 i
  have f2 : fr (fun x y => x = q + 1 ∨ (x = q ∧ (y = 5 ∨ y = 7))) μ μ2 := fun x y h => by
    rw [h2, uz_n (by omega), uc_n (by omega)]
    exact hf1 _ _ (by omega)
  have k2 : μ2 q 7 = 0 := by rw [h2, uz_n (by omega), uc_n (by omega), hf1 _ _ (by omega)]; exact h7
  have a1 : ∀ j, j < (p + n).toNat → μ2 (q + 1) j = μ1 (q + 1) j := fun j hj => by rw [h2, uz_n (by omega), uc_n (by omega)]
  have a2 : ∀ j, (p + n).toNat ≤ j → j < (μ2 q 5).toNat → μ2 (q + 1) j = μ1 (q + 1) (j + (x - (p + n)).toNat) := fun j h8 h9 => by
    rw [h2, uz_n (by omega), uc_s (by omega)]
    congr 1
    omega
  have D2 := Dp_rmv (f := μ (q + 1)) (g := μ2 (q + 1)) (x := (p + n).toNat) (n := (x - (p + n)).toNat) (L := (μ2 q 5).toNat) (fun j h => by rw [a1 j h]; exact (d1 j).1) (fun j h8 h9 => by rw [a2 j h8 h9]; exact (d1 _).1) (by rw [show (p + n).toNat + (x - (p + n)).toNat = x.toNat by omega]; exact hx)
  have v2 : ∀ j, j < (μ2 q 5).toNat → vS (μ2 (q + 1) j) := fun j hj => by
    by_cases h9 : j < (p + n).toNat
    · rw [a1 j h9]; exact (d1 j).2 ((hgl.2 j (by omega)).2 (by omega))
    · rw [a2 j (by omega) hj]; exact (d1 _).2 ((hgl.2 _ (by omega)).2 (by omega))
  obtain ⟨s3, f3, l3, g3, o3⟩ := ins_mem (p := p + n) (s := 515) (by omega) (by omega) s2 (by decide) i3.1 i3.2
  have p3 : p ≤ μ3 q 5 := by
    by_cases h9 : μ2 q 5 < rm
    · have := (g3 h9).1; omega
    · have := (o3 h9).2; omega
  obtain ⟨s4, f4, l4, g4, o4⟩ := ins_mem (p := p) (s := 514) l3 (by omega) s3 (by decide) i4.1 i4.2
  have F4 := fr_trans (fr_trans f2 f3) f4
  clear i3 i4 h2
  by_cases h3 : μ2 q 5 < rm
  · obtain ⟨b5, b7, b1, b0, b2⟩ := g3 h3
    by_cases h4 : μ3 q 5 < rm
    · obtain ⟨c5, c7, c1, c0, c2⟩ := g4 h4
      have D3 := Dp_ins b1 b0 b2
      have D4 := Dp_ins c1 c0 c2
      rw [show dl 515 = -1 from rfl] at D3
      rw [show dl 514 = 1 from rfl] at D4
      have DF : dFo (μ (q + 1)) (μ4 (q + 1)) p.toNat (p + n).toNat (x - (p + n)).toNat (μ4 q 5).toNat := by
        refine ⟨fun j hj => ?_, fun j h8 h9 => ?_, fun j h8 h9 => ?_⟩
        · rw [D4.1 j hj, D3.1 j (by omega), D2.1 j (by omega)]
        · rw [D4.2 j h8 (by omega), D3.1 j h9, D2.1 j h9]
        · have q1 := D4.2 (j + 1) (by omega) (by omega)
          have q2 := D3.2 j h8 (by omega)
          have q3 := D2.2 j h8 (by omega)
          show Dp (μ4 (q + 1)) (j + 1 + 1) = _
          omega
      have v3 : ∀ j, j < (μ3 q 5).toNat → vS (μ3 (q + 1) j) := fun j hj => by
        by_cases h9 : j < (p + n).toNat
        · rw [b1 j h9]; exact v2 j (by omega)
        · by_cases h8 : j = (p + n).toNat
          · rw [h8, b0]; unfold vS; omega
          · have := b2 (j - 1) (by omega) (by omega)
            rw [show j - 1 + 1 = j by omega] at this
            rw [this]; exact v2 _ (by omega)
      have v4 : ∀ j, j < (μ4 q 5).toNat → vS (μ4 (q + 1) j) := fun j hj => by
        by_cases h9 : j < p.toNat
        · rw [c1 j h9]; exact v3 j (by omega)
        · by_cases h8 : j = p.toNat
          · rw [h8, c0]; unfold vS; omega
          · have := c2 (j - 1) (by omega) (by omega)
            rw [show j - 1 + 1 = j by omega] at this
            rw [this]; exact v3 _ (by omega)
      have gl : gL (μ4 (q + 1)) (μ4 q 5).toNat := by
        refine ⟨?_, fun j hj => ⟨?_, v4 j⟩⟩
        · have q1 := DF.2.2 ((μ4 q 5).toNat - 2) (by omega) (by omega)
          rw [show (μ4 q 5).toNat - 2 + 2 = (μ4 q 5).toNat by omega, show (μ4 q 5).toNat - 2 + (x - (p + n)).toNat = (μ q 5).toNat by omega] at q1
          rw [q1]; exact hgl.1
        · by_cases h9 : j ≤ p.toNat
          · rw [DF.1 j h9]; exact (hgl.2 j (by omega)).1
          · by_cases h8 : j ≤ (p + n).toNat + 1
            · have q1 := DF.2.1 (j - 1) (by omega) (by omega)
              rw [show j - 1 + 1 = j by omega] at q1
              have := (hgl.2 (j - 1) (by omega)).1
              omega
            · have q1 := DF.2.2 (j - 2) (by omega) (by omega)
              rw [show j - 2 + 2 = j by omega] at q1
              rw [q1]; exact (hgl.2 _ (by omega)).1
      obtain ⟨w, w1, w2, w3⟩ := gL_w gl
      exact ⟨⟨w, w1, by omega, Or.inl ⟨by omega, w3, by omega⟩⟩, l4, s4, fun y => by rw [F4 _ _ (by omega)]; exact hG.2.1 y, F4, fun _ => ⟨by omega, DF⟩⟩
    · have := o4 h4
      exact ⟨⟨.leaf, trivial, Nat.zero_le _, Or.inr ⟨this.1, rfl⟩⟩, l4, s4, fun y => by rw [F4 _ _ (by omega)]; exact hG.2.1 y, F4, fun h => by omega⟩
  · have q3 := o3 h3
    have := o4 (by omega)
    exact ⟨⟨.leaf, trivial, Nat.zero_le _, Or.inr ⟨this.1, rfl⟩⟩, l4, s4, fun y => by rw [F4 _ _ (by omega)]; exact hG.2.1 y, F4, fun h => by omega⟩
theorem rng_fo {μ u : va_M} {q : Nat} {p1 bh p n x : Int} (hl : 0 ≤ μ q 5) (hrg : rng μ q p1 bh) (hb : p1 ≤ p ∧ 1 ≤ n ∧ p + n ≤ x ∧ x ≤ μ q 5 - bh) (h5 : u q 5 = μ q 5 - (x - (p + n)) + 2) (hd : dFo (μ (q + 1)) (u (q + 1)) p.toNat (p + n).toNat (x - (p + n)).toNat (u q 5).toNat) : rng u q p1 bh := by
  have hr1 := hrg.1
  obtain ⟨s1, s2, s3⟩ := hrg.2 (by omega)
  obtain ⟨d1, d2, d3⟩ := hd
  have e1 := d1 p1.toNat (by omega)
  refine ⟨hrg.1, fun h => ⟨by omega, ?_, fun j h8 h9 => ?_⟩⟩
  · have q1 := d3 ((u q 5 - bh).toNat - 2) (by omega) (by omega)
    rw [show (u q 5 - bh).toNat - 2 + 2 = (u q 5 - bh).toNat by omega, show (u q 5 - bh).toNat - 2 + (x - (p + n)).toNat = (μ q 5 - bh).toNat by omega] at q1
    rw [q1, e1]; exact s2
  · rw [e1]
    by_cases h6 : j ≤ p.toNat
    · rw [d1 j h6]; exact s3 j h8 (by omega)
    · by_cases h5 : j ≤ (p + n).toNat + 1
      · have q1 := d2 (j - 1) (by omega) (by omega)
        rw [show j - 1 + 1 = j by omega] at q1
        have := s3 (j - 1) (by omega) (by omega)
        omega
      · have q1 := d3 (j - 2) (by omega) (by omega)
        rw [show j - 2 + 2 = j by omega] at q1
        rw [q1]; exact s3 _ (by omega) (by omega)
/-- the items of the stretch from p1 to p2, as the tidier has listed them -/
def itm (f : Nat → Int) (μ : va_M) (p1 p2 : Int) : Prop := (0 ≤ μ 38 2 ∧ μ 38 2 ≤ 1100) ∧ (∀ k : Nat, (k : Int) ≤ μ 38 2 → 0 ≤ μ 40 k ∧ μ 40 k ≤ k) ∧ (∀ k : Nat, (k : Int) ≤ μ 38 2 → 0 < μ 38 2 → p1 ≤ μ 39 k ∧ μ 39 k ≤ p2 ∧ Dp f (μ 39 k).toNat = Dp f p1.toNat) ∧ (∀ k k2 : Nat, k < k2 → (k2 : Int) ≤ μ 38 2 → μ 39 k < μ 39 k2) ∧ (0 < μ 38 2 → p1 < p2)
theorem fuse_d {μ0 μ u : va_M} {q p x n : Nat} (d1 : ∀ j, dl (μ (q + 1) j) = dl (μ0 (q + 1) j) ∧ (vS (μ0 (q + 1) j) → vS (μ (q + 1) j))) (hal : ∀ t : Nat, t < n → sAl (μ (q + 1) (p + t)) (μ (q + 1) (x + t))) (hf : fr (fun a b => a = q + 1 ∧ p ≤ b ∧ b < p + n) μ u) (hv : ∀ t : Nat, t < n → u (q + 1) (p + t) = sFu (μ (q + 1) (p + t)) (μ (q + 1) (x + t))) (hs : sgA μ (q + 1)) : (∀ j, dl (u (q + 1) j) = dl (μ0 (q + 1) j) ∧ (vS (μ0 (q + 1) j) → vS (u (q + 1) j))) ∧ sgA u (q + 1) := by
  have k : ∀ j, (u (q + 1) j = μ (q + 1) j) ∨ (∃ b, sAl (μ (q + 1) j) b ∧ u (q + 1) j = sFu (μ (q + 1) j) b) := fun j => by
    by_cases h9 : p ≤ j ∧ j < p + n
    · have h1 := hal (j - p) (by omega)
      have h2 := hv (j - p) (by omega)
      rw [show p + (j - p) = j by omega] at h1 h2
      exact Or.inr ⟨_, h1, h2⟩
    · exact Or.inl (hf _ _ (fun h => h9 h.2))
  refine ⟨fun j => ?_, fun j => ?_⟩
  · rcases k j with h | ⟨b, h1, h2⟩
    · rw [h]; exact d1 j
    · rw [h2]; exact ⟨(sFu_dl h1).trans (d1 j).1, fun h => sFu_v ((d1 j).2 h)⟩
  · rcases k j with h | ⟨b, h1, h2⟩
    · rw [h]; exact hs j
    · rw [h2]; exact sFu_b (hs j)
theorem rng_ov {μ u : va_M} {q rm : Nat} {p1 bh : Int} (hrg : rng μ q p1 bh) (hg : rG u q rm) (h7 : u q 7 = 1) : rng u q p1 bh := by
  have h1 := hrg.1
  have h5 : u q 5 = 0 := (rG_ov hg).elim (fun h => by omega) (fun h => h.2)
  exact ⟨hrg.1, fun h => by omega⟩
set_option maxHeartbeats 4000000 in
set_option maxRecDepth 100000 in
theorem LX6_findItems_15 {p : Program} {l : Launch} {e : Env} {R : Room} {s : State} {m : MethodId} {args : Array Value} {below : List Frame} {meth : Method} {c : Code} {cells slots : Nat} {Q : State → Prop} {dC : Nat → ClassId} {dI : Nat → Nat → Nat} {h0 : Nat} {cI cZ cII cIII : ClassId} (hx : p.tables.exec = Jvm.exec) (hb : c.code = cX6_findItems) (hml : c.maxLocals = 6) (hown : s.vm.findClass RX6 = some m.cls) (hts : ∀ w ∈ wsG, w.before args s = true) (hK : va_K (dC, dI) vwCl (sT cI cZ cII cIII) s) (hM : xM s) (hRf : 2 ≤ R.frames) (hRl : 35 ≤ R.locals) (hRc : cells ≤ R.cells) (hRs : slots ≤ R.slots) (μ0 : va_M) (q : Nat) (rm : Nat) (p1 : Int) (p2 : Int) (bh : Int) (hq : rowB q rm) (hG : rG μ0 q rm) (hqt : q + 6 ≤ 38 ∨ 41 ≤ q) (hrg : rng μ0 q p1 bh) (hp2 : p2 = μ0 q 5 - bh) (hexit134 : ∀ (i : Int) (μ : va_M) (H : Heap) (locs : List Loc) (ls : Array Slot), (p1 ≤ i ∧ (i ≤ p2 ∨ i = p1)) → (fr (fun x y => (x = 38 ∧ y = 2) ∨ x = 39 ∨ x = 40) μ0 μ) → (0 ≤ μ 38 2 ∧ μ 38 2 ≤ 1100 ∧ μ 38 2 ≤ i - p1 ∧ (p2 ≤ p1 → μ 38 2 = 0)) → (∀ k : Nat, (k : Int) ≤ μ 38 2 → 0 ≤ μ 40 k ∧ μ 40 k ≤ k) → (∀ k : Nat, (k : Int) < μ 38 2 → p1 ≤ μ 39 k ∧ μ 39 k < i ∧ Dp (μ0 (q + 1)) (μ 39 k).toNat = Dp (μ0 (q + 1)) p1.toNat) → (∀ k k2 : Nat, k < k2 → (k2 : Int) < μ 38 2 → μ 39 k < μ 39 k2) → va_P (dC, dI) vwCl (fw (sE cI cZ cII cIII h0) h0 233 μ) H → va_S (fA h0 233 s.heap.size) s.heap H locs → lv_has ls 6 [(3, .int (iZ (p2))), (1, .ref (h0 + q)), (0, .ref (h0 + 38))] → W p l e R s m args below meth c H locs cells slots Q (F0 m 134 ls [])) :
    ∀ (n9 : Nat) (i : Int) (μ : va_M) (H : Heap) (locs : List Loc) (ls : Array Slot), (p1 ≤ i ∧ (i ≤ p2 ∨ i = p1)) → (Dp (μ0 (q + 1)) i.toNat = Dp (μ0 (q + 1)) p1.toNat) → (fr (fun x y => (x = 38 ∧ y = 2) ∨ x = 39 ∨ x = 40) μ0 μ) → (0 ≤ μ 38 2 ∧ μ 38 2 ≤ 1100 ∧ μ 38 2 ≤ i - p1 ∧ (p2 ≤ p1 → μ 38 2 = 0)) → (∀ k : Nat, (k : Int) ≤ μ 38 2 → 0 ≤ μ 40 k ∧ μ 40 k ≤ k) → (∀ k : Nat, (k : Int) < μ 38 2 → p1 ≤ μ 39 k ∧ μ 39 k < i ∧ Dp (μ0 (q + 1)) (μ 39 k).toNat = Dp (μ0 (q + 1)) p1.toNat) → (∀ k k2 : Nat, k < k2 → (k2 : Int) < μ 38 2 → μ 39 k < μ 39 k2) → (1101 - i).toNat < n9 → va_P (dC, dI) vwCl (fw (sE cI cZ cII cIII h0) h0 233 μ) H → va_S (fA h0 233 s.heap.size) s.heap H locs → lv_has ls 6 [(4, .int (iZ (i))), (3, .int (iZ (p2))), (2, .int (iZ (p1))), (1, .ref (h0 + q)), (0, .ref (h0 + 38))] → W p l e R s m args below meth c H locs cells slots Q (F0 m 15 ls []) := by
  intro n9
  induction n9 with
  | zero => intro i μ H locs ls hi hD hf hn hk hb9 hm8 hm9 hP hS hl; exact absurd hm9 (Nat.not_lt_zero _)
  | succ n9 ih =>
    intro i μ H locs ls hi hD hf hn hk hb9 hm8 hm9 hP hS hl
    have hrm := rG_rm hq hG
    have hqb := rowB_b hq
    have hr1 := hrg.1
    have x5 : μ q 5 = μ0 q 5 := hf _ _ (by omega)
    have x1 : ∀ y, μ (q + 1) y = μ0 (q + 1) y := fun y => hf _ _ (by omega)
    have x2 : ∀ y, μ (q + 2) y = μ0 (q + 2) y := fun y => hf _ _ (by omega)
    refine lv_iload hx hb dX6_findItems_15 (lv_at hl 0 rfl) ?_
    refine lv_iload_n hx hb dX6_findItems_17 rfl (lv_at hl 1 rfl) ?_
    refine fz_icmp_ge (tgt := 134) (by constructor <;> omega) (by constructor <;> omega) hx hb dX6_findItems_18 (by decide) (fun c18_ => ?_) (fun c18_ => ?_)
    · exact hexit134 (i) μ H locs ls (by omega) (by exact hf) (by exact hn) (by exact hk) (by exact hb9) (by exact hm8) hP hS (lv_sub hl [1, 3, 4] rfl)
    · have hsg : seg (μ0 (q + 1)) p1.toNat p2.toNat := by rw [hp2]; exact hrg.2 (by omega)
      obtain ⟨m_, e1_, e2_, e3_, e4_, e5_, e6_, e7_⟩ := seg_af hG (a := p1.toNat) (b := p2.toNat) (i := i.toNat) (by omega) hsg (by omega) (by omega) hD
      have hs1 := hG.1 i.toNat
      have y1 := x1 i.toNat
      have y2 := x2 i.toNat
      have hkn := hk (μ 38 2).toNat (by omega)
      refine lv_aload_n hx hb dX6_findItems_21 rfl (lv_at hl 4 rfl) ?_
      refine fz_get (D := (dC, dI)) (ci := 6) (v := .int (iZ (μ 38 2))) (C := RX6) (T := TX6) (N := 6) hx hb hts inG6 hown hK hP (k := 38) (by decide) (F := (sF38 h0)) sE_38 rfl 2 (by decide) (hts _ k155) (fun _ h9 => h9) rfl dX6_findItems_22 ?_
      refine lv_sipush (v := iZ 1100) hx hb dX6_findItems_25 rfl ?_
      refine fz_icmp_ge (tgt := 134) (by constructor <;> omega) (by decide) hx hb dX6_findItems_28 (by decide) (fun c28_ => ?_) (fun c28_ => ?_)
      · exact hexit134 (i) μ H locs ls (by omega) (by exact hf) (by exact hn) (by exact hk) (by exact hb9) (by exact hm8) hP hS (lv_sub hl [1, 3, 4] rfl)
      · refine lv_aload_n hx hb dX6_findItems_31 rfl (lv_at hl 3 rfl) ?_
        refine fz_get (D := (dC, dI)) (ci := 4) (v := .ref (h0 + (q + 1))) (C := RX4) (T := TX4) (N := 8) hx hb hts inG4 hown hK hP (k := q) (by omega) (F := (sRF h0 q)) (sE_rowO hq) rfl 0 (by decide) (hts _ k79) (fun _ h9 => h9) rfl dX6_findItems_32 ?_
        refine lv_iload hx hb dX6_findItems_35 (lv_at hl 0 rfl) ?_
        refine fz_ld (k := (q + 1)) (n := rm) hx hb hK hP 0 (by omega) (sE_rowA (r := 1) hq (by decide)) rfl ⟨by omega, by omega⟩ (by omega) dX6_findItems_37 ?_
        refine va_calli (va_runSN (As := [.int (iZ (μ (q + 1) (i).toNat))]) (rest := []) ⟨hx, hb, hml, hown, hts⟩ (s_isTag l dC dI cI cZ cII cIII h0 H.size μ (μ (q + 1) (i).toNat) (by first | assumption | omega | exact ⟨by omega, by omega⟩)) ⟨va_cnB (host := "PageSkeleton") 1 hts (gI_G k486) rfl rfl rfl (xM_nest hM 11 rfl) (hts _ k1) (by decide +kernel) ⟨by show 1 + 1 ≤ _; omega, by show 8 + (1 + 11) + (14) ≤ _; omega⟩, hts _ k485, trivial⟩ ⟨fun a U g mk q => by obtain ⟨q0, q1, qP, qK, qM⟩ := q; exact ⟨q0, q1, qP, va_K.moved (u := U) (U := U.calling g mk a) (Vm.Alike.refl U.vm) qK, qM⟩, fun U hU hW => ⟨rfl, by rw [hU], by rw [hU]; exact hP, va_K.moved hW.alike hK, xM_warm hW hM⟩⟩ rfl rfl hl.1 rfl (lv_room (Nat.le_of_ble_eq_true rfl)) dX6_findItems_38 ⟨hRc, hRs⟩) hS (fun q _ h => fA_le hS.1 q h) (fA_le hS.1) (fun r9 u9 t9 H1 locs ht9 hvm9 hw9 hB9 hz9 hk9 hS => ?_)
        obtain ⟨μ1, r2⟩ := u9
        obtain ⟨hP, -⟩ := hB9
        rw [ht9] at hP
        generalize H1 = H at hP hS ⊢
        obtain ⟨e9, hw9⟩ := hw9
        have e9 : r9 = iZ r2 := e9
        subst e9
        simp only at hP hw9
        have hμ1 := hw9; clear hw9
        rw [hμ1.1] at hP; have hμ1 := hμ1.2
        have hlf := if_01 hμ1
        have j62_ : ∀ (x62_0 : Int), (0 ≤ x62_0 ∧ x62_0 ≤ 1) → W p l e R s m args below meth c H locs cells slots Q (F0 m 62 ls [.int (iZ (x62_0))]) := by
          intro x62_0 hj62_0
          refine lv_istore (lv' := [(5, .int (iZ (x62_0))), (4, .int (iZ (i))), (3, .int (iZ (p2))), (2, .int (iZ (p1))), (1, .ref (h0 + q)), (0, .ref (h0 + 38))]) hx hb dX6_findItems_62 hl (by decide) rfl (fun ls hl => ?_)
          refine lv_aload_n hx hb dX6_findItems_64 rfl (lv_at hl 5 rfl) ?_
          refine fz_get (D := (dC, dI)) (ci := 6) (v := .ref (h0 + 39)) (C := RX6) (T := TX6) (N := 6) hx hb hts inG6 hown hK hP (k := 38) (by decide) (F := (sF38 h0)) sE_38 rfl 0 (by decide) (hts _ k153) (fun _ h9 => h9) rfl dX6_findItems_65 ?_
          refine lv_aload_n hx hb dX6_findItems_68 rfl (lv_at hl 5 rfl) ?_
          refine fz_get (D := (dC, dI)) (ci := 6) (v := .int (iZ (μ 38 2))) (C := RX6) (T := TX6) (N := 6) hx hb hts inG6 hown hK hP (k := 38) (by decide) (F := (sF38 h0)) sE_38 rfl 2 (by decide) (hts _ k155) (fun _ h9 => h9) rfl dX6_findItems_69 ?_
          refine lv_iload hx hb dX6_findItems_72 (lv_at hl 1 rfl) ?_
          refine fz_st (k := 39) (n := 1101) (i := (μ 38 2)) (z := i) hx hb hK hP fA_in hS 0 (by decide) sE_39 rfl ⟨by omega, by omega⟩ (by decide) dX6_findItems_74 (fun H locs hP hS => ?_)
          obtain ⟨μ3, eμ3⟩ : ∃ x : va_M, x = uz μ 39 (μ 38 2).toNat (i) := ⟨_, rfl⟩
          rw [← eμ3] at hP
          refine lv_aload_n hx hb dX6_findItems_75 rfl (lv_at hl 5 rfl) ?_
          refine fz_get (D := (dC, dI)) (ci := 6) (v := .ref (h0 + 40)) (C := RX6) (T := TX6) (N := 6) hx hb hts inG6 hown hK hP (k := 38) (by decide) (F := (sF38 h0)) sE_38 rfl 1 (by decide) (hts _ k154) (fun _ h9 => h9) rfl dX6_findItems_76 ?_
          refine lv_aload_n hx hb dX6_findItems_79 rfl (lv_at hl 5 rfl) ?_
          refine fz_get (D := (dC, dI)) (ci := 6) (v := .int (iZ (μ3 38 2))) (C := RX6) (T := TX6) (N := 6) hx hb hts inG6 hown hK hP (k := 38) (by decide) (F := (sF38 h0)) sE_38 rfl 2 (by decide) (hts _ k155) (fun _ h9 => h9) rfl dX6_findItems_80 ?_
          rw [show μ3 38 2 = μ 38 2 from by rw [eμ3, uz_n (by omega)]]
          refine lv_iconst (v := iZ 1) hx hb dX6_findItems_83 rfl ?_
          refine lv_iadd hx hb dX6_findItems_84 ?_
          refine lv_topi (fun x9 ex9 => ?_)
          obtain rfl : x9 = iZ ((μ 38 2) + 1) := ex9.trans (iZ_add _ _)
          refine lv_aload_n hx hb dX6_findItems_85 rfl (lv_at hl 5 rfl) ?_
          refine fz_get (D := (dC, dI)) (ci := 6) (v := .ref (h0 + 40)) (C := RX6) (T := TX6) (N := 6) hx hb hts inG6 hown hK hP (k := 38) (by decide) (F := (sF38 h0)) sE_38 rfl 1 (by decide) (hts _ k154) (fun _ h9 => h9) rfl dX6_findItems_86 ?_
          refine lv_aload_n hx hb dX6_findItems_89 rfl (lv_at hl 5 rfl) ?_
          refine fz_get (D := (dC, dI)) (ci := 6) (v := .int (iZ (μ3 38 2))) (C := RX6) (T := TX6) (N := 6) hx hb hts inG6 hown hK hP (k := 38) (by decide) (F := (sF38 h0)) sE_38 rfl 2 (by decide) (hts _ k155) (fun _ h9 => h9) rfl dX6_findItems_90 ?_
          rw [show μ3 38 2 = μ 38 2 from by rw [eμ3, uz_n (by omega)]]
          refine fz_ld (k := 40) (n := 1101) hx hb hK hP 0 (by decide) sE_40 rfl ⟨by omega, by omega⟩ (by decide) dX6_findItems_93 ?_
          rw [show μ3 40 (μ 38 2).toNat = μ 40 (μ 38 2).toNat from by rw [eμ3, uz_n (by omega)]]
          refine lv_iload hx hb dX6_findItems_94 (lv_at hl 0 rfl) ?_
          have j104_ : ∀ (x104_0 : Int), (0 ≤ x104_0 ∧ x104_0 ≤ 1) → W p l e R s m args below meth c H locs cells slots Q (F0 m 104 ls [.int (iZ (x104_0)), .int (iZ (μ 40 (μ 38 2).toNat)), .int (iZ ((μ 38 2) + 1)), .ref (h0 + 40)]) := by
            intro x104_0 hj104_0
            refine lv_iadd hx hb dX6_findItems_104 ?_
            refine lv_topi (fun x9 ex9 => ?_)
            obtain rfl : x9 = iZ ((μ 40 (μ 38 2).toNat) + x104_0) := ex9.trans (iZ_add _ _)
            refine fz_st (k := 40) (n := 1101) (i := ((μ 38 2) + 1)) (z := ((μ 40 (μ 38 2).toNat) + x104_0)) hx hb hK hP fA_in hS 0 (by decide) sE_40 rfl ⟨by omega, by omega⟩ (by decide) dX6_findItems_105 (fun H locs hP hS => ?_)
            obtain ⟨μ4, eμ4⟩ : ∃ x : va_M, x = uz μ3 40 ((μ 38 2) + 1).toNat ((μ 40 (μ 38 2).toNat) + x104_0) := ⟨_, rfl⟩
            rw [← eμ4] at hP
            refine lv_aload_n hx hb dX6_findItems_106 rfl (lv_at hl 5 rfl) ?_
            refine lv_dup hx hb dX6_findItems_107 rfl ?_
            refine fz_get (D := (dC, dI)) (ci := 6) (v := .int (iZ (μ4 38 2))) (C := RX6) (T := TX6) (N := 6) hx hb hts inG6 hown hK hP (k := 38) (by decide) (F := (sF38 h0)) sE_38 rfl 2 (by decide) (hts _ k155) (fun _ h9 => h9) rfl dX6_findItems_108 ?_
            rw [show μ4 38 2 = μ 38 2 from by rw [eμ4, uz_n (by omega), eμ3, uz_n (by omega)]]
            refine lv_iconst (v := iZ 1) hx hb dX6_findItems_111 rfl ?_
            refine lv_iadd hx hb dX6_findItems_112 ?_
            refine lv_topi (fun x9 ex9 => ?_)
            obtain rfl : x9 = iZ ((μ 38 2) + 1) := ex9.trans (iZ_add _ _)
            refine fz_put (D := (dC, dI)) (ci := 6) (ty := .int) (z := ((μ 38 2) + 1)) (C := RX6) (T := TX6) (N := 6) hx hb hts inG6 tyX6 tyX6_ok nmX6 hown hK hP fA_in hS (k := 38) (by decide) (F := (sF38 h0)) sE_38 rfl 2 (by decide) (hts _ k155) (fun _ h9 => h9) rfl (by decide +kernel) rfl rfl (fun _ => Nat.le_of_ble_eq_true rfl) (fun _ _ => rfl) dX6_findItems_113 (fun H locs hP hS => ?_)
            obtain ⟨μ5, eμ5⟩ : ∃ x : va_M, x = uz μ4 38 2 ((μ 38 2) + 1) := ⟨_, rfl⟩
            rw [← eμ5] at hP
            refine lv_iload hx hb dX6_findItems_116 (lv_at hl 1 rfl) ?_
            refine lv_iconst (v := iZ 1) hx hb dX6_findItems_118 rfl ?_
            refine lv_iadd hx hb dX6_findItems_119 ?_
            refine lv_topi (fun x9 ex9 => ?_)
            obtain rfl : x9 = iZ (i + 1) := ex9.trans (iZ_add _ _)
            have w1 : μ5 38 2 = μ 38 2 + 1 := by rw [eμ5, eμ4, eμ3, uz_s]
            have w2 : μ5 39 (μ 38 2).toNat = i := by rw [eμ5, eμ4, eμ3, uz_n (by omega), uz_n (by omega), uz_s]
            have w3 : ∀ k : Nat, k ≠ (μ 38 2).toNat → μ5 39 k = μ 39 k := fun k hk => by rw [eμ5, eμ4, eμ3, uz_n (by omega), uz_n (by omega), uz_n (by omega)]
            have w4 : μ5 40 (μ 38 2 + 1).toNat = μ 40 (μ 38 2).toNat + x104_0 := by rw [eμ5, eμ4, eμ3, uz_n (by omega), uz_s]
            have w5 : ∀ k : Nat, k ≠ (μ 38 2 + 1).toNat → μ5 40 k = μ 40 k := fun k hk => by rw [eμ5, eμ4, eμ3, uz_n (by omega), uz_n (by omega), uz_n (by omega)]
            have z2 : μ5 (q + 2) i.toNat = (m_ : Int) := by
              rw [eμ5, eμ4, eμ3, uz_n (by omega), uz_n (by omega), uz_n (by omega)]
              omega
            refine lv_aload_n hx hb dX6_findItems_120 rfl (lv_at hl 4 rfl) ?_
            refine lv_iload hx hb dX6_findItems_121 (lv_at hl 1 rfl) ?_
            refine va_calli (va_runV (As := [.int (iZ (i))]) (rest := [.int (iZ (i + 1))]) ⟨hx, hb, hml, hown, hts⟩ (s_Rafter l dC dI cI cZ cII cIII h0 H.size μ5 (q) (rm) (i) (hq) (by first | assumption | omega | exact ⟨by omega, by omega⟩) (by constructor <;> omega)) (cwV 1 hts (gV_G k437 k438 k439 k3 k440) rfl rfl rfl (by decide +kernel) ⟨by show 1 + 1 ≤ _; omega, by show 8 + (2 + 11) + (14) ≤ _; omega⟩) ⟨fun a U g mk q => by obtain ⟨q0, q1, qP, qK, qM⟩ := q; exact ⟨q0, q1, qP, va_K.moved (u := U) (U := U.calling g mk a) (Vm.Alike.refl U.vm) qK, qM⟩, va_recv hK hP (ci := 4) (q0 := q) rfl ((fw_get (by omega)).trans (by rw [(sE_rowO hq)])), fun U hU hW => ⟨rfl, by rw [hU], by rw [hU]; exact hP, va_K.moved hW.alike hK, xM_warm hW hM⟩⟩ rfl rfl hl.1 rfl (lv_room (Nat.le_of_ble_eq_true rfl)) dX6_findItems_123 ⟨hRc, hRs⟩) hS (fun q _ h => fA_le hS.1 q h) (fA_le hS.1) (fun r9 u9 t9 H1 locs ht9 hvm9 hw9 hB9 hz9 hk9 hS => ?_)
            obtain ⟨μa, ra⟩ := u9
            obtain ⟨hP, -⟩ := hB9
            rw [ht9] at hP
            generalize H1 = H at hP hS ⊢
            obtain ⟨e9, hw9⟩ := hw9
            have e9 : r9 = iZ ra := e9
            subst e9
            simp only at hP hw9
            have hμa := hw9; clear hw9
            rw [hμa.1] at hP; have hμa := hμa.2
            have hra := hμa
            refine va_mmax hx hb (hml.trans hl.1.symm) hown (hts _ k467) (hts _ k75) (hts _ k4) (hts _ k76) (Nat.le_trans (Nat.le_of_ble_eq_true rfl) hRf) (Nat.le_trans (m := 35) (Nat.le_of_ble_eq_true rfl) hRl) hRc hRs dX6_findItems_126 ?_
            refine lv_topi (fun x9 ex9 => ?_)
            obtain rfl : x9 = iZ (max (i + 1) ra) := ex9.trans (iZ_mx (by constructor <;> omega) (by constructor <;> omega))
            refine lv_istore (lv' := [(4, .int (iZ (max (i + 1) ra))), (5, .int (iZ (x62_0))), (3, .int (iZ (p2))), (2, .int (iZ (p1))), (1, .ref (h0 + q)), (0, .ref (h0 + 38))]) hx hb dX6_findItems_129 hl (by decide) rfl (fun ls hl => ?_)
            refine lv_goto (tgt := 15) hx hb dX6_findItems_131 (by decide) ?_
            exact ih (max (i + 1) ra) μ5 H locs ls (by omega) (by rw [show (max (i + 1) ra).toNat = m_ + 1 by omega]; exact e4_.trans hD) (by rw [eμ5, eμ4, eμ3]; exact fr_uz (fr_uz (fr_uz hf (Or.inr (Or.inl rfl))) (Or.inr (Or.inr rfl))) (Or.inl ⟨rfl, rfl⟩)) (by omega) (by
                                intro k hk9
                                by_cases h9 : k = (μ 38 2 + 1).toNat
                                · rw [h9, w4]; omega
                                · rw [w5 k h9]; exact hk k (by omega)) (by
                                intro k hk9
                                by_cases h9 : k = (μ 38 2).toNat
                                · rw [h9, w2]; exact ⟨by omega, by omega, hD⟩
                                · have q9 := hb9 k (by omega)
                                  rw [w3 k h9]; exact ⟨q9.1, by omega, q9.2.2⟩) (by
                                intro k k2 h1 h2
                                rw [w3 k (by omega)]
                                by_cases h9 : k2 = (μ 38 2).toNat
                                · have q9 := hb9 k (by omega)
                                  rw [h9, w2]; exact q9.2.1
                                · rw [w3 k2 h9]; exact hm8 k k2 h1 (by omega)) (by omega) hP hS (lv_sub hl [0, 2, 3, 4, 5] rfl)
          refine fz_if_eq (tgt := 103) (by constructor <;> omega) hx hb dX6_findItems_96 (by decide) (fun c96_ => ?_) (fun c96_ => ?_)
          · refine lv_iconst (v := iZ 0) hx hb dX6_findItems_103 rfl ?_
            exact j104_ (0) (by omega)
          · refine lv_iconst (v := iZ 1) hx hb dX6_findItems_99 rfl ?_
            refine lv_goto (tgt := 104) hx hb dX6_findItems_100 (by decide) ?_
            exact j104_ (1) (by omega)
        refine fz_if_ne (tgt := 57) (by constructor <;> omega) hx hb dX6_findItems_41 (by decide) (fun c41_ => ?_) (fun c41_ => ?_)
        · refine lv_iconst (v := iZ 1) hx hb dX6_findItems_57 rfl ?_
          refine lv_goto (tgt := 62) hx hb dX6_findItems_58 (by decide) ?_
          exact j62_ (1) (by omega)
        · refine lv_aload_n hx hb dX6_findItems_44 rfl (lv_at hl 3 rfl) ?_
          refine fz_get (D := (dC, dI)) (ci := 4) (v := .ref (h0 + (q + 1))) (C := RX4) (T := TX4) (N := 8) hx hb hts inG4 hown hK hP (k := q) (by omega) (F := (sRF h0 q)) (sE_rowO hq) rfl 0 (by decide) (hts _ k79) (fun _ h9 => h9) rfl dX6_findItems_45 ?_
          refine lv_iload hx hb dX6_findItems_48 (lv_at hl 0 rfl) ?_
          refine fz_ld (k := (q + 1)) (n := rm) hx hb hK hP 0 (by omega) (sE_rowA (r := 1) hq (by decide)) rfl ⟨by omega, by omega⟩ (by omega) dX6_findItems_50 ?_
          refine lv_sipush (v := iZ 514) hx hb dX6_findItems_51 rfl ?_
          refine fz_icmp_ne (tgt := 61) (by constructor <;> omega) (by decide) hx hb dX6_findItems_54 (by decide) (fun c54_ => ?_) (fun c54_ => ?_)
          · refine lv_iconst (v := iZ 0) hx hb dX6_findItems_61 rfl ?_
            exact j62_ (0) (by omega)
          · refine lv_iconst (v := iZ 1) hx hb dX6_findItems_57 rfl ?_
            refine lv_goto (tgt := 62) hx hb dX6_findItems_58 (by decide) ?_
            exact j62_ (1) (by omega)
set_option maxHeartbeats 4000000 in
set_option maxRecDepth 100000 in
theorem s_TfindItems (l : Launch) (dC : Nat → ClassId) (dI : Nat → Nat → Nat) (cI cZ cII cIII : ClassId) (h0 sz : Nat) (μ : va_M) (q : Nat) (rm : Nat) (p1 : Int) (p2 : Int) (bh : Int) (hq : rowB q rm) (hG : rG μ q rm) (hqt : q + 6 ≤ 38 ∨ 41 ≤ q) (hrg : rng μ q p1 bh) (hp2 : p2 = μ q 5 - bh) : Met l yX6_findItems (Cond.code yX6_findItems cX6_findItems 6 none :: wsG) ({ frames := 2, cells := 0, slots := 0, locals := 35 } : Room) (va_Pc [.ref (h0 + 38), .ref (h0 + q), .int (iZ (p1)), .int (iZ (p2))] (fun U => U.heap.size = sz ∧ va_P (dC, dI) vwCl (fw (sE cI cZ cII cIII h0) h0 233 μ) U.heap ∧ va_K (dC, dI) vwCl (sT cI cZ cII cIII) U ∧ xM U)) (va_Qv (fun (u : va_M) => itm (μ (q + 1)) u p1 p2 ∧ fr (fun x y => (x = 38 ∧ y = 2) ∨ x = 39 ∨ x = 40) μ u) (fun u t => va_P (dC, dI) vwCl (fw (sE cI cZ cII cIII h0) h0 233 u) t.heap ∧ va_K (dC, dI) vwCl (sT cI cZ cII cIII) t) (fA h0 233 sz)) 0 0 (fA h0 233 sz) := by
  refine Met.ofW (cc := cX6_findItems) (maxL := 6) (ret := none) (by decide) rfl ?_
  intro p e s m args below meth c s₁ B hml hv
  obtain ⟨rfl, hsz, hP, hK, hM⟩ := hv
  have hx := B.exec
  have hb := B.bytes
  have hr := B.returns
  have hts : ∀ w ∈ wsG, w.before _ s = true := hG_of (atoms_spec (ws := (Cond.code yX6_findItems cX6_findItems 6 none :: wsG)) B.pre)
  have hown : s.vm.findClass RX6 = some m.cls := findClass_of_methodNamed B.named
  have hlocks := B.notSynchronized
  subst hsz
  have hS : va_S (fA h0 233 s.heap.size) s.heap s.heap [] := va_S.rf
  have hl := lv_entry ([.ref (h0 + 38), .ref (h0 + q), .int (iZ (p1)), .int (iZ (p2))]) (n := 6) (Nat.le_of_ble_eq_true rfl)
  rw [lg_entry_eq]
  generalize (lg_sl ([.ref (h0 + 38), .ref (h0 + q), .int (iZ (p1)), .int (iZ (p2))]) ++ List.replicate (6 - (lg_sl ([.ref (h0 + 38), .ref (h0 + q), .int (iZ (p1)), .int (iZ (p2))])).length) Slot.unset).toArray = ls at hl ⊢
  have hl : lv_has ls 6 [(0, .ref (h0 + 38)), (1, .ref (h0 + q)), (2, .int (iZ (p1))), (3, .int (iZ (p2)))] := hl
  have hqb := rowB_b hq
  refine lv_aload_n hx hb dX6_findItems_0 rfl (lv_at hl 0 rfl) ?_
  refine lv_iconst (v := iZ 0) hx hb dX6_findItems_1 rfl ?_
  refine fz_put (D := (dC, dI)) (ci := 6) (ty := .int) (z := 0) (C := RX6) (T := TX6) (N := 6) hx hb hts inG6 tyX6 tyX6_ok nmX6 hown hK hP fA_in hS (k := 38) (by decide) (F := (sF38 h0)) sE_38 rfl 2 (by decide) (hts _ k155) (fun _ h9 => h9) rfl (by decide +kernel) rfl rfl (fun _ => Nat.le_of_ble_eq_true rfl) (fun _ _ => rfl) dX6_findItems_2 (fun H locs hP hS => ?_)
  obtain ⟨μ6, eμ6⟩ : ∃ x : va_M, x = uz μ 38 2 (0) := ⟨_, rfl⟩
  rw [← eμ6] at hP
  refine lv_aload_n hx hb dX6_findItems_5 rfl (lv_at hl 0 rfl) ?_
  refine fz_get (D := (dC, dI)) (ci := 6) (v := .ref (h0 + 40)) (C := RX6) (T := TX6) (N := 6) hx hb hts inG6 hown hK hP (k := 38) (by decide) (F := (sF38 h0)) sE_38 rfl 1 (by decide) (hts _ k154) (fun _ h9 => h9) rfl dX6_findItems_6 ?_
  refine lv_iconst (v := iZ 0) hx hb dX6_findItems_9 rfl ?_
  refine lv_iconst (v := iZ 0) hx hb dX6_findItems_10 rfl ?_
  refine fz_st (k := 40) (n := 1101) (i := 0) (z := 0) hx hb hK hP fA_in hS 0 (by decide) sE_40 rfl ⟨by omega, by omega⟩ (by decide) dX6_findItems_11 (fun H locs hP hS => ?_)
  rw [show (0 : Int).toNat = 0 from rfl] at hP
  obtain ⟨μ7, eμ7⟩ : ∃ x : va_M, x = uz μ6 40 0 (0) := ⟨_, rfl⟩
  rw [← eμ7] at hP
  refine lv_iload_n hx hb dX6_findItems_12 rfl (lv_at hl 2 rfl) ?_
  have w1 : μ7 38 2 = 0 := by rw [eμ7, eμ6, uz_n (by omega), uz_s]
  have w4 : μ7 40 0 = 0 := by rw [eμ7, eμ6, uz_s]
  refine lv_istore (lv' := [(4, .int (iZ (p1))), (0, .ref (h0 + 38)), (1, .ref (h0 + q)), (2, .int (iZ (p1))), (3, .int (iZ (p2)))]) hx hb dX6_findItems_13 hl (by decide) rfl (fun ls hl => ?_)
  refine LX6_findItems_15 hx hb hml hown hts hK hM (Nat.le_of_ble_eq_true rfl) (Nat.le_of_ble_eq_true rfl) (Nat.le_of_ble_eq_true rfl) (Nat.le_of_ble_eq_true rfl) (μ) (q) (rm) (p1) (p2) (bh) (by assumption) (by exact hG) (by assumption) (by assumption) (by assumption) ?_ _ (p1) μ7 H locs ls (by exact ⟨Int.le_refl _, Or.inr rfl⟩) (by exact rfl) (by rw [eμ7, eμ6]; exact fr_uz (fr_uz fr_rfl (Or.inl ⟨rfl, rfl⟩)) (Or.inr (Or.inr rfl))) (by omega) (by
            intro k hk9
            obtain rfl : k = 0 := by omega
            rw [w4]; omega) (by intro k hk9; omega) (by intro k k2 h1 h2; omega) (Nat.lt_succ_self _) hP hS (lv_sub hl [0, 4, 3, 2, 1] rfl)
  · intro i_8 μ8_ H locs ls q0_8 q1_8 q2_8 q3_8 q4_8 q5_8 hP hS hl
    have hl : lv_has ls 6 [(3, .int (iZ (p2))), (1, .ref (h0 + q)), (0, .ref (h0 + 38))] := hl
    obtain ⟨n1_, n2_, n3_, n4_⟩ := q2_8
    refine lv_aload_n hx hb dX6_findItems_134 rfl (lv_at hl 2 rfl) ?_
    refine fz_get (D := (dC, dI)) (ci := 6) (v := .ref (h0 + 39)) (C := RX6) (T := TX6) (N := 6) hx hb hts inG6 hown hK hP (k := 38) (by decide) (F := (sF38 h0)) sE_38 rfl 0 (by decide) (hts _ k153) (fun _ h9 => h9) rfl dX6_findItems_135 ?_
    refine lv_aload_n hx hb dX6_findItems_138 rfl (lv_at hl 2 rfl) ?_
    refine fz_get (D := (dC, dI)) (ci := 6) (v := .int (iZ (μ8_ 38 2))) (C := RX6) (T := TX6) (N := 6) hx hb hts inG6 hown hK hP (k := 38) (by decide) (F := (sF38 h0)) sE_38 rfl 2 (by decide) (hts _ k155) (fun _ h9 => h9) rfl dX6_findItems_139 ?_
    refine lv_iload_n hx hb dX6_findItems_142 rfl (lv_at hl 0 rfl) ?_
    refine fz_st (k := 39) (n := 1101) (i := (μ8_ 38 2)) (z := p2) hx hb hK hP fA_in hS 0 (by decide) sE_39 rfl ⟨by omega, by omega⟩ (by decide) dX6_findItems_143 (fun H locs hP hS => ?_)
    obtain ⟨μ10, eμ10⟩ : ∃ x : va_M, x = uz μ8_ 39 (μ8_ 38 2).toNat (p2) := ⟨_, rfl⟩
    rw [← eμ10] at hP
    exact W.vret hx hb hr (fun t9 ht9 hW9 => ⟨⟨μ10, rfl, (by
                try dsimp only
                have hr1 := hrg.1
                have w1 : μ10 38 2 = μ8_ 38 2 := by rw [eμ10, uz_n (by omega)]
                have w2 : μ10 39 (μ8_ 38 2).toNat = p2 := by rw [eμ10, uz_s]
                have w3 : ∀ k : Nat, k ≠ (μ8_ 38 2).toNat → μ10 39 k = μ8_ 39 k := fun k hk => by rw [eμ10, uz_n (by omega)]
                have w4 : ∀ k : Nat, μ10 40 k = μ8_ 40 k := fun k => by rw [eμ10, uz_n (by omega)]
                refine ⟨⟨by omega, fun k hk => by rw [w4]; exact q3_8 k (by omega), fun k hk h0 => ?_, fun k k2 h1 h2 => ?_, fun h => by omega⟩, by rw [eμ10]; exact fr_uz q1_8 (Or.inr (Or.inl rfl))⟩
                · have hsg : seg (μ (q + 1)) p1.toNat p2.toNat := by rw [hp2]; exact hrg.2 (by omega)
                  by_cases h9 : k = (μ8_ 38 2).toNat
                  · rw [h9, w2]; exact ⟨by omega, by omega, hsg.2.1⟩
                  · have q9 := q4_8 k (by omega)
                    rw [w3 k h9]; exact ⟨q9.1, by omega, q9.2.2⟩
                · have q8 := q4_8 k (by omega)
                  rw [w3 k (by omega)]
                  by_cases h9 : k2 = (μ8_ 38 2).toNat
                  · rw [h9, w2]; omega
                  · rw [w3 k2 h9]; exact q5_8 k k2 h1 (by omega)), by rw [ht9]; exact hP, va_K.moved hW9.alike hK⟩, hS.F ht9⟩) hS.2.2 dX6_findItems_144
set_option maxHeartbeats 4000000 in
set_option maxRecDepth 100000 in
theorem LX6_foldAt_11 {p : Program} {l : Launch} {e : Env} {R : Room} {s : State} {m : MethodId} {args : Array Value} {below : List Frame} {meth : Method} {c : Code} {cells slots : Nat} {Q : State → Prop} {dC : Nat → ClassId} {dI : Nat → Nat → Nat} {h0 : Nat} {cI cZ cII cIII : ClassId} (hx : p.tables.exec = Jvm.exec) (hb : c.code = cX6_foldAt) (hml : c.maxLocals = 8) (hown : s.vm.findClass RX6 = some m.cls) (hts : ∀ w ∈ wsG, w.before args s = true) (hK : va_K (dC, dI) vwCl (sT cI cZ cII cIII) s) (hM : xM s) (hRf : 3 ≤ R.frames) (hRl : 70 ≤ R.locals) (hRc : cells ≤ R.cells) (hRs : slots ≤ R.slots) (μ0 : va_M) (q : Nat) (rm : Nat) (pa : Int) (n : Int) (p1 : Int) (p2 : Int) (bh : Int) (hq : rowB q rm) (hG : rG μ0 q rm) (h7 : μ0 q 7 = 0) (hrg : rng μ0 q p1 bh) (hp2 : p2 = μ0 q 5 - bh) (hbp : p1 ≤ pa ∧ 1 ≤ n ∧ pa + n * 2 ≤ p2) (hal : ∀ t : Nat, (t : Int) < n → sAl (μ0 (q + 1) (pa.toNat + t)) (μ0 (q + 1) ((pa + n).toNat + t))) (hd : Dp (μ0 (q + 1)) pa.toNat = Dp (μ0 (q + 1)) p1.toNat ∧ Dp (μ0 (q + 1)) (pa + n).toNat = Dp (μ0 (q + 1)) p1.toNat) (hexit62 : ∀ (nx : Int) (cn : Int) (tu : Int) (μ : va_M) (H : Heap) (locs : List Loc) (ls : Array Slot), (fr (fun x _ => x = q + 1) μ0 μ) → (sgA μ (q + 1)) → (∀ j, dl (μ (q + 1) j) = dl (μ0 (q + 1) j) ∧ (vS (μ0 (q + 1) j) → vS (μ (q + 1) j))) → (pa + n ≤ nx ∧ nx ≤ p2) → (Dp (μ0 (q + 1)) nx.toNat = Dp (μ0 (q + 1)) p1.toNat) → va_P (dC, dI) vwCl (fw (sE cI cZ cII cIII h0) h0 233 μ) H → va_S (fA h0 233 s.heap.size) s.heap H locs → lv_has ls 8 [(6, .int (iZ (nx))), (5, .int (iZ (cn))), (4, .int (iZ (p2))), (3, .int (iZ (n))), (2, .int (iZ (pa))), (1, .ref (h0 + q)), (0, .ref (h0 + 38))] → W p l e R s m args below meth c H locs cells slots Q (F0 m 62 ls [])) :
    ∀ (n9 : Nat) (nx : Int) (cn : Int) (tu : Int) (μ : va_M) (H : Heap) (locs : List Loc) (ls : Array Slot), (pa ≤ tu ∧ tu ≤ p2) → (fr (fun x _ => x = q + 1) μ0 μ) → (sgA μ (q + 1)) → (∀ j, dl (μ (q + 1) j) = dl (μ0 (q + 1) j) ∧ (vS (μ0 (q + 1) j) → vS (μ (q + 1) j))) → (pa + n ≤ nx ∧ nx ≤ p2) → (Dp (μ0 (q + 1)) nx.toNat = Dp (μ0 (q + 1)) p1.toNat) → (p2 - tu).toNat < n9 → va_P (dC, dI) vwCl (fw (sE cI cZ cII cIII h0) h0 233 μ) H → va_S (fA h0 233 s.heap.size) s.heap H locs → lv_has ls 8 [(7, .int (iZ (tu))), (6, .int (iZ (nx))), (5, .int (iZ (cn))), (4, .int (iZ (p2))), (3, .int (iZ (n))), (2, .int (iZ (pa))), (1, .ref (h0 + q)), (0, .ref (h0 + 38))] → W p l e R s m args below meth c H locs cells slots Q (F0 m 11 ls []) := by
  intro n9
  induction n9 with
  | zero => intro nx cn tu μ H locs ls ht hf hs hd1 hx9 hD hm9 hP hS hl; exact absurd hm9 (Nat.not_lt_zero _)
  | succ n9 ih =>
    intro nx cn tu μ H locs ls ht hf hs hd1 hx9 hD hm9 hP hS hl
    have hrm := rG_rm hq hG
    have hqb := rowB_b hq
    have hr1 := hrg.1
    have x5 : μ q 5 = μ0 q 5 := hf _ _ (by omega)
    have hlen : 0 ≤ μ q 5 ∧ μ q 5 ≤ rm := by omega
    refine lv_iload hx hb dX6_foldAt_11 (lv_at hl 0 rfl) ?_
    refine lv_iload hx hb dX6_foldAt_13 (lv_at hl 3 rfl) ?_
    refine fz_icmp_ge (tgt := 62) (by constructor <;> omega) (by constructor <;> omega) hx hb dX6_foldAt_15 (by decide) (fun c15_ => ?_) (fun c15_ => ?_)
    · exact hexit62 (nx) (cn) (tu) μ H locs ls (by exact hf) (by exact hs) (by exact hd1) (by exact hx9) (by exact hD) hP hS (lv_sub hl [1, 2, 3, 4, 5, 6, 7] rfl)
    · refine lv_iload hx hb dX6_foldAt_18 (lv_at hl 1 rfl) ?_
      refine lv_iload_n hx hb dX6_foldAt_20 rfl (lv_at hl 4 rfl) ?_
      refine lv_iadd hx hb dX6_foldAt_21 ?_
      refine lv_topi (fun x9 ex9 => ?_)
      obtain rfl : x9 = iZ (nx + n) := ex9.trans (iZ_add _ _)
      refine lv_iload hx hb dX6_foldAt_22 (lv_at hl 3 rfl) ?_
      refine fz_icmp_gt (tgt := 62) (by constructor <;> omega) (by constructor <;> omega) hx hb dX6_foldAt_24 (by decide) (fun c24_ => ?_) (fun c24_ => ?_)
      · exact hexit62 (nx) (cn) (tu) μ H locs ls (by exact hf) (by exact hs) (by exact hd1) (by exact hx9) (by exact hD) hP hS (lv_sub hl [1, 2, 3, 4, 5, 6, 7] rfl)
      · refine lv_aload_n hx hb dX6_foldAt_27 rfl (lv_at hl 6 rfl) ?_
        refine lv_iload_n hx hb dX6_foldAt_28 rfl (lv_at hl 5 rfl) ?_
        refine lv_aload_n hx hb dX6_foldAt_29 rfl (lv_at hl 6 rfl) ?_
        refine lv_iload hx hb dX6_foldAt_30 (lv_at hl 1 rfl) ?_
        refine lv_iload_n hx hb dX6_foldAt_32 rfl (lv_at hl 4 rfl) ?_
        refine va_calli (va_runV (As := [.int (iZ (pa)), .ref (h0 + q), .int (iZ (nx)), .int (iZ (n))]) (rest := []) ⟨hx, hb, hml, hown, hts⟩ (s_Rmatches l dC dI cI cZ cII cIII h0 H.size μ (q) (rm) (q) (rm) (pa) (nx) (n) (hq) (hq) (by exact hs) (by exact hs) (by exact hlen) (by exact hlen) (by first | assumption | omega | exact ⟨by omega, by omega⟩) (by first | assumption | omega | exact ⟨by omega, by omega⟩) (by first | assumption | omega | exact ⟨by omega, by omega⟩) (by first | assumption | omega | exact ⟨by omega, by omega⟩)) (cwV 4 hts (gV_G k441 k442 k443 k3 k444) rfl rfl rfl (by decide +kernel) ⟨by show 2 + 1 ≤ _; omega, by show 8 + (6 + 11) + (35) ≤ _; omega⟩) ⟨fun a U g mk q => by obtain ⟨q0, q1, qP, qK, qM⟩ := q; exact ⟨q0, q1, qP, va_K.moved (u := U) (U := U.calling g mk a) (Vm.Alike.refl U.vm) qK, qM⟩, va_recv hK hP (ci := 4) (q0 := q) rfl ((fw_get (by omega)).trans (by rw [(sE_rowO hq)])), fun U hU hW => ⟨rfl, by rw [hU], by rw [hU]; exact hP, va_K.moved hW.alike hK, xM_warm hW hM⟩⟩ rfl rfl hl.1 rfl (lv_room (Nat.le_of_ble_eq_true rfl)) dX6_foldAt_33 ⟨hRc, hRs⟩) hS (fun q _ h => fA_le hS.1 q h) (fA_le hS.1) (fun r9 u9 t9 H1 locs ht9 hvm9 hw9 hB9 hz9 hk9 hS => ?_)
        obtain ⟨μq, rq⟩ := u9
        obtain ⟨hP, -⟩ := hB9
        rw [ht9] at hP
        generalize H1 = H at hP hS ⊢
        obtain ⟨e9, hw9⟩ := hw9
        have e9 : r9 = iZ rq := e9
        subst e9
        simp only at hP hw9
        have hμq := hw9; clear hw9
        rw [hμq.1] at hP; have hμq := hμq.2
        have hrq := hμq
        have hr01 : rq = 0 ∨ rq = 1 := hrq.elim (fun h => Or.inr h.1) (fun h => Or.inl h.1)
        refine fz_if_eq (tgt := 62) (by constructor <;> omega) hx hb dX6_foldAt_36 (by decide) (fun c36_ => ?_) (fun c36_ => ?_)
        · exact hexit62 (nx) (cn) (tu) μ H locs ls (by exact hf) (by exact hs) (by exact hd1) (by exact hx9) (by exact hD) hP hS (lv_sub hl [1, 2, 3, 4, 5, 6, 7] rfl)
        · have hmt := hrq.elim (fun h => h.2.2) (fun h => absurd h.1 (by omega))
          refine lv_aload_n hx hb dX6_foldAt_39 rfl (lv_at hl 6 rfl) ?_
          refine lv_iload_n hx hb dX6_foldAt_40 rfl (lv_at hl 5 rfl) ?_
          refine lv_iload hx hb dX6_foldAt_41 (lv_at hl 1 rfl) ?_
          refine lv_iload_n hx hb dX6_foldAt_43 rfl (lv_at hl 4 rfl) ?_
          refine va_callv (va_runV (As := [.int (iZ (pa)), .int (iZ (nx)), .int (iZ (n))]) (rest := []) ⟨hx, hb, hml, hown, hts⟩ (s_RfuseInto l dC dI cI cZ cII cIII h0 H.size μ (q) (rm) (pa) (nx) (n) (hq) (by exact hs) (by first | assumption | omega | exact ⟨by omega, by omega⟩) (by first | assumption | omega | exact ⟨by omega, by omega⟩) (by first | assumption | omega | exact ⟨by omega, by omega⟩) (by first | assumption | omega | exact ⟨by omega, by omega⟩)) (cwV 3 hts (gV_G k452 k453 k454 k3 k455) rfl rfl rfl (by decide +kernel) ⟨by show 2 + 1 ≤ _; omega, by show 8 + (5 + 11) + (35) ≤ _; omega⟩) ⟨fun a U g mk q => by obtain ⟨q0, q1, qP, qK, qM⟩ := q; exact ⟨q0, q1, qP, va_K.moved (u := U) (U := U.calling g mk a) (Vm.Alike.refl U.vm) qK, qM⟩, va_recv hK hP (ci := 4) (q0 := q) rfl ((fw_get (by omega)).trans (by rw [(sE_rowO hq)])), fun U hU hW => ⟨rfl, by rw [hU], by rw [hU]; exact hP, va_K.moved hW.alike hK, xM_warm hW hM⟩⟩ rfl rfl hl.1 rfl (lv_room (Nat.le_of_ble_eq_true rfl)) dX6_foldAt_44 ⟨hRc, hRs⟩) hS (fun q _ h => fA_le hS.1 q h) (fA_le hS.1) (fun u9 t9 H1 locs ht9 hvm9 hw9 hB9 hz9 hk9 hS => ?_)
          obtain ⟨hP, -⟩ := hB9
          rw [ht9] at hP
          generalize H1 = H at hP hS ⊢
          obtain ⟨μf, eμf⟩ : ∃ x : va_M, x = u9 := ⟨_, rfl⟩
          rw [← eμf] at hP hw9
          have hμf := hw9; clear hw9
          obtain ⟨f1_, v1_⟩ := hμf
          obtain ⟨d2_, s2_⟩ := fuse_d hd1 (fun t ht => hmt t (by omega)) f1_ v1_ hs
          have hDA := Dp_al (f := μ (q + 1)) (a := pa.toNat) (b := nx.toNat) (n := n.toNat) (fun t ht => hmt t (by omega))
          have hE : ∀ x, Dp (μ (q + 1)) x = Dp (μ0 (q + 1)) x := fun x => Dp_eq x (fun j _ => (hd1 j).1)
          rw [hE, hE, hE, hE, show pa.toNat + n.toNat = (pa + n).toNat by omega, show nx.toNat + n.toNat = (nx + n).toNat by omega] at hDA
          refine lv_iload hx hb dX6_foldAt_47 (lv_at hl 1 rfl) ?_
          refine lv_iload_n hx hb dX6_foldAt_49 rfl (lv_at hl 4 rfl) ?_
          refine lv_iadd hx hb dX6_foldAt_50 ?_
          refine lv_topi (fun x9 ex9 => ?_)
          obtain rfl : x9 = iZ (nx + n) := ex9.trans (iZ_add _ _)
          refine lv_istore (lv' := [(6, .int (iZ (nx + n))), (7, .int (iZ (tu))), (5, .int (iZ (cn))), (4, .int (iZ (p2))), (3, .int (iZ (n))), (2, .int (iZ (pa))), (1, .ref (h0 + q)), (0, .ref (h0 + 38))]) hx hb dX6_foldAt_51 hl (by decide) rfl (fun ls hl => ?_)
          refine lv_iinc (v := iZ (cn + 1)) (lv' := [(5, .int (iZ (cn + 1))), (6, .int (iZ (nx + n))), (7, .int (iZ (tu))), (4, .int (iZ (p2))), (3, .int (iZ (n))), (2, .int (iZ (pa))), (1, .ref (h0 + q)), (0, .ref (h0 + 38))]) hx hb dX6_foldAt_53 hl (k := 2) rfl (iZ_add _ _) (by decide) rfl (fun ls hl => ?_)
          refine lv_iinc (v := iZ (tu + 1)) (lv' := [(7, .int (iZ (tu + 1))), (5, .int (iZ (cn + 1))), (6, .int (iZ (nx + n))), (4, .int (iZ (p2))), (3, .int (iZ (n))), (2, .int (iZ (pa))), (1, .ref (h0 + q)), (0, .ref (h0 + 38))]) hx hb dX6_foldAt_56 hl (k := 2) rfl (iZ_add _ _) (by decide) rfl (fun ls hl => ?_)
          refine lv_goto (tgt := 11) hx hb dX6_foldAt_59 (by decide) ?_
          exact ih (nx + n) (cn + 1) (tu + 1) μf H locs ls (by omega) (by exact fr_trans hf (fr_mono f1_ (fun x y h => h.1))) (by exact s2_) (by exact d2_) (by omega) (by
                            have q1 := hd.1
                            have q2 := hd.2
                            omega) (by omega) hP hS (lv_sub hl [0, 2, 1, 3, 4, 5, 6, 7] rfl)
set_option maxHeartbeats 4000000 in
set_option maxRecDepth 100000 in
theorem s_TfoldAt (l : Launch) (dC : Nat → ClassId) (dI : Nat → Nat → Nat) (cI cZ cII cIII : ClassId) (h0 sz : Nat) (μ : va_M) (q : Nat) (rm : Nat) (pa : Int) (n : Int) (p1 : Int) (p2 : Int) (bh : Int) (hq : rowB q rm) (hG : rG μ q rm) (h7 : μ q 7 = 0) (hrg : rng μ q p1 bh) (hp2 : p2 = μ q 5 - bh) (hbp : p1 ≤ pa ∧ 1 ≤ n ∧ pa + n * 2 ≤ p2) (hal : ∀ t : Nat, (t : Int) < n → sAl (μ (q + 1) (pa.toNat + t)) (μ (q + 1) ((pa + n).toNat + t))) (hd : Dp (μ (q + 1)) pa.toNat = Dp (μ (q + 1)) p1.toNat ∧ Dp (μ (q + 1)) (pa + n).toNat = Dp (μ (q + 1)) p1.toNat) : Met l yX6_foldAt (Cond.code yX6_foldAt cX6_foldAt 8 (some .int) :: wsG) ({ frames := 3, cells := 0, slots := 0, locals := 70 } : Room) (va_Pc [.ref (h0 + 38), .ref (h0 + q), .int (iZ (pa)), .int (iZ (n)), .int (iZ (p2))] (fun U => U.heap.size = sz ∧ va_P (dC, dI) vwCl (fw (sE cI cZ cII cIII h0) h0 233 μ) U.heap ∧ va_K (dC, dI) vwCl (sT cI cZ cII cIII) U ∧ xM U)) (va_Qi (fun (r9 : Int32) (u : va_M × Int) => r9 = iZ u.2 ∧ (fun (u : va_M) (r : Int) => rG u q rm ∧ fr (LEq q) μ u ∧ rng u q p1 bh) u.1 u.2) (fun u t => va_P (dC, dI) vwCl (fw (sE cI cZ cII cIII h0) h0 233 u.1) t.heap ∧ va_K (dC, dI) vwCl (sT cI cZ cII cIII) t) (fA h0 233 sz)) 0 0 (fA h0 233 sz) := by
  refine Met.ofW (cc := cX6_foldAt) (maxL := 8) (ret := (some .int)) (by decide) rfl ?_
  intro p e s m args below meth c s₁ B hml hv
  obtain ⟨rfl, hsz, hP, hK, hM⟩ := hv
  have hx := B.exec
  have hb := B.bytes
  have hr := B.returns
  have hts : ∀ w ∈ wsG, w.before _ s = true := hG_of (atoms_spec (ws := (Cond.code yX6_foldAt cX6_foldAt 8 (some .int) :: wsG)) B.pre)
  have hown : s.vm.findClass RX6 = some m.cls := findClass_of_methodNamed B.named
  have hlocks := B.notSynchronized
  subst hsz
  have hS : va_S (fA h0 233 s.heap.size) s.heap s.heap [] := va_S.rf
  have hl := lv_entry ([.ref (h0 + 38), .ref (h0 + q), .int (iZ (pa)), .int (iZ (n)), .int (iZ (p2))]) (n := 8) (Nat.le_of_ble_eq_true rfl)
  rw [lg_entry_eq]
  generalize (lg_sl ([.ref (h0 + 38), .ref (h0 + q), .int (iZ (pa)), .int (iZ (n)), .int (iZ (p2))]) ++ List.replicate (8 - (lg_sl ([.ref (h0 + 38), .ref (h0 + q), .int (iZ (pa)), .int (iZ (n)), .int (iZ (p2))])).length) Slot.unset).toArray = ls at hl ⊢
  have hl : lv_has ls 8 [(0, .ref (h0 + 38)), (1, .ref (h0 + q)), (2, .int (iZ (pa))), (3, .int (iZ (n))), (4, .int (iZ (p2)))] := hl
  have hqb := rowB_b hq
  have hrm := rG_rm hq hG
  have hr1 := hrg.1
  refine lv_iconst (v := iZ 1) hx hb dX6_foldAt_0 rfl ?_
  refine lv_istore (lv' := [(5, .int (iZ (1))), (0, .ref (h0 + 38)), (1, .ref (h0 + q)), (2, .int (iZ (pa))), (3, .int (iZ (n))), (4, .int (iZ (p2)))]) hx hb dX6_foldAt_1 hl (by decide) rfl (fun ls hl => ?_)
  refine lv_iload_n hx hb dX6_foldAt_3 rfl (lv_at hl 3 rfl) ?_
  refine lv_iload_n hx hb dX6_foldAt_4 rfl (lv_at hl 4 rfl) ?_
  refine lv_iadd hx hb dX6_foldAt_5 ?_
  refine lv_topi (fun x9 ex9 => ?_)
  obtain rfl : x9 = iZ (pa + n) := ex9.trans (iZ_add _ _)
  refine lv_istore (lv' := [(6, .int (iZ (pa + n))), (5, .int (iZ (1))), (0, .ref (h0 + 38)), (1, .ref (h0 + q)), (2, .int (iZ (pa))), (3, .int (iZ (n))), (4, .int (iZ (p2)))]) hx hb dX6_foldAt_6 hl (by decide) rfl (fun ls hl => ?_)
  refine lv_iload_n hx hb dX6_foldAt_8 rfl (lv_at hl 4 rfl) ?_
  refine lv_istore (lv' := [(7, .int (iZ (pa))), (6, .int (iZ (pa + n))), (5, .int (iZ (1))), (0, .ref (h0 + 38)), (1, .ref (h0 + q)), (2, .int (iZ (pa))), (3, .int (iZ (n))), (4, .int (iZ (p2)))]) hx hb dX6_foldAt_9 hl (by decide) rfl (fun ls hl => ?_)
  refine LX6_foldAt_11 hx hb hml hown hts hK hM (Nat.le_of_ble_eq_true rfl) (Nat.le_of_ble_eq_true rfl) (Nat.le_of_ble_eq_true rfl) (Nat.le_of_ble_eq_true rfl) (μ) (q) (rm) (pa) (n) (p1) (p2) (bh) (by assumption) (by exact hG) (by assumption) (by assumption) (by assumption) (by assumption) (by exact hal) (by exact hd) ?_ _ (pa + n) (1) (pa) μ s.heap [] ls (by omega) (by exact fr_rfl) (by exact hG.1) (by exact fun j => ⟨rfl, id⟩) (by omega) (by exact hd.2) (Nat.lt_succ_self _) hP hS (lv_sub hl [0, 1, 2, 7, 6, 5, 4, 3] rfl)
  · intro nx_1 cn_1 tu_1 μ1_ H locs ls q0_1 q1_1 q2_1 q3_1 q4_1 hP hS hl
    have hl : lv_has ls 8 [(6, .int (iZ (nx_1))), (5, .int (iZ (cn_1))), (4, .int (iZ (p2))), (3, .int (iZ (n))), (2, .int (iZ (pa))), (1, .ref (h0 + q)), (0, .ref (h0 + 38))] := hl
    have x5 : μ1_ q 5 = μ q 5 := q0_1 _ _ (by omega)
    have q33 := q3_1
    have q44 := q4_1
    have q00 := q0_1
    have q11 := q1_1
    have q22 := q2_1
    refine lv_aload_n hx hb dX6_foldAt_62 rfl (lv_at hl 5 rfl) ?_
    refine lv_iload_n hx hb dX6_foldAt_63 rfl (lv_at hl 4 rfl) ?_
    refine lv_iload_n hx hb dX6_foldAt_64 rfl (lv_at hl 3 rfl) ?_
    refine lv_iadd hx hb dX6_foldAt_65 ?_
    refine lv_topi (fun x9 ex9 => ?_)
    obtain rfl : x9 = iZ (pa + n) := ex9.trans (iZ_add _ _)
    refine lv_iload hx hb dX6_foldAt_66 (lv_at hl 0 rfl) ?_
    refine va_callv (va_runV (As := [.int (iZ (pa + n)), .int (iZ (nx_1))]) (rest := []) ⟨hx, hb, hml, hown, hts⟩ (s_Rremove l dC dI cI cZ cII cIII h0 H.size μ1_ (q) (rm) (pa + n) (nx_1) (hq) (by omega) (by omega)) (cwV 2 hts (gV_G k459 k460 k461 k3 k462) rfl rfl rfl (by decide +kernel) ⟨Nat.le_of_ble_eq_true rfl, Nat.le_of_ble_eq_true rfl⟩) ⟨fun a U g mk q => by obtain ⟨q0, q1, qP, qK, qM⟩ := q; exact ⟨q0, q1, qP, va_K.moved (u := U) (U := U.calling g mk a) (Vm.Alike.refl U.vm) qK, qM⟩, va_recv hK hP (ci := 4) (q0 := q) rfl ((fw_get (by omega)).trans (by rw [(sE_rowO hq)])), fun U hU hW => ⟨rfl, by rw [hU], by rw [hU]; exact hP, va_K.moved hW.alike hK, xM_warm hW hM⟩⟩ rfl rfl hl.1 rfl (lv_room (Nat.le_of_ble_eq_true rfl)) dX6_foldAt_68 ⟨Nat.le_of_ble_eq_true rfl, Nat.le_of_ble_eq_true rfl⟩) hS (fun q _ h => fA_le hS.1 q h) (fA_le hS.1) (fun u9 t9 H1 locs ht9 hvm9 hw9 hB9 hz9 hk9 hS => ?_)
    obtain ⟨hP, -⟩ := hB9
    rw [ht9] at hP
    generalize H1 = H at hP hS ⊢
    obtain ⟨μ2, eμ2⟩ : ∃ x : va_M, x = u9 := ⟨_, rfl⟩
    rw [← eμ2] at hP hw9
    have hμ2 := hw9; clear hw9
    have E2 := hμ2
    have l2 : μ2 q 5 = μ q 5 - (nx_1 - (pa + n)) := by rw [E2, uz_s, x5]
    refine lv_aload_n hx hb dX6_foldAt_71 rfl (lv_at hl 5 rfl) ?_
    refine lv_iload_n hx hb dX6_foldAt_72 rfl (lv_at hl 4 rfl) ?_
    refine lv_iload_n hx hb dX6_foldAt_73 rfl (lv_at hl 3 rfl) ?_
    refine lv_iadd hx hb dX6_foldAt_74 ?_
    refine lv_topi (fun x9 ex9 => ?_)
    obtain rfl : x9 = iZ (pa + n) := ex9.trans (iZ_add _ _)
    refine lv_sipush (v := iZ 515) hx hb dX6_foldAt_75 rfl ?_
    refine va_callv (va_runV (As := [.int (iZ (pa + n)), .int (iZ (515))]) (rest := []) ⟨hx, hb, hml, hown, hts⟩ (s_Rinsert l dC dI cI cZ cII cIII h0 H.size μ2 (q) (rm) (pa + n) (515) (hq) (by omega) (by omega)) (cwV 2 hts (gV_G k491 k492 k493 k3 k494) rfl rfl rfl (by decide +kernel) ⟨Nat.le_of_ble_eq_true rfl, Nat.le_of_ble_eq_true rfl⟩) ⟨fun a U g mk q => by obtain ⟨q0, q1, qP, qK, qM⟩ := q; exact ⟨q0, q1, qP, va_K.moved (u := U) (U := U.calling g mk a) (Vm.Alike.refl U.vm) qK, qM⟩, va_recv hK hP (ci := 4) (q0 := q) rfl ((fw_get (by omega)).trans (by rw [(sE_rowO hq)])), fun U hU hW => ⟨rfl, by rw [hU], by rw [hU]; exact hP, va_K.moved hW.alike hK, xM_warm hW hM⟩⟩ rfl rfl hl.1 rfl (lv_room (Nat.le_of_ble_eq_true rfl)) dX6_foldAt_78 ⟨Nat.le_of_ble_eq_true rfl, Nat.le_of_ble_eq_true rfl⟩) hS (fun q _ h => fA_le hS.1 q h) (fA_le hS.1) (fun u9 t9 H1 locs ht9 hvm9 hw9 hB9 hz9 hk9 hS => ?_)
    obtain ⟨hP, -⟩ := hB9
    rw [ht9] at hP
    generalize H1 = H at hP hS ⊢
    obtain ⟨μ3, eμ3⟩ : ∃ x : va_M, x = u9 := ⟨_, rfl⟩
    rw [← eμ3] at hP hw9
    have hμ3 := hw9; clear hw9
    have I3 := hμ3
    have l3 : (0 ≤ μ3 q 5 ∧ μ3 q 5 ≤ rm) ∧ pa ≤ μ3 q 5 := by
      by_cases h9 : μ2 q 5 < rm
      · have e := I3.1 h9
        have : μ3 q 5 = μ2 q 5 + 1 := by rw [e, uz_s]
        omega
      · have e := I3.2 h9
        have : μ3 q 5 = μ2 q 5 := by rw [e, uz_n (by omega)]
        omega
    refine lv_aload_n hx hb dX6_foldAt_81 rfl (lv_at hl 5 rfl) ?_
    refine lv_iload_n hx hb dX6_foldAt_82 rfl (lv_at hl 4 rfl) ?_
    refine lv_sipush (v := iZ 514) hx hb dX6_foldAt_83 rfl ?_
    refine va_callv (va_runV (As := [.int (iZ (pa)), .int (iZ (514))]) (rest := []) ⟨hx, hb, hml, hown, hts⟩ (s_Rinsert l dC dI cI cZ cII cIII h0 H.size μ3 (q) (rm) (pa) (514) (hq) (by exact l3.1) (by omega)) (cwV 2 hts (gV_G k491 k492 k493 k3 k494) rfl rfl rfl (by decide +kernel) ⟨Nat.le_of_ble_eq_true rfl, Nat.le_of_ble_eq_true rfl⟩) ⟨fun a U g mk q => by obtain ⟨q0, q1, qP, qK, qM⟩ := q; exact ⟨q0, q1, qP, va_K.moved (u := U) (U := U.calling g mk a) (Vm.Alike.refl U.vm) qK, qM⟩, va_recv hK hP (ci := 4) (q0 := q) rfl ((fw_get (by omega)).trans (by rw [(sE_rowO hq)])), fun U hU hW => ⟨rfl, by rw [hU], by rw [hU]; exact hP, va_K.moved hW.alike hK, xM_warm hW hM⟩⟩ rfl rfl hl.1 rfl (lv_room (Nat.le_of_ble_eq_true rfl)) dX6_foldAt_86 ⟨Nat.le_of_ble_eq_true rfl, Nat.le_of_ble_eq_true rfl⟩) hS (fun q _ h => fA_le hS.1 q h) (fA_le hS.1) (fun u9 t9 H1 locs ht9 hvm9 hw9 hB9 hz9 hk9 hS => ?_)
    obtain ⟨hP, -⟩ := hB9
    rw [ht9] at hP
    generalize H1 = H at hP hS ⊢
    obtain ⟨μ4, eμ4⟩ : ∃ x : va_M, x = u9 := ⟨_, rfl⟩
    rw [← eμ4] at hP hw9
    have hμ4 := hw9; clear hw9
    obtain ⟨⟨w, w1_, w2_, w3_⟩, l4_, s4_, m4_, f4_, D4_⟩ := fold_mem (p := pa) (n := n) (x := nx_1) hG h7 (by omega) (q44.trans hd.2.symm) q00 q11 q22 E2 I3 hμ4
    refine lv_aload_n hx hb dX6_foldAt_89 rfl (lv_at hl 5 rfl) ?_
    refine va_callv (va_runV (As := []) (rest := []) ⟨hx, hb, hml, hown, hts⟩ (s_Rseal l dC dI cI cZ cII cIII h0 H.size μ4 (q) (rm) (w) (hq) (by exact l4_) (by exact ⟨w1_, w3_⟩)) (cwV 0 hts (gV_G k466 k415 k416 k3 k417) rfl rfl rfl (by decide +kernel) ⟨Nat.le_of_ble_eq_true rfl, Nat.le_of_ble_eq_true rfl⟩) ⟨fun a U g mk q => by obtain ⟨q0, q1, qP, qK, qM⟩ := q; exact ⟨q0, q1, qP, va_K.moved (u := U) (U := U.calling g mk a) (Vm.Alike.refl U.vm) qK, qM⟩, va_recv hK hP (ci := 4) (q0 := q) rfl ((fw_get (by omega)).trans (by rw [(sE_rowO hq)])), fun U hU hW => ⟨rfl, by rw [hU], by rw [hU]; exact hP, va_K.moved hW.alike hK, xM_warm hW hM⟩⟩ rfl rfl hl.1 rfl (lv_room (Nat.le_of_ble_eq_true rfl)) dX6_foldAt_90 ⟨Nat.le_of_ble_eq_true rfl, Nat.le_of_ble_eq_true rfl⟩) hS (fun q _ h => fA_le hS.1 q h) (fA_le hS.1) (fun u9 t9 H1 locs ht9 hvm9 hw9 hB9 hz9 hk9 hS => ?_)
    obtain ⟨hP, -⟩ := hB9
    rw [ht9] at hP
    generalize H1 = H at hP hS ⊢
    obtain ⟨μ5, eμ5⟩ : ∃ x : va_M, x = u9 := ⟨_, rfl⟩
    rw [← eμ5] at hP hw9
    have hμ5 := hw9; clear hw9
    obtain ⟨r5_, f5_⟩ := hμ5
    refine lv_iload hx hb dX6_foldAt_93 (lv_at hl 1 rfl) ?_
    exact W.iret (v := iZ (cn_1)) hx hb hr (fun t9 ht9 hW9 => ⟨⟨iZ (cn_1), (μ5, cn_1), rfl, ⟨rfl, (by
                dsimp only
                have e1 : ∀ y, μ5 (q + 1) y = μ4 (q + 1) y := fun y => f5_ _ _ (by unfold SEw SEq; omega)
                have e7 : μ5 q 7 = μ4 q 7 := f5_ _ _ (by unfold SEw SEq; omega)
                have hg5 := rG_seal w1_ w2_ w3_ s4_ m4_ r5_ f5_
                refine ⟨hg5, fr_trans (fr_mono f4_ (fun x y h => by unfold LEq; omega)) (fr_mono f5_ (fun x y h => by unfold SEw SEq at h; unfold LEq; omega)), ?_⟩
                rcases w3_ with ⟨k1, k2, k3⟩ | ⟨k1, k2⟩
                · obtain ⟨D5, D6⟩ := D4_ k1
                  have e5 : μ5 q 5 = μ4 q 5 := by have := r5_.1.1; omega
                  refine rng_fo (p := pa) (n := n) (x := nx_1) (by omega) hrg (by omega) (by omega) ?_
                  rw [funext e1, e5]
                  exact D6
                · exact rng_ov hrg hg5 (by omega))⟩, by rw [ht9]; exact hP, va_K.moved hW9.alike hK⟩, hS.F ht9⟩) hS.2.2 dX6_foldAt_95
set_option maxHeartbeats 4000000 in
set_option maxRecDepth 100000 in
theorem LX6_foldOnce_24 {p : Program} {l : Launch} {e : Env} {R : Room} {s : State} {m : MethodId} {args : Array Value} {below : List Frame} {meth : Method} {c : Code} {cells slots : Nat} {Q : State → Prop} {dC : Nat → ClassId} {dI : Nat → Nat → Nat} {h0 : Nat} {cI cZ cII cIII : ClassId} (hx : p.tables.exec = Jvm.exec) (hb : c.code = cX6_foldOnce) (hml : c.maxLocals = 8) (hown : s.vm.findClass RX6 = some m.cls) (hts : ∀ w ∈ wsG, w.before args s = true) (hK : va_K (dC, dI) vwCl (sT cI cZ cII cIII) s) (hM : xM s) (hRf : 4 ≤ R.frames) (hRl : 97 ≤ R.locals) (hRc : cells ≤ R.cells) (hRs : slots ≤ R.slots) (μ0 : va_M) (q : Nat) (rm : Nat) (p1 : Int) (p2 : Int) (bh : Int) (sz : Int) (hq : rowB q rm) (hG : rG μ0 q rm) (hrg : rng μ0 q p1 bh) (hp2 : p2 = μ0 q 5 - bh) (hit : itm (μ0 (q + 1)) μ0 p1 p2) (hexit110 : ∀ (fi : Int) (av : Int) (sg : Int) (μ : va_M) (H : Heap) (locs : List Loc) (ls : Array Slot), (μ = μ0) → (p1 ≤ av ∧ 1 ≤ sg ∧ av + sg * 2 ≤ p2) → (∀ t : Nat, (t : Int) < sg → sAl (μ0 (q + 1) (av.toNat + t)) (μ0 (q + 1) ((av + sg).toNat + t))) → (Dp (μ0 (q + 1)) av.toNat = Dp (μ0 (q + 1)) p1.toNat ∧ Dp (μ0 (q + 1)) (av + sg).toNat = Dp (μ0 (q + 1)) p1.toNat) → va_P (dC, dI) vwCl (fw (sE cI cZ cII cIII h0) h0 233 μ) H → va_S (fA h0 233 s.heap.size) s.heap H locs → lv_has ls 8 [(7, .int (iZ (sg))), (6, .int (iZ (av))), (5, .int (iZ (fi))), (4, .int (iZ (sz))), (3, .int (iZ (p2))), (2, .int (iZ (p1))), (1, .ref (h0 + q)), (0, .ref (h0 + 38))] → W p l e R s m args below meth c H locs cells slots Q (F0 m 110 ls [])) (hexit144 : ∀ (fi : Int) (av : Int) (sg : Int) (μ : va_M) (H : Heap) (locs : List Loc) (ls : Array Slot), (μ = μ0) → (1 ≤ sz ∧ sz * 2 ≤ μ0 38 2) → va_P (dC, dI) vwCl (fw (sE cI cZ cII cIII h0) h0 233 μ) H → va_S (fA h0 233 s.heap.size) s.heap H locs → lv_has ls 8 [(4, .int (iZ (sz))), (3, .int (iZ (p2))), (2, .int (iZ (p1))), (1, .ref (h0 + q)), (0, .ref (h0 + 38))] → W p l e R s m args below meth c H locs cells slots Q (F0 m 144 ls [])) :
    ∀ (n9 : Nat) (fi : Int) (av : Int) (sg : Int) (μ : va_M) (H : Heap) (locs : List Loc) (ls : Array Slot), (μ = μ0) → (1 ≤ sz ∧ sz * 2 ≤ μ0 38 2 ∧ 0 ≤ fi ∧ fi ≤ 1101) → (1102 - fi).toNat < n9 → va_P (dC, dI) vwCl (fw (sE cI cZ cII cIII h0) h0 233 μ) H → va_S (fA h0 233 s.heap.size) s.heap H locs → lv_has ls 8 [(5, .int (iZ (fi))), (4, .int (iZ (sz))), (3, .int (iZ (p2))), (2, .int (iZ (p1))), (1, .ref (h0 + q)), (0, .ref (h0 + 38))] → W p l e R s m args below meth c H locs cells slots Q (F0 m 24 ls []) := by
  intro n9
  induction n9 with
  | zero => intro fi av sg μ H locs ls hm9_ hz hm9 hP hS hl; exact absurd hm9 (Nat.not_lt_zero _)
  | succ n9 ih =>
    intro fi av sg μ H locs ls hm9_ hz hm9 hP hS hl
    subst hm9_
    have hit1 := hit.1
    have hrm := rG_rm hq hG
    have hqb := rowB_b hq
    have hr1 := hrg.1
    refine lv_iload hx hb dX6_foldOnce_24 (lv_at hl 0 rfl) ?_
    refine lv_iload hx hb dX6_foldOnce_26 (lv_at hl 1 rfl) ?_
    refine lv_iconst (v := iZ 2) hx hb dX6_foldOnce_28 rfl ?_
    refine lv_imul hx hb dX6_foldOnce_29 ?_
    refine lv_topi (fun x9 ex9 => ?_)
    obtain rfl : x9 = iZ (sz * 2) := ex9.trans (iZ_mul _ _)
    refine lv_iadd hx hb dX6_foldOnce_30 ?_
    refine lv_topi (fun x9 ex9 => ?_)
    obtain rfl : x9 = iZ (fi + (sz * 2)) := ex9.trans (iZ_add _ _)
    refine lv_aload_n hx hb dX6_foldOnce_31 rfl (lv_at hl 5 rfl) ?_
    refine fz_get (D := (dC, dI)) (ci := 6) (v := .int (iZ (μ 38 2))) (C := RX6) (T := TX6) (N := 6) hx hb hts inG6 hown hK hP (k := 38) (by decide) (F := (sF38 h0)) sE_38 rfl 2 (by decide) (hts _ k155) (fun _ h9 => h9) rfl dX6_foldOnce_32 ?_
    refine fz_icmp_gt (tgt := 144) (by constructor <;> omega) (by constructor <;> omega) hx hb dX6_foldOnce_35 (by decide) (fun c35_ => ?_) (fun c35_ => ?_)
    · exact hexit144 (fi) (av) (sg) μ H locs ls (by rfl) (by omega) hP hS (lv_sub hl [1, 2, 3, 4, 5] rfl)
    · obtain ⟨t1_, t2_, t3_, t4_, t5_⟩ := hit
      have ta := t2_ (fi + sz).toNat (by omega)
      have tb := t2_ fi.toNat (by omega)
      have tc := t3_ (fi + sz).toNat (by omega) (by omega)
      have td := t3_ fi.toNat (by omega) (by omega)
      have te := t4_ fi.toNat (fi + sz).toNat (by omega) (by omega)
      refine lv_aload_n hx hb dX6_foldOnce_38 rfl (lv_at hl 5 rfl) ?_
      refine fz_get (D := (dC, dI)) (ci := 6) (v := .ref (h0 + 40)) (C := RX6) (T := TX6) (N := 6) hx hb hts inG6 hown hK hP (k := 38) (by decide) (F := (sF38 h0)) sE_38 rfl 1 (by decide) (hts _ k154) (fun _ h9 => h9) rfl dX6_foldOnce_39 ?_
      refine lv_iload hx hb dX6_foldOnce_42 (lv_at hl 0 rfl) ?_
      refine lv_iload hx hb dX6_foldOnce_44 (lv_at hl 1 rfl) ?_
      refine lv_iadd hx hb dX6_foldOnce_46 ?_
      refine lv_topi (fun x9 ex9 => ?_)
      obtain rfl : x9 = iZ (fi + sz) := ex9.trans (iZ_add _ _)
      refine fz_ld (k := 40) (n := 1101) hx hb hK hP 0 (by decide) sE_40 rfl ⟨by omega, by omega⟩ (by decide) dX6_foldOnce_47 ?_
      refine lv_aload_n hx hb dX6_foldOnce_48 rfl (lv_at hl 5 rfl) ?_
      refine fz_get (D := (dC, dI)) (ci := 6) (v := .ref (h0 + 40)) (C := RX6) (T := TX6) (N := 6) hx hb hts inG6 hown hK hP (k := 38) (by decide) (F := (sF38 h0)) sE_38 rfl 1 (by decide) (hts _ k154) (fun _ h9 => h9) rfl dX6_foldOnce_49 ?_
      refine lv_iload hx hb dX6_foldOnce_52 (lv_at hl 0 rfl) ?_
      refine fz_ld (k := 40) (n := 1101) hx hb hK hP 0 (by decide) sE_40 rfl ⟨by omega, by omega⟩ (by decide) dX6_foldOnce_54 ?_
      refine fz_icmp_le (tgt := 138) (by constructor <;> omega) (by constructor <;> omega) hx hb dX6_foldOnce_55 (by decide) (fun c55_ => ?_) (fun c55_ => ?_)
      · refine lv_iinc (v := iZ (fi + 1)) (lv' := [(5, .int (iZ (fi + 1))), (4, .int (iZ (sz))), (3, .int (iZ (p2))), (2, .int (iZ (p1))), (1, .ref (h0 + q)), (0, .ref (h0 + 38))]) hx hb dX6_foldOnce_138 hl (k := 0) rfl (iZ_add _ _) (by decide) rfl (fun ls hl => ?_)
        refine lv_goto (tgt := 24) hx hb dX6_foldOnce_141 (by decide) ?_
        exact ih (fi + 1) (av) (sg) μ H locs ls (by rfl) (by omega) (by omega) hP hS (lv_sub hl [0, 1, 2, 3, 4, 5] rfl)
      · refine lv_aload_n hx hb dX6_foldOnce_58 rfl (lv_at hl 5 rfl) ?_
        refine fz_get (D := (dC, dI)) (ci := 6) (v := .ref (h0 + 39)) (C := RX6) (T := TX6) (N := 6) hx hb hts inG6 hown hK hP (k := 38) (by decide) (F := (sF38 h0)) sE_38 rfl 0 (by decide) (hts _ k153) (fun _ h9 => h9) rfl dX6_foldOnce_59 ?_
        refine lv_iload hx hb dX6_foldOnce_62 (lv_at hl 0 rfl) ?_
        refine fz_ld (k := 39) (n := 1101) hx hb hK hP 0 (by decide) sE_39 rfl ⟨by omega, by omega⟩ (by decide) dX6_foldOnce_64 ?_
        refine lv_istore (lv' := [(6, .int (iZ (μ 39 (fi).toNat))), (5, .int (iZ (fi))), (4, .int (iZ (sz))), (3, .int (iZ (p2))), (2, .int (iZ (p1))), (1, .ref (h0 + q)), (0, .ref (h0 + 38))]) hx hb dX6_foldOnce_65 hl (by decide) rfl (fun ls hl => ?_)
        refine lv_aload_n hx hb dX6_foldOnce_67 rfl (lv_at hl 6 rfl) ?_
        refine fz_get (D := (dC, dI)) (ci := 6) (v := .ref (h0 + 39)) (C := RX6) (T := TX6) (N := 6) hx hb hts inG6 hown hK hP (k := 38) (by decide) (F := (sF38 h0)) sE_38 rfl 0 (by decide) (hts _ k153) (fun _ h9 => h9) rfl dX6_foldOnce_68 ?_
        refine lv_iload hx hb dX6_foldOnce_71 (lv_at hl 1 rfl) ?_
        refine lv_iload hx hb dX6_foldOnce_73 (lv_at hl 2 rfl) ?_
        refine lv_iadd hx hb dX6_foldOnce_75 ?_
        refine lv_topi (fun x9 ex9 => ?_)
        obtain rfl : x9 = iZ (fi + sz) := ex9.trans (iZ_add _ _)
        refine fz_ld (k := 39) (n := 1101) hx hb hK hP 0 (by decide) sE_39 rfl ⟨by omega, by omega⟩ (by decide) dX6_foldOnce_76 ?_
        refine lv_iload hx hb dX6_foldOnce_77 (lv_at hl 0 rfl) ?_
        refine lv_isub hx hb dX6_foldOnce_79 ?_
        refine lv_topi (fun x9 ex9 => ?_)
        obtain rfl : x9 = iZ ((μ 39 (fi + sz).toNat) - (μ 39 (fi).toNat)) := ex9.trans (iZ_sub _ _)
        refine lv_istore (lv' := [(7, .int (iZ ((μ 39 (fi + sz).toNat) - (μ 39 (fi).toNat)))), (6, .int (iZ (μ 39 (fi).toNat))), (5, .int (iZ (fi))), (4, .int (iZ (sz))), (3, .int (iZ (p2))), (2, .int (iZ (p1))), (1, .ref (h0 + q)), (0, .ref (h0 + 38))]) hx hb dX6_foldOnce_80 hl (by decide) rfl (fun ls hl => ?_)
        refine lv_iload hx hb dX6_foldOnce_82 (lv_at hl 1 rfl) ?_
        refine lv_iload hx hb dX6_foldOnce_84 (lv_at hl 0 rfl) ?_
        refine lv_iconst (v := iZ 2) hx hb dX6_foldOnce_86 rfl ?_
        refine lv_imul hx hb dX6_foldOnce_87 ?_
        refine lv_topi (fun x9 ex9 => ?_)
        obtain rfl : x9 = iZ (((μ 39 (fi + sz).toNat) - (μ 39 (fi).toNat)) * 2) := ex9.trans (iZ_mul _ _)
        refine lv_iadd hx hb dX6_foldOnce_88 ?_
        refine lv_topi (fun x9 ex9 => ?_)
        obtain rfl : x9 = iZ ((μ 39 (fi).toNat) + (((μ 39 (fi + sz).toNat) - (μ 39 (fi).toNat)) * 2)) := ex9.trans (iZ_add _ _)
        refine lv_iload_n hx hb dX6_foldOnce_89 rfl (lv_at hl 4 rfl) ?_
        refine fz_icmp_gt (tgt := 138) (by constructor <;> omega) (by constructor <;> omega) hx hb dX6_foldOnce_90 (by decide) (fun c90_ => ?_) (fun c90_ => ?_)
        · refine lv_iinc (v := iZ (fi + 1)) (lv' := [(5, .int (iZ (fi + 1))), (7, .int (iZ ((μ 39 (fi + sz).toNat) - (μ 39 (fi).toNat)))), (6, .int (iZ (μ 39 (fi).toNat))), (4, .int (iZ (sz))), (3, .int (iZ (p2))), (2, .int (iZ (p1))), (1, .ref (h0 + q)), (0, .ref (h0 + 38))]) hx hb dX6_foldOnce_138 hl (k := 2) rfl (iZ_add _ _) (by decide) rfl (fun ls hl => ?_)
          refine lv_goto (tgt := 24) hx hb dX6_foldOnce_141 (by decide) ?_
          exact ih (fi + 1) (av) (sg) μ H locs ls (by rfl) (by omega) (by omega) hP hS (lv_sub hl [0, 3, 4, 5, 6, 7] rfl)
        · refine lv_aload_n hx hb dX6_foldOnce_93 rfl (lv_at hl 6 rfl) ?_
          refine lv_iload hx hb dX6_foldOnce_94 (lv_at hl 1 rfl) ?_
          refine lv_aload_n hx hb dX6_foldOnce_96 rfl (lv_at hl 6 rfl) ?_
          refine lv_iload hx hb dX6_foldOnce_97 (lv_at hl 1 rfl) ?_
          refine lv_iload hx hb dX6_foldOnce_99 (lv_at hl 0 rfl) ?_
          refine lv_iadd hx hb dX6_foldOnce_101 ?_
          refine lv_topi (fun x9 ex9 => ?_)
          obtain rfl : x9 = iZ ((μ 39 (fi).toNat) + ((μ 39 (fi + sz).toNat) - (μ 39 (fi).toNat))) := ex9.trans (iZ_add _ _)
          refine lv_iload hx hb dX6_foldOnce_102 (lv_at hl 0 rfl) ?_
          refine va_calli (va_runV (As := [.int (iZ (μ 39 (fi).toNat)), .ref (h0 + q), .int (iZ ((μ 39 (fi).toNat) + ((μ 39 (fi + sz).toNat) - (μ 39 (fi).toNat)))), .int (iZ ((μ 39 (fi + sz).toNat) - (μ 39 (fi).toNat)))]) (rest := []) ⟨hx, hb, hml, hown, hts⟩ (s_Rmatches l dC dI cI cZ cII cIII h0 H.size μ (q) (rm) (q) (rm) (μ 39 (fi).toNat) ((μ 39 (fi).toNat) + ((μ 39 (fi + sz).toNat) - (μ 39 (fi).toNat))) ((μ 39 (fi + sz).toNat) - (μ 39 (fi).toNat)) (hq) (hq) (by exact hG.1) (by exact hG.1) (by first | assumption | omega | exact ⟨by omega, by omega⟩) (by first | assumption | omega | exact ⟨by omega, by omega⟩) (by first | assumption | omega | exact ⟨by omega, by omega⟩) (by first | assumption | omega | exact ⟨by omega, by omega⟩) (by first | assumption | omega | exact ⟨by omega, by omega⟩) (by first | assumption | omega | exact ⟨by omega, by omega⟩)) (cwV 4 hts (gV_G k441 k442 k443 k3 k444) rfl rfl rfl (by decide +kernel) ⟨by show 2 + 1 ≤ _; omega, by show 8 + (6 + 11) + (35) ≤ _; omega⟩) ⟨fun a U g mk q => by obtain ⟨q0, q1, qP, qK, qM⟩ := q; exact ⟨q0, q1, qP, va_K.moved (u := U) (U := U.calling g mk a) (Vm.Alike.refl U.vm) qK, qM⟩, va_recv hK hP (ci := 4) (q0 := q) rfl ((fw_get (by omega)).trans (by rw [(sE_rowO hq)])), fun U hU hW => ⟨rfl, by rw [hU], by rw [hU]; exact hP, va_K.moved hW.alike hK, xM_warm hW hM⟩⟩ rfl rfl hl.1 rfl (lv_room (Nat.le_of_ble_eq_true rfl)) dX6_foldOnce_104 ⟨hRc, hRs⟩) hS (fun q _ h => fA_le hS.1 q h) (fA_le hS.1) (fun r9 u9 t9 H1 locs ht9 hvm9 hw9 hB9 hz9 hk9 hS => ?_)
          obtain ⟨μq, rq⟩ := u9
          obtain ⟨hP, -⟩ := hB9
          rw [ht9] at hP
          generalize H1 = H at hP hS ⊢
          obtain ⟨e9, hw9⟩ := hw9
          have e9 : r9 = iZ rq := e9
          subst e9
          simp only at hP hw9
          have hμq := hw9; clear hw9
          rw [hμq.1] at hP; have hμq := hμq.2
          have hrq := hμq
          have hr01 : rq = 0 ∨ rq = 1 := hrq.elim (fun h => Or.inr h.1) (fun h => Or.inl h.1)
          refine fz_if_eq (tgt := 138) (by constructor <;> omega) hx hb dX6_foldOnce_107 (by decide) (fun c107_ => ?_) (fun c107_ => ?_)
          · refine lv_iinc (v := iZ (fi + 1)) (lv' := [(5, .int (iZ (fi + 1))), (7, .int (iZ ((μ 39 (fi + sz).toNat) - (μ 39 (fi).toNat)))), (6, .int (iZ (μ 39 (fi).toNat))), (4, .int (iZ (sz))), (3, .int (iZ (p2))), (2, .int (iZ (p1))), (1, .ref (h0 + q)), (0, .ref (h0 + 38))]) hx hb dX6_foldOnce_138 hl (k := 2) rfl (iZ_add _ _) (by decide) rfl (fun ls hl => ?_)
            refine lv_goto (tgt := 24) hx hb dX6_foldOnce_141 (by decide) ?_
            exact ih (fi + 1) (av) (sg) μ H locs ls (by rfl) (by omega) (by omega) hP hS (lv_sub hl [0, 3, 4, 5, 6, 7] rfl)
          · have hmt := hrq.elim (fun h => h.2.2) (fun h => absurd h.1 (by omega))
            exact hexit110 (fi) (μ 39 (fi).toNat) ((μ 39 (fi + sz).toNat) - (μ 39 (fi).toNat)) μ H locs ls (by rfl) (by omega) (by exact hmt) (by exact ⟨td.2.2, by rw [show μ 39 fi.toNat + (μ 39 (fi + sz).toNat - μ 39 fi.toNat) = μ 39 (fi + sz).toNat by omega]; exact tc.2.2⟩) hP hS (lv_sub hl [0, 1, 2, 3, 4, 5, 6, 7] rfl)
set_option maxHeartbeats 4000000 in
set_option maxRecDepth 100000 in
theorem LX6_foldOnce_10 {p : Program} {l : Launch} {e : Env} {R : Room} {s : State} {m : MethodId} {args : Array Value} {below : List Frame} {meth : Method} {c : Code} {cells slots : Nat} {Q : State → Prop} {dC : Nat → ClassId} {dI : Nat → Nat → Nat} {h0 : Nat} {cI cZ cII cIII : ClassId} (hx : p.tables.exec = Jvm.exec) (hb : c.code = cX6_foldOnce) (hml : c.maxLocals = 8) (hown : s.vm.findClass RX6 = some m.cls) (hts : ∀ w ∈ wsG, w.before args s = true) (hK : va_K (dC, dI) vwCl (sT cI cZ cII cIII) s) (hM : xM s) (hRf : 4 ≤ R.frames) (hRl : 97 ≤ R.locals) (hRc : cells ≤ R.cells) (hRs : slots ≤ R.slots) (μ0 : va_M) (q : Nat) (rm : Nat) (p1 : Int) (p2 : Int) (bh : Int) (hq : rowB q rm) (hG : rG μ0 q rm) (hrg : rng μ0 q p1 bh) (hp2 : p2 = μ0 q 5 - bh) (hit : itm (μ0 (q + 1)) μ0 p1 p2) (hexit110 : ∀ (sz : Int) (fi : Int) (av : Int) (sg : Int) (μ : va_M) (H : Heap) (locs : List Loc) (ls : Array Slot), (μ = μ0) → (p1 ≤ av ∧ 1 ≤ sg ∧ av + sg * 2 ≤ p2) → (∀ t : Nat, (t : Int) < sg → sAl (μ0 (q + 1) (av.toNat + t)) (μ0 (q + 1) ((av + sg).toNat + t))) → (Dp (μ0 (q + 1)) av.toNat = Dp (μ0 (q + 1)) p1.toNat ∧ Dp (μ0 (q + 1)) (av + sg).toNat = Dp (μ0 (q + 1)) p1.toNat) → va_P (dC, dI) vwCl (fw (sE cI cZ cII cIII h0) h0 233 μ) H → va_S (fA h0 233 s.heap.size) s.heap H locs → lv_has ls 8 [(7, .int (iZ (sg))), (6, .int (iZ (av))), (5, .int (iZ (fi))), (4, .int (iZ (sz))), (3, .int (iZ (p2))), (2, .int (iZ (p1))), (1, .ref (h0 + q)), (0, .ref (h0 + 38))] → W p l e R s m args below meth c H locs cells slots Q (F0 m 110 ls [])) (hexit150 : ∀ (sz : Int) (fi : Int) (av : Int) (sg : Int) (μ : va_M) (H : Heap) (locs : List Loc) (ls : Array Slot), (μ = μ0) → va_P (dC, dI) vwCl (fw (sE cI cZ cII cIII h0) h0 233 μ) H → va_S (fA h0 233 s.heap.size) s.heap H locs → lv_has ls 8 [] → W p l e R s m args below meth c H locs cells slots Q (F0 m 150 ls [])) :
    ∀ (n9 : Nat) (sz : Int) (fi : Int) (av : Int) (sg : Int) (μ : va_M) (H : Heap) (locs : List Loc) (ls : Array Slot), (μ = μ0) → (1 ≤ sz ∧ sz ≤ 1101) → (1102 - sz).toNat < n9 → va_P (dC, dI) vwCl (fw (sE cI cZ cII cIII h0) h0 233 μ) H → va_S (fA h0 233 s.heap.size) s.heap H locs → lv_has ls 8 [(4, .int (iZ (sz))), (3, .int (iZ (p2))), (2, .int (iZ (p1))), (1, .ref (h0 + q)), (0, .ref (h0 + 38))] → W p l e R s m args below meth c H locs cells slots Q (F0 m 10 ls []) := by
  intro n9
  induction n9 with
  | zero => intro sz fi av sg μ H locs ls hm9_ hz hm9 hP hS hl; exact absurd hm9 (Nat.not_lt_zero _)
  | succ n9 ih =>
    intro sz fi av sg μ H locs ls hm9_ hz hm9 hP hS hl
    subst hm9_
    have hit1 := hit.1
    refine lv_iload hx hb dX6_foldOnce_10 (lv_at hl 0 rfl) ?_
    refine lv_iconst (v := iZ 2) hx hb dX6_foldOnce_12 rfl ?_
    refine lv_imul hx hb dX6_foldOnce_13 ?_
    refine lv_topi (fun x9 ex9 => ?_)
    obtain rfl : x9 = iZ (sz * 2) := ex9.trans (iZ_mul _ _)
    refine lv_aload_n hx hb dX6_foldOnce_14 rfl (lv_at hl 4 rfl) ?_
    refine fz_get (D := (dC, dI)) (ci := 6) (v := .int (iZ (μ 38 2))) (C := RX6) (T := TX6) (N := 6) hx hb hts inG6 hown hK hP (k := 38) (by decide) (F := (sF38 h0)) sE_38 rfl 2 (by decide) (hts _ k155) (fun _ h9 => h9) rfl dX6_foldOnce_15 ?_
    refine fz_icmp_gt (tgt := 150) (by constructor <;> omega) (by constructor <;> omega) hx hb dX6_foldOnce_18 (by decide) (fun c18_ => ?_) (fun c18_ => ?_)
    · exact hexit150 (sz) (fi) (av) (sg) μ H locs ls (by rfl) hP hS (lv_sub hl [] rfl)
    · refine lv_iconst (v := iZ 0) hx hb dX6_foldOnce_21 rfl ?_
      refine lv_istore (lv' := [(5, .int (iZ (0))), (4, .int (iZ (sz))), (3, .int (iZ (p2))), (2, .int (iZ (p1))), (1, .ref (h0 + q)), (0, .ref (h0 + 38))]) hx hb dX6_foldOnce_22 hl (by decide) rfl (fun ls hl => ?_)
      refine LX6_foldOnce_24 hx hb hml hown hts hK hM hRf hRl hRc hRs (μ) (q) (rm) (p1) (p2) (bh) (sz) (by assumption) (by assumption) (by assumption) (by assumption) (by exact hit) ?_ ?_ _ (0) (0) (0) μ H locs ls (by rfl) (by omega) (Nat.lt_succ_self _) hP hS (lv_sub hl [0, 1, 2, 3, 4, 5] rfl)
      · intro fi_1 av_1 sg_1 μ1_ H locs ls q1_1 q2_1 q5_1 q6_1 hP hS hl
        have hl : lv_has ls 8 [(7, .int (iZ (sg_1))), (6, .int (iZ (av_1))), (5, .int (iZ (fi_1))), (4, .int (iZ (sz))), (3, .int (iZ (p2))), (2, .int (iZ (p1))), (1, .ref (h0 + q)), (0, .ref (h0 + 38))] := hl
        have hPn110 := hP
        have e_m := q1_1
        have e_b := q2_1
        have e_al := q5_1
        have e_d := q6_1
        exact hexit110 (sz) (fi_1) (av_1) (sg_1) μ1_ H locs ls (by exact e_m) (by omega) (by exact e_al) (by exact e_d) hP hS (lv_sub hl [0, 1, 2, 3, 4, 5, 6, 7] rfl)
      · intro fi_2 av_2 sg_2 μ2_ H locs ls q7_2 q8_2 hP hS hl
        have hl : lv_has ls 8 [(4, .int (iZ (sz))), (3, .int (iZ (p2))), (2, .int (iZ (p1))), (1, .ref (h0 + q)), (0, .ref (h0 + 38))] := hl
        have hPn144 := hP
        obtain rfl := q7_2
        have hP := hPn144
        have q88 := q8_2
        refine lv_iinc (v := iZ (sz + 1)) (lv' := [(4, .int (iZ (sz + 1))), (3, .int (iZ (p2))), (2, .int (iZ (p1))), (1, .ref (h0 + q)), (0, .ref (h0 + 38))]) hx hb dX6_foldOnce_144 hl (k := 0) rfl (iZ_add _ _) (by decide) rfl (fun ls hl => ?_)
        refine lv_goto (tgt := 10) hx hb dX6_foldOnce_147 (by decide) ?_
        exact ih (sz + 1) (fi) (av) (sg) μ2_ H locs ls (by rfl) (by omega) (by omega) hP hS (lv_sub hl [0, 1, 2, 3, 4] rfl)
set_option maxHeartbeats 4000000 in
set_option maxRecDepth 100000 in
theorem s_TfoldOnce (l : Launch) (dC : Nat → ClassId) (dI : Nat → Nat → Nat) (cI cZ cII cIII : ClassId) (h0 sz : Nat) (μ : va_M) (q : Nat) (rm : Nat) (p1 : Int) (p2 : Int) (bh : Int) (hq : rowB q rm) (hG : rG μ q rm) (hqt : q + 6 ≤ 38 ∨ 41 ≤ q) (hrg : rng μ q p1 bh) (hp2 : p2 = μ q 5 - bh) : Met l yX6_foldOnce (Cond.code yX6_foldOnce cX6_foldOnce 8 (some .boolean) :: wsG) ({ frames := 4, cells := 0, slots := 0, locals := 97 } : Room) (va_Pc [.ref (h0 + 38), .ref (h0 + q), .int (iZ (p1)), .int (iZ (p2))] (fun U => U.heap.size = sz ∧ va_P (dC, dI) vwCl (fw (sE cI cZ cII cIII h0) h0 233 μ) U.heap ∧ va_K (dC, dI) vwCl (sT cI cZ cII cIII) U ∧ xM U)) (va_Qi (fun (r9 : Int32) (u : va_M × Int) => r9 = iZ u.2 ∧ (fun (u : va_M) (r : Int) => (r = 0 ∨ r = 1) ∧ fr (LTq q) μ u ∧ rG u q rm ∧ rng u q p1 bh ∧ (r = 0 → u q 5 = μ q 5)) u.1 u.2) (fun u t => va_P (dC, dI) vwCl (fw (sE cI cZ cII cIII h0) h0 233 u.1) t.heap ∧ va_K (dC, dI) vwCl (sT cI cZ cII cIII) t) (fA h0 233 sz)) 0 0 (fA h0 233 sz) := by
  refine Met.ofW (cc := cX6_foldOnce) (maxL := 8) (ret := (some .boolean)) (by decide) rfl ?_
  intro p e s m args below meth c s₁ B hml hv
  obtain ⟨rfl, hsz, hP, hK, hM⟩ := hv
  have hx := B.exec
  have hb := B.bytes
  have hr := B.returns
  have hts : ∀ w ∈ wsG, w.before _ s = true := hG_of (atoms_spec (ws := (Cond.code yX6_foldOnce cX6_foldOnce 8 (some .boolean) :: wsG)) B.pre)
  have hown : s.vm.findClass RX6 = some m.cls := findClass_of_methodNamed B.named
  have hlocks := B.notSynchronized
  subst hsz
  have hS : va_S (fA h0 233 s.heap.size) s.heap s.heap [] := va_S.rf
  have hl := lv_entry ([.ref (h0 + 38), .ref (h0 + q), .int (iZ (p1)), .int (iZ (p2))]) (n := 8) (Nat.le_of_ble_eq_true rfl)
  rw [lg_entry_eq]
  generalize (lg_sl ([.ref (h0 + 38), .ref (h0 + q), .int (iZ (p1)), .int (iZ (p2))]) ++ List.replicate (8 - (lg_sl ([.ref (h0 + 38), .ref (h0 + q), .int (iZ (p1)), .int (iZ (p2))])).length) Slot.unset).toArray = ls at hl ⊢
  have hl : lv_has ls 8 [(0, .ref (h0 + 38)), (1, .ref (h0 + q)), (2, .int (iZ (p1))), (3, .int (iZ (p2)))] := hl
  have hqb := rowB_b hq
  refine lv_aload_n hx hb dX6_foldOnce_0 rfl (lv_at hl 0 rfl) ?_
  refine lv_aload_n hx hb dX6_foldOnce_1 rfl (lv_at hl 1 rfl) ?_
  refine lv_iload_n hx hb dX6_foldOnce_2 rfl (lv_at hl 2 rfl) ?_
  refine lv_iload_n hx hb dX6_foldOnce_3 rfl (lv_at hl 3 rfl) ?_
  refine va_callv (va_runV (As := [.ref (h0 + q), .int (iZ (p1)), .int (iZ (p2))]) (rest := []) ⟨hx, hb, hml, hown, hts⟩ (s_TfindItems l dC dI cI cZ cII cIII h0 s.heap.size μ (q) (rm) (p1) (p2) (bh) (hq) (by first | assumption | omega | exact ⟨by omega, by omega⟩) (by first | assumption | omega | exact ⟨by omega, by omega⟩) (by first | assumption | omega | exact ⟨by omega, by omega⟩) (by first | assumption | omega | exact ⟨by omega, by omega⟩)) (cwV 3 hts (gV_G k480 k482 ks_yX6_findItems k6 k483) rfl rfl rfl (by decide +kernel) ⟨Nat.le_of_ble_eq_true rfl, Nat.le_of_ble_eq_true rfl⟩) ⟨fun a U g mk q => by obtain ⟨q0, q1, qP, qK, qM⟩ := q; exact ⟨q0, q1, qP, va_K.moved (u := U) (U := U.calling g mk a) (Vm.Alike.refl U.vm) qK, qM⟩, va_recv hK hP (ci := 6) (q0 := 38) rfl ((fw_get (by decide)).trans (by rw [sE_38])), fun U hU hW => ⟨rfl, by rw [hU], by rw [hU]; exact hP, va_K.moved hW.alike hK, xM_warm hW hM⟩⟩ rfl rfl hl.1 rfl (lv_room (Nat.le_of_ble_eq_true rfl)) dX6_foldOnce_4 ⟨Nat.le_of_ble_eq_true rfl, Nat.le_of_ble_eq_true rfl⟩) hS (fun q _ h => fA_le hS.1 q h) (fA_le hS.1) (fun u9 t9 H1 locs ht9 hvm9 hw9 hB9 hz9 hk9 hS => ?_)
  obtain ⟨hP, -⟩ := hB9
  rw [ht9] at hP
  generalize H1 = H at hP hS ⊢
  obtain ⟨μ1, eμ1⟩ : ∃ x : va_M, x = u9 := ⟨_, rfl⟩
  rw [← eμ1] at hP hw9
  have hμ1 := hw9; clear hw9
  obtain ⟨it_, ff_⟩ := hμ1
  have hG1 : rG μ1 q rm := rG_fr hG (fun x y h8 h9 => ff_ _ _ (by omega))
  have hr_1 : rng μ1 q p1 bh := rng_fr hrg (ff_ _ _ (by omega)) (fun y => ff_ _ _ (by omega))
  have x5 : μ1 q 5 = μ q 5 := ff_ _ _ (by omega)
  have it1 : itm (μ1 (q + 1)) μ1 p1 p2 := by rw [show μ1 (q + 1) = μ (q + 1) from funext (fun y => ff_ _ _ (by omega))]; exact it_
  have hrm := rG_rm hq hG
  have hr1 := hrg.1
  refine lv_iconst (v := iZ 1) hx hb dX6_foldOnce_7 rfl ?_
  refine lv_istore (lv' := [(4, .int (iZ (1))), (0, .ref (h0 + 38)), (1, .ref (h0 + q)), (2, .int (iZ (p1))), (3, .int (iZ (p2)))]) hx hb dX6_foldOnce_8 hl (by decide) rfl (fun ls hl => ?_)
  refine LX6_foldOnce_10 hx hb hml hown hts hK hM (Nat.le_of_ble_eq_true rfl) (Nat.le_of_ble_eq_true rfl) (Nat.le_of_ble_eq_true rfl) (Nat.le_of_ble_eq_true rfl) (μ1) (q) (rm) (p1) (p2) (bh) (by assumption) (by exact hG1) (by exact hr_1) (by omega) (by exact it1) ?_ ?_ _ (1) (0) (0) (0) μ1 H locs ls (by rfl) (by omega) (Nat.lt_succ_self _) hP hS (lv_sub hl [0, 4, 3, 2, 1] rfl)
  · intro sz_3 fi_3 av_3 sg_3 μ3_ H locs ls q1_3 q2_3 q5_3 q6_3 hP hS hl
    have hl : lv_has ls 8 [(7, .int (iZ (sg_3))), (6, .int (iZ (av_3))), (5, .int (iZ (fi_3))), (4, .int (iZ (sz_3))), (3, .int (iZ (p2))), (2, .int (iZ (p1))), (1, .ref (h0 + q)), (0, .ref (h0 + 38))] := hl
    have hPn110 := hP
    have e_m := q1_3
    have e_b := q2_3
    have e_al := q5_3
    have e_d := q6_3
    refine lv_aload_n hx hb dX6_foldOnce_110 rfl (lv_at hl 7 rfl) ?_
    refine lv_iload hx hb dX6_foldOnce_111 (lv_at hl 3 rfl) ?_
    refine fz_put (D := (dC, dI)) (ci := 6) (ty := .int) (z := sz_3) (C := RX6) (T := TX6) (N := 6) hx hb hts inG6 tyX6 tyX6_ok nmX6 hown hK hP fA_in hS (k := 38) (by decide) (F := (sF38 h0)) sE_38 rfl 3 (by decide) (hts _ k156) (fun _ h9 => h9) rfl (by decide +kernel) rfl rfl (fun _ => Nat.le_of_ble_eq_true rfl) (fun _ _ => rfl) dX6_foldOnce_113 (fun H locs hP hS => ?_)
    obtain ⟨μ4, eμ4⟩ : ∃ x : va_M, x = uz μ3_ 38 3 (sz_3) := ⟨_, rfl⟩
    rw [← eμ4] at hP
    refine lv_aload_n hx hb dX6_foldOnce_116 rfl (lv_at hl 7 rfl) ?_
    refine lv_iload hx hb dX6_foldOnce_117 (lv_at hl 2 rfl) ?_
    refine fz_put (D := (dC, dI)) (ci := 6) (ty := .int) (z := fi_3) (C := RX6) (T := TX6) (N := 6) hx hb hts inG6 tyX6 tyX6_ok nmX6 hown hK hP fA_in hS (k := 38) (by decide) (F := (sF38 h0)) sE_38 rfl 4 (by decide) (hts _ k158) (fun _ h9 => h9) rfl (by decide +kernel) rfl rfl (fun _ => Nat.le_of_ble_eq_true rfl) (fun _ _ => rfl) dX6_foldOnce_119 (fun H locs hP hS => ?_)
    obtain ⟨μ5, eμ5⟩ : ∃ x : va_M, x = uz μ4 38 4 (fi_3) := ⟨_, rfl⟩
    rw [← eμ5] at hP
    have E1 : ∀ y, μ5 (q + 1) y = μ1 (q + 1) y := fun y => by rw [eμ5, eμ4, uz_n (by omega), uz_n (by omega), e_m]
    have e_5 : μ5 q 5 = μ q 5 := by rw [eμ5, eμ4, uz_n (by omega), uz_n (by omega), e_m]; exact x5
    have e_G : rG μ5 q rm := rG_fr hG1 (fun x y h8 h9 => by rw [eμ5, eμ4, uz_n (by omega), uz_n (by omega), e_m])
    have e_r : rng μ5 q p1 bh := rng_fr hr_1 (by omega) E1
    have e_7 : μ5 q 7 = 0 := (rG_ov e_G).elim id (fun h => by omega)
    rw [← funext E1] at e_al e_d
    have F5 : fr (LTq q) μ μ5 := by
      rw [eμ5, eμ4]
      refine fr_uz (fr_uz ?_ (Or.inr (by omega))) (Or.inr (by omega))
      rw [e_m]
      exact fr_mono ff_ (fun x y h => Or.inr (by omega))
    refine lv_aload_n hx hb dX6_foldOnce_122 rfl (lv_at hl 7 rfl) ?_
    refine lv_aload_n hx hb dX6_foldOnce_123 rfl (lv_at hl 7 rfl) ?_
    refine lv_aload_n hx hb dX6_foldOnce_124 rfl (lv_at hl 6 rfl) ?_
    refine lv_iload hx hb dX6_foldOnce_125 (lv_at hl 1 rfl) ?_
    refine lv_iload hx hb dX6_foldOnce_127 (lv_at hl 0 rfl) ?_
    refine lv_iload_n hx hb dX6_foldOnce_129 rfl (lv_at hl 4 rfl) ?_
    refine va_calli (va_runV (As := [.ref (h0 + q), .int (iZ (av_3)), .int (iZ (sg_3)), .int (iZ (p2))]) (rest := [.ref (h0 + 38)]) ⟨hx, hb, hml, hown, hts⟩ (s_TfoldAt l dC dI cI cZ cII cIII h0 H.size μ5 (q) (rm) (av_3) (sg_3) (p1) (p2) (bh) (hq) (by exact e_G) (by exact e_7) (by exact e_r) (by omega) (by exact e_b) (by exact e_al) (by exact e_d)) (cwV 4 hts (gV_G k487 k489 ks_yX6_foldAt k6 k490) rfl rfl rfl (by decide +kernel) ⟨Nat.le_of_ble_eq_true rfl, Nat.le_of_ble_eq_true rfl⟩) ⟨fun a U g mk q => by obtain ⟨q0, q1, qP, qK, qM⟩ := q; exact ⟨q0, q1, qP, va_K.moved (u := U) (U := U.calling g mk a) (Vm.Alike.refl U.vm) qK, qM⟩, va_recv hK hP (ci := 6) (q0 := 38) rfl ((fw_get (by decide)).trans (by rw [sE_38])), fun U hU hW => ⟨rfl, by rw [hU], by rw [hU]; exact hP, va_K.moved hW.alike hK, xM_warm hW hM⟩⟩ rfl rfl hl.1 rfl (lv_room (Nat.le_of_ble_eq_true rfl)) dX6_foldOnce_130 ⟨Nat.le_of_ble_eq_true rfl, Nat.le_of_ble_eq_true rfl⟩) hS (fun q _ h => fA_le hS.1 q h) (fA_le hS.1) (fun r9 u9 t9 H1 locs ht9 hvm9 hw9 hB9 hz9 hk9 hS => ?_)
    obtain ⟨μf, r6⟩ := u9
    obtain ⟨hP, -⟩ := hB9
    rw [ht9] at hP
    generalize H1 = H at hP hS ⊢
    obtain ⟨e9, hw9⟩ := hw9
    have e9 : r9 = iZ r6 := e9
    subst e9
    simp only at hP hw9
    have hμf := hw9; clear hw9
    obtain ⟨k1_, k2_, k3_⟩ := hμf
    refine fz_put (D := (dC, dI)) (ci := 6) (ty := .int) (z := r6) (C := RX6) (T := TX6) (N := 6) hx hb hts inG6 tyX6 tyX6_ok nmX6 hown hK hP fA_in hS (k := 38) (by decide) (F := (sF38 h0)) sE_38 rfl 5 (by decide) (hts _ k160) (fun _ h9 => h9) rfl (by decide +kernel) rfl rfl (fun _ => Nat.le_of_ble_eq_true rfl) (fun _ _ => rfl) dX6_foldOnce_133 (fun H locs hP hS => ?_)
    obtain ⟨μ7, eμ7⟩ : ∃ x : va_M, x = uz μf 38 5 (r6) := ⟨_, rfl⟩
    rw [← eμ7] at hP
    refine lv_iconst (v := iZ 1) hx hb dX6_foldOnce_136 rfl ?_
    exact W.zret (v := iZ (1)) hx hb hr (by decide +kernel) (fun t9 ht9 hW9 => ⟨⟨iZ (1), (μ7, 1), rfl, ⟨rfl, (by
                dsimp only
                refine ⟨Or.inr rfl, ?_, rG_fr k1_ (fun x y h8 h9 => by rw [eμ7, uz_n (by omega)]), rng_fr k3_ (by rw [eμ7, uz_n (by omega)]) (fun y => by rw [eμ7, uz_n (by omega)]), fun h => absurd h (by decide)⟩
                rw [eμ7]
                exact fr_uz (fr_trans F5 (fr_mono k2_ (fun x y h => Or.inl h))) (Or.inr (by omega)))⟩, by rw [ht9]; exact hP, va_K.moved hW9.alike hK⟩, hS.F ht9⟩) hS.2.2 dX6_foldOnce_137
  · intro sz_8 fi_8 av_8 sg_8 μ8_ H locs ls q3_8 hP hS hl
    have hl : lv_has ls 8 [] := hl
    have hPn150 := hP
    obtain rfl := q3_8
    have hP := hPn150
    refine lv_iconst (v := iZ 0) hx hb dX6_foldOnce_150 rfl ?_
    exact W.zret (v := iZ (0)) hx hb hr (by decide +kernel) (fun t9 ht9 hW9 => ⟨⟨iZ (0), (μ8_, 0), rfl, ⟨rfl, (by
                dsimp only
                exact ⟨Or.inl rfl, fr_mono ff_ (fun x y h => Or.inr (by omega)), hG1, hr_1, fun _ => x5⟩)⟩, by rw [ht9]; exact hP, va_K.moved hW9.alike hK⟩, hS.F ht9⟩) hS.2.2 dX6_foldOnce_151

set_option maxRecDepth 100000 in
theorem k480 : (Cond.methodLink "PageSkeleton$Tidier" (89 : Nat) ({ cls := "PageSkeleton$Tidier", name := "findItems", desc := "(LPageSkeleton$Row;II)V" } : MethodName)) ∈ wsG := wsG_a3 0 rfl rfl
set_option maxRecDepth 100000 in
theorem k482 : (Cond.instanceMethod ({ cls := "PageSkeleton$Tidier", name := "findItems", desc := "(LPageSkeleton$Row;II)V" } : MethodName)) ∈ wsG := wsG_a3 2 rfl rfl
set_option maxRecDepth 100000 in
theorem k483 : (Cond.code ({ cls := "PageSkeleton$Tidier", name := "findItems", desc := "(LPageSkeleton$Row;II)V" } : MethodName) prog_8_method_9_code (6 : Nat) (Option.none : Option Jvm.ClassFile.FieldType)) ∈ wsG := wsG_a3 3 rfl rfl
set_option maxRecDepth 100000 in
theorem k487 : (Cond.methodLink "PageSkeleton$Tidier" (93 : Nat) ({ cls := "PageSkeleton$Tidier", name := "foldAt", desc := "(LPageSkeleton$Row;III)I" } : MethodName)) ∈ wsG := wsG_a3 7 rfl rfl
set_option maxRecDepth 100000 in
theorem k489 : (Cond.instanceMethod ({ cls := "PageSkeleton$Tidier", name := "foldAt", desc := "(LPageSkeleton$Row;III)I" } : MethodName)) ∈ wsG := wsG_a3 9 rfl rfl
set_option maxRecDepth 100000 in
theorem k490 : (Cond.code ({ cls := "PageSkeleton$Tidier", name := "foldAt", desc := "(LPageSkeleton$Row;III)I" } : MethodName) prog_8_method_10_code (8 : Nat) (Option.some FieldType.int)) ∈ wsG := wsG_a3 10 rfl rfl
set_option maxRecDepth 100000 in
theorem k491 : (Cond.methodLink "PageSkeleton$Tidier" (101 : Nat) ({ cls := "PageSkeleton$Row", name := "insert", desc := "(II)V" } : MethodName)) ∈ wsG := wsG_a3 11 rfl rfl
set_option maxRecDepth 100000 in
theorem k492 : (Cond.instanceMethod ({ cls := "PageSkeleton$Row", name := "insert", desc := "(II)V" } : MethodName)) ∈ wsG := wsG_a3 12 rfl rfl
set_option maxRecDepth 100000 in
theorem k493 : (Cond.selects "PageSkeleton$Row" ({ cls := "PageSkeleton$Row", name := "insert", desc := "(II)V" } : MethodName) ({ cls := "PageSkeleton$Row", name := "insert", desc := "(II)V" } : MethodName)) ∈ wsG := wsG_a3 13 rfl rfl
set_option maxRecDepth 100000 in
theorem k494 : (Cond.code ({ cls := "PageSkeleton$Row", name := "insert", desc := "(II)V" } : MethodName) prog_6_method_18_code (3 : Nat) (Option.none : Option Jvm.ClassFile.FieldType)) ∈ wsG := wsG_a3 14 rfl rfl
set_option maxRecDepth 100000 in
theorem ks_yX6_findItems : Cond.selects RX6 yX6_findItems yX6_findItems ∈ wsG := wsG_p 6 rfl rfl
set_option maxRecDepth 100000 in
theorem ks_yX6_foldAt : Cond.selects RX6 yX6_foldAt yX6_foldAt ∈ wsG := wsG_p 7 rfl rfl
theorem dX6_findItems_0 : decode cX6_findItems 0 = .ok (.aload_n 0, 1) := by decide +kernel
theorem dX6_findItems_1 : decode cX6_findItems 1 = .ok (.iconst 0, 1) := by decide +kernel
theorem dX6_findItems_2 : decode cX6_findItems 2 = .ok (.putfield 18, 3) := by decide +kernel
theorem dX6_findItems_5 : decode cX6_findItems 5 = .ok (.aload_n 0, 1) := by decide +kernel
theorem dX6_findItems_6 : decode cX6_findItems 6 = .ok (.getfield 15, 3) := by decide +kernel
theorem dX6_findItems_9 : decode cX6_findItems 9 = .ok (.iconst 0, 1) := by decide +kernel
theorem dX6_findItems_10 : decode cX6_findItems 10 = .ok (.iconst 0, 1) := by decide +kernel
theorem dX6_findItems_11 : decode cX6_findItems 11 = .ok (.iastore, 1) := by decide +kernel
theorem dX6_findItems_12 : decode cX6_findItems 12 = .ok (.iload_n 2, 1) := by decide +kernel
theorem dX6_findItems_13 : decode cX6_findItems 13 = .ok (.istore 4, 2) := by decide +kernel
theorem dX6_findItems_15 : decode cX6_findItems 15 = .ok (.iload 4, 2) := by decide +kernel
theorem dX6_findItems_17 : decode cX6_findItems 17 = .ok (.iload_n 3, 1) := by decide +kernel
theorem dX6_findItems_18 : decode cX6_findItems 18 = .ok (.if_icmp .ge 116, 3) := by decide +kernel
theorem dX6_findItems_21 : decode cX6_findItems 21 = .ok (.aload_n 0, 1) := by decide +kernel
theorem dX6_findItems_22 : decode cX6_findItems 22 = .ok (.getfield 18, 3) := by decide +kernel
theorem dX6_findItems_25 : decode cX6_findItems 25 = .ok (.sipush 1100, 3) := by decide +kernel
theorem dX6_findItems_28 : decode cX6_findItems 28 = .ok (.if_icmp .ge 106, 3) := by decide +kernel
theorem dX6_findItems_31 : decode cX6_findItems 31 = .ok (.aload_n 1, 1) := by decide +kernel
theorem dX6_findItems_32 : decode cX6_findItems 32 = .ok (.getfield 37, 3) := by decide +kernel
theorem dX6_findItems_35 : decode cX6_findItems 35 = .ok (.iload 4, 2) := by decide +kernel
theorem dX6_findItems_37 : decode cX6_findItems 37 = .ok (.iaload, 1) := by decide +kernel
theorem dX6_findItems_38 : decode cX6_findItems 38 = .ok (.invokestatic 97, 3) := by decide +kernel
theorem dX6_findItems_41 : decode cX6_findItems 41 = .ok (.ifCond .ne 16, 3) := by decide +kernel
theorem dX6_findItems_44 : decode cX6_findItems 44 = .ok (.aload_n 1, 1) := by decide +kernel
theorem dX6_findItems_45 : decode cX6_findItems 45 = .ok (.getfield 37, 3) := by decide +kernel
theorem dX6_findItems_48 : decode cX6_findItems 48 = .ok (.iload 4, 2) := by decide +kernel
theorem dX6_findItems_50 : decode cX6_findItems 50 = .ok (.iaload, 1) := by decide +kernel
theorem dX6_findItems_51 : decode cX6_findItems 51 = .ok (.sipush 514, 3) := by decide +kernel
theorem dX6_findItems_54 : decode cX6_findItems 54 = .ok (.if_icmp .ne 7, 3) := by decide +kernel
theorem dX6_findItems_57 : decode cX6_findItems 57 = .ok (.iconst 1, 1) := by decide +kernel
theorem dX6_findItems_58 : decode cX6_findItems 58 = .ok (.goto 4, 3) := by decide +kernel
theorem dX6_findItems_61 : decode cX6_findItems 61 = .ok (.iconst 0, 1) := by decide +kernel
theorem dX6_findItems_62 : decode cX6_findItems 62 = .ok (.istore 5, 2) := by decide +kernel
theorem dX6_findItems_64 : decode cX6_findItems 64 = .ok (.aload_n 0, 1) := by decide +kernel
theorem dX6_findItems_65 : decode cX6_findItems 65 = .ok (.getfield 9, 3) := by decide +kernel
theorem dX6_findItems_68 : decode cX6_findItems 68 = .ok (.aload_n 0, 1) := by decide +kernel
theorem dX6_findItems_69 : decode cX6_findItems 69 = .ok (.getfield 18, 3) := by decide +kernel
theorem dX6_findItems_72 : decode cX6_findItems 72 = .ok (.iload 4, 2) := by decide +kernel
theorem dX6_findItems_74 : decode cX6_findItems 74 = .ok (.iastore, 1) := by decide +kernel
theorem dX6_findItems_75 : decode cX6_findItems 75 = .ok (.aload_n 0, 1) := by decide +kernel
theorem dX6_findItems_76 : decode cX6_findItems 76 = .ok (.getfield 15, 3) := by decide +kernel
theorem dX6_findItems_79 : decode cX6_findItems 79 = .ok (.aload_n 0, 1) := by decide +kernel
theorem dX6_findItems_80 : decode cX6_findItems 80 = .ok (.getfield 18, 3) := by decide +kernel
theorem dX6_findItems_83 : decode cX6_findItems 83 = .ok (.iconst 1, 1) := by decide +kernel
theorem dX6_findItems_84 : decode cX6_findItems 84 = .ok (.iadd, 1) := by decide +kernel
theorem dX6_findItems_85 : decode cX6_findItems 85 = .ok (.aload_n 0, 1) := by decide +kernel
theorem dX6_findItems_86 : decode cX6_findItems 86 = .ok (.getfield 15, 3) := by decide +kernel
theorem dX6_findItems_89 : decode cX6_findItems 89 = .ok (.aload_n 0, 1) := by decide +kernel
theorem dX6_findItems_90 : decode cX6_findItems 90 = .ok (.getfield 18, 3) := by decide +kernel
theorem dX6_findItems_93 : decode cX6_findItems 93 = .ok (.iaload, 1) := by decide +kernel
theorem dX6_findItems_94 : decode cX6_findItems 94 = .ok (.iload 5, 2) := by decide +kernel
theorem dX6_findItems_96 : decode cX6_findItems 96 = .ok (.ifCond .eq 7, 3) := by decide +kernel
theorem dX6_findItems_99 : decode cX6_findItems 99 = .ok (.iconst 1, 1) := by decide +kernel
theorem dX6_findItems_100 : decode cX6_findItems 100 = .ok (.goto 4, 3) := by decide +kernel
theorem dX6_findItems_103 : decode cX6_findItems 103 = .ok (.iconst 0, 1) := by decide +kernel
theorem dX6_findItems_104 : decode cX6_findItems 104 = .ok (.iadd, 1) := by decide +kernel
theorem dX6_findItems_105 : decode cX6_findItems 105 = .ok (.iastore, 1) := by decide +kernel
theorem dX6_findItems_106 : decode cX6_findItems 106 = .ok (.aload_n 0, 1) := by decide +kernel
theorem dX6_findItems_107 : decode cX6_findItems 107 = .ok (.dup, 1) := by decide +kernel
theorem dX6_findItems_108 : decode cX6_findItems 108 = .ok (.getfield 18, 3) := by decide +kernel
theorem dX6_findItems_111 : decode cX6_findItems 111 = .ok (.iconst 1, 1) := by decide +kernel
theorem dX6_findItems_112 : decode cX6_findItems 112 = .ok (.iadd, 1) := by decide +kernel
theorem dX6_findItems_113 : decode cX6_findItems 113 = .ok (.putfield 18, 3) := by decide +kernel
theorem dX6_findItems_116 : decode cX6_findItems 116 = .ok (.iload 4, 2) := by decide +kernel
theorem dX6_findItems_118 : decode cX6_findItems 118 = .ok (.iconst 1, 1) := by decide +kernel
theorem dX6_findItems_119 : decode cX6_findItems 119 = .ok (.iadd, 1) := by decide +kernel
theorem dX6_findItems_120 : decode cX6_findItems 120 = .ok (.aload_n 1, 1) := by decide +kernel
theorem dX6_findItems_121 : decode cX6_findItems 121 = .ok (.iload 4, 2) := by decide +kernel
theorem dX6_findItems_123 : decode cX6_findItems 123 = .ok (.invokevirtual 60, 3) := by decide +kernel
theorem dX6_findItems_126 : decode cX6_findItems 126 = .ok (.invokestatic 72, 3) := by decide +kernel
theorem dX6_findItems_129 : decode cX6_findItems 129 = .ok (.istore 4, 2) := by decide +kernel
theorem dX6_findItems_131 : decode cX6_findItems 131 = .ok (.goto (-116), 3) := by decide +kernel
theorem dX6_findItems_134 : decode cX6_findItems 134 = .ok (.aload_n 0, 1) := by decide +kernel
theorem dX6_findItems_135 : decode cX6_findItems 135 = .ok (.getfield 9, 3) := by decide +kernel
theorem dX6_findItems_138 : decode cX6_findItems 138 = .ok (.aload_n 0, 1) := by decide +kernel
theorem dX6_findItems_139 : decode cX6_findItems 139 = .ok (.getfield 18, 3) := by decide +kernel
theorem dX6_findItems_142 : decode cX6_findItems 142 = .ok (.iload_n 3, 1) := by decide +kernel
theorem dX6_findItems_143 : decode cX6_findItems 143 = .ok (.iastore, 1) := by decide +kernel
theorem dX6_findItems_144 : decode cX6_findItems 144 = .ok (.return_, 1) := by decide +kernel
theorem dX6_foldAt_0 : decode cX6_foldAt 0 = .ok (.iconst 1, 1) := by decide +kernel
theorem dX6_foldAt_1 : decode cX6_foldAt 1 = .ok (.istore 5, 2) := by decide +kernel
theorem dX6_foldAt_3 : decode cX6_foldAt 3 = .ok (.iload_n 2, 1) := by decide +kernel
theorem dX6_foldAt_4 : decode cX6_foldAt 4 = .ok (.iload_n 3, 1) := by decide +kernel
theorem dX6_foldAt_5 : decode cX6_foldAt 5 = .ok (.iadd, 1) := by decide +kernel
theorem dX6_foldAt_6 : decode cX6_foldAt 6 = .ok (.istore 6, 2) := by decide +kernel
theorem dX6_foldAt_8 : decode cX6_foldAt 8 = .ok (.iload_n 2, 1) := by decide +kernel
theorem dX6_foldAt_9 : decode cX6_foldAt 9 = .ok (.istore 7, 2) := by decide +kernel
theorem dX6_foldAt_11 : decode cX6_foldAt 11 = .ok (.iload 7, 2) := by decide +kernel
theorem dX6_foldAt_13 : decode cX6_foldAt 13 = .ok (.iload 4, 2) := by decide +kernel
theorem dX6_foldAt_15 : decode cX6_foldAt 15 = .ok (.if_icmp .ge 47, 3) := by decide +kernel
theorem dX6_foldAt_18 : decode cX6_foldAt 18 = .ok (.iload 6, 2) := by decide +kernel
theorem dX6_foldAt_20 : decode cX6_foldAt 20 = .ok (.iload_n 3, 1) := by decide +kernel
theorem dX6_foldAt_21 : decode cX6_foldAt 21 = .ok (.iadd, 1) := by decide +kernel
theorem dX6_foldAt_22 : decode cX6_foldAt 22 = .ok (.iload 4, 2) := by decide +kernel
theorem dX6_foldAt_24 : decode cX6_foldAt 24 = .ok (.if_icmp .gt 38, 3) := by decide +kernel
theorem dX6_foldAt_27 : decode cX6_foldAt 27 = .ok (.aload_n 1, 1) := by decide +kernel
theorem dX6_foldAt_28 : decode cX6_foldAt 28 = .ok (.iload_n 2, 1) := by decide +kernel
theorem dX6_foldAt_29 : decode cX6_foldAt 29 = .ok (.aload_n 1, 1) := by decide +kernel
theorem dX6_foldAt_30 : decode cX6_foldAt 30 = .ok (.iload 6, 2) := by decide +kernel
theorem dX6_foldAt_32 : decode cX6_foldAt 32 = .ok (.iload_n 3, 1) := by decide +kernel
theorem dX6_foldAt_33 : decode cX6_foldAt 33 = .ok (.invokevirtual 64, 3) := by decide +kernel
theorem dX6_foldAt_36 : decode cX6_foldAt 36 = .ok (.ifCond .eq 26, 3) := by decide +kernel
theorem dX6_foldAt_39 : decode cX6_foldAt 39 = .ok (.aload_n 1, 1) := by decide +kernel
theorem dX6_foldAt_40 : decode cX6_foldAt 40 = .ok (.iload_n 2, 1) := by decide +kernel
theorem dX6_foldAt_41 : decode cX6_foldAt 41 = .ok (.iload 6, 2) := by decide +kernel
theorem dX6_foldAt_43 : decode cX6_foldAt 43 = .ok (.iload_n 3, 1) := by decide +kernel
theorem dX6_foldAt_44 : decode cX6_foldAt 44 = .ok (.invokevirtual 78, 3) := by decide +kernel
theorem dX6_foldAt_47 : decode cX6_foldAt 47 = .ok (.iload 6, 2) := by decide +kernel
theorem dX6_foldAt_49 : decode cX6_foldAt 49 = .ok (.iload_n 3, 1) := by decide +kernel
theorem dX6_foldAt_50 : decode cX6_foldAt 50 = .ok (.iadd, 1) := by decide +kernel
theorem dX6_foldAt_51 : decode cX6_foldAt 51 = .ok (.istore 6, 2) := by decide +kernel
theorem dX6_foldAt_53 : decode cX6_foldAt 53 = .ok (.iinc 5 1, 3) := by decide +kernel
theorem dX6_foldAt_56 : decode cX6_foldAt 56 = .ok (.iinc 7 1, 3) := by decide +kernel
theorem dX6_foldAt_59 : decode cX6_foldAt 59 = .ok (.goto (-48), 3) := by decide +kernel
theorem dX6_foldAt_62 : decode cX6_foldAt 62 = .ok (.aload_n 1, 1) := by decide +kernel
theorem dX6_foldAt_63 : decode cX6_foldAt 63 = .ok (.iload_n 2, 1) := by decide +kernel
theorem dX6_foldAt_64 : decode cX6_foldAt 64 = .ok (.iload_n 3, 1) := by decide +kernel
theorem dX6_foldAt_65 : decode cX6_foldAt 65 = .ok (.iadd, 1) := by decide +kernel
theorem dX6_foldAt_66 : decode cX6_foldAt 66 = .ok (.iload 6, 2) := by decide +kernel
theorem dX6_foldAt_68 : decode cX6_foldAt 68 = .ok (.invokevirtual 82, 3) := by decide +kernel
theorem dX6_foldAt_71 : decode cX6_foldAt 71 = .ok (.aload_n 1, 1) := by decide +kernel
theorem dX6_foldAt_72 : decode cX6_foldAt 72 = .ok (.iload_n 2, 1) := by decide +kernel
theorem dX6_foldAt_73 : decode cX6_foldAt 73 = .ok (.iload_n 3, 1) := by decide +kernel
theorem dX6_foldAt_74 : decode cX6_foldAt 74 = .ok (.iadd, 1) := by decide +kernel
theorem dX6_foldAt_75 : decode cX6_foldAt 75 = .ok (.sipush 515, 3) := by decide +kernel
theorem dX6_foldAt_78 : decode cX6_foldAt 78 = .ok (.invokevirtual 101, 3) := by decide +kernel
theorem dX6_foldAt_81 : decode cX6_foldAt 81 = .ok (.aload_n 1, 1) := by decide +kernel
theorem dX6_foldAt_82 : decode cX6_foldAt 82 = .ok (.iload_n 2, 1) := by decide +kernel
theorem dX6_foldAt_83 : decode cX6_foldAt 83 = .ok (.sipush 514, 3) := by decide +kernel
theorem dX6_foldAt_86 : decode cX6_foldAt 86 = .ok (.invokevirtual 101, 3) := by decide +kernel
theorem dX6_foldAt_89 : decode cX6_foldAt 89 = .ok (.aload_n 1, 1) := by decide +kernel
theorem dX6_foldAt_90 : decode cX6_foldAt 90 = .ok (.invokevirtual 86, 3) := by decide +kernel
theorem dX6_foldAt_93 : decode cX6_foldAt 93 = .ok (.iload 5, 2) := by decide +kernel
theorem dX6_foldAt_95 : decode cX6_foldAt 95 = .ok (.ireturn, 1) := by decide +kernel
theorem dX6_foldOnce_0 : decode cX6_foldOnce 0 = .ok (.aload_n 0, 1) := by decide +kernel
theorem dX6_foldOnce_1 : decode cX6_foldOnce 1 = .ok (.aload_n 1, 1) := by decide +kernel
theorem dX6_foldOnce_2 : decode cX6_foldOnce 2 = .ok (.iload_n 2, 1) := by decide +kernel
theorem dX6_foldOnce_3 : decode cX6_foldOnce 3 = .ok (.iload_n 3, 1) := by decide +kernel
theorem dX6_foldOnce_4 : decode cX6_foldOnce 4 = .ok (.invokevirtual 89, 3) := by decide +kernel
theorem dX6_foldOnce_7 : decode cX6_foldOnce 7 = .ok (.iconst 1, 1) := by decide +kernel
theorem dX6_foldOnce_8 : decode cX6_foldOnce 8 = .ok (.istore 4, 2) := by decide +kernel
theorem dX6_foldOnce_10 : decode cX6_foldOnce 10 = .ok (.iload 4, 2) := by decide +kernel
theorem dX6_foldOnce_12 : decode cX6_foldOnce 12 = .ok (.iconst 2, 1) := by decide +kernel
theorem dX6_foldOnce_13 : decode cX6_foldOnce 13 = .ok (.imul, 1) := by decide +kernel
theorem dX6_foldOnce_14 : decode cX6_foldOnce 14 = .ok (.aload_n 0, 1) := by decide +kernel
theorem dX6_foldOnce_15 : decode cX6_foldOnce 15 = .ok (.getfield 18, 3) := by decide +kernel
theorem dX6_foldOnce_18 : decode cX6_foldOnce 18 = .ok (.if_icmp .gt 132, 3) := by decide +kernel
theorem dX6_foldOnce_21 : decode cX6_foldOnce 21 = .ok (.iconst 0, 1) := by decide +kernel
theorem dX6_foldOnce_22 : decode cX6_foldOnce 22 = .ok (.istore 5, 2) := by decide +kernel
theorem dX6_foldOnce_24 : decode cX6_foldOnce 24 = .ok (.iload 5, 2) := by decide +kernel
theorem dX6_foldOnce_26 : decode cX6_foldOnce 26 = .ok (.iload 4, 2) := by decide +kernel
theorem dX6_foldOnce_28 : decode cX6_foldOnce 28 = .ok (.iconst 2, 1) := by decide +kernel
theorem dX6_foldOnce_29 : decode cX6_foldOnce 29 = .ok (.imul, 1) := by decide +kernel
theorem dX6_foldOnce_30 : decode cX6_foldOnce 30 = .ok (.iadd, 1) := by decide +kernel
theorem dX6_foldOnce_31 : decode cX6_foldOnce 31 = .ok (.aload_n 0, 1) := by decide +kernel
theorem dX6_foldOnce_32 : decode cX6_foldOnce 32 = .ok (.getfield 18, 3) := by decide +kernel
theorem dX6_foldOnce_35 : decode cX6_foldOnce 35 = .ok (.if_icmp .gt 109, 3) := by decide +kernel
theorem dX6_foldOnce_38 : decode cX6_foldOnce 38 = .ok (.aload_n 0, 1) := by decide +kernel
theorem dX6_foldOnce_39 : decode cX6_foldOnce 39 = .ok (.getfield 15, 3) := by decide +kernel
theorem dX6_foldOnce_42 : decode cX6_foldOnce 42 = .ok (.iload 5, 2) := by decide +kernel
theorem dX6_foldOnce_44 : decode cX6_foldOnce 44 = .ok (.iload 4, 2) := by decide +kernel
theorem dX6_foldOnce_46 : decode cX6_foldOnce 46 = .ok (.iadd, 1) := by decide +kernel
theorem dX6_foldOnce_47 : decode cX6_foldOnce 47 = .ok (.iaload, 1) := by decide +kernel
theorem dX6_foldOnce_48 : decode cX6_foldOnce 48 = .ok (.aload_n 0, 1) := by decide +kernel
theorem dX6_foldOnce_49 : decode cX6_foldOnce 49 = .ok (.getfield 15, 3) := by decide +kernel
theorem dX6_foldOnce_52 : decode cX6_foldOnce 52 = .ok (.iload 5, 2) := by decide +kernel
theorem dX6_foldOnce_54 : decode cX6_foldOnce 54 = .ok (.iaload, 1) := by decide +kernel
theorem dX6_foldOnce_55 : decode cX6_foldOnce 55 = .ok (.if_icmp .le 83, 3) := by decide +kernel
theorem dX6_foldOnce_58 : decode cX6_foldOnce 58 = .ok (.aload_n 0, 1) := by decide +kernel
theorem dX6_foldOnce_59 : decode cX6_foldOnce 59 = .ok (.getfield 9, 3) := by decide +kernel
theorem dX6_foldOnce_62 : decode cX6_foldOnce 62 = .ok (.iload 5, 2) := by decide +kernel
theorem dX6_foldOnce_64 : decode cX6_foldOnce 64 = .ok (.iaload, 1) := by decide +kernel
theorem dX6_foldOnce_65 : decode cX6_foldOnce 65 = .ok (.istore 6, 2) := by decide +kernel
theorem dX6_foldOnce_67 : decode cX6_foldOnce 67 = .ok (.aload_n 0, 1) := by decide +kernel
theorem dX6_foldOnce_68 : decode cX6_foldOnce 68 = .ok (.getfield 9, 3) := by decide +kernel
theorem dX6_foldOnce_71 : decode cX6_foldOnce 71 = .ok (.iload 5, 2) := by decide +kernel
theorem dX6_foldOnce_73 : decode cX6_foldOnce 73 = .ok (.iload 4, 2) := by decide +kernel
theorem dX6_foldOnce_75 : decode cX6_foldOnce 75 = .ok (.iadd, 1) := by decide +kernel
theorem dX6_foldOnce_76 : decode cX6_foldOnce 76 = .ok (.iaload, 1) := by decide +kernel
theorem dX6_foldOnce_77 : decode cX6_foldOnce 77 = .ok (.iload 6, 2) := by decide +kernel
theorem dX6_foldOnce_79 : decode cX6_foldOnce 79 = .ok (.isub, 1) := by decide +kernel
theorem dX6_foldOnce_80 : decode cX6_foldOnce 80 = .ok (.istore 7, 2) := by decide +kernel
theorem dX6_foldOnce_82 : decode cX6_foldOnce 82 = .ok (.iload 6, 2) := by decide +kernel
theorem dX6_foldOnce_84 : decode cX6_foldOnce 84 = .ok (.iload 7, 2) := by decide +kernel
theorem dX6_foldOnce_86 : decode cX6_foldOnce 86 = .ok (.iconst 2, 1) := by decide +kernel
theorem dX6_foldOnce_87 : decode cX6_foldOnce 87 = .ok (.imul, 1) := by decide +kernel
theorem dX6_foldOnce_88 : decode cX6_foldOnce 88 = .ok (.iadd, 1) := by decide +kernel
theorem dX6_foldOnce_89 : decode cX6_foldOnce 89 = .ok (.iload_n 3, 1) := by decide +kernel
theorem dX6_foldOnce_90 : decode cX6_foldOnce 90 = .ok (.if_icmp .gt 48, 3) := by decide +kernel
theorem dX6_foldOnce_93 : decode cX6_foldOnce 93 = .ok (.aload_n 1, 1) := by decide +kernel
theorem dX6_foldOnce_94 : decode cX6_foldOnce 94 = .ok (.iload 6, 2) := by decide +kernel
theorem dX6_foldOnce_96 : decode cX6_foldOnce 96 = .ok (.aload_n 1, 1) := by decide +kernel
theorem dX6_foldOnce_97 : decode cX6_foldOnce 97 = .ok (.iload 6, 2) := by decide +kernel
theorem dX6_foldOnce_99 : decode cX6_foldOnce 99 = .ok (.iload 7, 2) := by decide +kernel
theorem dX6_foldOnce_101 : decode cX6_foldOnce 101 = .ok (.iadd, 1) := by decide +kernel
theorem dX6_foldOnce_102 : decode cX6_foldOnce 102 = .ok (.iload 7, 2) := by decide +kernel
theorem dX6_foldOnce_104 : decode cX6_foldOnce 104 = .ok (.invokevirtual 64, 3) := by decide +kernel
theorem dX6_foldOnce_107 : decode cX6_foldOnce 107 = .ok (.ifCond .eq 31, 3) := by decide +kernel
theorem dX6_foldOnce_110 : decode cX6_foldOnce 110 = .ok (.aload_n 0, 1) := by decide +kernel
theorem dX6_foldOnce_111 : decode cX6_foldOnce 111 = .ok (.iload 4, 2) := by decide +kernel
theorem dX6_foldOnce_113 : decode cX6_foldOnce 113 = .ok (.putfield 22, 3) := by decide +kernel
theorem dX6_foldOnce_116 : decode cX6_foldOnce 116 = .ok (.aload_n 0, 1) := by decide +kernel
theorem dX6_foldOnce_117 : decode cX6_foldOnce 117 = .ok (.iload 5, 2) := by decide +kernel
theorem dX6_foldOnce_119 : decode cX6_foldOnce 119 = .ok (.putfield 25, 3) := by decide +kernel
theorem dX6_foldOnce_122 : decode cX6_foldOnce 122 = .ok (.aload_n 0, 1) := by decide +kernel
theorem dX6_foldOnce_123 : decode cX6_foldOnce 123 = .ok (.aload_n 0, 1) := by decide +kernel
theorem dX6_foldOnce_124 : decode cX6_foldOnce 124 = .ok (.aload_n 1, 1) := by decide +kernel
theorem dX6_foldOnce_125 : decode cX6_foldOnce 125 = .ok (.iload 6, 2) := by decide +kernel
theorem dX6_foldOnce_127 : decode cX6_foldOnce 127 = .ok (.iload 7, 2) := by decide +kernel
theorem dX6_foldOnce_129 : decode cX6_foldOnce 129 = .ok (.iload_n 3, 1) := by decide +kernel
theorem dX6_foldOnce_130 : decode cX6_foldOnce 130 = .ok (.invokevirtual 93, 3) := by decide +kernel
theorem dX6_foldOnce_133 : decode cX6_foldOnce 133 = .ok (.putfield 28, 3) := by decide +kernel
theorem dX6_foldOnce_136 : decode cX6_foldOnce 136 = .ok (.iconst 1, 1) := by decide +kernel
theorem dX6_foldOnce_137 : decode cX6_foldOnce 137 = .ok (.ireturn, 1) := by decide +kernel
theorem dX6_foldOnce_138 : decode cX6_foldOnce 138 = .ok (.iinc 5 1, 3) := by decide +kernel
theorem dX6_foldOnce_141 : decode cX6_foldOnce 141 = .ok (.goto (-117), 3) := by decide +kernel
theorem dX6_foldOnce_144 : decode cX6_foldOnce 144 = .ok (.iinc 4 1, 3) := by decide +kernel
theorem dX6_foldOnce_147 : decode cX6_foldOnce 147 = .ok (.goto (-137), 3) := by decide +kernel
theorem dX6_foldOnce_150 : decode cX6_foldOnce 150 = .ok (.iconst 0, 1) := by decide +kernel
theorem dX6_foldOnce_151 : decode cX6_foldOnce 151 = .ok (.ireturn, 1) := by decide +kernel
/-! the tidier: its items; folded -/
theorem ins_mem {μ u : va_M} {q rm : Nat} {p s : Int} (hl : 0 ≤ μ q 5 ∧ μ q 5 ≤ rm) (hp : 0 ≤ p ∧ p ≤ μ q 5) (hg : sgA μ (q + 1)) (hs : 0 ≤ s ∧ s ≤ 515) (c1 : μ q 5 < rm → u = uz (uz (uc μ (q + 1) p.toNat (q + 1) (p + 1).toNat (μ q 5 - p).toNat) (q + 1) p.toNat s) q 5 (μ q 5 + 1)) (c2 : ¬ μ q 5 < rm → u = uz μ q 7 1) :
    sgA u (q + 1) ∧ fr (fun x y => x = q + 1 ∨ (x = q ∧ (y = 5 ∨ y = 7))) μ u ∧ (0 ≤ u q 5 ∧ u q 5 ≤ rm) ∧ (μ q 5 < rm → u q 5 = μ q 5 + 1 ∧ u q 7 = μ q 7 ∧ (∀ j, j < p.toNat → u (q + 1) j = μ (q + 1) j) ∧ u (q + 1) p.toNat = s ∧ ∀ j, p.toNat ≤ j → j < (μ q 5).toNat → u (q + 1) (j + 1) = μ (q + 1) j) ∧ (¬ μ q 5 < rm → u q 7 = 1 ∧ u q 5 = μ q 5) := by
  by_cases h9 : μ q 5 < rm
  · have e := c1 h9
    have e5 : u q 5 = μ q 5 + 1 := by rw [e, uz_s]
    refine ⟨fun i => ?_, fun x y h => by rw [e, uz_n (by (first | ((try clear i); (try clear e5); (try clear h9); (try clear c2); (try clear c1); (try clear hs); (try clear hp); omega) | omega)), uz_n (by (first | ((try clear i); (try clear e5); (try clear h9); (try clear c2); (try clear c1); (try clear hs); (try clear hp); omega) | omega)), uc_n (by (first | ((try clear i); (try clear e5); (try clear h9); (try clear c2); (try clear c1); (try clear hs); omega) | omega))], by (first | ((try clear h); (try clear y); (try clear x); (try clear i); (try clear c2); (try clear c1); (try clear hs); (try clear hp); omega) | omega), fun _ => ⟨e5, by rw [e, uz_n (by (first | ((try clear h); (try clear y); (try clear x); (try clear i); (try clear e5); (try clear h9); (try clear c2); (try clear c1); (try clear hs); (try clear hp); omega) | omega)), uz_n (by (first | ((try clear h); (try clear y); (try clear x); (try clear i); (try clear e5); (try clear h9); (try clear c2); (try clear c1); (try clear hs); (try clear hp); omega) | omega)), uc_n (by (first | ((try clear h); (try clear y); (try clear x); (try clear i); (try clear e5); (try clear h9); (try clear c2); (try clear c1); (try clear hs); (try clear hp); omega) | omega))], fun j hj => by rw [e, uz_n (by (first | ((try clear hj); (try clear h); (try clear y); (try clear x); (try clear i); (try clear e5); (try clear h9); (try clear c2); (try clear c1); (try clear hs); (try clear hp); omega) | omega)), uz_n (by (first | ((try clear h); (try clear y); (try clear x); (try clear i); (try clear e5); (try clear h9); (try clear c2); (try clear c1); (try clear hs); (try clear hp); omega) | omega)), uc_n (by (first | ((try clear h); (try clear y); (try clear x); (try clear i); (try clear e5); (try clear h9); (try clear c2); (try clear c1); (try clear hs); omega) | omega))], by rw [e, uz_n (by (first | ((try clear hj); (try clear j); (try clear h); (try clear y); (try clear x); (try clear i); (try clear e5); (try clear h9); (try clear c2); (try clear c1); (try clear hs); (try clear hp); omega) | omega)), uz_s], fun j h7 h8 => ?_⟩, fun h => absurd h9 h⟩
    · rw [e, uz_n (by (first | ((try clear h8); (try clear h7); (try clear j); (try clear e5); (try clear h9); (try clear c2); (try clear c1); (try clear hs); (try clear hp); omega) | omega))]; exact sgA_uz (a := 0) (sgA_uc hg) hs i
    · rw [e, uz_n (by (first | ((try clear h8); (try clear h7); (try clear i); (try clear e5); (try clear h9); (try clear c2); (try clear c1); (try clear hs); (try clear hp); omega) | omega)), uz_n (by (first | ((try clear h8); (try clear i); (try clear e5); (try clear h9); (try clear c2); (try clear c1); (try clear hs); (try clear hp); omega) | omega)), uc_s (by (first | ((try clear i); (try clear h9); (try clear c2); (try clear c1); (try clear hs); omega) | omega))]
      congr 1
      (first | ((try clear i); (try clear h9); (try clear c2); (try clear c1); (try clear hs); omega) | omega)
  · have e := c2 h9
    exact ⟨fun i => by rw [e, uz_n (by (first | ((try clear h9); (try clear c2); (try clear c1); (try clear hs); (try clear hp); omega) | omega))]; exact hg i, fun x y h => by rw [e, uz_n (by (first | ((try clear i); (try clear h9); (try clear c2); (try clear c1); (try clear hs); (try clear hp); omega) | omega))], by rw [e, uz_n (by (first | ((try clear h); (try clear y); (try clear x); (try clear i); (try clear h9); (try clear c2); (try clear c1); (try clear hs); (try clear hp); omega) | omega))]; exact hl, fun h => absurd h h9, fun _ => ⟨by rw [e, uz_s], by rw [e, uz_n (by (first | ((try clear h); (try clear y); (try clear x); (try clear i); (try clear h9); (try clear c2); (try clear c1); (try clear hs); (try clear hp); omega) | omega))]⟩⟩
theorem Dp_ins {f g : Nat → Int} {x L : Nat} {s : Int} (h1 : ∀ j, j < x → g j = f j) (h0 : g x = s) (h2 : ∀ j, x ≤ j → j < L → g (j + 1) = f j) : (∀ j, j ≤ x → Dp g j = Dp f j) ∧ ∀ j, x ≤ j → j ≤ L → Dp g (j + 1) = Dp f j + dl s := by
  have e1 : ∀ j, j ≤ x → Dp g j = Dp f j := fun j hj => Dp_eq j (fun i hi => by rw [h1 i (by (first | ((try clear e1); (try clear h2); (try clear h1); omega) | omega))])
  refine ⟨e1, fun j h8 h9 => ?_⟩
  have e2 := Dp_sh (f := f) (g := g) x (x + 1) (j - x) (fun i hi => by rw [← h2 (x + i) (by (first | ((try clear hi); (try clear e2); (try clear h9); (try clear h8); (try clear e1); (try clear h2); (try clear h1); omega) | omega)) (by (first | ((try clear e2); (try clear e1); (try clear h2); (try clear h1); omega) | omega)), show x + 1 + i = x + i + 1 by (first | ((try clear hi); (try clear e2); (try clear h9); (try clear h8); (try clear e1); (try clear h2); (try clear h1); omega) | omega)])
  have e3 := e1 x (Nat.le_refl _)
  have e4 := Dp_s g x
  rw [h0] at e4
  rw [show x + (j - x) = j by (first | ((try clear e4); (try clear e3); (try clear e2); (try clear h9); (try clear e1); (try clear h2); (try clear h1); omega) | omega), show x + 1 + (j - x) = j + 1 by (first | ((try clear e4); (try clear e3); (try clear e2); (try clear h9); (try clear e1); (try clear h2); (try clear h1); omega) | omega)] at e2
  (first | ((try clear h9); (try clear h8); (try clear e1); (try clear h2); (try clear h1); omega) | omega)
/-- how deep the places are, once x - p signs from p on stand in a repeat, and n signs behind them are gone -/
def dFo (f g : Nat → Int) (p x n L : Nat) : Prop := (∀ j, j ≤ p → Dp g j = Dp f j) ∧ (∀ j, p ≤ j → j ≤ x → Dp g (j + 1) = Dp f j + 1) ∧ ∀ j, x ≤ j → j + 2 ≤ L → Dp g (j + 2) = Dp f (j + n)
set_option maxHeartbeats 4000000 in
theorem fold_mem {μ μ1 μ2 μ3 μ4 : va_M} {q rm : Nat} {p n x : Int} (hG : rG μ q rm) (h7 : μ q 7 = 0) (hb : 0 ≤ p ∧ 1 ≤ n ∧ p + n ≤ x ∧ x ≤ μ q 5) (hx : Dp (μ (q + 1)) x.toNat = Dp (μ (q + 1)) (p + n).toNat) (hf1 : fr (fun x _ => x = q + 1) μ μ1) (s1 : sgA μ1 (q + 1)) (d1 : ∀ j, dl (μ1 (q + 1) j) = dl (μ (q + 1) j) ∧ (vS (μ (q + 1) j) → vS (μ1 (q + 1) j)))
    (h2 : μ2 = uz (uc μ1 (q + 1) x.toNat (q + 1) (p + n).toNat (μ1 q 5 - x).toNat) q 5 (μ1 q 5 - (x - (p + n)))) (i3 : (μ2 q 5 < rm → μ3 = uz (uz (uc μ2 (q + 1) (p + n).toNat (q + 1) (p + n + 1).toNat (μ2 q 5 - (p + n)).toNat) (q + 1) (p + n).toNat 515) q 5 (μ2 q 5 + 1)) ∧ (¬ μ2 q 5 < rm → μ3 = uz μ2 q 7 1))
    (i4 : (μ3 q 5 < rm → μ4 = uz (uz (uc μ3 (q + 1) p.toNat (q + 1) (p + 1).toNat (μ3 q 5 - p).toNat) (q + 1) p.toNat 514) q 5 (μ3 q 5 + 1)) ∧ (¬ μ3 q 5 < rm → μ4 = uz μ3 q 7 1)) :
    (∃ w : Rw, rW0 w ∧ sL w ≤ rm ∧ ((μ4 q 7 = 0 ∧ SA μ4 (q + 1) w 0 ∧ μ4 q 5 = sL w) ∨ (μ4 q 7 = 1 ∧ w = .leaf))) ∧ (0 ≤ μ4 q 5 ∧ μ4 q 5 ≤ rm) ∧ sgA μ4 (q + 1) ∧ mA μ4 q rm ∧ fr (fun x y => x = q + 1 ∨ (x = q ∧ (y = 5 ∨ y = 7))) μ μ4 ∧ (μ4 q 7 = 0 → μ4 q 5 = μ q 5 - (x - (p + n)) + 2 ∧ dFo (μ (q + 1)) (μ4 (q + 1)) p.toNat (p + n).toNat (x - (p + n)).toNat (μ4 q 5).toNat) := by
  have hl := rG_len hG
  have hgl := rG_gL hG
  have e5 : μ1 q 5 = μ q 5 := hf1 _ _ (by (first | ((try clear e5); (try clear hgl); (try clear i4); (try clear i3); (try clear h2); (try clear d1); (try clear hf1); (try clear h7); omega) | omega))
  rw [e5] at h2
  have l2 : μ2 q 5 = μ q 5 - (x - (p + n)) := by rw [h2, uz_s]
  have s2 : sgA μ2 (q + 1) := fun i => by rw [h2, uz_n (by (first | ((try clear l2); (try clear e5); (try clear hgl); (try clear i4); (try clear i3); (try clear h2); (try clear d1); (try clear hf1); (try clear h7); omega) | omega))]; exact sgA_uc s1 i
  have f2 : fr (fun x y => x = q + 1 ∨ (x = q ∧ (y = 5 ∨ y = 7))) μ μ2 := fun x y h => by
    rw [h2, uz_n (by (first | ((try clear f2); (try clear l2); (try clear e5); (try clear hgl); (try clear i4); (try clear i3); (try clear h2); (try clear d1); (try clear hf1); (try clear h7); omega) | omega)), uc_n (by (first | ((try clear f2); (try clear hgl); (try clear i4); (try clear i3); (try clear h2); (try clear d1); (try clear hf1); (try clear h7); omega) | omega))]
    exact hf1 _ _ (by (first | ((try clear f2); (try clear l2); (try clear e5); (try clear hgl); (try clear i4); (try clear i3); (try clear h2); (try clear d1); (try clear hf1); (try clear h7); omega) | omega))
  have k2 : μ2 q 7 = 0 := by rw [h2, uz_n (by (first | ((try clear k2); (try clear f2); (try clear l2); (try clear e5); (try clear hgl); (try clear i4); (try clear i3); (try clear h2); (try clear d1); (try clear hf1); (try clear h7); omega) | omega)), uc_n (by (first | ((try clear k2); (try clear f2); (try clear l2); (try clear e5); (try clear hgl); (try clear i4); (try clear i3); (try clear h2); (try clear d1); (try clear hf1); (try clear h7); omega) | omega)), hf1 _ _ (by (first | ((try clear k2); (try clear f2); (try clear l2); (try clear e5); (try clear hgl); (try clear i4); (try clear i3); (try clear h2); (try clear d1); (try clear hf1); (try clear h7); omega) | omega))]; exact h7
  have a1 : ∀ j, j < (p + n).toNat → μ2 (q + 1) j = μ1 (q + 1) j := fun j hj => by rw [h2, uz_n (by (first | ((try clear hj); (try clear a1); (try clear k2); (try clear f2); (try clear l2); (try clear e5); (try clear hgl); (try clear i4); (try clear i3); (try clear h2); (try clear d1); (try clear hf1); (try clear h7); omega) | omega)), uc_n (by (first | ((try clear a1); (try clear k2); (try clear f2); (try clear l2); (try clear e5); (try clear hgl); (try clear i4); (try clear i3); (try clear h2); (try clear d1); (try clear hf1); (try clear h7); omega) | omega))]
  have a2 : ∀ j, (p + n).toNat ≤ j → j < (μ2 q 5).toNat → μ2 (q + 1) j = μ1 (q + 1) (j + (x - (p + n)).toNat) := fun j h8 h9 => by
    rw [h2, uz_n (by (first | ((try clear h9); (try clear h8); (try clear a2); (try clear a1); (try clear k2); (try clear f2); (try clear l2); (try clear e5); (try clear hgl); (try clear i4); (try clear i3); (try clear h2); (try clear d1); (try clear hf1); (try clear h7); omega) | omega)), uc_s (by (first | ((try clear a2); (try clear a1); (try clear k2); (try clear f2); (try clear hgl); (try clear i4); (try clear i3); (try clear h2); (try clear d1); (try clear hf1); (try clear h7); omega) | omega))]
    congr 1
    (first | ((try clear a2); (try clear a1); (try clear k2); (try clear f2); (try clear hgl); (try clear i4); (try clear i3); (try clear h2); (try clear d1); (try clear hf1); (try clear h7); omega) | omega)
  have D2 := Dp_rmv (f := μ (q + 1)) (g := μ2 (q + 1)) (x := (p + n).toNat) (n := (x - (p + n)).toNat) (L := (μ2 q 5).toNat) (fun j h => by rw [a1 j h]; exact (d1 j).1) (fun j h8 h9 => by rw [a2 j h8 h9]; exact (d1 _).1) (by rw [show (p + n).toNat + (x - (p + n)).toNat = x.toNat by (first | ((try clear D2); (try clear a2); (try clear a1); (try clear k2); (try clear f2); (try clear hgl); (try clear i4); (try clear i3); (try clear h2); (try clear d1); (try clear hf1); (try clear h7); omega) | omega)]; exact hx)
  have v2 : ∀ j, j < (μ2 q 5).toNat → vS (μ2 (q + 1) j) := fun j hj => by
    by_cases h9 : j < (p + n).toNat
    · rw [a1 j h9]; exact (d1 j).2 ((hgl.2 j (by (first | ((try clear hj); (try clear v2); (try clear D2); (try clear a2); (try clear a1); (try clear k2); (try clear f2); (try clear hgl); (try clear i4); (try clear i3); (try clear h2); (try clear d1); (try clear hf1); (try clear h7); omega) | omega))).2 (by (first | ((try clear hj); (try clear v2); (try clear D2); (try clear a2); (try clear a1); (try clear k2); (try clear f2); (try clear hgl); (try clear i4); (try clear i3); (try clear h2); (try clear d1); (try clear hf1); (try clear h7); omega) | omega)))
    · rw [a2 j (by (first | ((try clear hj); (try clear v2); (try clear D2); (try clear a2); (try clear a1); (try clear k2); (try clear f2); (try clear l2); (try clear e5); (try clear hgl); (try clear i4); (try clear i3); (try clear h2); (try clear d1); (try clear hf1); (try clear h7); omega) | omega)) hj]; exact (d1 _).2 ((hgl.2 _ (by (first | ((try clear h9); (try clear v2); (try clear D2); (try clear a2); (try clear a1); (try clear k2); (try clear f2); (try clear hgl); (try clear i4); (try clear i3); (try clear h2); (try clear d1); (try clear hf1); (try clear h7); omega) | omega))).2 (by (first | ((try clear h9); (try clear v2); (try clear D2); (try clear a2); (try clear a1); (try clear k2); (try clear f2); (try clear hgl); (try clear i4); (try clear i3); (try clear h2); (try clear d1); (try clear hf1); (try clear h7); omega) | omega)))
  obtain ⟨s3, f3, l3, g3, o3⟩ := ins_mem (p := p + n) (s := 515) (by (first | ((try clear o3); (try clear g3); (try clear l3); (try clear f3); (try clear s3); (try clear v2); (try clear D2); (try clear a2); (try clear a1); (try clear k2); (try clear f2); (try clear hgl); (try clear i4); (try clear i3); (try clear h2); (try clear d1); (try clear hf1); (try clear h7); omega) | omega)) (by (first | ((try clear o3); (try clear g3); (try clear l3); (try clear f3); (try clear s3); (try clear v2); (try clear D2); (try clear a2); (try clear a1); (try clear k2); (try clear f2); (try clear hgl); (try clear i4); (try clear i3); (try clear h2); (try clear d1); (try clear hf1); (try clear h7); omega) | omega)) s2 (by decide) i3.1 i3.2
  have p3 : p ≤ μ3 q 5 := by
    by_cases h9 : μ2 q 5 < rm
    · have := (g3 h9).1; (first | ((try clear h9); (try clear p3); (try clear o3); (try clear g3); (try clear l3); (try clear f3); (try clear s3); (try clear v2); (try clear D2); (try clear a2); (try clear a1); (try clear k2); (try clear f2); (try clear hgl); (try clear i4); (try clear i3); (try clear h2); (try clear d1); (try clear hf1); (try clear h7); omega) | omega)
    · have := (o3 h9).2; (first | ((try clear p3); (try clear o3); (try clear g3); (try clear f3); (try clear s3); (try clear v2); (try clear D2); (try clear a2); (try clear a1); (try clear k2); (try clear f2); (try clear hgl); (try clear i4); (try clear i3); (try clear h2); (try clear d1); (try clear hf1); (try clear h7); omega) | omega)
  obtain ⟨s4, f4, l4, g4, o4⟩ := ins_mem (p := p) (s := 514) l3 (by (first | ((try clear o4); (try clear g4); (try clear l4); (try clear f4); (try clear s4); (try clear o3); (try clear g3); (try clear l3); (try clear f3); (try clear s3); (try clear v2); (try clear D2); (try clear a2); (try clear a1); (try clear k2); (try clear f2); (try clear hgl); (try clear i4); (try clear i3); (try clear h2); (try clear d1); (try clear hf1); (try clear h7); omega) | omega)) s3 (by decide) i4.1 i4.2
  have F4 := fr_trans (fr_trans f2 f3) f4
  clear i3 i4 h2
  by_cases h3 : μ2 q 5 < rm
  · obtain ⟨b5, b7, b1, b0, b2⟩ := g3 h3
    by_cases h4 : μ3 q 5 < rm
    · obtain ⟨c5, c7, c1, c0, c2⟩ := g4 h4
      have D3 := Dp_ins b1 b0 b2
      have D4 := Dp_ins c1 c0 c2
      rw [show dl 515 = -1 from rfl] at D3
      rw [show dl 514 = 1 from rfl] at D4
      have DF : dFo (μ (q + 1)) (μ4 (q + 1)) p.toNat (p + n).toNat (x - (p + n)).toNat (μ4 q 5).toNat := by
        refine ⟨fun j hj => ?_, fun j h8 h9 => ?_, fun j h8 h9 => ?_⟩
        · rw [D4.1 j hj, D3.1 j (by (first | ((try clear h9); (try clear h8); (try clear D4); (try clear D3); (try clear c2); (try clear c0); (try clear c1); (try clear c7); (try clear h4); (try clear b2); (try clear b0); (try clear b1); (try clear b7); (try clear h3); (try clear F4); (try clear o4); (try clear g4); (try clear l4); (try clear f4); (try clear s4); (try clear p3); (try clear o3); (try clear g3); (try clear l3); (try clear f3); (try clear s3); (try clear v2); (try clear D2); (try clear a2); (try clear a1); (try clear k2); (try clear f2); (try clear hgl); (try clear i4); (try clear i3); (try clear h2); (try clear d1); (try clear hf1); (try clear h7); omega) | omega)), D2.1 j (by (first | ((try clear h9); (try clear h8); (try clear D4); (try clear D3); (try clear c2); (try clear c0); (try clear c1); (try clear c7); (try clear h4); (try clear b2); (try clear b0); (try clear b1); (try clear b7); (try clear h3); (try clear F4); (try clear o4); (try clear g4); (try clear l4); (try clear f4); (try clear s4); (try clear p3); (try clear o3); (try clear g3); (try clear l3); (try clear f3); (try clear s3); (try clear v2); (try clear D2); (try clear a2); (try clear a1); (try clear k2); (try clear f2); (try clear hgl); (try clear i4); (try clear i3); (try clear h2); (try clear d1); (try clear hf1); (try clear h7); omega) | omega))]
        · rw [D4.2 j h8 (by (first | ((try clear h8); (try clear hj); (try clear D4); (try clear D3); (try clear c2); (try clear c0); (try clear c1); (try clear c7); (try clear h4); (try clear b2); (try clear b0); (try clear b1); (try clear b7); (try clear h3); (try clear F4); (try clear o4); (try clear g4); (try clear l4); (try clear f4); (try clear s4); (try clear p3); (try clear o3); (try clear g3); (try clear f3); (try clear s3); (try clear v2); (try clear D2); (try clear a2); (try clear a1); (try clear k2); (try clear f2); (try clear hgl); (try clear i4); (try clear i3); (try clear h2); (try clear d1); (try clear hf1); (try clear h7); omega) | omega)), D3.1 j h9, D2.1 j h9]
        · have q1 := D4.2 (j + 1) (by (first | ((try clear h9); (try clear hj); (try clear D4); (try clear D3); (try clear c2); (try clear c0); (try clear c1); (try clear c7); (try clear h4); (try clear b2); (try clear b0); (try clear b1); (try clear b7); (try clear h3); (try clear F4); (try clear o4); (try clear g4); (try clear l4); (try clear f4); (try clear s4); (try clear p3); (try clear o3); (try clear g3); (try clear f3); (try clear s3); (try clear v2); (try clear D2); (try clear a2); (try clear a1); (try clear k2); (try clear f2); (try clear hgl); (try clear i4); (try clear i3); (try clear h2); (try clear d1); (try clear hf1); (try clear h7); omega) | omega)) (by (first | ((try clear h8); (try clear hj); (try clear D4); (try clear D3); (try clear c2); (try clear c0); (try clear c1); (try clear c7); (try clear h4); (try clear b2); (try clear b0); (try clear b1); (try clear b7); (try clear h3); (try clear F4); (try clear o4); (try clear g4); (try clear l4); (try clear f4); (try clear s4); (try clear p3); (try clear o3); (try clear g3); (try clear f3); (try clear s3); (try clear v2); (try clear D2); (try clear a2); (try clear a1); (try clear k2); (try clear f2); (try clear hgl); (try clear i4); (try clear i3); (try clear h2); (try clear d1); (try clear hf1); (try clear h7); omega) | omega))
          have q2 := D3.2 j h8 (by (first | ((try clear q2); (try clear h8); (try clear hj); (try clear D4); (try clear D3); (try clear c2); (try clear c0); (try clear c1); (try clear c7); (try clear h4); (try clear b2); (try clear b0); (try clear b1); (try clear b7); (try clear h3); (try clear F4); (try clear o4); (try clear g4); (try clear l4); (try clear f4); (try clear s4); (try clear p3); (try clear o3); (try clear g3); (try clear f3); (try clear s3); (try clear v2); (try clear D2); (try clear a2); (try clear a1); (try clear k2); (try clear f2); (try clear hgl); (try clear i4); (try clear i3); (try clear h2); (try clear d1); (try clear hf1); (try clear h7); omega) | omega))
          have q3 := D2.2 j h8 (by (first | ((try clear q3); (try clear q2); (try clear h8); (try clear hj); (try clear D4); (try clear D3); (try clear c2); (try clear c0); (try clear c1); (try clear c7); (try clear h4); (try clear b2); (try clear b0); (try clear b1); (try clear b7); (try clear h3); (try clear F4); (try clear o4); (try clear g4); (try clear l4); (try clear f4); (try clear s4); (try clear p3); (try clear o3); (try clear g3); (try clear f3); (try clear s3); (try clear v2); (try clear D2); (try clear a2); (try clear a1); (try clear k2); (try clear f2); (try clear hgl); (try clear i4); (try clear i3); (try clear h2); (try clear d1); (try clear hf1); (try clear h7); omega) | omega))
          show Dp (μ4 (q + 1)) (j + 1 + 1) = _
          (first | ((try clear h9); (try clear h8); (try clear hj); (try clear D4); (try clear D3); (try clear c2); (try clear c0); (try clear c1); (try clear c7); (try clear c5); (try clear h4); (try clear b2); (try clear b0); (try clear b1); (try clear b7); (try clear b5); (try clear h3); (try clear F4); (try clear o4); (try clear g4); (try clear l4); (try clear f4); (try clear s4); (try clear p3); (try clear o3); (try clear g3); (try clear l3); (try clear f3); (try clear s3); (try clear v2); (try clear D2); (try clear a2); (try clear a1); (try clear k2); (try clear f2); (try clear l2); (try clear e5); (try clear hgl); (try clear i4); (try clear i3); (try clear h2); (try clear d1); (try clear hf1); (try clear h7); omega) | omega)
      have v3 : ∀ j, j < (μ3 q 5).toNat → vS (μ3 (q + 1) j) := fun j hj => by
        by_cases h9 : j < (p + n).toNat
        · rw [b1 j h9]; exact v2 j (by (first | ((try clear hj); (try clear v3); (try clear D4); (try clear D3); (try clear c2); (try clear c0); (try clear c1); (try clear c7); (try clear h4); (try clear b2); (try clear b0); (try clear b1); (try clear b7); (try clear h3); (try clear F4); (try clear o4); (try clear g4); (try clear l4); (try clear f4); (try clear s4); (try clear p3); (try clear o3); (try clear g3); (try clear f3); (try clear s3); (try clear v2); (try clear D2); (try clear a2); (try clear a1); (try clear k2); (try clear f2); (try clear hgl); (try clear i4); (try clear i3); (try clear h2); (try clear d1); (try clear hf1); (try clear h7); omega) | omega))
        · by_cases h8 : j = (p + n).toNat
          · rw [h8, b0]; unfold vS; (first | ((try clear h8); (try clear h9); (try clear hj); (try clear v3); (try clear D4); (try clear D3); (try clear c2); (try clear c0); (try clear c1); (try clear c7); (try clear c5); (try clear h4); (try clear b2); (try clear b0); (try clear b1); (try clear b7); (try clear b5); (try clear h3); (try clear F4); (try clear o4); (try clear g4); (try clear l4); (try clear f4); (try clear s4); (try clear p3); (try clear o3); (try clear g3); (try clear l3); (try clear f3); (try clear s3); (try clear v2); (try clear D2); (try clear a2); (try clear a1); (try clear k2); (try clear f2); (try clear l2); (try clear e5); (try clear hgl); (try clear i4); (try clear i3); (try clear h2); (try clear d1); (try clear hf1); (try clear h7); omega) | omega)
          · have := b2 (j - 1) (by (first | ((try clear hj); (try clear v3); (try clear D4); (try clear D3); (try clear c2); (try clear c0); (try clear c1); (try clear c7); (try clear c5); (try clear h4); (try clear b2); (try clear b0); (try clear b1); (try clear b7); (try clear b5); (try clear h3); (try clear F4); (try clear o4); (try clear g4); (try clear l4); (try clear f4); (try clear s4); (try clear p3); (try clear o3); (try clear g3); (try clear l3); (try clear f3); (try clear s3); (try clear v2); (try clear D2); (try clear a2); (try clear a1); (try clear k2); (try clear f2); (try clear l2); (try clear e5); (try clear hgl); (try clear i4); (try clear i3); (try clear h2); (try clear d1); (try clear hf1); (try clear h7); omega) | omega)) (by (first | ((try clear v3); (try clear D4); (try clear D3); (try clear c2); (try clear c0); (try clear c1); (try clear c7); (try clear h4); (try clear b2); (try clear b0); (try clear b1); (try clear b7); (try clear h3); (try clear F4); (try clear o4); (try clear g4); (try clear l4); (try clear f4); (try clear s4); (try clear p3); (try clear o3); (try clear g3); (try clear f3); (try clear s3); (try clear v2); (try clear D2); (try clear a2); (try clear a1); (try clear k2); (try clear f2); (try clear hgl); (try clear i4); (try clear i3); (try clear h2); (try clear d1); (try clear hf1); (try clear h7); omega) | omega))
            rw [show j - 1 + 1 = j by (first | ((try clear hj); (try clear v3); (try clear D4); (try clear D3); (try clear c2); (try clear c0); (try clear c1); (try clear c7); (try clear h4); (try clear b2); (try clear b0); (try clear b1); (try clear b7); (try clear h3); (try clear F4); (try clear o4); (try clear g4); (try clear l4); (try clear f4); (try clear s4); (try clear p3); (try clear o3); (try clear g3); (try clear l3); (try clear f3); (try clear s3); (try clear v2); (try clear D2); (try clear a2); (try clear a1); (try clear k2); (try clear f2); (try clear hgl); (try clear i4); (try clear i3); (try clear h2); (try clear d1); (try clear hf1); (try clear h7); omega) | omega)] at this
            rw [this]; exact v2 _ (by (first | ((try clear v3); (try clear D4); (try clear D3); (try clear c2); (try clear c0); (try clear c1); (try clear c7); (try clear h4); (try clear b2); (try clear b0); (try clear b1); (try clear b7); (try clear h3); (try clear F4); (try clear o4); (try clear g4); (try clear l4); (try clear f4); (try clear s4); (try clear p3); (try clear o3); (try clear g3); (try clear f3); (try clear s3); (try clear v2); (try clear D2); (try clear a2); (try clear a1); (try clear k2); (try clear f2); (try clear hgl); (try clear i4); (try clear i3); (try clear h2); (try clear d1); (try clear hf1); (try clear h7); omega) | omega))
      have v4 : ∀ j, j < (μ4 q 5).toNat → vS (μ4 (q + 1) j) := fun j hj => by
        by_cases h9 : j < p.toNat
        · rw [c1 j h9]; exact v3 j (by (first | ((try clear hj); (try clear v4); (try clear v3); (try clear D4); (try clear D3); (try clear c2); (try clear c0); (try clear c1); (try clear c7); (try clear h4); (try clear b2); (try clear b0); (try clear b1); (try clear b7); (try clear h3); (try clear F4); (try clear o4); (try clear g4); (try clear l4); (try clear f4); (try clear s4); (try clear p3); (try clear o3); (try clear g3); (try clear f3); (try clear s3); (try clear v2); (try clear D2); (try clear a2); (try clear a1); (try clear k2); (try clear f2); (try clear hgl); (try clear i4); (try clear i3); (try clear h2); (try clear d1); (try clear hf1); (try clear h7); omega) | omega))
        · by_cases h8 : j = p.toNat
          · rw [h8, c0]; unfold vS; (first | ((try clear h8); (try clear h9); (try clear hj); (try clear v4); (try clear v3); (try clear D4); (try clear D3); (try clear c2); (try clear c0); (try clear c1); (try clear c7); (try clear c5); (try clear h4); (try clear b2); (try clear b0); (try clear b1); (try clear b7); (try clear b5); (try clear h3); (try clear F4); (try clear o4); (try clear g4); (try clear l4); (try clear f4); (try clear s4); (try clear p3); (try clear o3); (try clear g3); (try clear l3); (try clear f3); (try clear s3); (try clear v2); (try clear D2); (try clear a2); (try clear a1); (try clear k2); (try clear f2); (try clear l2); (try clear e5); (try clear hgl); (try clear i4); (try clear i3); (try clear h2); (try clear d1); (try clear hf1); (try clear h7); omega) | omega)
          · have := c2 (j - 1) (by (first | ((try clear hj); (try clear v4); (try clear v3); (try clear D4); (try clear D3); (try clear c2); (try clear c0); (try clear c1); (try clear c7); (try clear c5); (try clear h4); (try clear b2); (try clear b0); (try clear b1); (try clear b7); (try clear b5); (try clear h3); (try clear F4); (try clear o4); (try clear g4); (try clear l4); (try clear f4); (try clear s4); (try clear p3); (try clear o3); (try clear g3); (try clear l3); (try clear f3); (try clear s3); (try clear v2); (try clear D2); (try clear a2); (try clear a1); (try clear k2); (try clear f2); (try clear l2); (try clear e5); (try clear hgl); (try clear i4); (try clear i3); (try clear h2); (try clear d1); (try clear hf1); (try clear h7); omega) | omega)) (by (first | ((try clear v4); (try clear v3); (try clear D4); (try clear D3); (try clear c2); (try clear c0); (try clear c1); (try clear c7); (try clear h4); (try clear b2); (try clear b0); (try clear b1); (try clear b7); (try clear h3); (try clear F4); (try clear o4); (try clear g4); (try clear l4); (try clear f4); (try clear s4); (try clear p3); (try clear o3); (try clear g3); (try clear f3); (try clear s3); (try clear v2); (try clear D2); (try clear a2); (try clear a1); (try clear k2); (try clear f2); (try clear hgl); (try clear i4); (try clear i3); (try clear h2); (try clear d1); (try clear hf1); (try clear h7); omega) | omega))
            rw [show j - 1 + 1 = j by (first | ((try clear hj); (try clear v4); (try clear v3); (try clear D4); (try clear D3); (try clear c2); (try clear c0); (try clear c1); (try clear c7); (try clear h4); (try clear b2); (try clear b0); (try clear b1); (try clear b7); (try clear h3); (try clear F4); (try clear o4); (try clear g4); (try clear l4); (try clear f4); (try clear s4); (try clear p3); (try clear o3); (try clear g3); (try clear l3); (try clear f3); (try clear s3); (try clear v2); (try clear D2); (try clear a2); (try clear a1); (try clear k2); (try clear f2); (try clear hgl); (try clear i4); (try clear i3); (try clear h2); (try clear d1); (try clear hf1); (try clear h7); omega) | omega)] at this
            rw [this]; exact v3 _ (by (first | ((try clear v4); (try clear v3); (try clear D4); (try clear D3); (try clear c2); (try clear c0); (try clear c1); (try clear c7); (try clear h4); (try clear b2); (try clear b0); (try clear b1); (try clear b7); (try clear h3); (try clear F4); (try clear o4); (try clear g4); (try clear l4); (try clear f4); (try clear s4); (try clear p3); (try clear o3); (try clear g3); (try clear f3); (try clear s3); (try clear v2); (try clear D2); (try clear a2); (try clear a1); (try clear k2); (try clear f2); (try clear hgl); (try clear i4); (try clear i3); (try clear h2); (try clear d1); (try clear hf1); (try clear h7); omega) | omega))
      have gl : gL (μ4 (q + 1)) (μ4 q 5).toNat := by
        refine ⟨?_, fun j hj => ⟨?_, v4 j⟩⟩
        · have q1 := DF.2.2 ((μ4 q 5).toNat - 2) (by (first | ((try clear v4); (try clear v3); (try clear D4); (try clear D3); (try clear c2); (try clear c0); (try clear c1); (try clear c7); (try clear h4); (try clear b2); (try clear b0); (try clear b1); (try clear b7); (try clear h3); (try clear F4); (try clear o4); (try clear g4); (try clear l4); (try clear f4); (try clear s4); (try clear p3); (try clear o3); (try clear g3); (try clear f3); (try clear s3); (try clear v2); (try clear D2); (try clear a2); (try clear a1); (try clear k2); (try clear f2); (try clear hgl); (try clear i4); (try clear i3); (try clear h2); (try clear d1); (try clear hf1); (try clear h7); omega) | omega)) (by (first | ((try clear v4); (try clear v3); (try clear D4); (try clear D3); (try clear c2); (try clear c0); (try clear c1); (try clear c7); (try clear h4); (try clear b2); (try clear b0); (try clear b1); (try clear b7); (try clear h3); (try clear F4); (try clear o4); (try clear g4); (try clear l4); (try clear f4); (try clear s4); (try clear p3); (try clear o3); (try clear g3); (try clear f3); (try clear s3); (try clear v2); (try clear D2); (try clear a2); (try clear a1); (try clear k2); (try clear f2); (try clear hgl); (try clear i4); (try clear i3); (try clear h2); (try clear d1); (try clear hf1); (try clear h7); omega) | omega))
          rw [show (μ4 q 5).toNat - 2 + 2 = (μ4 q 5).toNat by (first | ((try clear v4); (try clear v3); (try clear D4); (try clear D3); (try clear c2); (try clear c0); (try clear c1); (try clear c7); (try clear h4); (try clear b2); (try clear b0); (try clear b1); (try clear b7); (try clear h3); (try clear F4); (try clear o4); (try clear g4); (try clear l4); (try clear f4); (try clear s4); (try clear p3); (try clear o3); (try clear g3); (try clear f3); (try clear s3); (try clear v2); (try clear D2); (try clear a2); (try clear a1); (try clear k2); (try clear f2); (try clear hgl); (try clear i4); (try clear i3); (try clear h2); (try clear d1); (try clear hf1); (try clear h7); omega) | omega), show (μ4 q 5).toNat - 2 + (x - (p + n)).toNat = (μ q 5).toNat by (first | ((try clear v4); (try clear v3); (try clear D4); (try clear D3); (try clear c2); (try clear c0); (try clear c1); (try clear c7); (try clear h4); (try clear b2); (try clear b0); (try clear b1); (try clear b7); (try clear h3); (try clear F4); (try clear o4); (try clear g4); (try clear l4); (try clear f4); (try clear s4); (try clear o3); (try clear g3); (try clear f3); (try clear s3); (try clear v2); (try clear D2); (try clear a2); (try clear a1); (try clear k2); (try clear f2); (try clear hgl); (try clear i4); (try clear i3); (try clear h2); (try clear d1); (try clear hf1); (try clear h7); omega) | omega)] at q1
          rw [q1]; exact hgl.1
        · by_cases h9 : j ≤ p.toNat
          · rw [DF.1 j h9]; exact (hgl.2 j (by (first | ((try clear v4); (try clear v3); (try clear D4); (try clear D3); (try clear c2); (try clear c0); (try clear c1); (try clear c7); (try clear h4); (try clear b2); (try clear b0); (try clear b1); (try clear b7); (try clear h3); (try clear F4); (try clear o4); (try clear g4); (try clear l4); (try clear f4); (try clear s4); (try clear p3); (try clear o3); (try clear g3); (try clear f3); (try clear s3); (try clear v2); (try clear D2); (try clear a2); (try clear a1); (try clear k2); (try clear f2); (try clear hgl); (try clear i4); (try clear i3); (try clear h2); (try clear d1); (try clear hf1); (try clear h7); omega) | omega))).1
          · by_cases h8 : j ≤ (p + n).toNat + 1
            · have q1 := DF.2.1 (j - 1) (by (first | ((try clear h8); (try clear v4); (try clear v3); (try clear D4); (try clear D3); (try clear c2); (try clear c0); (try clear c1); (try clear c7); (try clear c5); (try clear h4); (try clear b2); (try clear b0); (try clear b1); (try clear b7); (try clear b5); (try clear h3); (try clear F4); (try clear o4); (try clear g4); (try clear l4); (try clear f4); (try clear s4); (try clear p3); (try clear o3); (try clear g3); (try clear l3); (try clear f3); (try clear s3); (try clear v2); (try clear D2); (try clear a2); (try clear a1); (try clear k2); (try clear f2); (try clear l2); (try clear e5); (try clear hgl); (try clear i4); (try clear i3); (try clear h2); (try clear d1); (try clear hf1); (try clear h7); omega) | omega)) (by (first | ((try clear h9); (try clear v4); (try clear v3); (try clear D4); (try clear D3); (try clear c2); (try clear c0); (try clear c1); (try clear c7); (try clear h4); (try clear b2); (try clear b0); (try clear b1); (try clear b7); (try clear h3); (try clear F4); (try clear o4); (try clear g4); (try clear l4); (try clear f4); (try clear s4); (try clear p3); (try clear o3); (try clear g3); (try clear l3); (try clear f3); (try clear s3); (try clear v2); (try clear D2); (try clear a2); (try clear a1); (try clear k2); (try clear f2); (try clear hgl); (try clear i4); (try clear i3); (try clear h2); (try clear d1); (try clear hf1); (try clear h7); omega) | omega))
              rw [show j - 1 + 1 = j by (first | ((try clear h8); (try clear v4); (try clear v3); (try clear D4); (try clear D3); (try clear c2); (try clear c0); (try clear c1); (try clear c7); (try clear h4); (try clear b2); (try clear b0); (try clear b1); (try clear b7); (try clear h3); (try clear F4); (try clear o4); (try clear g4); (try clear l4); (try clear f4); (try clear s4); (try clear p3); (try clear o3); (try clear g3); (try clear l3); (try clear f3); (try clear s3); (try clear v2); (try clear D2); (try clear a2); (try clear a1); (try clear k2); (try clear f2); (try clear hgl); (try clear i4); (try clear i3); (try clear h2); (try clear d1); (try clear hf1); (try clear h7); omega) | omega)] at q1
              have := (hgl.2 (j - 1) (by (first | ((try clear h9); (try clear v4); (try clear v3); (try clear D4); (try clear D3); (try clear c2); (try clear c0); (try clear c1); (try clear c7); (try clear h4); (try clear b2); (try clear b0); (try clear b1); (try clear b7); (try clear h3); (try clear F4); (try clear o4); (try clear g4); (try clear l4); (try clear f4); (try clear s4); (try clear p3); (try clear o3); (try clear g3); (try clear f3); (try clear s3); (try clear v2); (try clear D2); (try clear a2); (try clear a1); (try clear k2); (try clear f2); (try clear hgl); (try clear i4); (try clear i3); (try clear h2); (try clear d1); (try clear hf1); (try clear h7); omega) | omega))).1
              (first | ((try clear h8); (try clear h9); (try clear v4); (try clear v3); (try clear D4); (try clear D3); (try clear c2); (try clear c0); (try clear c1); (try clear c7); (try clear c5); (try clear h4); (try clear b2); (try clear b0); (try clear b1); (try clear b7); (try clear b5); (try clear h3); (try clear F4); (try clear o4); (try clear g4); (try clear l4); (try clear f4); (try clear s4); (try clear p3); (try clear o3); (try clear g3); (try clear l3); (try clear f3); (try clear s3); (try clear v2); (try clear D2); (try clear a2); (try clear a1); (try clear k2); (try clear f2); (try clear l2); (try clear e5); (try clear hgl); (try clear i4); (try clear i3); (try clear h2); (try clear d1); (try clear hf1); (try clear h7); omega) | omega)
            · have q1 := DF.2.2 (j - 2) (by (first | ((try clear h9); (try clear v4); (try clear v3); (try clear D4); (try clear D3); (try clear c2); (try clear c0); (try clear c1); (try clear c7); (try clear c5); (try clear h4); (try clear b2); (try clear b0); (try clear b1); (try clear b7); (try clear b5); (try clear h3); (try clear F4); (try clear o4); (try clear g4); (try clear l4); (try clear f4); (try clear s4); (try clear p3); (try clear o3); (try clear g3); (try clear l3); (try clear f3); (try clear s3); (try clear v2); (try clear D2); (try clear a2); (try clear a1); (try clear k2); (try clear f2); (try clear l2); (try clear e5); (try clear hgl); (try clear i4); (try clear i3); (try clear h2); (try clear d1); (try clear hf1); (try clear h7); omega) | omega)) (by (first | ((try clear h9); (try clear v4); (try clear v3); (try clear D4); (try clear D3); (try clear c2); (try clear c0); (try clear c1); (try clear c7); (try clear h4); (try clear b2); (try clear b0); (try clear b1); (try clear b7); (try clear h3); (try clear F4); (try clear o4); (try clear g4); (try clear l4); (try clear f4); (try clear s4); (try clear p3); (try clear o3); (try clear g3); (try clear l3); (try clear f3); (try clear s3); (try clear v2); (try clear D2); (try clear a2); (try clear a1); (try clear k2); (try clear f2); (try clear hgl); (try clear i4); (try clear i3); (try clear h2); (try clear d1); (try clear hf1); (try clear h7); omega) | omega))
              rw [show j - 2 + 2 = j by (first | ((try clear h9); (try clear v4); (try clear v3); (try clear D4); (try clear D3); (try clear c2); (try clear c0); (try clear c1); (try clear c7); (try clear h4); (try clear b2); (try clear b0); (try clear b1); (try clear b7); (try clear h3); (try clear F4); (try clear o4); (try clear g4); (try clear l4); (try clear f4); (try clear s4); (try clear p3); (try clear o3); (try clear g3); (try clear l3); (try clear f3); (try clear s3); (try clear v2); (try clear D2); (try clear a2); (try clear a1); (try clear k2); (try clear f2); (try clear hgl); (try clear i4); (try clear i3); (try clear h2); (try clear d1); (try clear hf1); (try clear h7); omega) | omega)] at q1
              rw [q1]; exact (hgl.2 _ (by (first | ((try clear h8); (try clear h9); (try clear v4); (try clear v3); (try clear D4); (try clear D3); (try clear c2); (try clear c0); (try clear c1); (try clear c7); (try clear h4); (try clear b2); (try clear b0); (try clear b1); (try clear b7); (try clear h3); (try clear F4); (try clear o4); (try clear g4); (try clear l4); (try clear f4); (try clear s4); (try clear o3); (try clear g3); (try clear f3); (try clear s3); (try clear v2); (try clear D2); (try clear a2); (try clear a1); (try clear k2); (try clear f2); (try clear hgl); (try clear i4); (try clear i3); (try clear h2); (try clear d1); (try clear hf1); (try clear h7); omega) | omega))).1
      obtain ⟨w, w1, w2, w3⟩ := gL_w gl
      exact ⟨⟨w, w1, by (first | ((try clear w3); (try clear w1); (try clear v4); (try clear v3); (try clear D4); (try clear D3); (try clear c2); (try clear c0); (try clear c1); (try clear c7); (try clear h4); (try clear b2); (try clear b0); (try clear b1); (try clear b7); (try clear b5); (try clear h3); (try clear F4); (try clear o4); (try clear g4); (try clear f4); (try clear s4); (try clear p3); (try clear o3); (try clear g3); (try clear f3); (try clear s3); (try clear v2); (try clear D2); (try clear a2); (try clear a1); (try clear k2); (try clear f2); (try clear l2); (try clear e5); (try clear hgl); (try clear i4); (try clear i3); (try clear h2); (try clear d1); (try clear hf1); (try clear h7); omega) | omega), Or.inl ⟨by (first | ((try clear w3); (try clear w2); (try clear w1); (try clear v4); (try clear v3); (try clear D4); (try clear D3); (try clear c2); (try clear c0); (try clear c1); (try clear c5); (try clear h4); (try clear b2); (try clear b0); (try clear b1); (try clear b5); (try clear h3); (try clear F4); (try clear o4); (try clear g4); (try clear l4); (try clear f4); (try clear s4); (try clear p3); (try clear o3); (try clear g3); (try clear l3); (try clear f3); (try clear s3); (try clear v2); (try clear D2); (try clear a2); (try clear a1); (try clear f2); (try clear l2); (try clear e5); (try clear hgl); (try clear i4); (try clear i3); (try clear h2); (try clear d1); (try clear hf1); (try clear h7); omega) | omega), w3, by (first | ((try clear w3); (try clear w1); (try clear v4); (try clear v3); (try clear D4); (try clear D3); (try clear c2); (try clear c0); (try clear c1); (try clear c7); (try clear h4); (try clear b2); (try clear b0); (try clear b1); (try clear b7); (try clear b5); (try clear h3); (try clear F4); (try clear o4); (try clear g4); (try clear l4); (try clear f4); (try clear s4); (try clear p3); (try clear o3); (try clear g3); (try clear f3); (try clear s3); (try clear v2); (try clear D2); (try clear a2); (try clear a1); (try clear k2); (try clear f2); (try clear l2); (try clear e5); (try clear hgl); (try clear i4); (try clear i3); (try clear h2); (try clear d1); (try clear hf1); (try clear h7); omega) | omega)⟩⟩, l4, s4, fun y => by rw [F4 _ _ (by (first | ((try clear w3); (try clear w2); (try clear w1); (try clear v4); (try clear v3); (try clear D4); (try clear D3); (try clear c2); (try clear c0); (try clear c1); (try clear c7); (try clear c5); (try clear h4); (try clear b2); (try clear b0); (try clear b1); (try clear b7); (try clear b5); (try clear h3); (try clear F4); (try clear o4); (try clear g4); (try clear l4); (try clear f4); (try clear s4); (try clear p3); (try clear o3); (try clear g3); (try clear l3); (try clear f3); (try clear s3); (try clear v2); (try clear D2); (try clear a2); (try clear a1); (try clear k2); (try clear f2); (try clear l2); (try clear e5); (try clear hgl); (try clear i4); (try clear i3); (try clear h2); (try clear d1); (try clear hf1); (try clear h7); omega) | omega))]; exact hG.2.1 y, F4, fun _ => ⟨by (first | ((try clear y); (try clear w3); (try clear w2); (try clear w1); (try clear v4); (try clear v3); (try clear D4); (try clear D3); (try clear c2); (try clear c0); (try clear c1); (try clear c7); (try clear h4); (try clear b2); (try clear b0); (try clear b1); (try clear b7); (try clear h3); (try clear F4); (try clear o4); (try clear g4); (try clear l4); (try clear f4); (try clear s4); (try clear p3); (try clear o3); (try clear g3); (try clear l3); (try clear f3); (try clear s3); (try clear v2); (try clear D2); (try clear a2); (try clear a1); (try clear k2); (try clear f2); (try clear hgl); (try clear i4); (try clear i3); (try clear h2); (try clear d1); (try clear hf1); (try clear h7); omega) | omega), DF⟩⟩
    · have := o4 h4
      exact ⟨⟨.leaf, trivial, Nat.zero_le _, Or.inr ⟨this.1, rfl⟩⟩, l4, s4, fun y => by rw [F4 _ _ (by (first | ((try clear h4); (try clear b2); (try clear b0); (try clear b1); (try clear b7); (try clear b5); (try clear h3); (try clear F4); (try clear o4); (try clear g4); (try clear l4); (try clear f4); (try clear s4); (try clear p3); (try clear o3); (try clear g3); (try clear l3); (try clear f3); (try clear s3); (try clear v2); (try clear D2); (try clear a2); (try clear a1); (try clear k2); (try clear f2); (try clear l2); (try clear e5); (try clear hgl); (try clear i4); (try clear i3); (try clear h2); (try clear d1); (try clear hf1); (try clear h7); omega) | omega))]; exact hG.2.1 y, F4, fun h => by (first | ((try clear y); (try clear h4); (try clear b2); (try clear b0); (try clear b1); (try clear b7); (try clear b5); (try clear h3); (try clear F4); (try clear o4); (try clear g4); (try clear l4); (try clear f4); (try clear s4); (try clear p3); (try clear o3); (try clear g3); (try clear l3); (try clear f3); (try clear s3); (try clear v2); (try clear D2); (try clear a2); (try clear a1); (try clear k2); (try clear f2); (try clear l2); (try clear e5); (try clear hgl); (try clear i4); (try clear i3); (try clear h2); (try clear d1); (try clear hf1); (try clear h7); omega) | omega)⟩
  · have q3 := o3 h3
    have := o4 (by (first | ((try clear F4); (try clear o4); (try clear g4); (try clear l4); (try clear f4); (try clear s4); (try clear p3); (try clear o3); (try clear g3); (try clear f3); (try clear s3); (try clear v2); (try clear D2); (try clear a2); (try clear a1); (try clear k2); (try clear f2); (try clear l2); (try clear e5); (try clear hgl); (try clear i4); (try clear i3); (try clear h2); (try clear d1); (try clear hf1); (try clear h7); omega) | omega))
    exact ⟨⟨.leaf, trivial, Nat.zero_le _, Or.inr ⟨this.1, rfl⟩⟩, l4, s4, fun y => by rw [F4 _ _ (by (first | ((try clear q3); (try clear h3); (try clear F4); (try clear o4); (try clear g4); (try clear l4); (try clear f4); (try clear s4); (try clear p3); (try clear o3); (try clear g3); (try clear l3); (try clear f3); (try clear s3); (try clear v2); (try clear D2); (try clear a2); (try clear a1); (try clear k2); (try clear f2); (try clear l2); (try clear e5); (try clear hgl); (try clear i4); (try clear i3); (try clear h2); (try clear d1); (try clear hf1); (try clear h7); omega) | omega))]; exact hG.2.1 y, F4, fun h => by (first | ((try clear y); (try clear q3); (try clear h3); (try clear F4); (try clear o4); (try clear g4); (try clear l4); (try clear f4); (try clear s4); (try clear p3); (try clear o3); (try clear g3); (try clear l3); (try clear f3); (try clear s3); (try clear v2); (try clear D2); (try clear a2); (try clear a1); (try clear k2); (try clear f2); (try clear l2); (try clear e5); (try clear hgl); (try clear i4); (try clear i3); (try clear h2); (try clear d1); (try clear hf1); (try clear h7); omega) | omega)⟩
theorem rng_fo {μ u : va_M} {q : Nat} {p1 bh p n x : Int} (hl : 0 ≤ μ q 5) (hrg : rng μ q p1 bh) (hb : p1 ≤ p ∧ 1 ≤ n ∧ p + n ≤ x ∧ x ≤ μ q 5 - bh) (h5 : u q 5 = μ q 5 - (x - (p + n)) + 2) (hd : dFo (μ (q + 1)) (u (q + 1)) p.toNat (p + n).toNat (x - (p + n)).toNat (u q 5).toNat) : rng u q p1 bh := by
  have hr1 := hrg.1
  obtain ⟨s1, s2, s3⟩ := hrg.2 (by (first | ((try clear s3); (try clear s2); (try clear s1); (try clear hr1); (try clear hd); omega) | omega))
  obtain ⟨d1, d2, d3⟩ := hd
  have e1 := d1 p1.toNat (by (first | ((try clear e1); (try clear d3); (try clear d2); (try clear d1); (try clear s3); (try clear s2); (try clear s1); (try clear hd); (try clear h5); omega) | omega))
  refine ⟨hrg.1, fun h => ⟨by (first | ((try clear e1); (try clear d3); (try clear d2); (try clear d1); (try clear s3); (try clear s2); (try clear s1); (try clear hd); omega) | omega), ?_, fun j h8 h9 => ?_⟩⟩
  · have q1 := d3 ((u q 5 - bh).toNat - 2) (by (first | ((try clear h9); (try clear h8); (try clear j); (try clear e1); (try clear d3); (try clear d2); (try clear d1); (try clear s3); (try clear s2); (try clear s1); (try clear hd); omega) | omega)) (by (first | ((try clear h9); (try clear h8); (try clear j); (try clear e1); (try clear d3); (try clear d2); (try clear d1); (try clear s3); (try clear s2); (try clear s1); (try clear hd); omega) | omega))
    rw [show (u q 5 - bh).toNat - 2 + 2 = (u q 5 - bh).toNat by (first | ((try clear h9); (try clear h8); (try clear j); (try clear e1); (try clear d3); (try clear d2); (try clear d1); (try clear s3); (try clear s2); (try clear s1); (try clear hd); omega) | omega), show (u q 5 - bh).toNat - 2 + (x - (p + n)).toNat = (μ q 5 - bh).toNat by (first | ((try clear h9); (try clear h8); (try clear j); (try clear e1); (try clear d3); (try clear d2); (try clear d1); (try clear s3); (try clear s2); (try clear hd); omega) | omega)] at q1
    rw [q1, e1]; exact s2
  · rw [e1]
    by_cases h6 : j ≤ p.toNat
    · rw [d1 j h6]; exact s3 j h8 (by (first | ((try clear h9); (try clear h8); (try clear e1); (try clear d3); (try clear d2); (try clear d1); (try clear s3); (try clear s2); (try clear hd); omega) | omega))
    · by_cases h5 : j ≤ (p + n).toNat + 1
      · have q1 := d2 (j - 1) (by (first | ((try clear h5); (try clear h9); (try clear h8); (try clear e1); (try clear d3); (try clear d2); (try clear d1); (try clear s3); (try clear s2); (try clear s1); (try clear hr1); (try clear hd); omega) | omega)) (by (first | ((try clear h6); (try clear h9); (try clear h8); (try clear e1); (try clear d3); (try clear d2); (try clear d1); (try clear s3); (try clear s2); (try clear s1); (try clear hr1); (try clear hd); omega) | omega))
        rw [show j - 1 + 1 = j by (first | ((try clear h5); (try clear h9); (try clear h8); (try clear e1); (try clear d3); (try clear d2); (try clear d1); (try clear s3); (try clear s2); (try clear s1); (try clear hd); omega) | omega)] at q1
        have := s3 (j - 1) (by (first | ((try clear h5); (try clear e1); (try clear d3); (try clear d2); (try clear d1); (try clear s3); (try clear s2); (try clear s1); (try clear hd); omega) | omega)) (by (first | ((try clear h8); (try clear e1); (try clear d3); (try clear d2); (try clear d1); (try clear s3); (try clear s2); (try clear hd); omega) | omega))
        (first | ((try clear h5); (try clear h6); (try clear h9); (try clear h8); (try clear d3); (try clear d2); (try clear d1); (try clear s3); (try clear s2); (try clear s1); (try clear hr1); (try clear hd); omega) | omega)
      · have q1 := d3 (j - 2) (by (first | ((try clear h6); (try clear h9); (try clear h8); (try clear e1); (try clear d3); (try clear d2); (try clear d1); (try clear s3); (try clear s2); (try clear s1); (try clear hr1); (try clear hd); omega) | omega)) (by (first | ((try clear h5); (try clear h6); (try clear h8); (try clear e1); (try clear d3); (try clear d2); (try clear d1); (try clear s3); (try clear s2); (try clear s1); (try clear hd); omega) | omega))
        rw [show j - 2 + 2 = j by (first | ((try clear h6); (try clear h9); (try clear h8); (try clear e1); (try clear d3); (try clear d2); (try clear d1); (try clear s3); (try clear s2); (try clear s1); (try clear hd); omega) | omega)] at q1
        rw [q1]; exact s3 _ (by (first | ((try clear e1); (try clear d3); (try clear d2); (try clear d1); (try clear s3); (try clear s2); (try clear s1); (try clear hd); omega) | omega)) (by (first | ((try clear h6); (try clear h8); (try clear e1); (try clear d3); (try clear d2); (try clear d1); (try clear s3); (try clear s2); (try clear hd); omega) | omega))
/-- the items of the stretch from p1 to p2, as the tidier has listed them -/
def itm (f : Nat → Int) (μ : va_M) (p1 p2 : Int) : Prop := (0 ≤ μ 38 2 ∧ μ 38 2 ≤ 1100) ∧ (∀ k : Nat, (k : Int) ≤ μ 38 2 → 0 ≤ μ 40 k ∧ μ 40 k ≤ k) ∧ (∀ k : Nat, (k : Int) ≤ μ 38 2 → 0 < μ 38 2 → p1 ≤ μ 39 k ∧ μ 39 k ≤ p2 ∧ Dp f (μ 39 k).toNat = Dp f p1.toNat) ∧ (∀ k k2 : Nat, k < k2 → (k2 : Int) ≤ μ 38 2 → μ 39 k < μ 39 k2) ∧ (0 < μ 38 2 → p1 < p2)
theorem fuse_d {μ0 μ u : va_M} {q p x n : Nat} (d1 : ∀ j, dl (μ (q + 1) j) = dl (μ0 (q + 1) j) ∧ (vS (μ0 (q + 1) j) → vS (μ (q + 1) j))) (hal : ∀ t : Nat, t < n → sAl (μ (q + 1) (p + t)) (μ (q + 1) (x + t))) (hf : fr (fun a b => a = q + 1 ∧ p ≤ b ∧ b < p + n) μ u) (hv : ∀ t : Nat, t < n → u (q + 1) (p + t) = sFu (μ (q + 1) (p + t)) (μ (q + 1) (x + t))) (hs : sgA μ (q + 1)) : (∀ j, dl (u (q + 1) j) = dl (μ0 (q + 1) j) ∧ (vS (μ0 (q + 1) j) → vS (u (q + 1) j))) ∧ sgA u (q + 1) := by
  have k : ∀ j, (u (q + 1) j = μ (q + 1) j) ∨ (∃ b, sAl (μ (q + 1) j) b ∧ u (q + 1) j = sFu (μ (q + 1) j) b) := fun j => by
    by_cases h9 : p ≤ j ∧ j < p + n
    · have h1 := hal (j - p) (by (first | ((try clear h1); (try clear k); (try clear hf); (try clear hal); (try clear d1); omega) | omega))
      have h2 := hv (j - p) (by (first | ((try clear h2); (try clear h1); (try clear k); (try clear hf); (try clear hal); (try clear d1); omega) | omega))
      rw [show p + (j - p) = j by (first | ((try clear h2); (try clear h1); (try clear k); (try clear hf); (try clear hal); (try clear d1); omega) | omega)] at h1 h2
      exact Or.inr ⟨_, h1, h2⟩
    · exact Or.inl (hf _ _ (fun h => h9 h.2))
  refine ⟨fun j => ?_, fun j => ?_⟩
  · rcases k j with h | ⟨b, h1, h2⟩
    · rw [h]; exact d1 j
    · rw [h2]; exact ⟨(sFu_dl h1).trans (d1 j).1, fun h => sFu_v ((d1 j).2 h)⟩
  · rcases k j with h | ⟨b, h1, h2⟩
    · rw [h]; exact hs j
    · rw [h2]; exact sFu_b (hs j)
theorem rng_ov {μ u : va_M} {q rm : Nat} {p1 bh : Int} (hrg : rng μ q p1 bh) (hg : rG u q rm) (h7 : u q 7 = 1) : rng u q p1 bh := by
  have h1 := hrg.1
  have h5 : u q 5 = 0 := (rG_ov hg).elim (fun h => by (first | ((try clear h5); (try clear h1); omega) | omega)) (fun h => h.2)
  exact ⟨hrg.1, fun h => by (first | ((try clear h7); omega) | omega)⟩

set_option maxRecDepth 100000 in
theorem k78 : (Cond.fieldLink "PageSkeleton$Past" (30 : Nat) "PageSkeleton$Row" "code" "[I") ∈ wsG := wsG_a1 78 rfl rfl
set_option maxRecDepth 100000 in
theorem k95 : (Cond.fieldLink "PageSkeleton$Past" (35 : Nat) "PageSkeleton$Row" "length" "I") ∈ wsG := wsG_a1 95 rfl rfl
set_option maxRecDepth 100000 in
theorem k97 : (Cond.fieldLink "PageSkeleton$Leaf" (68 : Nat) "PageSkeleton$Row" "length" "I") ∈ wsG := wsG_a1 97 rfl rfl
set_option maxRecDepth 100000 in
theorem k157 : (Cond.fieldLink "PageSkeleton$Leaf" (77 : Nat) "PageSkeleton$Tidier" "foldedLength" "I") ∈ wsG := wsG_a1 157 rfl rfl
set_option maxRecDepth 100000 in
theorem k159 : (Cond.fieldLink "PageSkeleton$Leaf" (80 : Nat) "PageSkeleton$Tidier" "foldedPlace" "I") ∈ wsG := wsG_a1 159 rfl rfl
set_option maxRecDepth 100000 in
theorem k161 : (Cond.fieldLink "PageSkeleton$Leaf" (83 : Nat) "PageSkeleton$Tidier" "foldedTimes" "I") ∈ wsG := wsG_a1 161 rfl rfl
set_option maxRecDepth 100000 in
theorem k499 : (Cond.methodLink "PageSkeleton$Past" (38 : Nat) ({ cls := "java/lang/System", name := "arraycopy", desc := "(Ljava/lang/Object;ILjava/lang/Object;II)V" } : MethodName)) ∈ wsG := wsG_a3 19 rfl rfl
set_option maxRecDepth 100000 in
theorem k500 : (Cond.methodLink "PageSkeleton$Past" (44 : Nat) ({ cls := "java/lang/Math", name := "min", desc := "(II)I" } : MethodName)) ∈ wsG := wsG_a3 20 rfl rfl
set_option maxRecDepth 100000 in
theorem k511 : (Cond.methodLink "PageSkeleton$Past" (50 : Nat) ({ cls := "java/lang/Math", name := "max", desc := "(II)I" } : MethodName)) ∈ wsG := wsG_a3 31 rfl rfl
set_option maxRecDepth 100000 in
theorem k512 : (Cond.methodLink "PageSkeleton$Past" (53 : Nat) ({ cls := "PageSkeleton$Row", name := "load", desc := "([II)V" } : MethodName)) ∈ wsG := wsG_a3 32 rfl rfl
set_option maxRecDepth 100000 in
theorem k726 : (Cond.methodLink "PageSkeleton$Leaf" (71 : Nat) ({ cls := "PageSkeleton$Tidier", name := "foldOnce", desc := "(LPageSkeleton$Row;II)Z" } : MethodName)) ∈ wsG := wsG_a4 6 rfl rfl
set_option maxRecDepth 100000 in
theorem k1126 : (Cond.methodLink "PageSkeleton$Leaf" (86 : Nat) ({ cls := "java/util/Arrays", name := "fill", desc := "([II)V" } : MethodName)) ∈ wsG := wsG_a5 166 rfl rfl
set_option maxRecDepth 100000 in
theorem k1127 : (Cond.methodLink "PageSkeleton$Leaf" (92 : Nat) ({ cls := "java/lang/Math", name := "max", desc := "(II)I" } : MethodName)) ∈ wsG := wsG_a5 167 rfl rfl
theorem dX1_foldAll_0 : decode cX1_foldAll 0 = .ok (.aload_n 0, 1) := by decide +kernel
theorem dX1_foldAll_1 : decode cX1_foldAll 1 = .ok (.iconst 0, 1) := by decide +kernel
theorem dX1_foldAll_2 : decode cX1_foldAll 2 = .ok (.putfield 34, 3) := by decide +kernel
theorem dX1_foldAll_5 : decode cX1_foldAll 5 = .ok (.iconst 0, 1) := by decide +kernel
theorem dX1_foldAll_6 : decode cX1_foldAll 6 = .ok (.istore_n 2, 1) := by decide +kernel
theorem dX1_foldAll_7 : decode cX1_foldAll 7 = .ok (.iload_n 2, 1) := by decide +kernel
theorem dX1_foldAll_8 : decode cX1_foldAll 8 = .ok (.bipush 60, 2) := by decide +kernel
theorem dX1_foldAll_10 : decode cX1_foldAll 10 = .ok (.if_icmp .ge 87, 3) := by decide +kernel
theorem dX1_foldAll_13 : decode cX1_foldAll 13 = .ok (.aload_n 1, 1) := by decide +kernel
theorem dX1_foldAll_14 : decode cX1_foldAll 14 = .ok (.aload_n 0, 1) := by decide +kernel
theorem dX1_foldAll_15 : decode cX1_foldAll 15 = .ok (.getfield 27, 3) := by decide +kernel
theorem dX1_foldAll_18 : decode cX1_foldAll 18 = .ok (.iconst 0, 1) := by decide +kernel
theorem dX1_foldAll_19 : decode cX1_foldAll 19 = .ok (.aload_n 0, 1) := by decide +kernel
theorem dX1_foldAll_20 : decode cX1_foldAll 20 = .ok (.getfield 27, 3) := by decide +kernel
theorem dX1_foldAll_23 : decode cX1_foldAll 23 = .ok (.getfield 68, 3) := by decide +kernel
theorem dX1_foldAll_26 : decode cX1_foldAll 26 = .ok (.invokevirtual 71, 3) := by decide +kernel
theorem dX1_foldAll_29 : decode cX1_foldAll 29 = .ok (.ifCond .eq 68, 3) := by decide +kernel
theorem dX1_foldAll_32 : decode cX1_foldAll 32 = .ok (.aload_n 0, 1) := by decide +kernel
theorem dX1_foldAll_33 : decode cX1_foldAll 33 = .ok (.getfield 31, 3) := by decide +kernel
theorem dX1_foldAll_36 : decode cX1_foldAll 36 = .ok (.aload_n 0, 1) := by decide +kernel
theorem dX1_foldAll_37 : decode cX1_foldAll 37 = .ok (.getfield 34, 3) := by decide +kernel
theorem dX1_foldAll_40 : decode cX1_foldAll 40 = .ok (.iconst 3, 1) := by decide +kernel
theorem dX1_foldAll_41 : decode cX1_foldAll 41 = .ok (.imul, 1) := by decide +kernel
theorem dX1_foldAll_42 : decode cX1_foldAll 42 = .ok (.aload_n 1, 1) := by decide +kernel
theorem dX1_foldAll_43 : decode cX1_foldAll 43 = .ok (.getfield 77, 3) := by decide +kernel
theorem dX1_foldAll_46 : decode cX1_foldAll 46 = .ok (.iastore, 1) := by decide +kernel
theorem dX1_foldAll_47 : decode cX1_foldAll 47 = .ok (.aload_n 0, 1) := by decide +kernel
theorem dX1_foldAll_48 : decode cX1_foldAll 48 = .ok (.getfield 31, 3) := by decide +kernel
theorem dX1_foldAll_51 : decode cX1_foldAll 51 = .ok (.aload_n 0, 1) := by decide +kernel
theorem dX1_foldAll_52 : decode cX1_foldAll 52 = .ok (.getfield 34, 3) := by decide +kernel
theorem dX1_foldAll_55 : decode cX1_foldAll 55 = .ok (.iconst 3, 1) := by decide +kernel
theorem dX1_foldAll_56 : decode cX1_foldAll 56 = .ok (.imul, 1) := by decide +kernel
theorem dX1_foldAll_57 : decode cX1_foldAll 57 = .ok (.iconst 1, 1) := by decide +kernel
theorem dX1_foldAll_58 : decode cX1_foldAll 58 = .ok (.iadd, 1) := by decide +kernel
theorem dX1_foldAll_59 : decode cX1_foldAll 59 = .ok (.aload_n 1, 1) := by decide +kernel
theorem dX1_foldAll_60 : decode cX1_foldAll 60 = .ok (.getfield 80, 3) := by decide +kernel
theorem dX1_foldAll_63 : decode cX1_foldAll 63 = .ok (.iastore, 1) := by decide +kernel
theorem dX1_foldAll_64 : decode cX1_foldAll 64 = .ok (.aload_n 0, 1) := by decide +kernel
theorem dX1_foldAll_65 : decode cX1_foldAll 65 = .ok (.getfield 31, 3) := by decide +kernel
theorem dX1_foldAll_68 : decode cX1_foldAll 68 = .ok (.aload_n 0, 1) := by decide +kernel
theorem dX1_foldAll_69 : decode cX1_foldAll 69 = .ok (.getfield 34, 3) := by decide +kernel
theorem dX1_foldAll_72 : decode cX1_foldAll 72 = .ok (.iconst 3, 1) := by decide +kernel
theorem dX1_foldAll_73 : decode cX1_foldAll 73 = .ok (.imul, 1) := by decide +kernel
theorem dX1_foldAll_74 : decode cX1_foldAll 74 = .ok (.iconst 2, 1) := by decide +kernel
theorem dX1_foldAll_75 : decode cX1_foldAll 75 = .ok (.iadd, 1) := by decide +kernel
theorem dX1_foldAll_76 : decode cX1_foldAll 76 = .ok (.aload_n 1, 1) := by decide +kernel
theorem dX1_foldAll_77 : decode cX1_foldAll 77 = .ok (.getfield 83, 3) := by decide +kernel
theorem dX1_foldAll_80 : decode cX1_foldAll 80 = .ok (.iastore, 1) := by decide +kernel
theorem dX1_foldAll_81 : decode cX1_foldAll 81 = .ok (.aload_n 0, 1) := by decide +kernel
theorem dX1_foldAll_82 : decode cX1_foldAll 82 = .ok (.dup, 1) := by decide +kernel
theorem dX1_foldAll_83 : decode cX1_foldAll 83 = .ok (.getfield 34, 3) := by decide +kernel
theorem dX1_foldAll_86 : decode cX1_foldAll 86 = .ok (.iconst 1, 1) := by decide +kernel
theorem dX1_foldAll_87 : decode cX1_foldAll 87 = .ok (.iadd, 1) := by decide +kernel
theorem dX1_foldAll_88 : decode cX1_foldAll 88 = .ok (.putfield 34, 3) := by decide +kernel
theorem dX1_foldAll_91 : decode cX1_foldAll 91 = .ok (.iinc 2 1, 3) := by decide +kernel
theorem dX1_foldAll_94 : decode cX1_foldAll 94 = .ok (.goto (-87), 3) := by decide +kernel
theorem dX1_foldAll_97 : decode cX1_foldAll 97 = .ok (.return_, 1) := by decide +kernel
theorem dX1_has_0 : decode cX1_has 0 = .ok (.iconst 0, 1) := by decide +kernel
theorem dX1_has_1 : decode cX1_has 1 = .ok (.istore_n 2, 1) := by decide +kernel
theorem dX1_has_2 : decode cX1_has 2 = .ok (.iload_n 2, 1) := by decide +kernel
theorem dX1_has_3 : decode cX1_has 3 = .ok (.aload_n 0, 1) := by decide +kernel
theorem dX1_has_4 : decode cX1_has 4 = .ok (.getfield 18, 3) := by decide +kernel
theorem dX1_has_7 : decode cX1_has 7 = .ok (.if_icmp .ge 21, 3) := by decide +kernel
theorem dX1_has_10 : decode cX1_has 10 = .ok (.aload_n 0, 1) := by decide +kernel
theorem dX1_has_11 : decode cX1_has 11 = .ok (.getfield 9, 3) := by decide +kernel
theorem dX1_has_14 : decode cX1_has 14 = .ok (.iload_n 2, 1) := by decide +kernel
theorem dX1_has_15 : decode cX1_has 15 = .ok (.iaload, 1) := by decide +kernel
theorem dX1_has_16 : decode cX1_has 16 = .ok (.iload_n 1, 1) := by decide +kernel
theorem dX1_has_17 : decode cX1_has 17 = .ok (.if_icmp .ne 5, 3) := by decide +kernel
theorem dX1_has_20 : decode cX1_has 20 = .ok (.iconst 1, 1) := by decide +kernel
theorem dX1_has_21 : decode cX1_has 21 = .ok (.ireturn, 1) := by decide +kernel
theorem dX1_has_22 : decode cX1_has 22 = .ok (.iinc 2 1, 3) := by decide +kernel
theorem dX1_has_25 : decode cX1_has 25 = .ok (.goto (-23), 3) := by decide +kernel
theorem dX1_has_28 : decode cX1_has 28 = .ok (.iconst 0, 1) := by decide +kernel
theorem dX1_has_29 : decode cX1_has 29 = .ok (.ireturn, 1) := by decide +kernel
theorem dX1_longestCommon_0 : decode cX1_longestCommon 0 = .ok (.aload_n 0, 1) := by decide +kernel
theorem dX1_longestCommon_1 : decode cX1_longestCommon 1 = .ok (.getfield 44, 3) := by decide +kernel
theorem dX1_longestCommon_4 : decode cX1_longestCommon 4 = .ok (.iconst 0, 1) := by decide +kernel
theorem dX1_longestCommon_5 : decode cX1_longestCommon 5 = .ok (.invokestatic 86, 3) := by decide +kernel
theorem dX1_longestCommon_8 : decode cX1_longestCommon 8 = .ok (.iconst 0, 1) := by decide +kernel
theorem dX1_longestCommon_9 : decode cX1_longestCommon 9 = .ok (.istore_n 2, 1) := by decide +kernel
theorem dX1_longestCommon_10 : decode cX1_longestCommon 10 = .ok (.iload_n 2, 1) := by decide +kernel
theorem dX1_longestCommon_11 : decode cX1_longestCommon 11 = .ok (.aload_n 0, 1) := by decide +kernel
theorem dX1_longestCommon_12 : decode cX1_longestCommon 12 = .ok (.getfield 18, 3) := by decide +kernel
theorem dX1_longestCommon_15 : decode cX1_longestCommon 15 = .ok (.if_icmp .ge 86, 3) := by decide +kernel
theorem dX1_longestCommon_18 : decode cX1_longestCommon 18 = .ok (.iconst 0, 1) := by decide +kernel
theorem dX1_longestCommon_19 : decode cX1_longestCommon 19 = .ok (.istore_n 3, 1) := by decide +kernel
theorem dX1_longestCommon_20 : decode cX1_longestCommon 20 = .ok (.iconst 0, 1) := by decide +kernel
theorem dX1_longestCommon_21 : decode cX1_longestCommon 21 = .ok (.istore 4, 2) := by decide +kernel
theorem dX1_longestCommon_23 : decode cX1_longestCommon 23 = .ok (.iload 4, 2) := by decide +kernel
theorem dX1_longestCommon_25 : decode cX1_longestCommon 25 = .ok (.aload_n 1, 1) := by decide +kernel
theorem dX1_longestCommon_26 : decode cX1_longestCommon 26 = .ok (.getfield 18, 3) := by decide +kernel
theorem dX1_longestCommon_29 : decode cX1_longestCommon 29 = .ok (.if_icmp .ge 66, 3) := by decide +kernel
theorem dX1_longestCommon_32 : decode cX1_longestCommon 32 = .ok (.aload_n 0, 1) := by decide +kernel
theorem dX1_longestCommon_33 : decode cX1_longestCommon 33 = .ok (.getfield 44, 3) := by decide +kernel
theorem dX1_longestCommon_36 : decode cX1_longestCommon 36 = .ok (.iload 4, 2) := by decide +kernel
theorem dX1_longestCommon_38 : decode cX1_longestCommon 38 = .ok (.iconst 1, 1) := by decide +kernel
theorem dX1_longestCommon_39 : decode cX1_longestCommon 39 = .ok (.iadd, 1) := by decide +kernel
theorem dX1_longestCommon_40 : decode cX1_longestCommon 40 = .ok (.iaload, 1) := by decide +kernel
theorem dX1_longestCommon_41 : decode cX1_longestCommon 41 = .ok (.istore 5, 2) := by decide +kernel
theorem dX1_longestCommon_43 : decode cX1_longestCommon 43 = .ok (.aload_n 0, 1) := by decide +kernel
theorem dX1_longestCommon_44 : decode cX1_longestCommon 44 = .ok (.getfield 44, 3) := by decide +kernel
theorem dX1_longestCommon_47 : decode cX1_longestCommon 47 = .ok (.iload 4, 2) := by decide +kernel
theorem dX1_longestCommon_49 : decode cX1_longestCommon 49 = .ok (.iconst 1, 1) := by decide +kernel
theorem dX1_longestCommon_50 : decode cX1_longestCommon 50 = .ok (.iadd, 1) := by decide +kernel
theorem dX1_longestCommon_51 : decode cX1_longestCommon 51 = .ok (.aload_n 0, 1) := by decide +kernel
theorem dX1_longestCommon_52 : decode cX1_longestCommon 52 = .ok (.getfield 9, 3) := by decide +kernel
theorem dX1_longestCommon_55 : decode cX1_longestCommon 55 = .ok (.iload_n 2, 1) := by decide +kernel
theorem dX1_longestCommon_56 : decode cX1_longestCommon 56 = .ok (.iaload, 1) := by decide +kernel
theorem dX1_longestCommon_57 : decode cX1_longestCommon 57 = .ok (.aload_n 1, 1) := by decide +kernel
theorem dX1_longestCommon_58 : decode cX1_longestCommon 58 = .ok (.getfield 9, 3) := by decide +kernel
theorem dX1_longestCommon_61 : decode cX1_longestCommon 61 = .ok (.iload 4, 2) := by decide +kernel
theorem dX1_longestCommon_63 : decode cX1_longestCommon 63 = .ok (.iaload, 1) := by decide +kernel
theorem dX1_longestCommon_64 : decode cX1_longestCommon 64 = .ok (.if_icmp .ne 9, 3) := by decide +kernel
theorem dX1_longestCommon_67 : decode cX1_longestCommon 67 = .ok (.iload_n 3, 1) := by decide +kernel
theorem dX1_longestCommon_68 : decode cX1_longestCommon 68 = .ok (.iconst 1, 1) := by decide +kernel
theorem dX1_longestCommon_69 : decode cX1_longestCommon 69 = .ok (.iadd, 1) := by decide +kernel
theorem dX1_longestCommon_70 : decode cX1_longestCommon 70 = .ok (.goto 15, 3) := by decide +kernel
theorem dX1_longestCommon_73 : decode cX1_longestCommon 73 = .ok (.iload 5, 2) := by decide +kernel
theorem dX1_longestCommon_75 : decode cX1_longestCommon 75 = .ok (.aload_n 0, 1) := by decide +kernel
theorem dX1_longestCommon_76 : decode cX1_longestCommon 76 = .ok (.getfield 44, 3) := by decide +kernel
theorem dX1_longestCommon_79 : decode cX1_longestCommon 79 = .ok (.iload 4, 2) := by decide +kernel
theorem dX1_longestCommon_81 : decode cX1_longestCommon 81 = .ok (.iaload, 1) := by decide +kernel
theorem dX1_longestCommon_82 : decode cX1_longestCommon 82 = .ok (.invokestatic 92, 3) := by decide +kernel
theorem dX1_longestCommon_85 : decode cX1_longestCommon 85 = .ok (.iastore, 1) := by decide +kernel
theorem dX1_longestCommon_86 : decode cX1_longestCommon 86 = .ok (.iload 5, 2) := by decide +kernel
theorem dX1_longestCommon_88 : decode cX1_longestCommon 88 = .ok (.istore_n 3, 1) := by decide +kernel
theorem dX1_longestCommon_89 : decode cX1_longestCommon 89 = .ok (.iinc 4 1, 3) := by decide +kernel
theorem dX1_longestCommon_92 : decode cX1_longestCommon 92 = .ok (.goto (-69), 3) := by decide +kernel
theorem dX1_longestCommon_95 : decode cX1_longestCommon 95 = .ok (.iinc 2 1, 3) := by decide +kernel
theorem dX1_longestCommon_98 : decode cX1_longestCommon 98 = .ok (.goto (-88), 3) := by decide +kernel
theorem dX1_longestCommon_101 : decode cX1_longestCommon 101 = .ok (.aload_n 0, 1) := by decide +kernel
theorem dX1_longestCommon_102 : decode cX1_longestCommon 102 = .ok (.getfield 44, 3) := by decide +kernel
theorem dX1_longestCommon_105 : decode cX1_longestCommon 105 = .ok (.aload_n 1, 1) := by decide +kernel
theorem dX1_longestCommon_106 : decode cX1_longestCommon 106 = .ok (.getfield 18, 3) := by decide +kernel
theorem dX1_longestCommon_109 : decode cX1_longestCommon 109 = .ok (.iaload, 1) := by decide +kernel
theorem dX1_longestCommon_110 : decode cX1_longestCommon 110 = .ok (.ireturn, 1) := by decide +kernel
theorem dX3_restore_0 : decode cX3_restore 0 = .ok (.aload_n 0, 1) := by decide +kernel
theorem dX3_restore_1 : decode cX3_restore 1 = .ok (.aload_n 0, 1) := by decide +kernel
theorem dX3_restore_2 : decode cX3_restore 2 = .ok (.getfield 23, 3) := by decide +kernel
theorem dX3_restore_5 : decode cX3_restore 5 = .ok (.bipush 16, 2) := by decide +kernel
theorem dX3_restore_7 : decode cX3_restore 7 = .ok (.iadd, 1) := by decide +kernel
theorem dX3_restore_8 : decode cX3_restore 8 = .ok (.iconst 1, 1) := by decide +kernel
theorem dX3_restore_9 : decode cX3_restore 9 = .ok (.isub, 1) := by decide +kernel
theorem dX3_restore_10 : decode cX3_restore 10 = .ok (.bipush 16, 2) := by decide +kernel
theorem dX3_restore_12 : decode cX3_restore 12 = .ok (.irem, 1) := by decide +kernel
theorem dX3_restore_13 : decode cX3_restore 13 = .ok (.putfield 23, 3) := by decide +kernel
theorem dX3_restore_16 : decode cX3_restore 16 = .ok (.aload_n 0, 1) := by decide +kernel
theorem dX3_restore_17 : decode cX3_restore 17 = .ok (.aload_n 0, 1) := by decide +kernel
theorem dX3_restore_18 : decode cX3_restore 18 = .ok (.getfield 27, 3) := by decide +kernel
theorem dX3_restore_21 : decode cX3_restore 21 = .ok (.iconst 1, 1) := by decide +kernel
theorem dX3_restore_22 : decode cX3_restore 22 = .ok (.isub, 1) := by decide +kernel
theorem dX3_restore_23 : decode cX3_restore 23 = .ok (.iconst 0, 1) := by decide +kernel
theorem dX3_restore_24 : decode cX3_restore 24 = .ok (.invokestatic 50, 3) := by decide +kernel
theorem dX3_restore_27 : decode cX3_restore 27 = .ok (.putfield 27, 3) := by decide +kernel
theorem dX3_restore_30 : decode cX3_restore 30 = .ok (.aload_n 1, 1) := by decide +kernel
theorem dX3_restore_31 : decode cX3_restore 31 = .ok (.aload_n 0, 1) := by decide +kernel
theorem dX3_restore_32 : decode cX3_restore 32 = .ok (.getfield 11, 3) := by decide +kernel
theorem dX3_restore_35 : decode cX3_restore 35 = .ok (.aload_n 0, 1) := by decide +kernel
theorem dX3_restore_36 : decode cX3_restore 36 = .ok (.getfield 23, 3) := by decide +kernel
theorem dX3_restore_39 : decode cX3_restore 39 = .ok (.aaload, 1) := by decide +kernel
theorem dX3_restore_40 : decode cX3_restore 40 = .ok (.aload_n 0, 1) := by decide +kernel
theorem dX3_restore_41 : decode cX3_restore 41 = .ok (.getfield 16, 3) := by decide +kernel
theorem dX3_restore_44 : decode cX3_restore 44 = .ok (.aload_n 0, 1) := by decide +kernel
theorem dX3_restore_45 : decode cX3_restore 45 = .ok (.getfield 23, 3) := by decide +kernel
theorem dX3_restore_48 : decode cX3_restore 48 = .ok (.iaload, 1) := by decide +kernel
theorem dX3_restore_49 : decode cX3_restore 49 = .ok (.invokevirtual 53, 3) := by decide +kernel
theorem dX3_restore_52 : decode cX3_restore 52 = .ok (.aload_n 0, 1) := by decide +kernel
theorem dX3_restore_53 : decode cX3_restore 53 = .ok (.getfield 20, 3) := by decide +kernel
theorem dX3_restore_56 : decode cX3_restore 56 = .ok (.aload_n 0, 1) := by decide +kernel
theorem dX3_restore_57 : decode cX3_restore 57 = .ok (.getfield 23, 3) := by decide +kernel
theorem dX3_restore_60 : decode cX3_restore 60 = .ok (.iaload, 1) := by decide +kernel
theorem dX3_restore_61 : decode cX3_restore 61 = .ok (.ireturn, 1) := by decide +kernel
theorem dX3_save_0 : decode cX3_save 0 = .ok (.aload_n 1, 1) := by decide +kernel
theorem dX3_save_1 : decode cX3_save 1 = .ok (.getfield 30, 3) := by decide +kernel
theorem dX3_save_4 : decode cX3_save 4 = .ok (.iconst 0, 1) := by decide +kernel
theorem dX3_save_5 : decode cX3_save 5 = .ok (.aload_n 0, 1) := by decide +kernel
theorem dX3_save_6 : decode cX3_save 6 = .ok (.getfield 11, 3) := by decide +kernel
theorem dX3_save_9 : decode cX3_save 9 = .ok (.aload_n 0, 1) := by decide +kernel
theorem dX3_save_10 : decode cX3_save 10 = .ok (.getfield 23, 3) := by decide +kernel
theorem dX3_save_13 : decode cX3_save 13 = .ok (.aaload, 1) := by decide +kernel
theorem dX3_save_14 : decode cX3_save 14 = .ok (.iconst 0, 1) := by decide +kernel
theorem dX3_save_15 : decode cX3_save 15 = .ok (.aload_n 1, 1) := by decide +kernel
theorem dX3_save_16 : decode cX3_save 16 = .ok (.getfield 35, 3) := by decide +kernel
theorem dX3_save_19 : decode cX3_save 19 = .ok (.invokestatic 38, 3) := by decide +kernel
theorem dX3_save_22 : decode cX3_save 22 = .ok (.aload_n 0, 1) := by decide +kernel
theorem dX3_save_23 : decode cX3_save 23 = .ok (.getfield 16, 3) := by decide +kernel
theorem dX3_save_26 : decode cX3_save 26 = .ok (.aload_n 0, 1) := by decide +kernel
theorem dX3_save_27 : decode cX3_save 27 = .ok (.getfield 23, 3) := by decide +kernel
theorem dX3_save_30 : decode cX3_save 30 = .ok (.aload_n 1, 1) := by decide +kernel
theorem dX3_save_31 : decode cX3_save 31 = .ok (.getfield 35, 3) := by decide +kernel
theorem dX3_save_34 : decode cX3_save 34 = .ok (.iastore, 1) := by decide +kernel
theorem dX3_save_35 : decode cX3_save 35 = .ok (.aload_n 0, 1) := by decide +kernel
theorem dX3_save_36 : decode cX3_save 36 = .ok (.getfield 20, 3) := by decide +kernel
theorem dX3_save_39 : decode cX3_save 39 = .ok (.aload_n 0, 1) := by decide +kernel
theorem dX3_save_40 : decode cX3_save 40 = .ok (.getfield 23, 3) := by decide +kernel
theorem dX3_save_43 : decode cX3_save 43 = .ok (.iload_n 2, 1) := by decide +kernel
theorem dX3_save_44 : decode cX3_save 44 = .ok (.iastore, 1) := by decide +kernel
theorem dX3_save_45 : decode cX3_save 45 = .ok (.aload_n 0, 1) := by decide +kernel
theorem dX3_save_46 : decode cX3_save 46 = .ok (.aload_n 0, 1) := by decide +kernel
theorem dX3_save_47 : decode cX3_save 47 = .ok (.getfield 23, 3) := by decide +kernel
theorem dX3_save_50 : decode cX3_save 50 = .ok (.iconst 1, 1) := by decide +kernel
theorem dX3_save_51 : decode cX3_save 51 = .ok (.iadd, 1) := by decide +kernel
theorem dX3_save_52 : decode cX3_save 52 = .ok (.bipush 16, 2) := by decide +kernel
theorem dX3_save_54 : decode cX3_save 54 = .ok (.irem, 1) := by decide +kernel
theorem dX3_save_55 : decode cX3_save 55 = .ok (.putfield 23, 3) := by decide +kernel
theorem dX3_save_58 : decode cX3_save 58 = .ok (.aload_n 0, 1) := by decide +kernel
theorem dX3_save_59 : decode cX3_save 59 = .ok (.aload_n 0, 1) := by decide +kernel
theorem dX3_save_60 : decode cX3_save 60 = .ok (.getfield 27, 3) := by decide +kernel
theorem dX3_save_63 : decode cX3_save 63 = .ok (.iconst 1, 1) := by decide +kernel
theorem dX3_save_64 : decode cX3_save 64 = .ok (.iadd, 1) := by decide +kernel
theorem dX3_save_65 : decode cX3_save 65 = .ok (.bipush 16, 2) := by decide +kernel
theorem dX3_save_67 : decode cX3_save 67 = .ok (.invokestatic 44, 3) := by decide +kernel
theorem dX3_save_70 : decode cX3_save 70 = .ok (.putfield 27, 3) := by decide +kernel
theorem dX3_save_73 : decode cX3_save 73 = .ok (.return_, 1) := by decide +kernel
/-! a leaf is folded, and asked; what can be taken back -/
def FoB (b x y : Nat) : Prop := (x = b ∧ y = 5) ∨ x = b + 9 ∨ LTq (b + 3) x y
/-- what can be taken back, as it stands between calls -/
def pstOK (μ : va_M) : Prop := ((0 ≤ μ 18 3 ∧ μ 18 3 < 16) ∧ 0 ≤ μ 18 4 ∧ μ 18 4 ≤ 16) ∧ ∀ k : Nat, k < 16 → sgA μ (20 + k) ∧ ∃ w : Rw, rW0 w ∧ SA μ (20 + k) w 0 ∧ μ 36 k = sL w ∧ sL w ≤ 1100
def PaB (x y : Nat) : Prop := (x = 18 ∧ (y = 3 ∨ y = 4)) ∨ (20 ≤ x ∧ x ≤ 37)
theorem pst_fr {μ u : va_M} (h : pstOK μ) (hf : ∀ x y, 18 ≤ x → x < 38 → u x y = μ x y) : pstOK u := by
  refine ⟨by rw [hf 18 3 (by decide) (by decide), hf 18 4 (by decide) (by decide)]; exact h.1, fun k hk => ?_⟩
  obtain ⟨h1, w, h2, h3, h4, h5⟩ := h.2 k hk
  exact ⟨fun i => by rw [hf _ _ (by (first | ((try clear i); (try clear h5); (try clear h4); (try clear h3); (try clear h2); (try clear h1); (try clear hf); omega) | omega)) (by (first | ((try clear i); (try clear h5); (try clear h4); (try clear h3); (try clear h2); (try clear h1); (try clear hf); omega) | omega))]; exact h1 i, w, h2, SA_fr (fun y => hf _ _ (by (first | ((try clear y); (try clear i); (try clear h5); (try clear h4); (try clear h3); (try clear h2); (try clear h1); (try clear hf); omega) | omega)) (by (first | ((try clear y); (try clear i); (try clear h5); (try clear h4); (try clear h3); (try clear h2); (try clear h1); (try clear hf); omega) | omega))) w 0 h3, by rw [hf _ _ (by decide) (by decide)]; exact h4, h5⟩
set_option maxHeartbeats 4000000 in
set_option maxRecDepth 100000 in
theorem LX1_has_2 {p : Program} {l : Launch} {e : Env} {R : Room} {s : State} {m : MethodId} {args : Array Value} {below : List Frame} {meth : Method} {c : Code} {cells slots : Nat} {Q : State → Prop} {dC : Nat → ClassId} {dI : Nat → Nat → Nat} {h0 : Nat} {cI cZ cII cIII : ClassId} (hx : p.tables.exec = Jvm.exec) (hb : c.code = cX1_has) (hml : c.maxLocals = 3) (hown : s.vm.findClass RX1 = some m.cls) (hts : ∀ w ∈ wsG, w.before args s = true) (hK : va_K (dC, dI) vwCl (sT cI cZ cII cIII) s) (hM : xM s) (hRf : 1 ≤ R.frames) (hRl : 14 ≤ R.locals) (hRc : cells ≤ R.cells) (hRs : slots ≤ R.slots) (μ0 : va_M) (b : Nat) (ii : Nat) (tk : Int) (hb9 : b = 113 + ii * 15) (hi9 : ii < 8) (hlf : lfOK μ0 b) (htk : inR tk) (hexit20 : ∀ (i : Int) (μ : va_M) (H : Heap) (locs : List Loc) (ls : Array Slot), (μ = μ0) → va_P (dC, dI) vwCl (fw (sE cI cZ cII cIII h0) h0 233 μ) H → va_S (fA h0 233 s.heap.size) s.heap H locs → lv_has ls 3 [] → W p l e R s m args below meth c H locs cells slots Q (F0 m 20 ls [])) (hexit28 : ∀ (i : Int) (μ : va_M) (H : Heap) (locs : List Loc) (ls : Array Slot), (μ = μ0) → va_P (dC, dI) vwCl (fw (sE cI cZ cII cIII h0) h0 233 μ) H → va_S (fA h0 233 s.heap.size) s.heap H locs → lv_has ls 3 [] → W p l e R s m args below meth c H locs cells slots Q (F0 m 28 ls [])) :
    ∀ (n9 : Nat) (i : Int) (μ : va_M) (H : Heap) (locs : List Loc) (ls : Array Slot), (μ = μ0) → (0 ≤ i ∧ i ≤ 60) → (61 - i).toNat < n9 → va_P (dC, dI) vwCl (fw (sE cI cZ cII cIII h0) h0 233 μ) H → va_S (fA h0 233 s.heap.size) s.heap H locs → lv_has ls 3 [(2, .int (iZ (i))), (1, .int (iZ (tk))), (0, .ref (h0 + b))] → W p l e R s m args below meth c H locs cells slots Q (F0 m 2 ls []) := by
  intro n9
  induction n9 with
  | zero => intro i μ H locs ls hm9_ hi hm9 hP hS hl; exact absurd hm9 (Nat.not_lt_zero _)
  | succ n9 ih =>
    intro i μ H locs ls hm9_ hi hm9 hP hS hl
    subst hm9_
    have hlb := lf_b hb9 hi9
    obtain ⟨l1_, l2_, l3_, l4_⟩ := hlf
    refine lv_iload_n hx hb dX1_has_2 rfl (lv_at hl 0 rfl) ?_
    refine lv_aload_n hx hb dX1_has_3 rfl (lv_at hl 2 rfl) ?_
    refine fz_get (D := (dC, dI)) (ci := 1) (v := .int (iZ (μ b 2))) (C := RX1) (T := TX1) (N := 8) hx hb hts inG1 hown hK hP (k := b) (by (first | ((try clear l4_); (try clear l3_); (try clear l2_); (try clear l1_); (try clear hlb); (try clear hm9); (try clear hi); (try clear hm9_); (try clear hexit28); (try clear hexit20); (try clear hRs); (try clear hRc); (try clear hRl); (try clear hRf); omega) | omega)) (F := (sLF h0 b)) (sE_leafO hi9 hb9) rfl 2 (by decide) (hts _ k300) (fun _ h9 => h9) rfl dX1_has_4 ?_
    refine fz_icmp_ge (tgt := 28) (by constructor <;> (first | ((try clear l4_); (try clear l3_); (try clear l2_); (try clear l1_); (try clear hlb); (try clear hm9); (try clear hm9_); (try clear hexit28); (try clear hexit20); (try clear hi9); (try clear hb9); (try clear hRs); (try clear hRc); (try clear hRl); (try clear hRf); omega) | omega)) (by constructor <;> (first | ((try clear l4_); (try clear l3_); (try clear l2_); (try clear hlb); (try clear hm9); (try clear hi); (try clear hm9_); (try clear hexit28); (try clear hexit20); (try clear hi9); (try clear hb9); (try clear hRs); (try clear hRc); (try clear hRl); (try clear hRf); omega) | omega)) hx hb dX1_has_7 (by decide) (fun c7_ => ?_) (fun c7_ => ?_)
    · exact hexit28 (i) μ H locs ls (by rfl) hP hS (lv_sub hl [] rfl)
    · have ht := l2_ i.toNat
      refine lv_aload_n hx hb dX1_has_10 rfl (lv_at hl 2 rfl) ?_
      refine fz_get (D := (dC, dI)) (ci := 1) (v := .ref (h0 + (b + 1))) (C := RX1) (T := TX1) (N := 8) hx hb hts inG1 hown hK hP (k := b) (by (first | ((try clear ht); (try clear c7_); (try clear l4_); (try clear l3_); (try clear l2_); (try clear l1_); (try clear hlb); (try clear hm9); (try clear hi); (try clear hm9_); (try clear hexit28); (try clear hexit20); (try clear hRs); (try clear hRc); (try clear hRl); (try clear hRf); omega) | omega)) (F := (sLF h0 b)) (sE_leafO hi9 hb9) rfl 0 (by decide) (hts _ k296) (fun _ h9 => h9) rfl dX1_has_11 ?_
      refine lv_iload_n hx hb dX1_has_14 rfl (lv_at hl 0 rfl) ?_
      refine fz_ld (k := (b + 1)) (n := 60) hx hb hK hP 0 (by (first | ((try clear ht); (try clear c7_); (try clear l4_); (try clear l3_); (try clear l2_); (try clear l1_); (try clear hlb); (try clear hm9); (try clear hi); (try clear hm9_); (try clear hexit28); (try clear hexit20); (try clear hRs); (try clear hRc); (try clear hRl); (try clear hRf); omega) | omega)) (sE_leafA 1 60 hi9 hb9 (by decide)) rfl ⟨by (first | ((try clear ht); (try clear c7_); (try clear l4_); (try clear l3_); (try clear l2_); (try clear l1_); (try clear hlb); (try clear hm9); (try clear hm9_); (try clear hexit28); (try clear hexit20); (try clear hi9); (try clear hb9); (try clear hRs); (try clear hRc); (try clear hRl); (try clear hRf); omega) | omega), by (first | ((try clear ht); (try clear l4_); (try clear l3_); (try clear l2_); (try clear hlb); (try clear hm9); (try clear hm9_); (try clear hexit28); (try clear hexit20); (try clear hi9); (try clear hb9); (try clear hRs); (try clear hRc); (try clear hRl); (try clear hRf); omega) | omega)⟩ (by decide) dX1_has_15 ?_
      refine lv_iload_n hx hb dX1_has_16 rfl (lv_at hl 1 rfl) ?_
      refine fz_icmp_ne (tgt := 22) (by first | (constructor <;> (first | ((try clear c7_); (try clear l4_); (try clear l3_); (try clear l2_); (try clear l1_); (try clear hlb); (try clear hm9); (try clear hi); (try clear hm9_); (try clear hexit28); (try clear hexit20); (try clear hi9); (try clear hb9); (try clear hRs); (try clear hRc); (try clear hRl); (try clear hRf); omega) | omega)) | exact htk) (by first | (constructor <;> (first | ((try clear ht); (try clear c7_); (try clear l4_); (try clear l3_); (try clear l2_); (try clear l1_); (try clear hlb); (try clear hm9); (try clear hi); (try clear hm9_); (try clear hexit28); (try clear hexit20); (try clear hi9); (try clear hb9); (try clear hRs); (try clear hRc); (try clear hRl); (try clear hRf); omega) | omega)) | exact htk) hx hb dX1_has_17 (by decide) (fun c17_ => ?_) (fun c17_ => ?_)
      · refine lv_iinc (v := iZ (i + 1)) (lv' := [(2, .int (iZ (i + 1))), (1, .int (iZ (tk))), (0, .ref (h0 + b))]) hx hb dX1_has_22 hl (k := 0) rfl (iZ_add _ _) (by decide) rfl (fun ls hl => ?_)
        refine lv_goto (tgt := 2) hx hb dX1_has_25 (by decide) ?_
        exact ih (i + 1) μ H locs ls (by rfl) (by (first | ((try clear c17_); (try clear ht); (try clear l4_); (try clear l3_); (try clear l2_); (try clear hlb); (try clear hm9); (try clear hm9_); (try clear hexit28); (try clear hexit20); (try clear hi9); (try clear hb9); (try clear hRs); (try clear hRc); (try clear hRl); (try clear hRf); omega) | omega)) (by (first | ((try clear ht); (try clear l4_); (try clear l3_); (try clear l2_); (try clear hlb); (try clear hm9_); (try clear hexit28); (try clear hexit20); (try clear hi9); (try clear hb9); (try clear hRs); (try clear hRc); (try clear hRl); (try clear hRf); omega) | omega)) hP hS (lv_sub hl [0, 1, 2] rfl)
      · exact hexit20 (i) μ H locs ls (by rfl) hP hS (lv_sub hl [] rfl)
set_option maxHeartbeats 4000000 in
set_option maxRecDepth 100000 in
theorem s_Fhas (l : Launch) (dC : Nat → ClassId) (dI : Nat → Nat → Nat) (cI cZ cII cIII : ClassId) (h0 sz : Nat) (μ : va_M) (b : Nat) (ii : Nat) (tk : Int) (hb9 : b = 113 + ii * 15) (hi9 : ii < 8) (hlf : lfOK μ b) (htk : inR tk) : Met l yX1_has (Cond.code yX1_has cX1_has 3 (some .boolean) :: wsG) ({ frames := 1, cells := 0, slots := 0, locals := 14 } : Room) (va_Pc [.ref (h0 + b), .int (iZ (tk))] (fun U => U.heap.size = sz ∧ va_P (dC, dI) vwCl (fw (sE cI cZ cII cIII h0) h0 233 μ) U.heap ∧ va_K (dC, dI) vwCl (sT cI cZ cII cIII) U ∧ xM U)) (va_Qi (fun (r9 : Int32) (u : va_M × Int) => r9 = iZ u.2 ∧ (fun (u : va_M) (r : Int) => u = μ ∧ (r = 0 ∨ r = 1)) u.1 u.2) (fun u t => va_P (dC, dI) vwCl (fw (sE cI cZ cII cIII h0) h0 233 u.1) t.heap ∧ va_K (dC, dI) vwCl (sT cI cZ cII cIII) t) (fA h0 233 sz)) 0 0 (fA h0 233 sz) := by
  refine Met.ofW (cc := cX1_has) (maxL := 3) (ret := (some .boolean)) (by decide) rfl ?_
  intro p e s m args below meth c s₁ B hml hv
  obtain ⟨rfl, hsz, hP, hK, hM⟩ := hv
  have hx := B.exec
  have hb := B.bytes
  have hr := B.returns
  have hts : ∀ w ∈ wsG, w.before _ s = true := hG_of (atoms_spec (ws := (Cond.code yX1_has cX1_has 3 (some .boolean) :: wsG)) B.pre)
  have hown : s.vm.findClass RX1 = some m.cls := findClass_of_methodNamed B.named
  have hlocks := B.notSynchronized
  subst hsz
  have hS : va_S (fA h0 233 s.heap.size) s.heap s.heap [] := va_S.rf
  have hl := lv_entry ([.ref (h0 + b), .int (iZ (tk))]) (n := 3) (Nat.le_of_ble_eq_true rfl)
  rw [lg_entry_eq]
  generalize (lg_sl ([.ref (h0 + b), .int (iZ (tk))]) ++ List.replicate (3 - (lg_sl ([.ref (h0 + b), .int (iZ (tk))])).length) Slot.unset).toArray = ls at hl ⊢
  have hl : lv_has ls 3 [(0, .ref (h0 + b)), (1, .int (iZ (tk)))] := hl
  have hlb := lf_b hb9 hi9
  refine lv_iconst (v := iZ 0) hx hb dX1_has_0 rfl ?_
  refine lv_istore_n (lv' := [(2, .int (iZ (0))), (0, .ref (h0 + b)), (1, .int (iZ (tk)))]) hx hb dX1_has_1 rfl hl (by decide) rfl (fun ls hl => ?_)
  refine LX1_has_2 hx hb hml hown hts hK hM (Nat.le_of_ble_eq_true rfl) (Nat.le_of_ble_eq_true rfl) (Nat.le_of_ble_eq_true rfl) (Nat.le_of_ble_eq_true rfl) (μ) (b) (ii) (tk) (by assumption) (by assumption) (by exact hlf) (by assumption) ?_ ?_ _ (0) μ s.heap [] ls (by rfl) (by decide) (Nat.lt_succ_self _) hP hS (lv_sub hl [0, 2, 1] rfl)
  · intro i_1 μ1_ H locs ls q1_1 hP hS hl
    have hl : lv_has ls 3 [] := hl
    have hPn20 := hP
    obtain rfl := q1_1
    have hP := hPn20
    refine lv_iconst (v := iZ 1) hx hb dX1_has_20 rfl ?_
    exact W.zret (v := iZ (1)) hx hb hr (by decide +kernel) (fun t9 ht9 hW9 => ⟨⟨iZ (1), (μ1_, 1), rfl, ⟨rfl, (by
                dsimp only
                exact ⟨rfl, by (first | ((try clear hPn20); (try clear q1_1); (try clear μ1_); (try clear i_1); (try clear hlb); (try clear hsz); (try clear s₁); (try clear hi9); (try clear hb9); omega) | omega)⟩)⟩, by rw [ht9]; exact hP, va_K.moved hW9.alike hK⟩, hS.F ht9⟩) hS.2.2 dX1_has_21
  · intro i_2 μ2_ H locs ls q3_2 hP hS hl
    have hl : lv_has ls 3 [] := hl
    have hPn28 := hP
    obtain rfl := q3_2
    have hP := hPn28
    refine lv_iconst (v := iZ 0) hx hb dX1_has_28 rfl ?_
    exact W.zret (v := iZ (0)) hx hb hr (by decide +kernel) (fun t9 ht9 hW9 => ⟨⟨iZ (0), (μ2_, 0), rfl, ⟨rfl, (by
                dsimp only
                exact ⟨rfl, by (first | ((try clear hPn28); (try clear q3_2); (try clear μ2_); (try clear i_2); (try clear hlb); (try clear hsz); (try clear s₁); (try clear hi9); (try clear hb9); omega) | omega)⟩)⟩, by rw [ht9]; exact hP, va_K.moved hW9.alike hK⟩, hS.F ht9⟩) hS.2.2 dX1_has_29
set_option maxHeartbeats 4000000 in
set_option maxRecDepth 100000 in
theorem LX1_longestCommon_23 {p : Program} {l : Launch} {e : Env} {R : Room} {s : State} {m : MethodId} {args : Array Value} {below : List Frame} {meth : Method} {c : Code} {cells slots : Nat} {Q : State → Prop} {dC : Nat → ClassId} {dI : Nat → Nat → Nat} {h0 : Nat} {cI cZ cII cIII : ClassId} (hx : p.tables.exec = Jvm.exec) (hb : c.code = cX1_longestCommon) (hml : c.maxLocals = 6) (hown : s.vm.findClass RX1 = some m.cls) (hts : ∀ w ∈ wsG, w.before args s = true) (hK : va_K (dC, dI) vwCl (sT cI cZ cII cIII) s) (hM : xM s) (hRf : 2 ≤ R.frames) (hRl : 37 ≤ R.locals) (hRc : cells ≤ R.cells) (hRs : slots ≤ R.slots) (μ0 : va_M) (b : Nat) (ii : Nat) (b2 : Nat) (i2 : Nat) (i : Int) (hb9 : b = 113 + ii * 15) (hi9 : ii < 8) (hb2 : b2 = 113 + i2 * 15) (hi2 : i2 < 8) (hn1 : 0 ≤ μ0 b 2 ∧ μ0 b 2 ≤ 60) (hn2 : 0 ≤ μ0 b2 2 ∧ μ0 b2 2 ≤ 60) (ht1 : ∀ j, 0 ≤ μ0 (b + 1) j ∧ μ0 (b + 1) j < 200) (ht2 : ∀ j, 0 ≤ μ0 (b2 + 1) j ∧ μ0 (b2 + 1) j < 200) (hii : 0 ≤ i ∧ i < μ0 b 2) (hexit95 : ∀ (j : Int) (di : Int) (μ : va_M) (H : Heap) (locs : List Loc) (ls : Array Slot), (fr (fun x _ => x = b + 14) μ0 μ) → (∀ k : Nat, k < 61 → 0 ≤ μ (b + 14) k ∧ μ (b + 14) k ≤ i + 1) → va_P (dC, dI) vwCl (fw (sE cI cZ cII cIII h0) h0 233 μ) H → va_S (fA h0 233 s.heap.size) s.heap H locs → lv_has ls 6 [(2, .int (iZ (i))), (1, .ref (h0 + b2)), (0, .ref (h0 + b))] → W p l e R s m args below meth c H locs cells slots Q (F0 m 95 ls [])) :
    ∀ (n9 : Nat) (j : Int) (di : Int) (μ : va_M) (H : Heap) (locs : List Loc) (ls : Array Slot), (0 ≤ j ∧ j ≤ μ0 b2 2) → (fr (fun x _ => x = b + 14) μ0 μ) → (∀ k : Nat, k < 61 → 0 ≤ μ (b + 14) k ∧ μ (b + 14) k ≤ i + 1) → (∀ k : Nat, k < 61 → j < k → μ (b + 14) k ≤ i) → (0 ≤ di ∧ di ≤ i) → (61 - j).toNat < n9 → va_P (dC, dI) vwCl (fw (sE cI cZ cII cIII h0) h0 233 μ) H → va_S (fA h0 233 s.heap.size) s.heap H locs → lv_has ls 6 [(4, .int (iZ (j))), (3, .int (iZ (di))), (2, .int (iZ (i))), (1, .ref (h0 + b2)), (0, .ref (h0 + b))] → W p l e R s m args below meth c H locs cells slots Q (F0 m 23 ls []) := by
  intro n9
  induction n9 with
  | zero => intro j di μ H locs ls hj hf hv hw hd hm9 hP hS hl; exact absurd hm9 (Nat.not_lt_zero _)
  | succ n9 ih =>
    intro j di μ H locs ls hj hf hv hw hd hm9 hP hS hl
    have hlb := lf_b hb9 hi9
    have hlb2 := lf_b hb2 hi2
    have xc : μ b 2 = μ0 b 2 := hf _ _ (by (first | ((try clear xc); (try clear hlb2); (try clear hlb); (try clear hm9); (try clear hd); (try clear hw); (try clear hf); (try clear hj); (try clear hexit95); (try clear hii); (try clear ht2); (try clear ht1); (try clear hn2); (try clear hn1); (try clear hi2); (try clear hb2); (try clear hi9); (try clear hb9); (try clear hRs); (try clear hRc); (try clear hRl); (try clear hRf); omega) | omega))
    have xc2 : μ b2 2 = μ0 b2 2 := hf _ _ (by (first | ((try clear xc2); (try clear xc); (try clear hlb2); (try clear hlb); (try clear hm9); (try clear hd); (try clear hw); (try clear hf); (try clear hj); (try clear hexit95); (try clear hii); (try clear ht2); (try clear ht1); (try clear hn2); (try clear hn1); (try clear hi2); (try clear hi9); (try clear hRs); (try clear hRc); (try clear hRl); (try clear hRf); omega) | omega))
    refine lv_iload hx hb dX1_longestCommon_23 (lv_at hl 0 rfl) ?_
    refine lv_aload_n hx hb dX1_longestCommon_25 rfl (lv_at hl 3 rfl) ?_
    refine fz_get (D := (dC, dI)) (ci := 1) (v := .int (iZ (μ b2 2))) (C := RX1) (T := TX1) (N := 8) hx hb hts inG1 hown hK hP (k := b2) (by (first | ((try clear xc2); (try clear xc); (try clear hlb2); (try clear hlb); (try clear hm9); (try clear hd); (try clear hw); (try clear hf); (try clear hj); (try clear hexit95); (try clear hii); (try clear ht2); (try clear ht1); (try clear hn2); (try clear hn1); (try clear hi9); (try clear hb9); (try clear hRs); (try clear hRc); (try clear hRl); (try clear hRf); omega) | omega)) (F := (sLF h0 b2)) (sE_leafO hi2 hb2) rfl 2 (by decide) (hts _ k300) (fun _ h9 => h9) rfl dX1_longestCommon_26 ?_
    refine fz_icmp_ge (tgt := 95) (by constructor <;> (first | ((try clear xc); (try clear hlb2); (try clear hlb); (try clear hm9); (try clear hd); (try clear hw); (try clear hf); (try clear hexit95); (try clear hii); (try clear ht2); (try clear ht1); (try clear hn1); (try clear hi2); (try clear hb2); (try clear hi9); (try clear hb9); (try clear hRs); (try clear hRc); (try clear hRl); (try clear hRf); omega) | omega)) (by constructor <;> (first | ((try clear xc); (try clear hlb2); (try clear hlb); (try clear hm9); (try clear hd); (try clear hw); (try clear hf); (try clear hj); (try clear hexit95); (try clear hii); (try clear ht2); (try clear ht1); (try clear hn1); (try clear hi2); (try clear hb2); (try clear hi9); (try clear hb9); (try clear hRs); (try clear hRc); (try clear hRl); (try clear hRf); omega) | omega)) hx hb dX1_longestCommon_29 (by decide) (fun c29_ => ?_) (fun c29_ => ?_)
    · exact hexit95 (j) (di) μ H locs ls (by exact hf) (by exact hv) hP hS (lv_sub hl [2, 3, 4] rfl)
    · have v1 := hv (j + 1).toNat (by (first | ((try clear v1); (try clear xc); (try clear hlb2); (try clear hlb); (try clear hm9); (try clear hd); (try clear hw); (try clear hf); (try clear hexit95); (try clear hii); (try clear ht2); (try clear ht1); (try clear hn1); (try clear hi2); (try clear hb2); (try clear hi9); (try clear hb9); (try clear hRs); (try clear hRc); (try clear hRl); (try clear hRf); omega) | omega))
      have v2 := hv j.toNat (by (first | ((try clear v2); (try clear v1); (try clear xc); (try clear hlb2); (try clear hlb); (try clear hm9); (try clear hd); (try clear hw); (try clear hf); (try clear hj); (try clear hexit95); (try clear hii); (try clear ht2); (try clear ht1); (try clear hn1); (try clear hi2); (try clear hb2); (try clear hi9); (try clear hb9); (try clear hRs); (try clear hRc); (try clear hRl); (try clear hRf); omega) | omega))
      have v3 := hw (j + 1).toNat (by (first | ((try clear v3); (try clear v2); (try clear v1); (try clear xc); (try clear hlb2); (try clear hlb); (try clear hm9); (try clear hd); (try clear hw); (try clear hf); (try clear hexit95); (try clear hii); (try clear ht2); (try clear ht1); (try clear hn1); (try clear hi2); (try clear hb2); (try clear hi9); (try clear hb9); (try clear hRs); (try clear hRc); (try clear hRl); (try clear hRf); omega) | omega)) (by (first | ((try clear v3); (try clear v2); (try clear v1); (try clear c29_); (try clear xc2); (try clear xc); (try clear hlb2); (try clear hlb); (try clear hm9); (try clear hd); (try clear hw); (try clear hf); (try clear hexit95); (try clear hii); (try clear ht2); (try clear ht1); (try clear hn2); (try clear hn1); (try clear hi2); (try clear hb2); (try clear hi9); (try clear hb9); (try clear hRs); (try clear hRc); (try clear hRl); (try clear hRf); omega) | omega))
      have t1_ : μ (b + 1) i.toNat = μ0 (b + 1) i.toNat := hf _ _ (by (first | ((try clear t1_); (try clear v3); (try clear v2); (try clear v1); (try clear c29_); (try clear xc2); (try clear xc); (try clear hlb2); (try clear hlb); (try clear hm9); (try clear hd); (try clear hw); (try clear hf); (try clear hj); (try clear hexit95); (try clear hii); (try clear ht2); (try clear ht1); (try clear hn2); (try clear hn1); (try clear hi2); (try clear hb2); (try clear hi9); (try clear hb9); (try clear hRs); (try clear hRc); (try clear hRl); (try clear hRf); omega) | omega))
      have t2_ : μ (b2 + 1) j.toNat = μ0 (b2 + 1) j.toNat := hf _ _ (by (first | ((try clear t2_); (try clear t1_); (try clear v3); (try clear v2); (try clear v1); (try clear c29_); (try clear xc2); (try clear xc); (try clear hlb2); (try clear hlb); (try clear hm9); (try clear hd); (try clear hw); (try clear hf); (try clear hj); (try clear hexit95); (try clear hii); (try clear ht2); (try clear ht1); (try clear hn2); (try clear hn1); (try clear hi2); (try clear hi9); (try clear hRs); (try clear hRc); (try clear hRl); (try clear hRf); omega) | omega))
      have u1_ := ht1 i.toNat
      have u2_ := ht2 j.toNat
      refine lv_aload_n hx hb dX1_longestCommon_32 rfl (lv_at hl 4 rfl) ?_
      refine fz_get (D := (dC, dI)) (ci := 1) (v := .ref (h0 + (b + 14))) (C := RX1) (T := TX1) (N := 8) hx hb hts inG1 hown hK hP (k := b) (by (first | ((try clear u2_); (try clear u1_); (try clear t2_); (try clear t1_); (try clear v3); (try clear v2); (try clear v1); (try clear c29_); (try clear xc2); (try clear xc); (try clear hlb2); (try clear hlb); (try clear hm9); (try clear hd); (try clear hw); (try clear hf); (try clear hj); (try clear hexit95); (try clear hii); (try clear ht2); (try clear ht1); (try clear hn2); (try clear hn1); (try clear hi2); (try clear hb2); (try clear hRs); (try clear hRc); (try clear hRl); (try clear hRf); omega) | omega)) (F := (sLF h0 b)) (sE_leafO hi9 hb9) rfl 7 (by decide) (hts _ k311) (fun _ h9 => h9) rfl dX1_longestCommon_33 ?_
      refine lv_iload hx hb dX1_longestCommon_36 (lv_at hl 0 rfl) ?_
      refine lv_iconst (v := iZ 1) hx hb dX1_longestCommon_38 rfl ?_
      refine lv_iadd hx hb dX1_longestCommon_39 ?_
      refine lv_topi (fun x9 ex9 => ?_)
      obtain rfl : x9 = iZ (j + 1) := ex9.trans (iZ_add _ _)
      refine fz_ld (k := (b + 14)) (n := 61) hx hb hK hP 0 (by (first | ((try clear ex9); (try clear u2_); (try clear u1_); (try clear t2_); (try clear t1_); (try clear v3); (try clear v2); (try clear v1); (try clear c29_); (try clear xc2); (try clear xc); (try clear hlb2); (try clear hlb); (try clear hm9); (try clear hd); (try clear hw); (try clear hf); (try clear hj); (try clear hexit95); (try clear hii); (try clear ht2); (try clear ht1); (try clear hn2); (try clear hn1); (try clear hi2); (try clear hb2); (try clear hRs); (try clear hRc); (try clear hRl); (try clear hRf); omega) | omega)) (sE_leafA 14 61 hi9 hb9 (by decide)) rfl ⟨by (first | ((try clear ex9); (try clear u2_); (try clear u1_); (try clear t2_); (try clear t1_); (try clear v3); (try clear v2); (try clear v1); (try clear c29_); (try clear xc2); (try clear xc); (try clear hlb2); (try clear hlb); (try clear hm9); (try clear hd); (try clear hw); (try clear hf); (try clear hexit95); (try clear hii); (try clear ht2); (try clear ht1); (try clear hn2); (try clear hn1); (try clear hi2); (try clear hb2); (try clear hi9); (try clear hb9); (try clear hRs); (try clear hRc); (try clear hRl); (try clear hRf); omega) | omega), by (first | ((try clear ex9); (try clear u2_); (try clear u1_); (try clear t2_); (try clear t1_); (try clear v3); (try clear v2); (try clear v1); (try clear xc); (try clear hlb2); (try clear hlb); (try clear hm9); (try clear hd); (try clear hw); (try clear hf); (try clear hj); (try clear hexit95); (try clear hii); (try clear ht2); (try clear ht1); (try clear hn1); (try clear hi2); (try clear hb2); (try clear hi9); (try clear hb9); (try clear hRs); (try clear hRc); (try clear hRl); (try clear hRf); omega) | omega)⟩ (by decide) dX1_longestCommon_40 ?_
      refine lv_istore (lv' := [(5, .int (iZ (μ (b + 14) (j + 1).toNat))), (4, .int (iZ (j))), (3, .int (iZ (di))), (2, .int (iZ (i))), (1, .ref (h0 + b2)), (0, .ref (h0 + b))]) hx hb dX1_longestCommon_41 hl (by decide) rfl (fun ls hl => ?_)
      refine lv_aload_n hx hb dX1_longestCommon_43 rfl (lv_at hl 5 rfl) ?_
      refine fz_get (D := (dC, dI)) (ci := 1) (v := .ref (h0 + (b + 14))) (C := RX1) (T := TX1) (N := 8) hx hb hts inG1 hown hK hP (k := b) (by (first | ((try clear ex9); (try clear u2_); (try clear u1_); (try clear t2_); (try clear t1_); (try clear v3); (try clear v2); (try clear v1); (try clear c29_); (try clear xc2); (try clear xc); (try clear hlb2); (try clear hlb); (try clear hm9); (try clear hd); (try clear hw); (try clear hf); (try clear hj); (try clear hexit95); (try clear hii); (try clear ht2); (try clear ht1); (try clear hn2); (try clear hn1); (try clear hi2); (try clear hb2); (try clear hRs); (try clear hRc); (try clear hRl); (try clear hRf); omega) | omega)) (F := (sLF h0 b)) (sE_leafO hi9 hb9) rfl 7 (by decide) (hts _ k311) (fun _ h9 => h9) rfl dX1_longestCommon_44 ?_
      refine lv_iload hx hb dX1_longestCommon_47 (lv_at hl 1 rfl) ?_
      refine lv_iconst (v := iZ 1) hx hb dX1_longestCommon_49 rfl ?_
      refine lv_iadd hx hb dX1_longestCommon_50 ?_
      refine lv_topi (fun x9 ex9 => ?_)
      obtain rfl : x9 = iZ (j + 1) := ex9.trans (iZ_add _ _)
      refine lv_aload_n hx hb dX1_longestCommon_51 rfl (lv_at hl 5 rfl) ?_
      refine fz_get (D := (dC, dI)) (ci := 1) (v := .ref (h0 + (b + 1))) (C := RX1) (T := TX1) (N := 8) hx hb hts inG1 hown hK hP (k := b) (by (first | ((try clear ex9); (try clear u2_); (try clear u1_); (try clear t2_); (try clear t1_); (try clear v3); (try clear v2); (try clear v1); (try clear c29_); (try clear xc2); (try clear xc); (try clear hlb2); (try clear hlb); (try clear hm9); (try clear hd); (try clear hw); (try clear hf); (try clear hj); (try clear hexit95); (try clear hii); (try clear ht2); (try clear ht1); (try clear hn2); (try clear hn1); (try clear hi2); (try clear hb2); (try clear hRs); (try clear hRc); (try clear hRl); (try clear hRf); omega) | omega)) (F := (sLF h0 b)) (sE_leafO hi9 hb9) rfl 0 (by decide) (hts _ k296) (fun _ h9 => h9) rfl dX1_longestCommon_52 ?_
      refine lv_iload_n hx hb dX1_longestCommon_55 rfl (lv_at hl 3 rfl) ?_
      refine fz_ld (k := (b + 1)) (n := 60) hx hb hK hP 0 (by (first | ((try clear ex9); (try clear u2_); (try clear u1_); (try clear t2_); (try clear t1_); (try clear v3); (try clear v2); (try clear v1); (try clear c29_); (try clear xc2); (try clear xc); (try clear hlb2); (try clear hlb); (try clear hm9); (try clear hd); (try clear hw); (try clear hf); (try clear hj); (try clear hexit95); (try clear hii); (try clear ht2); (try clear ht1); (try clear hn2); (try clear hn1); (try clear hi2); (try clear hb2); (try clear hRs); (try clear hRc); (try clear hRl); (try clear hRf); omega) | omega)) (sE_leafA 1 60 hi9 hb9 (by decide)) rfl ⟨by (first | ((try clear ex9); (try clear u2_); (try clear u1_); (try clear t2_); (try clear t1_); (try clear v3); (try clear v2); (try clear v1); (try clear c29_); (try clear xc2); (try clear xc); (try clear hlb2); (try clear hlb); (try clear hm9); (try clear hd); (try clear hw); (try clear hf); (try clear hj); (try clear hexit95); (try clear ht2); (try clear ht1); (try clear hn2); (try clear hn1); (try clear hi2); (try clear hb2); (try clear hi9); (try clear hb9); (try clear hRs); (try clear hRc); (try clear hRl); (try clear hRf); omega) | omega), by (first | ((try clear ex9); (try clear u2_); (try clear u1_); (try clear t2_); (try clear t1_); (try clear v3); (try clear v2); (try clear v1); (try clear c29_); (try clear xc2); (try clear hlb2); (try clear hlb); (try clear hm9); (try clear hd); (try clear hw); (try clear hf); (try clear hj); (try clear hexit95); (try clear ht2); (try clear ht1); (try clear hn2); (try clear hi2); (try clear hb2); (try clear hi9); (try clear hb9); (try clear hRs); (try clear hRc); (try clear hRl); (try clear hRf); omega) | omega)⟩ (by decide) dX1_longestCommon_56 ?_
      refine lv_aload_n hx hb dX1_longestCommon_57 rfl (lv_at hl 4 rfl) ?_
      refine fz_get (D := (dC, dI)) (ci := 1) (v := .ref (h0 + (b2 + 1))) (C := RX1) (T := TX1) (N := 8) hx hb hts inG1 hown hK hP (k := b2) (by (first | ((try clear ex9); (try clear u2_); (try clear u1_); (try clear t2_); (try clear t1_); (try clear v3); (try clear v2); (try clear v1); (try clear c29_); (try clear xc2); (try clear xc); (try clear hlb2); (try clear hlb); (try clear hm9); (try clear hd); (try clear hw); (try clear hf); (try clear hj); (try clear hexit95); (try clear hii); (try clear ht2); (try clear ht1); (try clear hn2); (try clear hn1); (try clear hi9); (try clear hb9); (try clear hRs); (try clear hRc); (try clear hRl); (try clear hRf); omega) | omega)) (F := (sLF h0 b2)) (sE_leafO hi2 hb2) rfl 0 (by decide) (hts _ k296) (fun _ h9 => h9) rfl dX1_longestCommon_58 ?_
      refine lv_iload hx hb dX1_longestCommon_61 (lv_at hl 1 rfl) ?_
      refine fz_ld (k := (b2 + 1)) (n := 60) hx hb hK hP 0 (by (first | ((try clear ex9); (try clear u2_); (try clear u1_); (try clear t2_); (try clear t1_); (try clear v3); (try clear v2); (try clear v1); (try clear c29_); (try clear xc2); (try clear xc); (try clear hlb2); (try clear hlb); (try clear hm9); (try clear hd); (try clear hw); (try clear hf); (try clear hj); (try clear hexit95); (try clear hii); (try clear ht2); (try clear ht1); (try clear hn2); (try clear hn1); (try clear hi9); (try clear hb9); (try clear hRs); (try clear hRc); (try clear hRl); (try clear hRf); omega) | omega)) (sE_leafA 1 60 hi2 hb2 (by decide)) rfl ⟨by (first | ((try clear ex9); (try clear u2_); (try clear u1_); (try clear t2_); (try clear t1_); (try clear v3); (try clear v2); (try clear v1); (try clear c29_); (try clear xc2); (try clear xc); (try clear hlb2); (try clear hlb); (try clear hm9); (try clear hd); (try clear hw); (try clear hf); (try clear hexit95); (try clear hii); (try clear ht2); (try clear ht1); (try clear hn2); (try clear hn1); (try clear hi2); (try clear hb2); (try clear hi9); (try clear hb9); (try clear hRs); (try clear hRc); (try clear hRl); (try clear hRf); omega) | omega), by (first | ((try clear ex9); (try clear u2_); (try clear u1_); (try clear t2_); (try clear t1_); (try clear v3); (try clear v2); (try clear v1); (try clear xc); (try clear hlb2); (try clear hlb); (try clear hm9); (try clear hd); (try clear hw); (try clear hf); (try clear hj); (try clear hexit95); (try clear hii); (try clear ht2); (try clear ht1); (try clear hn1); (try clear hi2); (try clear hb2); (try clear hi9); (try clear hb9); (try clear hRs); (try clear hRc); (try clear hRl); (try clear hRf); omega) | omega)⟩ (by decide) dX1_longestCommon_63 ?_
      refine fz_icmp_ne (tgt := 73) (by constructor <;> (first | ((try clear ex9); (try clear u2_); (try clear t2_); (try clear v3); (try clear v2); (try clear v1); (try clear c29_); (try clear xc2); (try clear xc); (try clear hlb2); (try clear hlb); (try clear hm9); (try clear hd); (try clear hw); (try clear hf); (try clear hj); (try clear hexit95); (try clear hii); (try clear ht2); (try clear ht1); (try clear hn2); (try clear hn1); (try clear hi2); (try clear hb2); (try clear hi9); (try clear hb9); (try clear hRs); (try clear hRc); (try clear hRl); (try clear hRf); omega) | omega)) (by constructor <;> (first | ((try clear ex9); (try clear u1_); (try clear t1_); (try clear v3); (try clear v2); (try clear v1); (try clear c29_); (try clear xc2); (try clear xc); (try clear hlb2); (try clear hlb); (try clear hm9); (try clear hd); (try clear hw); (try clear hf); (try clear hj); (try clear hexit95); (try clear hii); (try clear ht2); (try clear ht1); (try clear hn2); (try clear hn1); (try clear hi2); (try clear hb2); (try clear hi9); (try clear hb9); (try clear hRs); (try clear hRc); (try clear hRl); (try clear hRf); omega) | omega)) hx hb dX1_longestCommon_64 (by decide) (fun c64_ => ?_) (fun c64_ => ?_)
      · refine lv_iload hx hb dX1_longestCommon_73 (lv_at hl 0 rfl) ?_
        refine lv_aload_n hx hb dX1_longestCommon_75 rfl (lv_at hl 5 rfl) ?_
        refine fz_get (D := (dC, dI)) (ci := 1) (v := .ref (h0 + (b + 14))) (C := RX1) (T := TX1) (N := 8) hx hb hts inG1 hown hK hP (k := b) (by (first | ((try clear c64_); (try clear ex9); (try clear u2_); (try clear u1_); (try clear t2_); (try clear t1_); (try clear v3); (try clear v2); (try clear v1); (try clear c29_); (try clear xc2); (try clear xc); (try clear hlb2); (try clear hlb); (try clear hm9); (try clear hd); (try clear hw); (try clear hf); (try clear hj); (try clear hexit95); (try clear hii); (try clear ht2); (try clear ht1); (try clear hn2); (try clear hn1); (try clear hi2); (try clear hb2); (try clear hRs); (try clear hRc); (try clear hRl); (try clear hRf); omega) | omega)) (F := (sLF h0 b)) (sE_leafO hi9 hb9) rfl 7 (by decide) (hts _ k311) (fun _ h9 => h9) rfl dX1_longestCommon_76 ?_
        refine lv_iload hx hb dX1_longestCommon_79 (lv_at hl 1 rfl) ?_
        refine fz_ld (k := (b + 14)) (n := 61) hx hb hK hP 0 (by (first | ((try clear c64_); (try clear ex9); (try clear u2_); (try clear u1_); (try clear t2_); (try clear t1_); (try clear v3); (try clear v2); (try clear v1); (try clear c29_); (try clear xc2); (try clear xc); (try clear hlb2); (try clear hlb); (try clear hm9); (try clear hd); (try clear hw); (try clear hf); (try clear hj); (try clear hexit95); (try clear hii); (try clear ht2); (try clear ht1); (try clear hn2); (try clear hn1); (try clear hi2); (try clear hb2); (try clear hRs); (try clear hRc); (try clear hRl); (try clear hRf); omega) | omega)) (sE_leafA 14 61 hi9 hb9 (by decide)) rfl ⟨by (first | ((try clear c64_); (try clear ex9); (try clear u2_); (try clear u1_); (try clear t2_); (try clear t1_); (try clear v3); (try clear v2); (try clear v1); (try clear c29_); (try clear xc2); (try clear xc); (try clear hlb2); (try clear hlb); (try clear hm9); (try clear hd); (try clear hw); (try clear hf); (try clear hexit95); (try clear hii); (try clear ht2); (try clear ht1); (try clear hn2); (try clear hn1); (try clear hi2); (try clear hb2); (try clear hi9); (try clear hb9); (try clear hRs); (try clear hRc); (try clear hRl); (try clear hRf); omega) | omega), by (first | ((try clear c64_); (try clear ex9); (try clear u2_); (try clear u1_); (try clear t2_); (try clear t1_); (try clear v3); (try clear v2); (try clear v1); (try clear xc); (try clear hlb2); (try clear hlb); (try clear hm9); (try clear hd); (try clear hw); (try clear hf); (try clear hj); (try clear hexit95); (try clear hii); (try clear ht2); (try clear ht1); (try clear hn1); (try clear hi2); (try clear hb2); (try clear hi9); (try clear hb9); (try clear hRs); (try clear hRc); (try clear hRl); (try clear hRf); omega) | omega)⟩ (by decide) dX1_longestCommon_81 ?_
        refine va_mmax hx hb (hml.trans hl.1.symm) hown (hts _ k1127) (hts _ k75) (hts _ k4) (hts _ k76) (Nat.le_trans (Nat.le_of_ble_eq_true rfl) hRf) (Nat.le_trans (m := 37) (Nat.le_of_ble_eq_true rfl) hRl) hRc hRs dX1_longestCommon_82 ?_
        refine lv_topi (fun x9 ex9 => ?_)
        obtain rfl : x9 = iZ (max (μ (b + 14) (j + 1).toNat) (μ (b + 14) (j).toNat)) := ex9.trans (iZ_mx (by constructor <;> (first | ((try clear ex9); (try clear c64_); (try clear u2_); (try clear u1_); (try clear t2_); (try clear t1_); (try clear v2); (try clear c29_); (try clear xc2); (try clear hlb2); (try clear hlb); (try clear hm9); (try clear hd); (try clear hw); (try clear hf); (try clear hj); (try clear hexit95); (try clear ht2); (try clear ht1); (try clear hn2); (try clear hi2); (try clear hb2); (try clear hi9); (try clear hb9); (try clear hRs); (try clear hRc); (try clear hRl); (try clear hRf); omega) | omega)) (by constructor <;> (first | ((try clear ex9); (try clear c64_); (try clear u2_); (try clear u1_); (try clear t2_); (try clear t1_); (try clear v3); (try clear v1); (try clear c29_); (try clear xc2); (try clear hlb2); (try clear hlb); (try clear hm9); (try clear hd); (try clear hw); (try clear hf); (try clear hj); (try clear hexit95); (try clear ht2); (try clear ht1); (try clear hn2); (try clear hi2); (try clear hb2); (try clear hi9); (try clear hb9); (try clear hRs); (try clear hRc); (try clear hRl); (try clear hRf); omega) | omega)))
        refine fz_st (k := (b + 14)) (n := 61) (i := (j + 1)) (z := (max (μ (b + 14) (j + 1).toNat) (μ (b + 14) (j).toNat))) hx hb hK hP fA_in hS 0 (by (first | ((try clear ex9); (try clear c64_); (try clear u2_); (try clear u1_); (try clear t2_); (try clear t1_); (try clear v3); (try clear v2); (try clear v1); (try clear c29_); (try clear xc2); (try clear xc); (try clear hlb2); (try clear hlb); (try clear hm9); (try clear hd); (try clear hw); (try clear hf); (try clear hj); (try clear hexit95); (try clear hii); (try clear ht2); (try clear ht1); (try clear hn2); (try clear hn1); (try clear hi2); (try clear hb2); (try clear hRs); (try clear hRc); (try clear hRl); (try clear hRf); omega) | omega)) (sE_leafA 14 61 hi9 hb9 (by decide)) rfl ⟨by (first | ((try clear ex9); (try clear c64_); (try clear u2_); (try clear u1_); (try clear t2_); (try clear t1_); (try clear v3); (try clear v2); (try clear v1); (try clear c29_); (try clear xc2); (try clear xc); (try clear hlb2); (try clear hlb); (try clear hm9); (try clear hd); (try clear hw); (try clear hf); (try clear hexit95); (try clear hii); (try clear ht2); (try clear ht1); (try clear hn2); (try clear hn1); (try clear hi2); (try clear hb2); (try clear hi9); (try clear hb9); (try clear hRs); (try clear hRc); (try clear hRl); (try clear hRf); omega) | omega), by (first | ((try clear ex9); (try clear c64_); (try clear u2_); (try clear u1_); (try clear t2_); (try clear t1_); (try clear v3); (try clear v2); (try clear v1); (try clear xc); (try clear hlb2); (try clear hlb); (try clear hm9); (try clear hd); (try clear hw); (try clear hf); (try clear hj); (try clear hexit95); (try clear hii); (try clear ht2); (try clear ht1); (try clear hn1); (try clear hi2); (try clear hb2); (try clear hi9); (try clear hb9); (try clear hRs); (try clear hRc); (try clear hRl); (try clear hRf); omega) | omega)⟩ (by decide) dX1_longestCommon_85 (fun H locs hP hS => ?_)
        obtain ⟨μ1, eμ1⟩ : ∃ x : va_M, x = uz μ (b + 14) (j + 1).toNat (max (μ (b + 14) (j + 1).toNat) (μ (b + 14) (j).toNat)) := ⟨_, rfl⟩
        rw [← eμ1] at hP
        refine lv_iload hx hb dX1_longestCommon_86 (lv_at hl 0 rfl) ?_
        refine lv_istore_n (lv' := [(3, .int (iZ (μ (b + 14) (j + 1).toNat))), (5, .int (iZ (μ (b + 14) (j + 1).toNat))), (4, .int (iZ (j))), (2, .int (iZ (i))), (1, .ref (h0 + b2)), (0, .ref (h0 + b))]) hx hb dX1_longestCommon_88 rfl hl (by decide) rfl (fun ls hl => ?_)
        refine lv_iinc (v := iZ (j + 1)) (lv' := [(4, .int (iZ (j + 1))), (3, .int (iZ (μ (b + 14) (j + 1).toNat))), (5, .int (iZ (μ (b + 14) (j + 1).toNat))), (2, .int (iZ (i))), (1, .ref (h0 + b2)), (0, .ref (h0 + b))]) hx hb dX1_longestCommon_89 hl (k := 2) rfl (iZ_add _ _) (by decide) rfl (fun ls hl => ?_)
        refine lv_goto (tgt := 23) hx hb dX1_longestCommon_92 (by decide) ?_
        exact ih (j + 1) (μ (b + 14) (j + 1).toNat) μ1 H locs ls (by (first | ((try clear max); (try clear x); (try clear eμ1); (try clear μ1); (try clear ex9); (try clear c64_); (try clear u2_); (try clear u1_); (try clear t2_); (try clear t1_); (try clear v3); (try clear v2); (try clear v1); (try clear xc); (try clear hlb2); (try clear hlb); (try clear hm9); (try clear hd); (try clear hw); (try clear hf); (try clear hexit95); (try clear hii); (try clear ht2); (try clear ht1); (try clear hn2); (try clear hn1); (try clear hi2); (try clear hb2); (try clear hi9); (try clear hb9); (try clear hRs); (try clear hRc); (try clear hRl); (try clear hRf); omega) | omega)) (by rw [eμ1]; exact fr_uz hf rfl) (by
                        intro k hk
                        by_cases h9 : k = (j + 1).toNat
                        · rw [h9, eμ1, uz_s]; (first | ((try clear h9); (try clear hk); (try clear max); (try clear x); (try clear eμ1); (try clear μ1); (try clear ex9); (try clear c64_); (try clear u2_); (try clear u1_); (try clear t2_); (try clear t1_); (try clear c29_); (try clear xc2); (try clear xc); (try clear hlb2); (try clear hlb); (try clear hm9); (try clear hd); (try clear hw); (try clear hf); (try clear hj); (try clear hexit95); (try clear hii); (try clear ht2); (try clear ht1); (try clear hn2); (try clear hn1); (try clear hi2); (try clear hb2); (try clear hi9); (try clear hb9); (try clear hRs); (try clear hRc); (try clear hRl); (try clear hRf); omega) | omega)
                        · rw [eμ1, uz_n (by (first | ((try clear hk); (try clear max); (try clear x); (try clear eμ1); (try clear μ1); (try clear ex9); (try clear c64_); (try clear u2_); (try clear u1_); (try clear t2_); (try clear t1_); (try clear v3); (try clear v2); (try clear v1); (try clear c29_); (try clear xc2); (try clear xc); (try clear hlb2); (try clear hlb); (try clear hm9); (try clear hd); (try clear hw); (try clear hf); (try clear hexit95); (try clear hii); (try clear ht2); (try clear ht1); (try clear hn2); (try clear hn1); (try clear hi2); (try clear hb2); (try clear hi9); (try clear hb9); (try clear hRs); (try clear hRc); (try clear hRl); (try clear hRf); omega) | omega))]; exact hv k hk) (by
                        intro k hk hk2
                        rw [eμ1, uz_n (by (first | ((try clear hk); (try clear h9); (try clear max); (try clear x); (try clear eμ1); (try clear μ1); (try clear ex9); (try clear c64_); (try clear u2_); (try clear u1_); (try clear t2_); (try clear t1_); (try clear v3); (try clear v2); (try clear v1); (try clear c29_); (try clear xc2); (try clear xc); (try clear hlb2); (try clear hlb); (try clear hm9); (try clear hd); (try clear hw); (try clear hf); (try clear hexit95); (try clear hii); (try clear ht2); (try clear ht1); (try clear hn2); (try clear hn1); (try clear hi2); (try clear hb2); (try clear hi9); (try clear hb9); (try clear hRs); (try clear hRc); (try clear hRl); (try clear hRf); omega) | omega))]; exact hw k hk (by (first | ((try clear hk); (try clear h9); (try clear max); (try clear x); (try clear eμ1); (try clear μ1); (try clear ex9); (try clear c64_); (try clear u2_); (try clear u1_); (try clear t2_); (try clear t1_); (try clear v3); (try clear v2); (try clear v1); (try clear c29_); (try clear xc2); (try clear xc); (try clear hlb2); (try clear hlb); (try clear hm9); (try clear hd); (try clear hw); (try clear hf); (try clear hj); (try clear hexit95); (try clear hii); (try clear ht2); (try clear ht1); (try clear hn2); (try clear hn1); (try clear hi2); (try clear hb2); (try clear hi9); (try clear hb9); (try clear hRs); (try clear hRc); (try clear hRl); (try clear hRf); omega) | omega))) (by (first | ((try clear hk2); (try clear hk); (try clear k); (try clear h9); (try clear max); (try clear x); (try clear eμ1); (try clear μ1); (try clear ex9); (try clear c64_); (try clear u2_); (try clear u1_); (try clear t2_); (try clear t1_); (try clear v2); (try clear c29_); (try clear xc2); (try clear xc); (try clear hlb2); (try clear hlb); (try clear hm9); (try clear hd); (try clear hw); (try clear hf); (try clear hj); (try clear hexit95); (try clear hii); (try clear ht2); (try clear ht1); (try clear hn2); (try clear hn1); (try clear hi2); (try clear hb2); (try clear hi9); (try clear hb9); (try clear hRs); (try clear hRc); (try clear hRl); (try clear hRf); omega) | omega)) (by (first | ((try clear hk2); (try clear hk); (try clear k); (try clear h9); (try clear max); (try clear x); (try clear eμ1); (try clear μ1); (try clear ex9); (try clear u2_); (try clear u1_); (try clear t2_); (try clear t1_); (try clear v3); (try clear v2); (try clear v1); (try clear xc); (try clear hlb2); (try clear hlb); (try clear hd); (try clear hw); (try clear hf); (try clear hexit95); (try clear hii); (try clear ht2); (try clear ht1); (try clear hn1); (try clear hi2); (try clear hb2); (try clear hi9); (try clear hb9); (try clear hRs); (try clear hRc); (try clear hRl); (try clear hRf); omega) | omega)) hP hS (lv_sub hl [0, 1, 3, 4, 5] rfl)
      · refine lv_iload_n hx hb dX1_longestCommon_67 rfl (lv_at hl 2 rfl) ?_
        refine lv_iconst (v := iZ 1) hx hb dX1_longestCommon_68 rfl ?_
        refine lv_iadd hx hb dX1_longestCommon_69 ?_
        refine lv_topi (fun x9 ex9 => ?_)
        obtain rfl : x9 = iZ (di + 1) := ex9.trans (iZ_add _ _)
        refine lv_goto (tgt := 85) hx hb dX1_longestCommon_70 (by decide) ?_
        refine fz_st (k := (b + 14)) (n := 61) (i := (j + 1)) (z := (di + 1)) hx hb hK hP fA_in hS 0 (by (first | ((try clear ex9); (try clear c64_); (try clear u2_); (try clear u1_); (try clear t2_); (try clear t1_); (try clear v3); (try clear v2); (try clear v1); (try clear c29_); (try clear xc2); (try clear xc); (try clear hlb2); (try clear hlb); (try clear hm9); (try clear hd); (try clear hw); (try clear hf); (try clear hj); (try clear hexit95); (try clear hii); (try clear ht2); (try clear ht1); (try clear hn2); (try clear hn1); (try clear hi2); (try clear hb2); (try clear hRs); (try clear hRc); (try clear hRl); (try clear hRf); omega) | omega)) (sE_leafA 14 61 hi9 hb9 (by decide)) rfl ⟨by (first | ((try clear ex9); (try clear c64_); (try clear u2_); (try clear u1_); (try clear t2_); (try clear t1_); (try clear v3); (try clear v2); (try clear v1); (try clear c29_); (try clear xc2); (try clear xc); (try clear hlb2); (try clear hlb); (try clear hm9); (try clear hd); (try clear hw); (try clear hf); (try clear hexit95); (try clear hii); (try clear ht2); (try clear ht1); (try clear hn2); (try clear hn1); (try clear hi2); (try clear hb2); (try clear hi9); (try clear hb9); (try clear hRs); (try clear hRc); (try clear hRl); (try clear hRf); omega) | omega), by (first | ((try clear ex9); (try clear c64_); (try clear u2_); (try clear u1_); (try clear t2_); (try clear t1_); (try clear v3); (try clear v2); (try clear v1); (try clear xc); (try clear hlb2); (try clear hlb); (try clear hm9); (try clear hd); (try clear hw); (try clear hf); (try clear hj); (try clear hexit95); (try clear hii); (try clear ht2); (try clear ht1); (try clear hn1); (try clear hi2); (try clear hb2); (try clear hi9); (try clear hb9); (try clear hRs); (try clear hRc); (try clear hRl); (try clear hRf); omega) | omega)⟩ (by decide) dX1_longestCommon_85 (fun H locs hP hS => ?_)
        obtain ⟨μ2, eμ2⟩ : ∃ x : va_M, x = uz μ (b + 14) (j + 1).toNat (di + 1) := ⟨_, rfl⟩
        rw [← eμ2] at hP
        refine lv_iload hx hb dX1_longestCommon_86 (lv_at hl 0 rfl) ?_
        refine lv_istore_n (lv' := [(3, .int (iZ (μ (b + 14) (j + 1).toNat))), (5, .int (iZ (μ (b + 14) (j + 1).toNat))), (4, .int (iZ (j))), (2, .int (iZ (i))), (1, .ref (h0 + b2)), (0, .ref (h0 + b))]) hx hb dX1_longestCommon_88 rfl hl (by decide) rfl (fun ls hl => ?_)
        refine lv_iinc (v := iZ (j + 1)) (lv' := [(4, .int (iZ (j + 1))), (3, .int (iZ (μ (b + 14) (j + 1).toNat))), (5, .int (iZ (μ (b + 14) (j + 1).toNat))), (2, .int (iZ (i))), (1, .ref (h0 + b2)), (0, .ref (h0 + b))]) hx hb dX1_longestCommon_89 hl (k := 2) rfl (iZ_add _ _) (by decide) rfl (fun ls hl => ?_)
        refine lv_goto (tgt := 23) hx hb dX1_longestCommon_92 (by decide) ?_
        exact ih (j + 1) (μ (b + 14) (j + 1).toNat) μ2 H locs ls (by (first | ((try clear x); (try clear eμ2); (try clear μ2); (try clear ex9); (try clear c64_); (try clear u2_); (try clear u1_); (try clear t2_); (try clear t1_); (try clear v3); (try clear v2); (try clear v1); (try clear xc); (try clear hlb2); (try clear hlb); (try clear hm9); (try clear hd); (try clear hw); (try clear hf); (try clear hexit95); (try clear hii); (try clear ht2); (try clear ht1); (try clear hn2); (try clear hn1); (try clear hi2); (try clear hb2); (try clear hi9); (try clear hb9); (try clear hRs); (try clear hRc); (try clear hRl); (try clear hRf); omega) | omega)) (by rw [eμ2]; exact fr_uz hf rfl) (by
                        intro k hk
                        by_cases h9 : k = (j + 1).toNat
                        · rw [h9, eμ2, uz_s]; (first | ((try clear h9); (try clear hk); (try clear x); (try clear eμ2); (try clear μ2); (try clear ex9); (try clear c64_); (try clear u2_); (try clear u1_); (try clear t2_); (try clear t1_); (try clear v3); (try clear v2); (try clear v1); (try clear c29_); (try clear xc2); (try clear xc); (try clear hlb2); (try clear hlb); (try clear hm9); (try clear hw); (try clear hf); (try clear hj); (try clear hexit95); (try clear hii); (try clear ht2); (try clear ht1); (try clear hn2); (try clear hn1); (try clear hi2); (try clear hb2); (try clear hi9); (try clear hb9); (try clear hRs); (try clear hRc); (try clear hRl); (try clear hRf); omega) | omega)
                        · rw [eμ2, uz_n (by (first | ((try clear hk); (try clear x); (try clear eμ2); (try clear μ2); (try clear ex9); (try clear c64_); (try clear u2_); (try clear u1_); (try clear t2_); (try clear t1_); (try clear v3); (try clear v2); (try clear v1); (try clear c29_); (try clear xc2); (try clear xc); (try clear hlb2); (try clear hlb); (try clear hm9); (try clear hd); (try clear hw); (try clear hf); (try clear hexit95); (try clear hii); (try clear ht2); (try clear ht1); (try clear hn2); (try clear hn1); (try clear hi2); (try clear hb2); (try clear hi9); (try clear hb9); (try clear hRs); (try clear hRc); (try clear hRl); (try clear hRf); omega) | omega))]; exact hv k hk) (by
                        intro k hk hk2
                        rw [eμ2, uz_n (by (first | ((try clear hk); (try clear h9); (try clear x); (try clear eμ2); (try clear μ2); (try clear ex9); (try clear c64_); (try clear u2_); (try clear u1_); (try clear t2_); (try clear t1_); (try clear v3); (try clear v2); (try clear v1); (try clear c29_); (try clear xc2); (try clear xc); (try clear hlb2); (try clear hlb); (try clear hm9); (try clear hd); (try clear hw); (try clear hf); (try clear hexit95); (try clear hii); (try clear ht2); (try clear ht1); (try clear hn2); (try clear hn1); (try clear hi2); (try clear hb2); (try clear hi9); (try clear hb9); (try clear hRs); (try clear hRc); (try clear hRl); (try clear hRf); omega) | omega))]; exact hw k hk (by (first | ((try clear hk); (try clear h9); (try clear x); (try clear eμ2); (try clear μ2); (try clear ex9); (try clear c64_); (try clear u2_); (try clear u1_); (try clear t2_); (try clear t1_); (try clear v3); (try clear v2); (try clear v1); (try clear c29_); (try clear xc2); (try clear xc); (try clear hlb2); (try clear hlb); (try clear hm9); (try clear hd); (try clear hw); (try clear hf); (try clear hj); (try clear hexit95); (try clear hii); (try clear ht2); (try clear ht1); (try clear hn2); (try clear hn1); (try clear hi2); (try clear hb2); (try clear hi9); (try clear hb9); (try clear hRs); (try clear hRc); (try clear hRl); (try clear hRf); omega) | omega))) (by (first | ((try clear hk2); (try clear hk); (try clear k); (try clear h9); (try clear x); (try clear eμ2); (try clear μ2); (try clear ex9); (try clear c64_); (try clear u2_); (try clear u1_); (try clear t2_); (try clear t1_); (try clear v2); (try clear c29_); (try clear xc2); (try clear xc); (try clear hlb2); (try clear hlb); (try clear hm9); (try clear hd); (try clear hw); (try clear hf); (try clear hj); (try clear hexit95); (try clear hii); (try clear ht2); (try clear ht1); (try clear hn2); (try clear hn1); (try clear hi2); (try clear hb2); (try clear hi9); (try clear hb9); (try clear hRs); (try clear hRc); (try clear hRl); (try clear hRf); omega) | omega)) (by (first | ((try clear hk2); (try clear hk); (try clear k); (try clear h9); (try clear x); (try clear eμ2); (try clear μ2); (try clear ex9); (try clear c64_); (try clear u2_); (try clear u1_); (try clear t2_); (try clear t1_); (try clear v3); (try clear v2); (try clear v1); (try clear xc); (try clear hlb2); (try clear hlb); (try clear hd); (try clear hw); (try clear hf); (try clear hexit95); (try clear hii); (try clear ht2); (try clear ht1); (try clear hn1); (try clear hi2); (try clear hb2); (try clear hi9); (try clear hb9); (try clear hRs); (try clear hRc); (try clear hRl); (try clear hRf); omega) | omega)) hP hS (lv_sub hl [0, 1, 3, 4, 5] rfl)
set_option maxHeartbeats 4000000 in
set_option maxRecDepth 100000 in
theorem LX1_longestCommon_10 {p : Program} {l : Launch} {e : Env} {R : Room} {s : State} {m : MethodId} {args : Array Value} {below : List Frame} {meth : Method} {c : Code} {cells slots : Nat} {Q : State → Prop} {dC : Nat → ClassId} {dI : Nat → Nat → Nat} {h0 : Nat} {cI cZ cII cIII : ClassId} (hx : p.tables.exec = Jvm.exec) (hb : c.code = cX1_longestCommon) (hml : c.maxLocals = 6) (hown : s.vm.findClass RX1 = some m.cls) (hts : ∀ w ∈ wsG, w.before args s = true) (hK : va_K (dC, dI) vwCl (sT cI cZ cII cIII) s) (hM : xM s) (hRf : 2 ≤ R.frames) (hRl : 37 ≤ R.locals) (hRc : cells ≤ R.cells) (hRs : slots ≤ R.slots) (μ0 : va_M) (b : Nat) (ii : Nat) (b2 : Nat) (i2 : Nat) (hb9 : b = 113 + ii * 15) (hi9 : ii < 8) (hb2 : b2 = 113 + i2 * 15) (hi2 : i2 < 8) (hn1 : 0 ≤ μ0 b 2 ∧ μ0 b 2 ≤ 60) (hn2 : 0 ≤ μ0 b2 2 ∧ μ0 b2 2 ≤ 60) (ht1 : ∀ j, 0 ≤ μ0 (b + 1) j ∧ μ0 (b + 1) j < 200) (ht2 : ∀ j, 0 ≤ μ0 (b2 + 1) j ∧ μ0 (b2 + 1) j < 200) (hexit101 : ∀ (i : Int) (μ : va_M) (H : Heap) (locs : List Loc) (ls : Array Slot), (fr (fun x _ => x = b + 14) μ0 μ) → va_P (dC, dI) vwCl (fw (sE cI cZ cII cIII h0) h0 233 μ) H → va_S (fA h0 233 s.heap.size) s.heap H locs → lv_has ls 6 [(1, .ref (h0 + b2)), (0, .ref (h0 + b))] → W p l e R s m args below meth c H locs cells slots Q (F0 m 101 ls [])) :
    ∀ (n9 : Nat) (i : Int) (μ : va_M) (H : Heap) (locs : List Loc) (ls : Array Slot), (0 ≤ i ∧ i ≤ μ0 b 2) → (fr (fun x _ => x = b + 14) μ0 μ) → (∀ j : Nat, j < 61 → 0 ≤ μ (b + 14) j ∧ μ (b + 14) j ≤ i) → (61 - i).toNat < n9 → va_P (dC, dI) vwCl (fw (sE cI cZ cII cIII h0) h0 233 μ) H → va_S (fA h0 233 s.heap.size) s.heap H locs → lv_has ls 6 [(2, .int (iZ (i))), (1, .ref (h0 + b2)), (0, .ref (h0 + b))] → W p l e R s m args below meth c H locs cells slots Q (F0 m 10 ls []) := by
  intro n9
  induction n9 with
  | zero => intro i μ H locs ls hi hf hv hm9 hP hS hl; exact absurd hm9 (Nat.not_lt_zero _)
  | succ n9 ih =>
    intro i μ H locs ls hi hf hv hm9 hP hS hl
    have hlb := lf_b hb9 hi9
    have hlb2 := lf_b hb2 hi2
    have xc : μ b 2 = μ0 b 2 := hf _ _ (by (first | ((try clear xc); (try clear hlb2); (try clear hlb); (try clear hm9); (try clear hf); (try clear hi); (try clear hexit101); (try clear ht2); (try clear ht1); (try clear hn2); (try clear hn1); (try clear hi2); (try clear hb2); (try clear hi9); (try clear hb9); (try clear hRs); (try clear hRc); (try clear hRl); (try clear hRf); omega) | omega))
    have xc2 : μ b2 2 = μ0 b2 2 := hf _ _ (by (first | ((try clear xc2); (try clear xc); (try clear hlb2); (try clear hlb); (try clear hm9); (try clear hf); (try clear hi); (try clear hexit101); (try clear ht2); (try clear ht1); (try clear hn2); (try clear hn1); (try clear hi2); (try clear hi9); (try clear hRs); (try clear hRc); (try clear hRl); (try clear hRf); omega) | omega))
    refine lv_iload_n hx hb dX1_longestCommon_10 rfl (lv_at hl 0 rfl) ?_
    refine lv_aload_n hx hb dX1_longestCommon_11 rfl (lv_at hl 2 rfl) ?_
    refine fz_get (D := (dC, dI)) (ci := 1) (v := .int (iZ (μ b 2))) (C := RX1) (T := TX1) (N := 8) hx hb hts inG1 hown hK hP (k := b) (by (first | ((try clear xc2); (try clear xc); (try clear hlb2); (try clear hlb); (try clear hm9); (try clear hf); (try clear hi); (try clear hexit101); (try clear ht2); (try clear ht1); (try clear hn2); (try clear hn1); (try clear hi2); (try clear hb2); (try clear hRs); (try clear hRc); (try clear hRl); (try clear hRf); omega) | omega)) (F := (sLF h0 b)) (sE_leafO hi9 hb9) rfl 2 (by decide) (hts _ k300) (fun _ h9 => h9) rfl dX1_longestCommon_12 ?_
    refine fz_icmp_ge (tgt := 101) (by constructor <;> (first | ((try clear xc2); (try clear hlb2); (try clear hlb); (try clear hm9); (try clear hf); (try clear hexit101); (try clear ht2); (try clear ht1); (try clear hn2); (try clear hi2); (try clear hb2); (try clear hi9); (try clear hb9); (try clear hRs); (try clear hRc); (try clear hRl); (try clear hRf); omega) | omega)) (by constructor <;> (first | ((try clear xc2); (try clear hlb2); (try clear hlb); (try clear hm9); (try clear hf); (try clear hi); (try clear hexit101); (try clear ht2); (try clear ht1); (try clear hn2); (try clear hi2); (try clear hb2); (try clear hi9); (try clear hb9); (try clear hRs); (try clear hRc); (try clear hRl); (try clear hRf); omega) | omega)) hx hb dX1_longestCommon_15 (by decide) (fun c15_ => ?_) (fun c15_ => ?_)
    · exact hexit101 (i) μ H locs ls (by exact hf) hP hS (lv_sub hl [1, 2] rfl)
    · refine lv_iconst (v := iZ 0) hx hb dX1_longestCommon_18 rfl ?_
      refine lv_istore_n (lv' := [(3, .int (iZ (0))), (2, .int (iZ (i))), (1, .ref (h0 + b2)), (0, .ref (h0 + b))]) hx hb dX1_longestCommon_19 rfl hl (by decide) rfl (fun ls hl => ?_)
      refine lv_iconst (v := iZ 0) hx hb dX1_longestCommon_20 rfl ?_
      refine lv_istore (lv' := [(4, .int (iZ (0))), (3, .int (iZ (0))), (2, .int (iZ (i))), (1, .ref (h0 + b2)), (0, .ref (h0 + b))]) hx hb dX1_longestCommon_21 hl (by decide) rfl (fun ls hl => ?_)
      refine LX1_longestCommon_23 hx hb hml hown hts hK hM hRf hRl hRc hRs (μ0) (b) (ii) (b2) (i2) (i) (by assumption) (by assumption) (by assumption) (by assumption) (by assumption) (by assumption) (by exact ht1) (by exact ht2) (by (first | ((try clear xc2); (try clear hlb2); (try clear hlb); (try clear hm9); (try clear hf); (try clear hexit101); (try clear ht2); (try clear ht1); (try clear hn2); (try clear hn1); (try clear hi2); (try clear hb2); (try clear hi9); (try clear hb9); (try clear hRs); (try clear hRc); (try clear hRl); (try clear hRf); omega) | omega)) ?_ _ (0) (0) μ H locs ls (by (first | ((try clear c15_); (try clear xc); (try clear hlb2); (try clear hlb); (try clear hm9); (try clear hf); (try clear hi); (try clear hexit101); (try clear ht2); (try clear ht1); (try clear hn1); (try clear hi2); (try clear hb2); (try clear hi9); (try clear hb9); (try clear hRs); (try clear hRc); (try clear hRl); (try clear hRf); omega) | omega)) (by exact hf) (by intro k hk; have := hv k hk; (first | ((try clear hk); (try clear c15_); (try clear xc2); (try clear xc); (try clear hlb2); (try clear hlb); (try clear hm9); (try clear hf); (try clear hi); (try clear hexit101); (try clear ht2); (try clear ht1); (try clear hn2); (try clear hn1); (try clear hi2); (try clear hb2); (try clear hi9); (try clear hb9); (try clear hRs); (try clear hRc); (try clear hRl); (try clear hRf); omega) | omega)) (by intro k hk hk2; exact (hv k hk).2) (by (first | ((try clear c15_); (try clear xc2); (try clear xc); (try clear hlb2); (try clear hlb); (try clear hm9); (try clear hf); (try clear hexit101); (try clear ht2); (try clear ht1); (try clear hn2); (try clear hn1); (try clear hi2); (try clear hb2); (try clear hi9); (try clear hb9); (try clear hRs); (try clear hRc); (try clear hRl); (try clear hRf); omega) | omega)) (Nat.lt_succ_self _) hP hS (lv_sub hl [0, 1, 2, 3, 4] rfl)
      · intro j_3 di_3 μ3_ H locs ls q1_3 q2_3 hP hS hl
        have hl : lv_has ls 6 [(2, .int (iZ (i))), (1, .ref (h0 + b2)), (0, .ref (h0 + b))] := hl
        refine lv_iinc (v := iZ (i + 1)) (lv' := [(2, .int (iZ (i + 1))), (1, .ref (h0 + b2)), (0, .ref (h0 + b))]) hx hb dX1_longestCommon_95 hl (k := 0) rfl (iZ_add _ _) (by decide) rfl (fun ls hl => ?_)
        refine lv_goto (tgt := 10) hx hb dX1_longestCommon_98 (by decide) ?_
        exact ih (i + 1) μ3_ H locs ls (by (first | ((try clear q2_3); (try clear q1_3); (try clear μ3_); (try clear di_3); (try clear j_3); (try clear xc2); (try clear hlb2); (try clear hlb); (try clear hm9); (try clear hf); (try clear hexit101); (try clear ht2); (try clear ht1); (try clear hn2); (try clear hn1); (try clear hi2); (try clear hb2); (try clear hi9); (try clear hb9); (try clear hRs); (try clear hRc); (try clear hRl); (try clear hRf); omega) | omega)) (by exact q1_3) (by exact q2_3) (by (first | ((try clear q2_3); (try clear q1_3); (try clear μ3_); (try clear di_3); (try clear j_3); (try clear xc2); (try clear hlb2); (try clear hlb); (try clear hf); (try clear hexit101); (try clear ht2); (try clear ht1); (try clear hn2); (try clear hi2); (try clear hb2); (try clear hi9); (try clear hb9); (try clear hRs); (try clear hRc); (try clear hRl); (try clear hRf); omega) | omega)) hP hS (lv_sub hl [0, 1, 2] rfl)
set_option maxHeartbeats 4000000 in
set_option maxRecDepth 100000 in
theorem s_FlongestCommon (l : Launch) (dC : Nat → ClassId) (dI : Nat → Nat → Nat) (cI cZ cII cIII : ClassId) (h0 sz : Nat) (μ : va_M) (b : Nat) (ii : Nat) (b2 : Nat) (i2 : Nat) (hb9 : b = 113 + ii * 15) (hi9 : ii < 8) (hb2 : b2 = 113 + i2 * 15) (hi2 : i2 < 8) (hl1 : lfOK μ b) (hl2 : lfOK μ b2) : Met l yX1_longestCommon (Cond.code yX1_longestCommon cX1_longestCommon 6 (some .int) :: wsG) ({ frames := 2, cells := 0, slots := 0, locals := 37 } : Room) (va_Pc [.ref (h0 + b), .ref (h0 + b2)] (fun U => U.heap.size = sz ∧ va_P (dC, dI) vwCl (fw (sE cI cZ cII cIII h0) h0 233 μ) U.heap ∧ va_K (dC, dI) vwCl (sT cI cZ cII cIII) U ∧ xM U)) (va_Qi (fun (r9 : Int32) (u : va_M × Int) => r9 = iZ u.2 ∧ (fun (u : va_M) (r : Int) => fr (fun x _ => x = b + 14) μ u) u.1 u.2) (fun u t => va_P (dC, dI) vwCl (fw (sE cI cZ cII cIII h0) h0 233 u.1) t.heap ∧ va_K (dC, dI) vwCl (sT cI cZ cII cIII) t) (fA h0 233 sz)) 0 0 (fA h0 233 sz) := by
  refine Met.ofW (cc := cX1_longestCommon) (maxL := 6) (ret := (some .int)) (by decide) rfl ?_
  intro p e s m args below meth c s₁ B hml hv
  obtain ⟨rfl, hsz, hP, hK, hM⟩ := hv
  have hx := B.exec
  have hb := B.bytes
  have hr := B.returns
  have hts : ∀ w ∈ wsG, w.before _ s = true := hG_of (atoms_spec (ws := (Cond.code yX1_longestCommon cX1_longestCommon 6 (some .int) :: wsG)) B.pre)
  have hown : s.vm.findClass RX1 = some m.cls := findClass_of_methodNamed B.named
  have hlocks := B.notSynchronized
  subst hsz
  have hS : va_S (fA h0 233 s.heap.size) s.heap s.heap [] := va_S.rf
  have hl := lv_entry ([.ref (h0 + b), .ref (h0 + b2)]) (n := 6) (Nat.le_of_ble_eq_true rfl)
  rw [lg_entry_eq]
  generalize (lg_sl ([.ref (h0 + b), .ref (h0 + b2)]) ++ List.replicate (6 - (lg_sl ([.ref (h0 + b), .ref (h0 + b2)])).length) Slot.unset).toArray = ls at hl ⊢
  have hl : lv_has ls 6 [(0, .ref (h0 + b)), (1, .ref (h0 + b2))] := hl
  have hlb := lf_b hb9 hi9
  have hlb2 := lf_b hb2 hi2
  refine lv_aload_n hx hb dX1_longestCommon_0 rfl (lv_at hl 0 rfl) ?_
  refine fz_get (D := (dC, dI)) (ci := 1) (v := .ref (h0 + (b + 14))) (C := RX1) (T := TX1) (N := 8) hx hb hts inG1 hown hK hP (k := b) (by (first | ((try clear hlb2); (try clear hlb); (try clear hsz); (try clear s₁); (try clear hi2); (try clear hb2); omega) | omega)) (F := (sLF h0 b)) (sE_leafO hi9 hb9) rfl 7 (by decide) (hts _ k311) (fun _ h9 => h9) rfl dX1_longestCommon_1 ?_
  refine lv_iconst (v := iZ 0) hx hb dX1_longestCommon_4 rfl ?_
  refine va_callv (va_runS (As := [.ref (h0 + (b + 14)), .int (iZ (0))]) (rest := []) ⟨hx, hb, hml, hown, hts⟩ (s_fill l dC dI cI cZ cII cIII h0 s.heap.size μ ((b + 14)) (61) (0) (by (first | ((try clear hlb2); (try clear hlb); (try clear hsz); (try clear s₁); (try clear hi2); (try clear hb2); omega) | omega)) ((sE_leafA 14 61 hi9 hb9 (by decide)))) (va_cwS 2 hts (gT_G k1126 k330 k12 k331) rfl rfl rfl (by decide +kernel) ⟨Nat.le_of_ble_eq_true rfl, Nat.le_of_ble_eq_true rfl⟩) ⟨fun a U g mk q => by obtain ⟨q0, q1, qP, qK, qM⟩ := q; exact ⟨q0, q1, qP, va_K.moved (u := U) (U := U.calling g mk a) (Vm.Alike.refl U.vm) qK, qM⟩, fun U hU hW => ⟨rfl, by rw [hU], by rw [hU]; exact hP, va_K.moved hW.alike hK, xM_warm hW hM⟩⟩ rfl rfl hl.1 rfl (lv_room (Nat.le_of_ble_eq_true rfl)) dX1_longestCommon_5 ⟨Nat.le_of_ble_eq_true rfl, Nat.le_of_ble_eq_true rfl⟩) hS (fun q _ h => fA_le hS.1 q h) (fA_le hS.1) (fun u9 t9 H1 locs ht9 hvm9 hw9 hB9 hz9 hk9 hS => ?_)
  obtain ⟨hP, -⟩ := hB9
  rw [ht9] at hP
  generalize H1 = H at hP hS ⊢
  obtain ⟨μf, eμf⟩ : ∃ x : va_M, x = u9 := ⟨_, rfl⟩
  rw [← eμf] at hP hw9
  have hμf := hw9; clear hw9
  obtain ⟨f1_, v1_⟩ := hμf
  refine lv_iconst (v := iZ 0) hx hb dX1_longestCommon_8 rfl ?_
  refine lv_istore_n (lv' := [(2, .int (iZ (0))), (0, .ref (h0 + b)), (1, .ref (h0 + b2))]) hx hb dX1_longestCommon_9 rfl hl (by decide) rfl (fun ls hl => ?_)
  refine LX1_longestCommon_10 hx hb hml hown hts hK hM (Nat.le_of_ble_eq_true rfl) (Nat.le_of_ble_eq_true rfl) (Nat.le_of_ble_eq_true rfl) (Nat.le_of_ble_eq_true rfl) (μ) (b) (ii) (b2) (i2) (by assumption) (by assumption) (by assumption) (by assumption) (by exact hl1.1.1) (by exact hl2.1.1) (by exact hl1.2.1) (by exact hl2.2.1) ?_ _ (0) μf H locs ls (by have := hl1.1.1; (first | ((try clear v1_); (try clear f1_); (try clear hμf); (try clear x); (try clear eμf); (try clear μf); (try clear hz9); (try clear hlb2); (try clear hlb); (try clear hsz); (try clear s₁); (try clear hi2); (try clear hb2); (try clear hi9); (try clear hb9); omega) | omega)) (by exact f1_) (by intro j hj; rw [v1_ j hj]; decide) (Nat.lt_succ_self _) hP hS (lv_sub hl [0, 2, 1] rfl)
  · intro i_4 μ4_ H locs ls q1_4 hP hS hl
    have hl : lv_has ls 6 [(1, .ref (h0 + b2)), (0, .ref (h0 + b))] := hl
    have Q1 := q1_4
    have hlb := lf_b hb9 hi9
    have hlb2 := lf_b hb2 hi2
    have xc2 : μ4_ b2 2 = μ b2 2 := Q1 _ _ (by (first | ((try clear xc2); (try clear hlb2); (try clear hlb); (try clear Q1); (try clear q1_4); (try clear μ4_); (try clear i_4); (try clear v1_); (try clear f1_); (try clear hμf); (try clear x); (try clear eμf); (try clear μf); (try clear hz9); (try clear hsz); (try clear s₁); (try clear hi2); (try clear hi9); omega) | omega))
    have z2 := hl2.1.1
    refine lv_aload_n hx hb dX1_longestCommon_101 rfl (lv_at hl 1 rfl) ?_
    refine fz_get (D := (dC, dI)) (ci := 1) (v := .ref (h0 + (b + 14))) (C := RX1) (T := TX1) (N := 8) hx hb hts inG1 hown hK hP (k := b) (by (first | ((try clear z2); (try clear xc2); (try clear hlb2); (try clear hlb); (try clear Q1); (try clear q1_4); (try clear i_4); (try clear v1_); (try clear f1_); (try clear hμf); (try clear x); (try clear eμf); (try clear μf); (try clear hz9); (try clear hsz); (try clear s₁); (try clear hi2); (try clear hb2); omega) | omega)) (F := (sLF h0 b)) (sE_leafO hi9 hb9) rfl 7 (by decide) (hts _ k311) (fun _ h9 => h9) rfl dX1_longestCommon_102 ?_
    refine lv_aload_n hx hb dX1_longestCommon_105 rfl (lv_at hl 0 rfl) ?_
    refine fz_get (D := (dC, dI)) (ci := 1) (v := .int (iZ (μ4_ b2 2))) (C := RX1) (T := TX1) (N := 8) hx hb hts inG1 hown hK hP (k := b2) (by (first | ((try clear z2); (try clear xc2); (try clear hlb2); (try clear hlb); (try clear Q1); (try clear q1_4); (try clear i_4); (try clear v1_); (try clear f1_); (try clear hμf); (try clear x); (try clear eμf); (try clear μf); (try clear hz9); (try clear hsz); (try clear s₁); (try clear hi9); (try clear hb9); omega) | omega)) (F := (sLF h0 b2)) (sE_leafO hi2 hb2) rfl 2 (by decide) (hts _ k300) (fun _ h9 => h9) rfl dX1_longestCommon_106 ?_
    refine fz_ld (k := (b + 14)) (n := 61) hx hb hK hP 0 (by (first | ((try clear z2); (try clear xc2); (try clear hlb2); (try clear hlb); (try clear Q1); (try clear q1_4); (try clear i_4); (try clear v1_); (try clear f1_); (try clear hμf); (try clear x); (try clear eμf); (try clear μf); (try clear hz9); (try clear hsz); (try clear s₁); (try clear hi2); (try clear hb2); omega) | omega)) (sE_leafA 14 61 hi9 hb9 (by decide)) rfl ⟨by (first | ((try clear hlb2); (try clear hlb); (try clear Q1); (try clear q1_4); (try clear i_4); (try clear v1_); (try clear f1_); (try clear hμf); (try clear x); (try clear eμf); (try clear μf); (try clear hz9); (try clear hsz); (try clear s₁); (try clear hi2); (try clear hb2); (try clear hi9); (try clear hb9); omega) | omega), by (first | ((try clear hlb2); (try clear hlb); (try clear Q1); (try clear q1_4); (try clear i_4); (try clear v1_); (try clear f1_); (try clear hμf); (try clear x); (try clear eμf); (try clear μf); (try clear hz9); (try clear hsz); (try clear s₁); (try clear hi2); (try clear hb2); (try clear hi9); (try clear hb9); omega) | omega)⟩ (by decide) dX1_longestCommon_109 ?_
    exact W.iret (v := iZ (μ4_ (b + 14) (μ4_ b2 2).toNat)) hx hb hr (fun t9 ht9 hW9 => ⟨⟨iZ (μ4_ (b + 14) (μ4_ b2 2).toNat), (μ4_, μ4_ (b + 14) (μ4_ b2 2).toNat), rfl, ⟨rfl, (by
                dsimp only
                exact Q1)⟩, by rw [ht9]; exact hP, va_K.moved hW9.alike hK⟩, hS.F ht9⟩) hS.2.2 dX1_longestCommon_110

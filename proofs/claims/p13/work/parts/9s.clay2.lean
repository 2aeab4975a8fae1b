theorem k774 : (Cond.methodLink "PageSkeleton$Layer" (54 : Nat) ({ cls := "PageSkeleton$Row", name := "endsAt", desc := "(I)Z" } : MethodName)) ∈ wsG := wsG_at 774 (by decide +kernel) (by decide +kernel)
theorem k775 : (Cond.instanceMethod ({ cls := "PageSkeleton$Row", name := "endsAt", desc := "(I)Z" } : MethodName)) ∈ wsG := wsG_at 775 (by decide +kernel) (by decide +kernel)
theorem k776 : (Cond.selects "PageSkeleton$Row" ({ cls := "PageSkeleton$Row", name := "endsAt", desc := "(I)Z" } : MethodName) ({ cls := "PageSkeleton$Row", name := "endsAt", desc := "(I)Z" } : MethodName)) ∈ wsG := wsG_at 776 (by decide +kernel) (by decide +kernel)
theorem k777 : (Cond.code ({ cls := "PageSkeleton$Row", name := "endsAt", desc := "(I)Z" } : MethodName) prog_6_method_11_code (2 : Nat) (Option.some FieldType.boolean)) ∈ wsG := wsG_at 777 (by decide +kernel) (by decide +kernel)
theorem k778 : (Cond.constant "PageSkeleton$Layer" (58 : Nat) (268435456 : Int32)) ∈ wsG := wsG_at 778 (by decide +kernel) (by decide +kernel)
theorem k779 : (Cond.methodLink "PageSkeleton$Layer" (59 : Nat) ({ cls := "PageSkeleton$Layer", name := "both", desc := "(LPageSkeleton$Row;LPageSkeleton$Row;II)I" } : MethodName)) ∈ wsG := wsG_at 779 (by decide +kernel) (by decide +kernel)
theorem k781 : (Cond.instanceMethod ({ cls := "PageSkeleton$Layer", name := "both", desc := "(LPageSkeleton$Row;LPageSkeleton$Row;II)I" } : MethodName)) ∈ wsG := wsG_at 781 (by decide +kernel) (by decide +kernel)
theorem k782 : (Cond.code ({ cls := "PageSkeleton$Layer", name := "both", desc := "(LPageSkeleton$Row;LPageSkeleton$Row;II)I" } : MethodName) prog_2_method_6_code (8 : Nat) (Option.some FieldType.int)) ∈ wsG := wsG_at 782 (by decide +kernel) (by decide +kernel)
theorem k788 : (Cond.methodLink "PageSkeleton$Layer" (81 : Nat) ({ cls := "PageSkeleton$Layer", name := "packed", desc := "(IIIZ)I" } : MethodName)) ∈ wsG := wsG_at 788 (by decide +kernel) (by decide +kernel)
theorem k789 : (Cond.static ({ cls := "PageSkeleton$Layer", name := "packed", desc := "(IIIZ)I" } : MethodName)) ∈ wsG := wsG_at 789 (by decide +kernel) (by decide +kernel)
theorem k790 : (Cond.code ({ cls := "PageSkeleton$Layer", name := "packed", desc := "(IIIZ)I" } : MethodName) prog_2_method_5_code (4 : Nat) (Option.some FieldType.int)) ∈ wsG := wsG_at 790 (by decide +kernel) (by decide +kernel)
theorem k791 : (Cond.methodLink "PageSkeleton$Layer" (78 : Nat) ({ cls := "PageSkeleton$Row", name := "after", desc := "(I)I" } : MethodName)) ∈ wsG := wsG_at 791 (by decide +kernel) (by decide +kernel)
theorem k792 : (Cond.methodLink "PageSkeleton$Layer" (62 : Nat) ({ cls := "PageSkeleton$Layer", name := "intoRow", desc := "(LPageSkeleton$Row;LPageSkeleton$Row;II)I" } : MethodName)) ∈ wsG := wsG_at 792 (by decide +kernel) (by decide +kernel)
theorem k794 : (Cond.instanceMethod ({ cls := "PageSkeleton$Layer", name := "intoRow", desc := "(LPageSkeleton$Row;LPageSkeleton$Row;II)I" } : MethodName)) ∈ wsG := wsG_at 794 (by decide +kernel) (by decide +kernel)
theorem k795 : (Cond.code ({ cls := "PageSkeleton$Layer", name := "intoRow", desc := "(LPageSkeleton$Row;LPageSkeleton$Row;II)I" } : MethodName) prog_2_method_7_code (7 : Nat) (Option.some FieldType.int)) ∈ wsG := wsG_at 795 (by decide +kernel) (by decide +kernel)
theorem k797 : (Cond.methodLink "PageSkeleton$Layer" (98 : Nat) ({ cls := "PageSkeleton$Row", name := "matches", desc := "(ILPageSkeleton$Row;II)Z" } : MethodName)) ∈ wsG := wsG_at 797 (by decide +kernel) (by decide +kernel)
theorem k798 : (Cond.methodLink "PageSkeleton$Layer" (102 : Nat) ({ cls := "PageSkeleton$Row", name := "costOfRange", desc := "(ILPageSkeleton$Row;II)I" } : MethodName)) ∈ wsG := wsG_at 798 (by decide +kernel) (by decide +kernel)
theorem k799 : (Cond.instanceMethod ({ cls := "PageSkeleton$Row", name := "costOfRange", desc := "(ILPageSkeleton$Row;II)I" } : MethodName)) ∈ wsG := wsG_at 799 (by decide +kernel) (by decide +kernel)
theorem k800 : (Cond.selects "PageSkeleton$Row" ({ cls := "PageSkeleton$Row", name := "costOfRange", desc := "(ILPageSkeleton$Row;II)I" } : MethodName) ({ cls := "PageSkeleton$Row", name := "costOfRange", desc := "(ILPageSkeleton$Row;II)I" } : MethodName)) ∈ wsG := wsG_at 800 (by decide +kernel) (by decide +kernel)
theorem k801 : (Cond.code ({ cls := "PageSkeleton$Row", name := "costOfRange", desc := "(ILPageSkeleton$Row;II)I" } : MethodName) prog_6_method_15_code (7 : Nat) (Option.some FieldType.int)) ∈ wsG := wsG_at 801 (by decide +kernel) (by decide +kernel)
theorem k803 : (Cond.methodLink "PageSkeleton$Layer" (65 : Nat) ({ cls := "PageSkeleton$Layer", name := "intoPage", desc := "(LPageSkeleton$Row;LPageSkeleton$Row;II)I" } : MethodName)) ∈ wsG := wsG_at 803 (by decide +kernel) (by decide +kernel)
theorem k805 : (Cond.instanceMethod ({ cls := "PageSkeleton$Layer", name := "intoPage", desc := "(LPageSkeleton$Row;LPageSkeleton$Row;II)I" } : MethodName)) ∈ wsG := wsG_at 805 (by decide +kernel) (by decide +kernel)
theorem k806 : (Cond.code ({ cls := "PageSkeleton$Layer", name := "intoPage", desc := "(LPageSkeleton$Row;LPageSkeleton$Row;II)I" } : MethodName) prog_2_method_8_code (7 : Nat) (Option.some FieldType.int)) ∈ wsG := wsG_at 806 (by decide +kernel) (by decide +kernel)
theorem k807 : (Cond.methodLink "PageSkeleton$Layer" (68 : Nat) ({ cls := "java/lang/Math", name := "min", desc := "(II)I" } : MethodName)) ∈ wsG := wsG_at 807 (by decide +kernel) (by decide +kernel)
theorem k808 : (Cond.methodLink "PageSkeleton$Layer" (74 : Nat) ({ cls := "PageSkeleton$Row", name := "sizeAt", desc := "(I)I" } : MethodName)) ∈ wsG := wsG_at 808 (by decide +kernel) (by decide +kernel)
theorem ks_yX0_both : Cond.selects RX0 yX0_both yX0_both ∈ wsG := wsG_mem (by decide +kernel) (by decide +kernel)
theorem ks_yX0_intoRow : Cond.selects RX0 yX0_intoRow yX0_intoRow ∈ wsG := wsG_mem (by decide +kernel) (by decide +kernel)
theorem ks_yX0_intoPage : Cond.selects RX0 yX0_intoPage yX0_intoPage ∈ wsG := wsG_mem (by decide +kernel) (by decide +kernel)
theorem dX0_best_0 : decode cX0_best 0 = .ok (.aload_n 1, 1) := by decide +kernel
theorem dX0_best_1 : decode cX0_best 1 = .ok (.iload_n 3, 1) := by decide +kernel
theorem dX0_best_2 : decode cX0_best 2 = .ok (.invokevirtual 54, 3) := by decide +kernel
theorem dX0_best_5 : decode cX0_best 5 = .ok (.istore 5, 2) := by decide +kernel
theorem dX0_best_7 : decode cX0_best 7 = .ok (.aload_n 2, 1) := by decide +kernel
theorem dX0_best_8 : decode cX0_best 8 = .ok (.iload 4, 2) := by decide +kernel
theorem dX0_best_10 : decode cX0_best 10 = .ok (.invokevirtual 54, 3) := by decide +kernel
theorem dX0_best_13 : decode cX0_best 13 = .ok (.istore 6, 2) := by decide +kernel
theorem dX0_best_15 : decode cX0_best 15 = .ok (.iload 5, 2) := by decide +kernel
theorem dX0_best_17 : decode cX0_best 17 = .ok (.ifCond .eq 10, 3) := by decide +kernel
theorem dX0_best_20 : decode cX0_best 20 = .ok (.iload 6, 2) := by decide +kernel
theorem dX0_best_22 : decode cX0_best 22 = .ok (.ifCond .eq 5, 3) := by decide +kernel
theorem dX0_best_25 : decode cX0_best 25 = .ok (.iconst 1, 1) := by decide +kernel
theorem dX0_best_26 : decode cX0_best 26 = .ok (.ireturn, 1) := by decide +kernel
theorem dX0_best_27 : decode cX0_best 27 = .ok (.ldc 58, 2) := by decide +kernel
theorem dX0_best_29 : decode cX0_best 29 = .ok (.istore 7, 2) := by decide +kernel
theorem dX0_best_31 : decode cX0_best 31 = .ok (.iload 5, 2) := by decide +kernel
theorem dX0_best_33 : decode cX0_best 33 = .ok (.ifCond .ne 43, 3) := by decide +kernel
theorem dX0_best_36 : decode cX0_best 36 = .ok (.iload 6, 2) := by decide +kernel
theorem dX0_best_38 : decode cX0_best 38 = .ok (.ifCond .ne 38, 3) := by decide +kernel
theorem dX0_best_41 : decode cX0_best 41 = .ok (.aload_n 0, 1) := by decide +kernel
theorem dX0_best_42 : decode cX0_best 42 = .ok (.aload_n 1, 1) := by decide +kernel
theorem dX0_best_43 : decode cX0_best 43 = .ok (.aload_n 2, 1) := by decide +kernel
theorem dX0_best_44 : decode cX0_best 44 = .ok (.iload_n 3, 1) := by decide +kernel
theorem dX0_best_45 : decode cX0_best 45 = .ok (.iload 4, 2) := by decide +kernel
theorem dX0_best_47 : decode cX0_best 47 = .ok (.invokevirtual 59, 3) := by decide +kernel
theorem dX0_best_50 : decode cX0_best 50 = .ok (.aload_n 0, 1) := by decide +kernel
theorem dX0_best_51 : decode cX0_best 51 = .ok (.aload_n 1, 1) := by decide +kernel
theorem dX0_best_52 : decode cX0_best 52 = .ok (.aload_n 2, 1) := by decide +kernel
theorem dX0_best_53 : decode cX0_best 53 = .ok (.iload_n 3, 1) := by decide +kernel
theorem dX0_best_54 : decode cX0_best 54 = .ok (.iload 4, 2) := by decide +kernel
theorem dX0_best_56 : decode cX0_best 56 = .ok (.invokevirtual 62, 3) := by decide +kernel
theorem dX0_best_59 : decode cX0_best 59 = .ok (.aload_n 0, 1) := by decide +kernel
theorem dX0_best_60 : decode cX0_best 60 = .ok (.aload_n 1, 1) := by decide +kernel
theorem dX0_best_61 : decode cX0_best 61 = .ok (.aload_n 2, 1) := by decide +kernel
theorem dX0_best_62 : decode cX0_best 62 = .ok (.iload_n 3, 1) := by decide +kernel
theorem dX0_best_63 : decode cX0_best 63 = .ok (.iload 4, 2) := by decide +kernel
theorem dX0_best_65 : decode cX0_best 65 = .ok (.invokevirtual 65, 3) := by decide +kernel
theorem dX0_best_68 : decode cX0_best 68 = .ok (.invokestatic 68, 3) := by decide +kernel
theorem dX0_best_71 : decode cX0_best 71 = .ok (.invokestatic 68, 3) := by decide +kernel
theorem dX0_best_74 : decode cX0_best 74 = .ok (.istore 7, 2) := by decide +kernel
theorem dX0_best_76 : decode cX0_best 76 = .ok (.iload 5, 2) := by decide +kernel
theorem dX0_best_78 : decode cX0_best 78 = .ok (.ifCond .ne 58, 3) := by decide +kernel
theorem dX0_best_81 : decode cX0_best 81 = .ok (.aload_n 1, 1) := by decide +kernel
theorem dX0_best_82 : decode cX0_best 82 = .ok (.getfield 48, 3) := by decide +kernel
theorem dX0_best_85 : decode cX0_best 85 = .ok (.iload_n 3, 1) := by decide +kernel
theorem dX0_best_86 : decode cX0_best 86 = .ok (.iaload, 1) := by decide +kernel
theorem dX0_best_87 : decode cX0_best 87 = .ok (.sipush 513, 3) := by decide +kernel
theorem dX0_best_90 : decode cX0_best 90 = .ok (.if_icmp .ne 7, 3) := by decide +kernel
theorem dX0_best_93 : decode cX0_best 93 = .ok (.iconst 0, 1) := by decide +kernel
theorem dX0_best_94 : decode cX0_best 94 = .ok (.goto 8, 3) := by decide +kernel
theorem dX0_best_97 : decode cX0_best 97 = .ok (.aload_n 1, 1) := by decide +kernel
theorem dX0_best_98 : decode cX0_best 98 = .ok (.iload_n 3, 1) := by decide +kernel
theorem dX0_best_99 : decode cX0_best 99 = .ok (.invokevirtual 74, 3) := by decide +kernel
theorem dX0_best_102 : decode cX0_best 102 = .ok (.istore 8, 2) := by decide +kernel
theorem dX0_best_104 : decode cX0_best 104 = .ok (.iload 7, 2) := by decide +kernel
theorem dX0_best_106 : decode cX0_best 106 = .ok (.iload 8, 2) := by decide +kernel
theorem dX0_best_108 : decode cX0_best 108 = .ok (.iconst 4, 1) := by decide +kernel
theorem dX0_best_109 : decode cX0_best 109 = .ok (.aload_n 0, 1) := by decide +kernel
theorem dX0_best_110 : decode cX0_best 110 = .ok (.getfield 10, 3) := by decide +kernel
theorem dX0_best_113 : decode cX0_best 113 = .ok (.aload_n 1, 1) := by decide +kernel
theorem dX0_best_114 : decode cX0_best 114 = .ok (.iload_n 3, 1) := by decide +kernel
theorem dX0_best_115 : decode cX0_best 115 = .ok (.invokevirtual 78, 3) := by decide +kernel
theorem dX0_best_118 : decode cX0_best 118 = .ok (.aload_n 0, 1) := by decide +kernel
theorem dX0_best_119 : decode cX0_best 119 = .ok (.getfield 22, 3) := by decide +kernel
theorem dX0_best_122 : decode cX0_best 122 = .ok (.imul, 1) := by decide +kernel
theorem dX0_best_123 : decode cX0_best 123 = .ok (.iload 4, 2) := by decide +kernel
theorem dX0_best_125 : decode cX0_best 125 = .ok (.iadd, 1) := by decide +kernel
theorem dX0_best_126 : decode cX0_best 126 = .ok (.iaload, 1) := by decide +kernel
theorem dX0_best_127 : decode cX0_best 127 = .ok (.iconst 1, 1) := by decide +kernel
theorem dX0_best_128 : decode cX0_best 128 = .ok (.invokestatic 81, 3) := by decide +kernel
theorem dX0_best_131 : decode cX0_best 131 = .ok (.invokestatic 68, 3) := by decide +kernel
theorem dX0_best_134 : decode cX0_best 134 = .ok (.istore 7, 2) := by decide +kernel
theorem dX0_best_136 : decode cX0_best 136 = .ok (.iload 6, 2) := by decide +kernel
theorem dX0_best_138 : decode cX0_best 138 = .ok (.ifCond .ne 39, 3) := by decide +kernel
theorem dX0_best_141 : decode cX0_best 141 = .ok (.iload 7, 2) := by decide +kernel
theorem dX0_best_143 : decode cX0_best 143 = .ok (.aload_n 2, 1) := by decide +kernel
theorem dX0_best_144 : decode cX0_best 144 = .ok (.iload 4, 2) := by decide +kernel
theorem dX0_best_146 : decode cX0_best 146 = .ok (.invokevirtual 74, 3) := by decide +kernel
theorem dX0_best_149 : decode cX0_best 149 = .ok (.iconst 5, 1) := by decide +kernel
theorem dX0_best_150 : decode cX0_best 150 = .ok (.aload_n 0, 1) := by decide +kernel
theorem dX0_best_151 : decode cX0_best 151 = .ok (.getfield 10, 3) := by decide +kernel
theorem dX0_best_154 : decode cX0_best 154 = .ok (.iload_n 3, 1) := by decide +kernel
theorem dX0_best_155 : decode cX0_best 155 = .ok (.aload_n 0, 1) := by decide +kernel
theorem dX0_best_156 : decode cX0_best 156 = .ok (.getfield 22, 3) := by decide +kernel
theorem dX0_best_159 : decode cX0_best 159 = .ok (.imul, 1) := by decide +kernel
theorem dX0_best_160 : decode cX0_best 160 = .ok (.aload_n 2, 1) := by decide +kernel
theorem dX0_best_161 : decode cX0_best 161 = .ok (.iload 4, 2) := by decide +kernel
theorem dX0_best_163 : decode cX0_best 163 = .ok (.invokevirtual 78, 3) := by decide +kernel
theorem dX0_best_166 : decode cX0_best 166 = .ok (.iadd, 1) := by decide +kernel
theorem dX0_best_167 : decode cX0_best 167 = .ok (.iaload, 1) := by decide +kernel
theorem dX0_best_168 : decode cX0_best 168 = .ok (.iconst 1, 1) := by decide +kernel
theorem dX0_best_169 : decode cX0_best 169 = .ok (.invokestatic 81, 3) := by decide +kernel
theorem dX0_best_172 : decode cX0_best 172 = .ok (.invokestatic 68, 3) := by decide +kernel
theorem dX0_best_175 : decode cX0_best 175 = .ok (.istore 7, 2) := by decide +kernel
theorem dX0_best_177 : decode cX0_best 177 = .ok (.iload 7, 2) := by decide +kernel
theorem dX0_best_179 : decode cX0_best 179 = .ok (.ireturn, 1) := by decide +kernel
theorem dX0_both_0 : decode cX0_both 0 = .ok (.aload_n 1, 1) := by decide +kernel
theorem dX0_both_1 : decode cX0_both 1 = .ok (.getfield 48, 3) := by decide +kernel
theorem dX0_both_4 : decode cX0_both 4 = .ok (.iload_n 3, 1) := by decide +kernel
theorem dX0_both_5 : decode cX0_both 5 = .ok (.iaload, 1) := by decide +kernel
theorem dX0_both_6 : decode cX0_both 6 = .ok (.istore 5, 2) := by decide +kernel
theorem dX0_both_8 : decode cX0_both 8 = .ok (.aload_n 2, 1) := by decide +kernel
theorem dX0_both_9 : decode cX0_both 9 = .ok (.getfield 48, 3) := by decide +kernel
theorem dX0_both_12 : decode cX0_both 12 = .ok (.iload 4, 2) := by decide +kernel
theorem dX0_both_14 : decode cX0_both 14 = .ok (.iaload, 1) := by decide +kernel
theorem dX0_both_15 : decode cX0_both 15 = .ok (.istore 6, 2) := by decide +kernel
theorem dX0_both_17 : decode cX0_both 17 = .ok (.iload 5, 2) := by decide +kernel
theorem dX0_both_19 : decode cX0_both 19 = .ok (.invokestatic 85, 3) := by decide +kernel
theorem dX0_both_22 : decode cX0_both 22 = .ok (.ifCond .eq 44, 3) := by decide +kernel
theorem dX0_both_25 : decode cX0_both 25 = .ok (.iload 5, 2) := by decide +kernel
theorem dX0_both_27 : decode cX0_both 27 = .ok (.iload 6, 2) := by decide +kernel
theorem dX0_both_29 : decode cX0_both 29 = .ok (.invokestatic 88, 3) := by decide +kernel
theorem dX0_both_32 : decode cX0_both 32 = .ok (.ifCond .eq 34, 3) := by decide +kernel
theorem dX0_both_35 : decode cX0_both 35 = .ok (.iload 5, 2) := by decide +kernel
theorem dX0_both_37 : decode cX0_both 37 = .ok (.iload 6, 2) := by decide +kernel
theorem dX0_both_39 : decode cX0_both 39 = .ok (.invokestatic 92, 3) := by decide +kernel
theorem dX0_both_42 : decode cX0_both 42 = .ok (.iconst 1, 1) := by decide +kernel
theorem dX0_both_43 : decode cX0_both 43 = .ok (.aload_n 0, 1) := by decide +kernel
theorem dX0_both_44 : decode cX0_both 44 = .ok (.getfield 10, 3) := by decide +kernel
theorem dX0_both_47 : decode cX0_both 47 = .ok (.iload_n 3, 1) := by decide +kernel
theorem dX0_both_48 : decode cX0_both 48 = .ok (.iconst 1, 1) := by decide +kernel
theorem dX0_both_49 : decode cX0_both 49 = .ok (.iadd, 1) := by decide +kernel
theorem dX0_both_50 : decode cX0_both 50 = .ok (.aload_n 0, 1) := by decide +kernel
theorem dX0_both_51 : decode cX0_both 51 = .ok (.getfield 22, 3) := by decide +kernel
theorem dX0_both_54 : decode cX0_both 54 = .ok (.imul, 1) := by decide +kernel
theorem dX0_both_55 : decode cX0_both 55 = .ok (.iload 4, 2) := by decide +kernel
theorem dX0_both_57 : decode cX0_both 57 = .ok (.iadd, 1) := by decide +kernel
theorem dX0_both_58 : decode cX0_both 58 = .ok (.iconst 1, 1) := by decide +kernel
theorem dX0_both_59 : decode cX0_both 59 = .ok (.iadd, 1) := by decide +kernel
theorem dX0_both_60 : decode cX0_both 60 = .ok (.iaload, 1) := by decide +kernel
theorem dX0_both_61 : decode cX0_both 61 = .ok (.iconst 0, 1) := by decide +kernel
theorem dX0_both_62 : decode cX0_both 62 = .ok (.invokestatic 81, 3) := by decide +kernel
theorem dX0_both_65 : decode cX0_both 65 = .ok (.ireturn, 1) := by decide +kernel
theorem dX0_both_66 : decode cX0_both 66 = .ok (.iload 5, 2) := by decide +kernel
theorem dX0_both_68 : decode cX0_both 68 = .ok (.sipush 514, 3) := by decide +kernel
theorem dX0_both_71 : decode cX0_both 71 = .ok (.if_icmp .ne 70, 3) := by decide +kernel
theorem dX0_both_74 : decode cX0_both 74 = .ok (.iload 6, 2) := by decide +kernel
theorem dX0_both_76 : decode cX0_both 76 = .ok (.sipush 514, 3) := by decide +kernel
theorem dX0_both_79 : decode cX0_both 79 = .ok (.if_icmp .ne 62, 3) := by decide +kernel
theorem dX0_both_82 : decode cX0_both 82 = .ok (.aload_n 0, 1) := by decide +kernel
theorem dX0_both_83 : decode cX0_both 83 = .ok (.getfield 10, 3) := by decide +kernel
theorem dX0_both_86 : decode cX0_both 86 = .ok (.iload_n 3, 1) := by decide +kernel
theorem dX0_both_87 : decode cX0_both 87 = .ok (.iconst 1, 1) := by decide +kernel
theorem dX0_both_88 : decode cX0_both 88 = .ok (.iadd, 1) := by decide +kernel
theorem dX0_both_89 : decode cX0_both 89 = .ok (.aload_n 0, 1) := by decide +kernel
theorem dX0_both_90 : decode cX0_both 90 = .ok (.getfield 22, 3) := by decide +kernel
theorem dX0_both_93 : decode cX0_both 93 = .ok (.imul, 1) := by decide +kernel
theorem dX0_both_94 : decode cX0_both 94 = .ok (.iload 4, 2) := by decide +kernel
theorem dX0_both_96 : decode cX0_both 96 = .ok (.iadd, 1) := by decide +kernel
theorem dX0_both_97 : decode cX0_both 97 = .ok (.iconst 1, 1) := by decide +kernel
theorem dX0_both_98 : decode cX0_both 98 = .ok (.iadd, 1) := by decide +kernel
theorem dX0_both_99 : decode cX0_both 99 = .ok (.iaload, 1) := by decide +kernel
theorem dX0_both_100 : decode cX0_both 100 = .ok (.istore 7, 2) := by decide +kernel
theorem dX0_both_102 : decode cX0_both 102 = .ok (.iload 7, 2) := by decide +kernel
theorem dX0_both_104 : decode cX0_both 104 = .ok (.iconst 1, 1) := by decide +kernel
theorem dX0_both_105 : decode cX0_both 105 = .ok (.iand, 1) := by decide +kernel
theorem dX0_both_106 : decode cX0_both 106 = .ok (.ifCond .ne 35, 3) := by decide +kernel
theorem dX0_both_109 : decode cX0_both 109 = .ok (.iload 7, 2) := by decide +kernel
theorem dX0_both_111 : decode cX0_both 111 = .ok (.iconst 4, 1) := by decide +kernel
theorem dX0_both_112 : decode cX0_both 112 = .ok (.ishr, 1) := by decide +kernel
theorem dX0_both_113 : decode cX0_both 113 = .ok (.iconst 1, 1) := by decide +kernel
theorem dX0_both_114 : decode cX0_both 114 = .ok (.aload_n 0, 1) := by decide +kernel
theorem dX0_both_115 : decode cX0_both 115 = .ok (.getfield 10, 3) := by decide +kernel
theorem dX0_both_118 : decode cX0_both 118 = .ok (.aload_n 1, 1) := by decide +kernel
theorem dX0_both_119 : decode cX0_both 119 = .ok (.iload_n 3, 1) := by decide +kernel
theorem dX0_both_120 : decode cX0_both 120 = .ok (.invokevirtual 78, 3) := by decide +kernel
theorem dX0_both_123 : decode cX0_both 123 = .ok (.aload_n 0, 1) := by decide +kernel
theorem dX0_both_124 : decode cX0_both 124 = .ok (.getfield 22, 3) := by decide +kernel
theorem dX0_both_127 : decode cX0_both 127 = .ok (.imul, 1) := by decide +kernel
theorem dX0_both_128 : decode cX0_both 128 = .ok (.aload_n 2, 1) := by decide +kernel
theorem dX0_both_129 : decode cX0_both 129 = .ok (.iload 4, 2) := by decide +kernel
theorem dX0_both_131 : decode cX0_both 131 = .ok (.invokevirtual 78, 3) := by decide +kernel
theorem dX0_both_134 : decode cX0_both 134 = .ok (.iadd, 1) := by decide +kernel
theorem dX0_both_135 : decode cX0_both 135 = .ok (.iaload, 1) := by decide +kernel
theorem dX0_both_136 : decode cX0_both 136 = .ok (.iconst 0, 1) := by decide +kernel
theorem dX0_both_137 : decode cX0_both 137 = .ok (.invokestatic 81, 3) := by decide +kernel
theorem dX0_both_140 : decode cX0_both 140 = .ok (.ireturn, 1) := by decide +kernel
theorem dX0_both_141 : decode cX0_both 141 = .ok (.ldc 58, 2) := by decide +kernel
theorem dX0_both_143 : decode cX0_both 143 = .ok (.ireturn, 1) := by decide +kernel
theorem dX0_intoPage_0 : decode cX0_intoPage 0 = .ok (.aload_n 2, 1) := by decide +kernel
theorem dX0_intoPage_1 : decode cX0_intoPage 1 = .ok (.getfield 48, 3) := by decide +kernel
theorem dX0_intoPage_4 : decode cX0_intoPage 4 = .ok (.iload 4, 2) := by decide +kernel
theorem dX0_intoPage_6 : decode cX0_intoPage 6 = .ok (.iaload, 1) := by decide +kernel
theorem dX0_intoPage_7 : decode cX0_intoPage 7 = .ok (.sipush 514, 3) := by decide +kernel
theorem dX0_intoPage_10 : decode cX0_intoPage 10 = .ok (.if_icmp .eq 6, 3) := by decide +kernel
theorem dX0_intoPage_13 : decode cX0_intoPage 13 = .ok (.ldc 58, 2) := by decide +kernel
theorem dX0_intoPage_15 : decode cX0_intoPage 15 = .ok (.ireturn, 1) := by decide +kernel
theorem dX0_intoPage_16 : decode cX0_intoPage 16 = .ok (.aload_n 2, 1) := by decide +kernel
theorem dX0_intoPage_17 : decode cX0_intoPage 17 = .ok (.getfield 51, 3) := by decide +kernel
theorem dX0_intoPage_20 : decode cX0_intoPage 20 = .ok (.iload 4, 2) := by decide +kernel
theorem dX0_intoPage_22 : decode cX0_intoPage 22 = .ok (.iaload, 1) := by decide +kernel
theorem dX0_intoPage_23 : decode cX0_intoPage 23 = .ok (.iload 4, 2) := by decide +kernel
theorem dX0_intoPage_25 : decode cX0_intoPage 25 = .ok (.isub, 1) := by decide +kernel
theorem dX0_intoPage_26 : decode cX0_intoPage 26 = .ok (.iconst 1, 1) := by decide +kernel
theorem dX0_intoPage_27 : decode cX0_intoPage 27 = .ok (.isub, 1) := by decide +kernel
theorem dX0_intoPage_28 : decode cX0_intoPage 28 = .ok (.istore 5, 2) := by decide +kernel
theorem dX0_intoPage_30 : decode cX0_intoPage 30 = .ok (.aload_n 1, 1) := by decide +kernel
theorem dX0_intoPage_31 : decode cX0_intoPage 31 = .ok (.iload_n 3, 1) := by decide +kernel
theorem dX0_intoPage_32 : decode cX0_intoPage 32 = .ok (.aload_n 2, 1) := by decide +kernel
theorem dX0_intoPage_33 : decode cX0_intoPage 33 = .ok (.iload 4, 2) := by decide +kernel
theorem dX0_intoPage_35 : decode cX0_intoPage 35 = .ok (.iconst 1, 1) := by decide +kernel
theorem dX0_intoPage_36 : decode cX0_intoPage 36 = .ok (.iadd, 1) := by decide +kernel
theorem dX0_intoPage_37 : decode cX0_intoPage 37 = .ok (.iload 5, 2) := by decide +kernel
theorem dX0_intoPage_39 : decode cX0_intoPage 39 = .ok (.invokevirtual 98, 3) := by decide +kernel
theorem dX0_intoPage_42 : decode cX0_intoPage 42 = .ok (.ifCond .ne 6, 3) := by decide +kernel
theorem dX0_intoPage_45 : decode cX0_intoPage 45 = .ok (.ldc 58, 2) := by decide +kernel
theorem dX0_intoPage_47 : decode cX0_intoPage 47 = .ok (.ireturn, 1) := by decide +kernel
theorem dX0_intoPage_48 : decode cX0_intoPage 48 = .ok (.aload_n 1, 1) := by decide +kernel
theorem dX0_intoPage_49 : decode cX0_intoPage 49 = .ok (.iload_n 3, 1) := by decide +kernel
theorem dX0_intoPage_50 : decode cX0_intoPage 50 = .ok (.aload_n 2, 1) := by decide +kernel
theorem dX0_intoPage_51 : decode cX0_intoPage 51 = .ok (.iload 4, 2) := by decide +kernel
theorem dX0_intoPage_53 : decode cX0_intoPage 53 = .ok (.iconst 1, 1) := by decide +kernel
theorem dX0_intoPage_54 : decode cX0_intoPage 54 = .ok (.iadd, 1) := by decide +kernel
theorem dX0_intoPage_55 : decode cX0_intoPage 55 = .ok (.iload 5, 2) := by decide +kernel
theorem dX0_intoPage_57 : decode cX0_intoPage 57 = .ok (.invokevirtual 102, 3) := by decide +kernel
theorem dX0_intoPage_60 : decode cX0_intoPage 60 = .ok (.istore 6, 2) := by decide +kernel
theorem dX0_intoPage_62 : decode cX0_intoPage 62 = .ok (.iload 6, 2) := by decide +kernel
theorem dX0_intoPage_64 : decode cX0_intoPage 64 = .ok (.iconst 3, 1) := by decide +kernel
theorem dX0_intoPage_65 : decode cX0_intoPage 65 = .ok (.aload_n 0, 1) := by decide +kernel
theorem dX0_intoPage_66 : decode cX0_intoPage 66 = .ok (.getfield 10, 3) := by decide +kernel
theorem dX0_intoPage_69 : decode cX0_intoPage 69 = .ok (.iload_n 3, 1) := by decide +kernel
theorem dX0_intoPage_70 : decode cX0_intoPage 70 = .ok (.iload 5, 2) := by decide +kernel
theorem dX0_intoPage_72 : decode cX0_intoPage 72 = .ok (.iadd, 1) := by decide +kernel
theorem dX0_intoPage_73 : decode cX0_intoPage 73 = .ok (.aload_n 0, 1) := by decide +kernel
theorem dX0_intoPage_74 : decode cX0_intoPage 74 = .ok (.getfield 22, 3) := by decide +kernel
theorem dX0_intoPage_77 : decode cX0_intoPage 77 = .ok (.imul, 1) := by decide +kernel
theorem dX0_intoPage_78 : decode cX0_intoPage 78 = .ok (.aload_n 2, 1) := by decide +kernel
theorem dX0_intoPage_79 : decode cX0_intoPage 79 = .ok (.iload 4, 2) := by decide +kernel
theorem dX0_intoPage_81 : decode cX0_intoPage 81 = .ok (.invokevirtual 78, 3) := by decide +kernel
theorem dX0_intoPage_84 : decode cX0_intoPage 84 = .ok (.iadd, 1) := by decide +kernel
theorem dX0_intoPage_85 : decode cX0_intoPage 85 = .ok (.iaload, 1) := by decide +kernel
theorem dX0_intoPage_86 : decode cX0_intoPage 86 = .ok (.iconst 0, 1) := by decide +kernel
theorem dX0_intoPage_87 : decode cX0_intoPage 87 = .ok (.invokestatic 81, 3) := by decide +kernel
theorem dX0_intoPage_90 : decode cX0_intoPage 90 = .ok (.ireturn, 1) := by decide +kernel
theorem dX0_intoRow_0 : decode cX0_intoRow 0 = .ok (.aload_n 1, 1) := by decide +kernel
theorem dX0_intoRow_1 : decode cX0_intoRow 1 = .ok (.getfield 48, 3) := by decide +kernel
theorem dX0_intoRow_4 : decode cX0_intoRow 4 = .ok (.iload_n 3, 1) := by decide +kernel
theorem dX0_intoRow_5 : decode cX0_intoRow 5 = .ok (.iaload, 1) := by decide +kernel
theorem dX0_intoRow_6 : decode cX0_intoRow 6 = .ok (.invokestatic 95, 3) := by decide +kernel
theorem dX0_intoRow_9 : decode cX0_intoRow 9 = .ok (.ifCond .ne 6, 3) := by decide +kernel
theorem dX0_intoRow_12 : decode cX0_intoRow 12 = .ok (.ldc 58, 2) := by decide +kernel
theorem dX0_intoRow_14 : decode cX0_intoRow 14 = .ok (.ireturn, 1) := by decide +kernel
theorem dX0_intoRow_15 : decode cX0_intoRow 15 = .ok (.aload_n 1, 1) := by decide +kernel
theorem dX0_intoRow_16 : decode cX0_intoRow 16 = .ok (.getfield 51, 3) := by decide +kernel
theorem dX0_intoRow_19 : decode cX0_intoRow 19 = .ok (.iload_n 3, 1) := by decide +kernel
theorem dX0_intoRow_20 : decode cX0_intoRow 20 = .ok (.iaload, 1) := by decide +kernel
theorem dX0_intoRow_21 : decode cX0_intoRow 21 = .ok (.iload_n 3, 1) := by decide +kernel
theorem dX0_intoRow_22 : decode cX0_intoRow 22 = .ok (.isub, 1) := by decide +kernel
theorem dX0_intoRow_23 : decode cX0_intoRow 23 = .ok (.iconst 1, 1) := by decide +kernel
theorem dX0_intoRow_24 : decode cX0_intoRow 24 = .ok (.isub, 1) := by decide +kernel
theorem dX0_intoRow_25 : decode cX0_intoRow 25 = .ok (.istore 5, 2) := by decide +kernel
theorem dX0_intoRow_27 : decode cX0_intoRow 27 = .ok (.aload_n 1, 1) := by decide +kernel
theorem dX0_intoRow_28 : decode cX0_intoRow 28 = .ok (.iload_n 3, 1) := by decide +kernel
theorem dX0_intoRow_29 : decode cX0_intoRow 29 = .ok (.iconst 1, 1) := by decide +kernel
theorem dX0_intoRow_30 : decode cX0_intoRow 30 = .ok (.iadd, 1) := by decide +kernel
theorem dX0_intoRow_31 : decode cX0_intoRow 31 = .ok (.aload_n 2, 1) := by decide +kernel
theorem dX0_intoRow_32 : decode cX0_intoRow 32 = .ok (.iload 4, 2) := by decide +kernel
theorem dX0_intoRow_34 : decode cX0_intoRow 34 = .ok (.iload 5, 2) := by decide +kernel
theorem dX0_intoRow_36 : decode cX0_intoRow 36 = .ok (.invokevirtual 98, 3) := by decide +kernel
theorem dX0_intoRow_39 : decode cX0_intoRow 39 = .ok (.ifCond .ne 6, 3) := by decide +kernel
theorem dX0_intoRow_42 : decode cX0_intoRow 42 = .ok (.ldc 58, 2) := by decide +kernel
theorem dX0_intoRow_44 : decode cX0_intoRow 44 = .ok (.ireturn, 1) := by decide +kernel
theorem dX0_intoRow_45 : decode cX0_intoRow 45 = .ok (.aload_n 1, 1) := by decide +kernel
theorem dX0_intoRow_46 : decode cX0_intoRow 46 = .ok (.iload_n 3, 1) := by decide +kernel
theorem dX0_intoRow_47 : decode cX0_intoRow 47 = .ok (.iconst 1, 1) := by decide +kernel
theorem dX0_intoRow_48 : decode cX0_intoRow 48 = .ok (.iadd, 1) := by decide +kernel
theorem dX0_intoRow_49 : decode cX0_intoRow 49 = .ok (.aload_n 2, 1) := by decide +kernel
theorem dX0_intoRow_50 : decode cX0_intoRow 50 = .ok (.iload 4, 2) := by decide +kernel
theorem dX0_intoRow_52 : decode cX0_intoRow 52 = .ok (.iload 5, 2) := by decide +kernel
theorem dX0_intoRow_54 : decode cX0_intoRow 54 = .ok (.invokevirtual 102, 3) := by decide +kernel
theorem dX0_intoRow_57 : decode cX0_intoRow 57 = .ok (.istore 6, 2) := by decide +kernel
theorem dX0_intoRow_59 : decode cX0_intoRow 59 = .ok (.iload 6, 2) := by decide +kernel
theorem dX0_intoRow_61 : decode cX0_intoRow 61 = .ok (.iconst 2, 1) := by decide +kernel
theorem dX0_intoRow_62 : decode cX0_intoRow 62 = .ok (.aload_n 0, 1) := by decide +kernel
theorem dX0_intoRow_63 : decode cX0_intoRow 63 = .ok (.getfield 10, 3) := by decide +kernel
theorem dX0_intoRow_66 : decode cX0_intoRow 66 = .ok (.aload_n 1, 1) := by decide +kernel
theorem dX0_intoRow_67 : decode cX0_intoRow 67 = .ok (.iload_n 3, 1) := by decide +kernel
theorem dX0_intoRow_68 : decode cX0_intoRow 68 = .ok (.invokevirtual 78, 3) := by decide +kernel
theorem dX0_intoRow_71 : decode cX0_intoRow 71 = .ok (.aload_n 0, 1) := by decide +kernel
theorem dX0_intoRow_72 : decode cX0_intoRow 72 = .ok (.getfield 22, 3) := by decide +kernel
theorem dX0_intoRow_75 : decode cX0_intoRow 75 = .ok (.imul, 1) := by decide +kernel
theorem dX0_intoRow_76 : decode cX0_intoRow 76 = .ok (.iload 4, 2) := by decide +kernel
theorem dX0_intoRow_78 : decode cX0_intoRow 78 = .ok (.iadd, 1) := by decide +kernel
theorem dX0_intoRow_79 : decode cX0_intoRow 79 = .ok (.iload 5, 2) := by decide +kernel
theorem dX0_intoRow_81 : decode cX0_intoRow 81 = .ok (.iadd, 1) := by decide +kernel
theorem dX0_intoRow_82 : decode cX0_intoRow 82 = .ok (.iaload, 1) := by decide +kernel
theorem dX0_intoRow_83 : decode cX0_intoRow 83 = .ok (.aload_n 1, 1) := by decide +kernel
theorem dX0_intoRow_84 : decode cX0_intoRow 84 = .ok (.getfield 48, 3) := by decide +kernel
theorem dX0_intoRow_87 : decode cX0_intoRow 87 = .ok (.iload_n 3, 1) := by decide +kernel
theorem dX0_intoRow_88 : decode cX0_intoRow 88 = .ok (.iaload, 1) := by decide +kernel
theorem dX0_intoRow_89 : decode cX0_intoRow 89 = .ok (.sipush 513, 3) := by decide +kernel
theorem dX0_intoRow_92 : decode cX0_intoRow 92 = .ok (.if_icmp .ne 7, 3) := by decide +kernel
theorem dX0_intoRow_95 : decode cX0_intoRow 95 = .ok (.iconst 1, 1) := by decide +kernel
theorem dX0_intoRow_96 : decode cX0_intoRow 96 = .ok (.goto 4, 3) := by decide +kernel
theorem dX0_intoRow_99 : decode cX0_intoRow 99 = .ok (.iconst 0, 1) := by decide +kernel
theorem dX0_intoRow_100 : decode cX0_intoRow 100 = .ok (.invokestatic 81, 3) := by decide +kernel
theorem dX0_intoRow_103 : decode cX0_intoRow 103 = .ok (.ireturn, 1) := by decide +kernel
/-! laying: one cell -/
def LC (μ : va_M) (q q2 : Nat) (i j : Int) : Prop := ∀ i2 j2 : Int, vis μ q q2 i2 j2 → (i < i2 ∨ (i = i2 ∧ j < j2)) → bnd μ q q2 i2 j2 (μ 42 (i2 * μ 41 3 + j2).toNat)
def wR (μ : va_M) (q q2 : Nat) (i j r : Int) : Prop := (0 ≤ r ∧ r ≤ 268435456) ∧ (r < 268435456 → wOK μ q q2 i j (r / 2 % 8))
theorem wR_b {μ : va_M} {q q2 : Nat} {i j : Int} : wR μ q q2 i j 268435456 := ⟨by decide, fun h => absurd h (by decide)⟩
theorem wR_min {μ : va_M} {q q2 : Nat} {i j a b : Int} (h1 : wR μ q q2 i j a) (h2 : wR μ q q2 i j b) : wR μ q q2 i j (min a b) := by
  rcases Int.le_total a b with h | h
  · rw [Int.min_eq_left h]; exact h1
  · rw [Int.min_eq_right h]; exact h2
theorem cO_R {μ : va_M} {q q2 : Nat} {i j a : Int} (hv : vis μ q q2 i j) (hl : μ q 5 ≤ 1100 ∧ μ q2 5 ≤ 1100) (h : cO μ q q2 i j a) : wR μ q q2 i j a := by
  have h1 := h.1
  have h2 := hv.1
  unfold bnd at h1
  exact ⟨by omega, fun _ => h.2⟩
theorem cO_min {μ : va_M} {q q2 : Nat} {i j a b : Int} (hv : vis μ q q2 i j) (hl : μ q 5 ≤ 1100 ∧ μ q2 5 ≤ 1100) (h1 : wR μ q q2 i j a) (h2 : cO μ q q2 i j b) : cO μ q q2 i j (min a b) := by
  have h3 := h2.1
  have h5 := h1.1
  have h4 := hv.1
  unfold bnd at h3
  rcases Int.le_total a b with h | h
  · rw [Int.min_eq_left h]; exact ⟨⟨by omega, by omega⟩, h1.2 (by omega)⟩
  · rw [Int.min_eq_right h]; exact h2
theorem if_el {r : Int} {P : Prop} [Decidable P] (h : r = if P then 1 else 0) : (r = 1 ∧ P) ∨ (r = 0 ∧ ¬ P) := by
  split at h
  · exact Or.inl ⟨h, by assumption⟩
  · exact Or.inr ⟨h, by assumption⟩
theorem sz_b {μ : va_M} {q rm : Nat} {i : Int} (hG : rG μ q rm) (h0 : 0 ≤ i) (h1 : i < μ q 5) (hc : μ (q + 1) i.toNat ≠ 515) : 0 ≤ μ (q + 3) (μ (q + 2) i.toNat + 1).toNat - μ (q + 3) i.toNat ∧ μ (q + 3) (μ (q + 2) i.toNat + 1).toNat - μ (q + 3) i.toNat ≤ μ (q + 2) i.toNat + 1 - i := by
  obtain ⟨m, m1, m2, m3, m4, m5, m6⟩ := it_af hG (i := i.toNat) (by omega) hc
  have a1 := rG_ah hG (i := m + 1) m3
  have a2 := rG_ah hG (i := i.toNat) (by omega)
  have a3 := aL_b (μ (q + 1)) i.toNat (m + 1 - i.toNat)
  rw [show i.toNat + (m + 1 - i.toNat) = m + 1 by omega] at a3
  rw [m1, show ((m : Int) + 1).toNat = m + 1 by omega]
  omega
set_option maxHeartbeats 4000000 in
set_option maxRecDepth 100000 in
theorem s_Yboth (l : Launch) (dC : Nat → ClassId) (dI : Nat → Nat → Nat) (cI cZ cII cIII : ClassId) (h0 sz : Nat) (μ : va_M) (q : Nat) (rm : Nat) (q2 : Nat) (rm2 : Nat) (i : Int) (j : Int) (hq : rowB q rm) (hq2 : rowB q2 rm2) (hG : rG μ q rm) (hG2 : rG μ q2 rm2) (h96 : rm2 = 96) (hst : μ 41 3 = μ q2 5 + 1) (hv : vis μ q q2 i j) (hLC : LC μ q q2 i j) (hi : i < μ q 5 ∧ μ (q + 1) i.toNat ≠ 515) (hj : j < μ q2 5 ∧ μ (q2 + 1) j.toNat ≠ 515) : Met l yX0_both (Cond.code yX0_both cX0_both 8 (some .int) :: wsG) ({ frames := 2, cells := 0, slots := 0, locals := 37 } : Room) (va_Pc [.ref (h0 + 41), .ref (h0 + q), .ref (h0 + q2), .int (iZ (i)), .int (iZ (j))] (fun U => U.heap.size = sz ∧ va_P (dC, dI) vwCl (fw (sE cI cZ cII cIII h0) h0 233 μ) U.heap ∧ va_K (dC, dI) vwCl (sT cI cZ cII cIII) U ∧ xM U)) (va_Qi (fun (r9 : Int32) (u : va_M × Int) => r9 = iZ u.2 ∧ (fun (u : va_M) (r : Int) => u = μ ∧ wR μ q q2 i j r) u.1 u.2) (fun u t => va_P (dC, dI) vwCl (fw (sE cI cZ cII cIII h0) h0 233 u.1) t.heap ∧ va_K (dC, dI) vwCl (sT cI cZ cII cIII) t) (fA h0 233 sz)) 0 0 (fA h0 233 sz) := by
  refine Met.ofW (cc := cX0_both) (maxL := 8) (ret := (some .int)) (by decide) rfl ?_
  intro p e s m args below meth c s₁ B hml hv
  obtain ⟨rfl, hsz, hP, hK, hM⟩ := hv
  have hx := B.exec
  have hb := B.bytes
  have hr := B.returns
  have hts : ∀ w ∈ wsG, w.before _ s = true := hG_of (atoms_spec (ws := (Cond.code yX0_both cX0_both 8 (some .int) :: wsG)) B.pre)
  have hown : s.vm.findClass RX0 = some m.cls := findClass_of_methodNamed B.named
  have hlocks := B.notSynchronized
  subst hsz
  have hS : va_S (fA h0 233 s.heap.size) s.heap s.heap [] := va_S.rf
  have hl := lv_entry ([.ref (h0 + 41), .ref (h0 + q), .ref (h0 + q2), .int (iZ (i)), .int (iZ (j))]) (n := 8) (Nat.le_of_ble_eq_true rfl)
  rw [lg_entry_eq]
  generalize (lg_sl ([.ref (h0 + 41), .ref (h0 + q), .ref (h0 + q2), .int (iZ (i)), .int (iZ (j))]) ++ List.replicate (8 - (lg_sl ([.ref (h0 + 41), .ref (h0 + q), .ref (h0 + q2), .int (iZ (i)), .int (iZ (j))])).length) Slot.unset).toArray = ls at hl ⊢
  have hl : lv_has ls 8 [(0, .ref (h0 + 41)), (1, .ref (h0 + q)), (2, .ref (h0 + q2)), (3, .int (iZ (i))), (4, .int (iZ (j)))] := hl
  have hqb := rowB_b hq
  have hqb2 := rowB_b hq2
  have hrm := rG_rm hq hG
  have hrm2 := rG_rm hq2 hG2
  have hs1 := hG.1 i.toNat
  have hs2 := hG2.1 j.toNat
  have hv0 := hv.1
  have ml0 := mulC (i := i) (s := μ 41 3) (by omega) (by omega) (by omega) (by omega)
  have hm1 := rG_m hG i (by omega) (by omega)
  have hm2 := rG_m hG2 j (by omega) (by omega)
  have ml1 := mulC (i := i + 1) (s := μ 41 3) (by omega) (by omega) (by omega) (by omega)
  refine lv_aload_n hx hb dX0_both_0 rfl (lv_at hl 1 rfl) ?_
  refine fz_get (D := (dC, dI)) (ci := 4) (v := .ref (h0 + (q + 1))) (C := RX4) (T := TX4) (N := 8) hx hb hts inG4 hown hK hP (k := q) (by omega) (F := (sRF h0 q)) (sE_rowO hq) rfl 0 (by decide) (hts _ k80) (fun _ h9 => h9) rfl dX0_both_1 ?_
  refine lv_iload_n hx hb dX0_both_4 rfl (lv_at hl 3 rfl) ?_
  refine fz_ld (k := (q + 1)) (n := rm) hx hb hK hP 0 (by omega) (sE_rowA (r := 1) hq (by decide)) rfl ⟨by omega, by omega⟩ (by omega) dX0_both_5 ?_
  refine lv_istore (lv' := [(5, .int (iZ (μ (q + 1) (i).toNat))), (0, .ref (h0 + 41)), (1, .ref (h0 + q)), (2, .ref (h0 + q2)), (3, .int (iZ (i))), (4, .int (iZ (j)))]) hx hb dX0_both_6 hl (by decide) rfl (fun ls hl => ?_)
  refine lv_aload_n hx hb dX0_both_8 rfl (lv_at hl 3 rfl) ?_
  refine fz_get (D := (dC, dI)) (ci := 4) (v := .ref (h0 + (q2 + 1))) (C := RX4) (T := TX4) (N := 8) hx hb hts inG4 hown hK hP (k := q2) (by omega) (F := (sRF h0 q2)) (sE_rowO hq2) rfl 0 (by decide) (hts _ k80) (fun _ h9 => h9) rfl dX0_both_9 ?_
  refine lv_iload hx hb dX0_both_12 (lv_at hl 5 rfl) ?_
  refine fz_ld (k := (q2 + 1)) (n := rm2) hx hb hK hP 0 (by omega) (sE_rowA (r := 1) hq2 (by decide)) rfl ⟨by omega, by omega⟩ (by omega) dX0_both_14 ?_
  refine lv_istore (lv' := [(6, .int (iZ (μ (q2 + 1) (j).toNat))), (5, .int (iZ (μ (q + 1) (i).toNat))), (0, .ref (h0 + 41)), (1, .ref (h0 + q)), (2, .ref (h0 + q2)), (3, .int (iZ (i))), (4, .int (iZ (j)))]) hx hb dX0_both_15 hl (by decide) rfl (fun ls hl => ?_)
  refine lv_iload hx hb dX0_both_17 (lv_at hl 1 rfl) ?_
  refine va_calli (va_runSN (As := [.int (iZ (μ (q + 1) (i).toNat))]) (rest := []) ⟨hx, hb, hml, hown, hts⟩ (s_isLeaf l dC dI cI cZ cII cIII h0 s.heap.size μ (μ (q + 1) (i).toNat) (by first | assumption | omega | exact ⟨by omega, by omega⟩)) ⟨va_cnB (host := "PageSkeleton") 1 hts (gI_G k420) rfl rfl rfl (xM_nest hM 14 rfl) (hts _ k1) (by decide +kernel) ⟨Nat.le_of_ble_eq_true rfl, Nat.le_of_ble_eq_true rfl⟩, hts _ k419, trivial⟩ ⟨fun a U g mk q => by obtain ⟨q0, q1, qP, qK, qM⟩ := q; exact ⟨q0, q1, qP, va_K.moved (u := U) (U := U.calling g mk a) (Vm.Alike.refl U.vm) qK, qM⟩, fun U hU hW => ⟨rfl, by rw [hU], by rw [hU]; exact hP, va_K.moved hW.alike hK, xM_warm hW hM⟩⟩ rfl rfl hl.1 rfl (lv_room (Nat.le_of_ble_eq_true rfl)) dX0_both_19 ⟨Nat.le_of_ble_eq_true rfl, Nat.le_of_ble_eq_true rfl⟩) hS (fun q _ h => fA_le hS.1 q h) (fA_le hS.1) (fun r9 u9 t9 H1 locs ht9 hvm9 hw9 hB9 hz9 hk9 hS => ?_)
  obtain ⟨μ1, r2⟩ := u9
  obtain ⟨hP, -⟩ := hB9
  rw [ht9] at hP
  generalize H1 = H at hP hS ⊢
  obtain ⟨e9, hw9⟩ := hw9
  have e9 : r9 = iZ r2 := e9
  subst e9
  simp only at hP hw9
  have hμ1 := hw9; clear hw9
  rw [hμ1.1] at hP; have hμ1 := hμ1.2
  have hlf := if_el hμ1
  refine fz_if_eq (tgt := 66) (by constructor <;> omega) hx hb dX0_both_22 (by decide) (fun c22_ => ?_) (fun c22_ => ?_)
  · refine lv_iload hx hb dX0_both_66 (lv_at hl 1 rfl) ?_
    refine lv_sipush (v := iZ 514) hx hb dX0_both_68 rfl ?_
    refine fz_icmp_ne (tgt := 141) (by constructor <;> omega) (by decide) hx hb dX0_both_71 (by decide) (fun c71_ => ?_) (fun c71_ => ?_)
    · refine lv_ldc (v := iZ 268435456) hx hb hown (hts _ k778) dX0_both_141 ?_
      exact W.iret (v := iZ (268435456)) hx hb hr (fun t9 ht9 hW9 => ⟨⟨iZ (268435456), (μ, 268435456), rfl, ⟨rfl, (by
                    dsimp only
                    exact ⟨rfl, wR_b⟩)⟩, by rw [ht9]; exact hP, va_K.moved hW9.alike hK⟩, hS.F ht9⟩) hS.2.2 dX0_both_143
    · refine lv_iload hx hb dX0_both_74 (lv_at hl 0 rfl) ?_
      refine lv_sipush (v := iZ 514) hx hb dX0_both_76 rfl ?_
      refine fz_icmp_ne (tgt := 141) (by constructor <;> omega) (by decide) hx hb dX0_both_79 (by decide) (fun c79_ => ?_) (fun c79_ => ?_)
      · refine lv_ldc (v := iZ 268435456) hx hb hown (hts _ k778) dX0_both_141 ?_
        exact W.iret (v := iZ (268435456)) hx hb hr (fun t9 ht9 hW9 => ⟨⟨iZ (268435456), (μ, 268435456), rfl, ⟨rfl, (by
                        dsimp only
                        exact ⟨rfl, wR_b⟩)⟩, by rw [ht9]; exact hP, va_K.moved hW9.alike hK⟩, hS.F ht9⟩) hS.2.2 dX0_both_143
      · have hvc := vis_1 hv hi.1 hj.1 (Or.inr ⟨by omega, by omega⟩)
        have hbc := hLC (i + 1) (j + 1) hvc (Or.inl (by omega))
        rw [← Int.add_assoc] at hbc
        unfold bnd at hbc
        have hvc1 := hvc.1
        have mlc := mulC (i := i + 1) (s := μ 41 3) (by omega) (by omega) (by omega) (by omega)
        refine lv_aload_n hx hb dX0_both_82 rfl (lv_at hl 2 rfl) ?_
        refine fz_get (D := (dC, dI)) (ci := 0) (v := .ref (h0 + 42)) (C := RX0) (T := TX0) (N := 7) hx hb hts inG0 hown hK hP (k := 41) (by decide) (F := (sF41 h0)) sE_41 rfl 0 (by decide) (hts _ k182) (fun _ h9 => h9) rfl dX0_both_83 ?_
        refine lv_iload_n hx hb dX0_both_86 rfl (lv_at hl 5 rfl) ?_
        refine lv_iconst (v := iZ 1) hx hb dX0_both_87 rfl ?_
        refine lv_iadd hx hb dX0_both_88 ?_
        refine lv_topi (fun x9 ex9 => ?_)
        obtain rfl : x9 = iZ (i + 1) := ex9.trans (iZ_add _ _)
        refine lv_aload_n hx hb dX0_both_89 rfl (lv_at hl 2 rfl) ?_
        refine fz_get (D := (dC, dI)) (ci := 0) (v := .int (iZ (μ 41 3))) (C := RX0) (T := TX0) (N := 7) hx hb hts inG0 hown hK hP (k := 41) (by decide) (F := (sF41 h0)) sE_41 rfl 3 (by decide) (hts _ k185) (fun _ h9 => h9) rfl dX0_both_90 ?_
        refine lv_imul hx hb dX0_both_93 ?_
        refine lv_topi (fun x9 ex9 => ?_)
        obtain rfl : x9 = iZ ((i + 1) * (μ 41 3)) := ex9.trans (iZ_mul _ _)
        refine lv_iload hx hb dX0_both_94 (lv_at hl 6 rfl) ?_
        refine lv_iadd hx hb dX0_both_96 ?_
        refine lv_topi (fun x9 ex9 => ?_)
        obtain rfl : x9 = iZ (((i + 1) * (μ 41 3)) + j) := ex9.trans (iZ_add _ _)
        refine lv_iconst (v := iZ 1) hx hb dX0_both_97 rfl ?_
        refine lv_iadd hx hb dX0_both_98 ?_
        refine lv_topi (fun x9 ex9 => ?_)
        obtain rfl : x9 = iZ ((((i + 1) * (μ 41 3)) + j) + 1) := ex9.trans (iZ_add _ _)
        refine fz_ld (k := 42) (n := 106797) hx hb hK hP 0 (by decide) sE_42 rfl ⟨by omega, by omega⟩ (by decide) dX0_both_99 ?_
        refine lv_istore (lv' := [(7, .int (iZ (μ 42 ((((i + 1) * (μ 41 3)) + j) + 1).toNat))), (6, .int (iZ (μ (q2 + 1) (j).toNat))), (5, .int (iZ (μ (q + 1) (i).toNat))), (0, .ref (h0 + 41)), (1, .ref (h0 + q)), (2, .ref (h0 + q2)), (3, .int (iZ (i))), (4, .int (iZ (j)))]) hx hb dX0_both_100 hl (by decide) rfl (fun ls hl => ?_)
        refine lv_iload hx hb dX0_both_102 (lv_at hl 0 rfl) ?_
        refine lv_iconst (v := iZ 1) hx hb dX0_both_104 rfl ?_
        refine lv_iand hx hb dX0_both_105 ?_
        refine lv_topi (fun x9 ex9 => ?_)
        obtain ⟨z3, rfl, hz3⟩ := iZ_ex x9
        have ez3 := ex9; clear ex9
        have ha1 := and1 hz3 (by omega) ez3
        refine fz_if_ne (tgt := 141) (by exact hz3) hx hb dX0_both_106 (by decide) (fun c106_ => ?_) (fun c106_ => ?_)
        · refine lv_ldc (v := iZ 268435456) hx hb hown (hts _ k778) dX0_both_141 ?_
          exact W.iret (v := iZ (268435456)) hx hb hr (fun t9 ht9 hW9 => ⟨⟨iZ (268435456), (μ, 268435456), rfl, ⟨rfl, (by
                            dsimp only
                            exact ⟨rfl, wR_b⟩)⟩, by rw [ht9]; exact hP, va_K.moved hW9.alike hK⟩, hS.F ht9⟩) hS.2.2 dX0_both_143
        · refine lv_iload hx hb dX0_both_109 (lv_at hl 0 rfl) ?_
          refine lv_iconst (v := iZ 4) hx hb dX0_both_111 rfl ?_
          refine lv_ishr hx hb dX0_both_112 ?_
          refine lv_topi (fun x9 ex9 => ?_)
          obtain ⟨z4, rfl, hz4⟩ := iZ_ex x9
          have ez4 := ex9; clear ex9
          have hs4 := shr4 hz4 (by constructor <;> omega) ez4
          refine lv_iconst (v := iZ 1) hx hb dX0_both_113 rfl ?_
          refine lv_aload_n hx hb dX0_both_114 rfl (lv_at hl 3 rfl) ?_
          refine fz_get (D := (dC, dI)) (ci := 0) (v := .ref (h0 + 42)) (C := RX0) (T := TX0) (N := 7) hx hb hts inG0 hown hK hP (k := 41) (by decide) (F := (sF41 h0)) sE_41 rfl 0 (by decide) (hts _ k182) (fun _ h9 => h9) rfl dX0_both_115 ?_
          refine lv_aload_n hx hb dX0_both_118 rfl (lv_at hl 4 rfl) ?_
          refine lv_iload_n hx hb dX0_both_119 rfl (lv_at hl 6 rfl) ?_
          refine va_calli (va_runV (As := [.int (iZ (i))]) (rest := [.ref (h0 + 42), .int (iZ (1)), .int (iZ (z4))]) ⟨hx, hb, hml, hown, hts⟩ (s_Rafter l dC dI cI cZ cII cIII h0 H.size μ (q) (rm) (i) (hq) (by first | assumption | omega | exact ⟨by omega, by omega⟩) (by constructor <;> omega)) (cwV 1 hts (gV_G k791 k438 k439 k3 k440) rfl rfl rfl (by decide +kernel) ⟨Nat.le_of_ble_eq_true rfl, Nat.le_of_ble_eq_true rfl⟩) ⟨fun a U g mk q => by obtain ⟨q0, q1, qP, qK, qM⟩ := q; exact ⟨q0, q1, qP, va_K.moved (u := U) (U := U.calling g mk a) (Vm.Alike.refl U.vm) qK, qM⟩, va_recv hK hP (ci := 4) (q0 := q) rfl ((fw_get (by omega)).trans (by rw [(sE_rowO hq)])), fun U hU hW => ⟨rfl, by rw [hU], by rw [hU]; exact hP, va_K.moved hW.alike hK, xM_warm hW hM⟩⟩ rfl rfl hl.1 rfl (lv_room (Nat.le_of_ble_eq_true rfl)) dX0_both_120 ⟨Nat.le_of_ble_eq_true rfl, Nat.le_of_ble_eq_true rfl⟩) hS (fun q _ h => fA_le hS.1 q h) (fA_le hS.1) (fun r9 u9 t9 H1 locs ht9 hvm9 hw9 hB9 hz9 hk9 hS => ?_)
          obtain ⟨μa, ra⟩ := u9
          obtain ⟨hP, -⟩ := hB9
          rw [ht9] at hP
          generalize H1 = H at hP hS ⊢
          obtain ⟨e9, hw9⟩ := hw9
          have e9 : r9 = iZ ra := e9
          subst e9
          simp only at hP hw9
          have hμa := hw9; clear hw9
          rw [hμa.1] at hP; have hμa := hμa.2
          have hra := hμa
          refine lv_aload_n hx hb dX0_both_123 rfl (lv_at hl 3 rfl) ?_
          refine fz_get (D := (dC, dI)) (ci := 0) (v := .int (iZ (μ 41 3))) (C := RX0) (T := TX0) (N := 7) hx hb hts inG0 hown hK hP (k := 41) (by decide) (F := (sF41 h0)) sE_41 rfl 3 (by decide) (hts _ k185) (fun _ h9 => h9) rfl dX0_both_124 ?_
          refine lv_imul hx hb dX0_both_127 ?_
          refine lv_topi (fun x9 ex9 => ?_)
          obtain rfl : x9 = iZ (ra * (μ 41 3)) := ex9.trans (iZ_mul _ _)
          refine lv_aload_n hx hb dX0_both_128 rfl (lv_at hl 5 rfl) ?_
          refine lv_iload hx hb dX0_both_129 (lv_at hl 7 rfl) ?_
          refine va_calli (va_runV (As := [.int (iZ (j))]) (rest := [.int (iZ (ra * (μ 41 3))), .ref (h0 + 42), .int (iZ (1)), .int (iZ (z4))]) ⟨hx, hb, hml, hown, hts⟩ (s_Rafter l dC dI cI cZ cII cIII h0 H.size μ (q2) (rm2) (j) (hq2) (by first | assumption | omega | exact ⟨by omega, by omega⟩) (by constructor <;> omega)) (cwV 1 hts (gV_G k791 k438 k439 k3 k440) rfl rfl rfl (by decide +kernel) ⟨Nat.le_of_ble_eq_true rfl, Nat.le_of_ble_eq_true rfl⟩) ⟨fun a U g mk q => by obtain ⟨q0, q1, qP, qK, qM⟩ := q; exact ⟨q0, q1, qP, va_K.moved (u := U) (U := U.calling g mk a) (Vm.Alike.refl U.vm) qK, qM⟩, va_recv hK hP (ci := 4) (q0 := q2) rfl ((fw_get (by omega)).trans (by rw [(sE_rowO hq2)])), fun U hU hW => ⟨rfl, by rw [hU], by rw [hU]; exact hP, va_K.moved hW.alike hK, xM_warm hW hM⟩⟩ rfl rfl hl.1 rfl (lv_room (Nat.le_of_ble_eq_true rfl)) dX0_both_131 ⟨Nat.le_of_ble_eq_true rfl, Nat.le_of_ble_eq_true rfl⟩) hS (fun q _ h => fA_le hS.1 q h) (fA_le hS.1) (fun r9 u9 t9 H1 locs ht9 hvm9 hw9 hB9 hz9 hk9 hS => ?_)
          obtain ⟨μb, rb⟩ := u9
          obtain ⟨hP, -⟩ := hB9
          rw [ht9] at hP
          generalize H1 = H at hP hS ⊢
          obtain ⟨e9, hw9⟩ := hw9
          have e9 : r9 = iZ rb := e9
          subst e9
          simp only at hP hw9
          have hμb := hw9; clear hw9
          rw [hμb.1] at hP; have hμb := hμb.2
          have hrb := hμb
          have _ := hrb
          obtain ⟨y1_, y2_, y3_⟩ := vis_4 hG hv hi.1 hi.2
          have hvd := vis_1b hG hG2 hv hi.1 hj.1 (by omega) (by omega)
          rw [← hra, ← hrb] at hvd
          have hbd := hLC (ra) (rb) hvd (Or.inl (by omega))
          unfold bnd at hbd
          have hvd1 := hvd.1
          have mld := mulC (i := ra) (s := μ 41 3) (by omega) (by omega) (by omega) (by omega)
          refine lv_iadd hx hb dX0_both_134 ?_
          refine lv_topi (fun x9 ex9 => ?_)
          obtain rfl : x9 = iZ ((ra * (μ 41 3)) + rb) := ex9.trans (iZ_add _ _)
          refine fz_ld (k := 42) (n := 106797) hx hb hK hP 0 (by decide) sE_42 rfl ⟨by omega, by omega⟩ (by decide) dX0_both_135 ?_
          refine lv_iconst (v := iZ 0) hx hb dX0_both_136 rfl ?_
          refine va_calli (va_runS (As := [.int (iZ (z4)), .int (iZ (1)), .int (iZ (μ 42 ((ra * (μ 41 3)) + rb).toNat)), .int (iZ (0))]) (rest := []) ⟨hx, hb, hml, hown, hts⟩ (s_Ypacked l dC dI cI cZ cII cIII h0 H.size μ (z4) (1) (μ 42 ((ra * (μ 41 3)) + rb).toNat) (0) (by first | assumption | omega | exact ⟨by omega, by omega⟩) (by first | assumption | omega | exact ⟨by omega, by omega⟩) (by first | assumption | omega | exact ⟨by omega, by omega⟩) (by first | assumption | omega | exact ⟨by omega, by omega⟩)) (cwS 4 hts (gS_G k788 k789 k7 k790) rfl rfl rfl (by decide +kernel) ⟨Nat.le_of_ble_eq_true rfl, Nat.le_of_ble_eq_true rfl⟩) ⟨fun a U g mk q => by obtain ⟨q0, q1, qP, qK, qM⟩ := q; exact ⟨q0, q1, qP, va_K.moved (u := U) (U := U.calling g mk a) (Vm.Alike.refl U.vm) qK, qM⟩, fun U hU hW => ⟨rfl, by rw [hU], by rw [hU]; exact hP, va_K.moved hW.alike hK, xM_warm hW hM⟩⟩ rfl rfl hl.1 rfl (lv_room (Nat.le_of_ble_eq_true rfl)) dX0_both_137 ⟨Nat.le_of_ble_eq_true rfl, Nat.le_of_ble_eq_true rfl⟩) hS (fun q _ h => fA_le hS.1 q h) (fA_le hS.1) (fun r9 u9 t9 H1 locs ht9 hvm9 hw9 hB9 hz9 hk9 hS => ?_)
          obtain ⟨μp, rp⟩ := u9
          obtain ⟨hP, -⟩ := hB9
          rw [ht9] at hP
          generalize H1 = H at hP hS ⊢
          obtain ⟨e9, hw9⟩ := hw9
          have e9 : r9 = iZ rp := e9
          subst e9
          simp only at hP hw9
          have hμp := hw9; clear hw9
          rw [hμp.1] at hP; have hμp := hμp.2
          have hrp := hμp.1 trivial
          exact W.iret (v := iZ (rp)) hx hb hr (fun t9 ht9 hW9 => ⟨⟨iZ (rp), (μ, rp), rfl, ⟨rfl, (by
                            dsimp only
                            refine ⟨rfl, ⟨by omega, by omega⟩, fun _ => ?_⟩
                            rw [show rp / 2 % 8 = 1 by omega]
                            exact Or.inr (Or.inl ⟨rfl, ⟨hi.1, hj.1⟩, Or.inr ⟨by omega, by omega⟩⟩))⟩, by rw [ht9]; exact hP, va_K.moved hW9.alike hK⟩, hS.F ht9⟩) hS.2.2 dX0_both_140
  · refine lv_iload hx hb dX0_both_25 (lv_at hl 1 rfl) ?_
    refine lv_iload hx hb dX0_both_27 (lv_at hl 0 rfl) ?_
    refine va_calli (va_runSN (As := [.int (iZ (μ (q + 1) (i).toNat)), .int (iZ (μ (q2 + 1) (j).toNat))]) (rest := []) ⟨hx, hb, hml, hown, hts⟩ (s_areAlike l dC dI cI cZ cII cIII h0 H.size μ (μ (q + 1) (i).toNat) (μ (q2 + 1) (j).toNat) (by first | assumption | omega | exact ⟨by omega, by omega⟩) (by first | assumption | omega | exact ⟨by omega, by omega⟩)) ⟨va_cnB (host := "PageSkeleton") 2 hts (gI_G k447) rfl rfl rfl (xM_nest hM 15 rfl) (hts _ k1) (by decide +kernel) ⟨Nat.le_of_ble_eq_true rfl, Nat.le_of_ble_eq_true rfl⟩, hts _ k446, trivial⟩ ⟨fun a U g mk q => by obtain ⟨q0, q1, qP, qK, qM⟩ := q; exact ⟨q0, q1, qP, va_K.moved (u := U) (U := U.calling g mk a) (Vm.Alike.refl U.vm) qK, qM⟩, fun U hU hW => ⟨rfl, by rw [hU], by rw [hU]; exact hP, va_K.moved hW.alike hK, xM_warm hW hM⟩⟩ rfl rfl hl.1 rfl (lv_room (Nat.le_of_ble_eq_true rfl)) dX0_both_29 ⟨Nat.le_of_ble_eq_true rfl, Nat.le_of_ble_eq_true rfl⟩) hS (fun q _ h => fA_le hS.1 q h) (fA_le hS.1) (fun r9 u9 t9 H1 locs ht9 hvm9 hw9 hB9 hz9 hk9 hS => ?_)
    obtain ⟨μ5, r6⟩ := u9
    obtain ⟨hP, -⟩ := hB9
    rw [ht9] at hP
    generalize H1 = H at hP hS ⊢
    obtain ⟨e9, hw9⟩ := hw9
    have e9 : r9 = iZ r6 := e9
    subst e9
    simp only at hP hw9
    have hμ5 := hw9; clear hw9
    rw [hμ5.1] at hP; have hμ5 := hμ5.2
    have hal := if_al hμ5
    have hal01 : r6 = 0 ∨ r6 = 1 := hal.elim (fun h => Or.inr h.1) (fun h => Or.inl h.1)
    refine fz_if_eq (tgt := 66) (by constructor <;> omega) hx hb dX0_both_32 (by decide) (fun c32_ => ?_) (fun c32_ => ?_)
    · refine lv_iload hx hb dX0_both_66 (lv_at hl 1 rfl) ?_
      refine lv_sipush (v := iZ 514) hx hb dX0_both_68 rfl ?_
      refine fz_icmp_ne (tgt := 141) (by constructor <;> omega) (by decide) hx hb dX0_both_71 (by decide) (fun c71_ => ?_) (fun c71_ => ?_)
      · refine lv_ldc (v := iZ 268435456) hx hb hown (hts _ k778) dX0_both_141 ?_
        exact W.iret (v := iZ (268435456)) hx hb hr (fun t9 ht9 hW9 => ⟨⟨iZ (268435456), (μ, 268435456), rfl, ⟨rfl, (by
                        dsimp only
                        exact ⟨rfl, wR_b⟩)⟩, by rw [ht9]; exact hP, va_K.moved hW9.alike hK⟩, hS.F ht9⟩) hS.2.2 dX0_both_143
      · refine lv_iload hx hb dX0_both_74 (lv_at hl 0 rfl) ?_
        refine lv_sipush (v := iZ 514) hx hb dX0_both_76 rfl ?_
        refine fz_icmp_ne (tgt := 141) (by constructor <;> omega) (by decide) hx hb dX0_both_79 (by decide) (fun c79_ => ?_) (fun c79_ => ?_)
        · refine lv_ldc (v := iZ 268435456) hx hb hown (hts _ k778) dX0_both_141 ?_
          exact W.iret (v := iZ (268435456)) hx hb hr (fun t9 ht9 hW9 => ⟨⟨iZ (268435456), (μ, 268435456), rfl, ⟨rfl, (by
                            dsimp only
                            exact ⟨rfl, wR_b⟩)⟩, by rw [ht9]; exact hP, va_K.moved hW9.alike hK⟩, hS.F ht9⟩) hS.2.2 dX0_both_143
        · have hvc := vis_1 hv hi.1 hj.1 (Or.inr ⟨by omega, by omega⟩)
          have hbc := hLC (i + 1) (j + 1) hvc (Or.inl (by omega))
          rw [← Int.add_assoc] at hbc
          unfold bnd at hbc
          have hvc1 := hvc.1
          have mlc := mulC (i := i + 1) (s := μ 41 3) (by omega) (by omega) (by omega) (by omega)
          refine lv_aload_n hx hb dX0_both_82 rfl (lv_at hl 2 rfl) ?_
          refine fz_get (D := (dC, dI)) (ci := 0) (v := .ref (h0 + 42)) (C := RX0) (T := TX0) (N := 7) hx hb hts inG0 hown hK hP (k := 41) (by decide) (F := (sF41 h0)) sE_41 rfl 0 (by decide) (hts _ k182) (fun _ h9 => h9) rfl dX0_both_83 ?_
          refine lv_iload_n hx hb dX0_both_86 rfl (lv_at hl 5 rfl) ?_
          refine lv_iconst (v := iZ 1) hx hb dX0_both_87 rfl ?_
          refine lv_iadd hx hb dX0_both_88 ?_
          refine lv_topi (fun x9 ex9 => ?_)
          obtain rfl : x9 = iZ (i + 1) := ex9.trans (iZ_add _ _)
          refine lv_aload_n hx hb dX0_both_89 rfl (lv_at hl 2 rfl) ?_
          refine fz_get (D := (dC, dI)) (ci := 0) (v := .int (iZ (μ 41 3))) (C := RX0) (T := TX0) (N := 7) hx hb hts inG0 hown hK hP (k := 41) (by decide) (F := (sF41 h0)) sE_41 rfl 3 (by decide) (hts _ k185) (fun _ h9 => h9) rfl dX0_both_90 ?_
          refine lv_imul hx hb dX0_both_93 ?_
          refine lv_topi (fun x9 ex9 => ?_)
          obtain rfl : x9 = iZ ((i + 1) * (μ 41 3)) := ex9.trans (iZ_mul _ _)
          refine lv_iload hx hb dX0_both_94 (lv_at hl 6 rfl) ?_
          refine lv_iadd hx hb dX0_both_96 ?_
          refine lv_topi (fun x9 ex9 => ?_)
          obtain rfl : x9 = iZ (((i + 1) * (μ 41 3)) + j) := ex9.trans (iZ_add _ _)
          refine lv_iconst (v := iZ 1) hx hb dX0_both_97 rfl ?_
          refine lv_iadd hx hb dX0_both_98 ?_
          refine lv_topi (fun x9 ex9 => ?_)
          obtain rfl : x9 = iZ ((((i + 1) * (μ 41 3)) + j) + 1) := ex9.trans (iZ_add _ _)
          refine fz_ld (k := 42) (n := 106797) hx hb hK hP 0 (by decide) sE_42 rfl ⟨by omega, by omega⟩ (by decide) dX0_both_99 ?_
          refine lv_istore (lv' := [(7, .int (iZ (μ 42 ((((i + 1) * (μ 41 3)) + j) + 1).toNat))), (6, .int (iZ (μ (q2 + 1) (j).toNat))), (5, .int (iZ (μ (q + 1) (i).toNat))), (0, .ref (h0 + 41)), (1, .ref (h0 + q)), (2, .ref (h0 + q2)), (3, .int (iZ (i))), (4, .int (iZ (j)))]) hx hb dX0_both_100 hl (by decide) rfl (fun ls hl => ?_)
          refine lv_iload hx hb dX0_both_102 (lv_at hl 0 rfl) ?_
          refine lv_iconst (v := iZ 1) hx hb dX0_both_104 rfl ?_
          refine lv_iand hx hb dX0_both_105 ?_
          refine lv_topi (fun x9 ex9 => ?_)
          obtain ⟨z7, rfl, hz7⟩ := iZ_ex x9
          have ez7 := ex9; clear ex9
          have ha1 := and1 hz7 (by omega) ez7
          refine fz_if_ne (tgt := 141) (by exact hz7) hx hb dX0_both_106 (by decide) (fun c106_ => ?_) (fun c106_ => ?_)
          · refine lv_ldc (v := iZ 268435456) hx hb hown (hts _ k778) dX0_both_141 ?_
            exact W.iret (v := iZ (268435456)) hx hb hr (fun t9 ht9 hW9 => ⟨⟨iZ (268435456), (μ, 268435456), rfl, ⟨rfl, (by
                                dsimp only
                                exact ⟨rfl, wR_b⟩)⟩, by rw [ht9]; exact hP, va_K.moved hW9.alike hK⟩, hS.F ht9⟩) hS.2.2 dX0_both_143
          · refine lv_iload hx hb dX0_both_109 (lv_at hl 0 rfl) ?_
            refine lv_iconst (v := iZ 4) hx hb dX0_both_111 rfl ?_
            refine lv_ishr hx hb dX0_both_112 ?_
            refine lv_topi (fun x9 ex9 => ?_)
            obtain ⟨z8, rfl, hz8⟩ := iZ_ex x9
            have ez8 := ex9; clear ex9
            have hs4 := shr4 hz8 (by constructor <;> omega) ez8
            refine lv_iconst (v := iZ 1) hx hb dX0_both_113 rfl ?_
            refine lv_aload_n hx hb dX0_both_114 rfl (lv_at hl 3 rfl) ?_
            refine fz_get (D := (dC, dI)) (ci := 0) (v := .ref (h0 + 42)) (C := RX0) (T := TX0) (N := 7) hx hb hts inG0 hown hK hP (k := 41) (by decide) (F := (sF41 h0)) sE_41 rfl 0 (by decide) (hts _ k182) (fun _ h9 => h9) rfl dX0_both_115 ?_
            refine lv_aload_n hx hb dX0_both_118 rfl (lv_at hl 4 rfl) ?_
            refine lv_iload_n hx hb dX0_both_119 rfl (lv_at hl 6 rfl) ?_
            refine va_calli (va_runV (As := [.int (iZ (i))]) (rest := [.ref (h0 + 42), .int (iZ (1)), .int (iZ (z8))]) ⟨hx, hb, hml, hown, hts⟩ (s_Rafter l dC dI cI cZ cII cIII h0 H.size μ (q) (rm) (i) (hq) (by first | assumption | omega | exact ⟨by omega, by omega⟩) (by constructor <;> omega)) (cwV 1 hts (gV_G k791 k438 k439 k3 k440) rfl rfl rfl (by decide +kernel) ⟨Nat.le_of_ble_eq_true rfl, Nat.le_of_ble_eq_true rfl⟩) ⟨fun a U g mk q => by obtain ⟨q0, q1, qP, qK, qM⟩ := q; exact ⟨q0, q1, qP, va_K.moved (u := U) (U := U.calling g mk a) (Vm.Alike.refl U.vm) qK, qM⟩, va_recv hK hP (ci := 4) (q0 := q) rfl ((fw_get (by omega)).trans (by rw [(sE_rowO hq)])), fun U hU hW => ⟨rfl, by rw [hU], by rw [hU]; exact hP, va_K.moved hW.alike hK, xM_warm hW hM⟩⟩ rfl rfl hl.1 rfl (lv_room (Nat.le_of_ble_eq_true rfl)) dX0_both_120 ⟨Nat.le_of_ble_eq_true rfl, Nat.le_of_ble_eq_true rfl⟩) hS (fun q _ h => fA_le hS.1 q h) (fA_le hS.1) (fun r9 u9 t9 H1 locs ht9 hvm9 hw9 hB9 hz9 hk9 hS => ?_)
            obtain ⟨μa, ra⟩ := u9
            obtain ⟨hP, -⟩ := hB9
            rw [ht9] at hP
            generalize H1 = H at hP hS ⊢
            obtain ⟨e9, hw9⟩ := hw9
            have e9 : r9 = iZ ra := e9
            subst e9
            simp only at hP hw9
            have hμa := hw9; clear hw9
            rw [hμa.1] at hP; have hμa := hμa.2
            have hra := hμa
            refine lv_aload_n hx hb dX0_both_123 rfl (lv_at hl 3 rfl) ?_
            refine fz_get (D := (dC, dI)) (ci := 0) (v := .int (iZ (μ 41 3))) (C := RX0) (T := TX0) (N := 7) hx hb hts inG0 hown hK hP (k := 41) (by decide) (F := (sF41 h0)) sE_41 rfl 3 (by decide) (hts _ k185) (fun _ h9 => h9) rfl dX0_both_124 ?_
            refine lv_imul hx hb dX0_both_127 ?_
            refine lv_topi (fun x9 ex9 => ?_)
            obtain rfl : x9 = iZ (ra * (μ 41 3)) := ex9.trans (iZ_mul _ _)
            refine lv_aload_n hx hb dX0_both_128 rfl (lv_at hl 5 rfl) ?_
            refine lv_iload hx hb dX0_both_129 (lv_at hl 7 rfl) ?_
            refine va_calli (va_runV (As := [.int (iZ (j))]) (rest := [.int (iZ (ra * (μ 41 3))), .ref (h0 + 42), .int (iZ (1)), .int (iZ (z8))]) ⟨hx, hb, hml, hown, hts⟩ (s_Rafter l dC dI cI cZ cII cIII h0 H.size μ (q2) (rm2) (j) (hq2) (by first | assumption | omega | exact ⟨by omega, by omega⟩) (by constructor <;> omega)) (cwV 1 hts (gV_G k791 k438 k439 k3 k440) rfl rfl rfl (by decide +kernel) ⟨Nat.le_of_ble_eq_true rfl, Nat.le_of_ble_eq_true rfl⟩) ⟨fun a U g mk q => by obtain ⟨q0, q1, qP, qK, qM⟩ := q; exact ⟨q0, q1, qP, va_K.moved (u := U) (U := U.calling g mk a) (Vm.Alike.refl U.vm) qK, qM⟩, va_recv hK hP (ci := 4) (q0 := q2) rfl ((fw_get (by omega)).trans (by rw [(sE_rowO hq2)])), fun U hU hW => ⟨rfl, by rw [hU], by rw [hU]; exact hP, va_K.moved hW.alike hK, xM_warm hW hM⟩⟩ rfl rfl hl.1 rfl (lv_room (Nat.le_of_ble_eq_true rfl)) dX0_both_131 ⟨Nat.le_of_ble_eq_true rfl, Nat.le_of_ble_eq_true rfl⟩) hS (fun q _ h => fA_le hS.1 q h) (fA_le hS.1) (fun r9 u9 t9 H1 locs ht9 hvm9 hw9 hB9 hz9 hk9 hS => ?_)
            obtain ⟨μb, rb⟩ := u9
            obtain ⟨hP, -⟩ := hB9
            rw [ht9] at hP
            generalize H1 = H at hP hS ⊢
            obtain ⟨e9, hw9⟩ := hw9
            have e9 : r9 = iZ rb := e9
            subst e9
            simp only at hP hw9
            have hμb := hw9; clear hw9
            rw [hμb.1] at hP; have hμb := hμb.2
            have hrb := hμb
            have _ := hrb
            obtain ⟨y1_, y2_, y3_⟩ := vis_4 hG hv hi.1 hi.2
            have hvd := vis_1b hG hG2 hv hi.1 hj.1 (by omega) (by omega)
            rw [← hra, ← hrb] at hvd
            have hbd := hLC (ra) (rb) hvd (Or.inl (by omega))
            unfold bnd at hbd
            have hvd1 := hvd.1
            have mld := mulC (i := ra) (s := μ 41 3) (by omega) (by omega) (by omega) (by omega)
            refine lv_iadd hx hb dX0_both_134 ?_
            refine lv_topi (fun x9 ex9 => ?_)
            obtain rfl : x9 = iZ ((ra * (μ 41 3)) + rb) := ex9.trans (iZ_add _ _)
            refine fz_ld (k := 42) (n := 106797) hx hb hK hP 0 (by decide) sE_42 rfl ⟨by omega, by omega⟩ (by decide) dX0_both_135 ?_
            refine lv_iconst (v := iZ 0) hx hb dX0_both_136 rfl ?_
            refine va_calli (va_runS (As := [.int (iZ (z8)), .int (iZ (1)), .int (iZ (μ 42 ((ra * (μ 41 3)) + rb).toNat)), .int (iZ (0))]) (rest := []) ⟨hx, hb, hml, hown, hts⟩ (s_Ypacked l dC dI cI cZ cII cIII h0 H.size μ (z8) (1) (μ 42 ((ra * (μ 41 3)) + rb).toNat) (0) (by first | assumption | omega | exact ⟨by omega, by omega⟩) (by first | assumption | omega | exact ⟨by omega, by omega⟩) (by first | assumption | omega | exact ⟨by omega, by omega⟩) (by first | assumption | omega | exact ⟨by omega, by omega⟩)) (cwS 4 hts (gS_G k788 k789 k7 k790) rfl rfl rfl (by decide +kernel) ⟨Nat.le_of_ble_eq_true rfl, Nat.le_of_ble_eq_true rfl⟩) ⟨fun a U g mk q => by obtain ⟨q0, q1, qP, qK, qM⟩ := q; exact ⟨q0, q1, qP, va_K.moved (u := U) (U := U.calling g mk a) (Vm.Alike.refl U.vm) qK, qM⟩, fun U hU hW => ⟨rfl, by rw [hU], by rw [hU]; exact hP, va_K.moved hW.alike hK, xM_warm hW hM⟩⟩ rfl rfl hl.1 rfl (lv_room (Nat.le_of_ble_eq_true rfl)) dX0_both_137 ⟨Nat.le_of_ble_eq_true rfl, Nat.le_of_ble_eq_true rfl⟩) hS (fun q _ h => fA_le hS.1 q h) (fA_le hS.1) (fun r9 u9 t9 H1 locs ht9 hvm9 hw9 hB9 hz9 hk9 hS => ?_)
            obtain ⟨μp, rp⟩ := u9
            obtain ⟨hP, -⟩ := hB9
            rw [ht9] at hP
            generalize H1 = H at hP hS ⊢
            obtain ⟨e9, hw9⟩ := hw9
            have e9 : r9 = iZ rp := e9
            subst e9
            simp only at hP hw9
            have hμp := hw9; clear hw9
            rw [hμp.1] at hP; have hμp := hμp.2
            have hrp := hμp.1 trivial
            exact W.iret (v := iZ (rp)) hx hb hr (fun t9 ht9 hW9 => ⟨⟨iZ (rp), (μ, rp), rfl, ⟨rfl, (by
                                dsimp only
                                refine ⟨rfl, ⟨by omega, by omega⟩, fun _ => ?_⟩
                                rw [show rp / 2 % 8 = 1 by omega]
                                exact Or.inr (Or.inl ⟨rfl, ⟨hi.1, hj.1⟩, Or.inr ⟨by omega, by omega⟩⟩))⟩, by rw [ht9]; exact hP, va_K.moved hW9.alike hK⟩, hS.F ht9⟩) hS.2.2 dX0_both_140
    · have hal1 := hal.elim (fun h => h.2) (fun h => absurd h.1 (by omega))
      refine lv_iload hx hb dX0_both_35 (lv_at hl 1 rfl) ?_
      refine lv_iload hx hb dX0_both_37 (lv_at hl 0 rfl) ?_
      refine va_calli (va_runSN (As := [.int (iZ (μ (q + 1) (i).toNat)), .int (iZ (μ (q2 + 1) (j).toNat))]) (rest := []) ⟨hx, hb, hml, hown, hts⟩ (s_costOfFusing l dC dI cI cZ cII cIII h0 H.size μ (μ (q + 1) (i).toNat) (μ (q2 + 1) (j).toNat) (by first | assumption | omega | exact ⟨by omega, by omega⟩) (by first | assumption | omega | exact ⟨by omega, by omega⟩)) ⟨va_cnB (host := "PageSkeleton") 2 hts (gI_G k787) rfl rfl rfl (xM_nest hM 16 rfl) (hts _ k1) (by decide +kernel) ⟨Nat.le_of_ble_eq_true rfl, Nat.le_of_ble_eq_true rfl⟩, hts _ k786, trivial⟩ ⟨fun a U g mk q => by obtain ⟨q0, q1, qP, qK, qM⟩ := q; exact ⟨q0, q1, qP, va_K.moved (u := U) (U := U.calling g mk a) (Vm.Alike.refl U.vm) qK, qM⟩, fun U hU hW => ⟨rfl, by rw [hU], by rw [hU]; exact hP, va_K.moved hW.alike hK, xM_warm hW hM⟩⟩ rfl rfl hl.1 rfl (lv_room (Nat.le_of_ble_eq_true rfl)) dX0_both_39 ⟨Nat.le_of_ble_eq_true rfl, Nat.le_of_ble_eq_true rfl⟩) hS (fun q _ h => fA_le hS.1 q h) (fA_le hS.1) (fun r9 u9 t9 H1 locs ht9 hvm9 hw9 hB9 hz9 hk9 hS => ?_)
      obtain ⟨μc, rc⟩ := u9
      obtain ⟨hP, -⟩ := hB9
      rw [ht9] at hP
      generalize H1 = H at hP hS ⊢
      obtain ⟨e9, hw9⟩ := hw9
      have e9 : r9 = iZ rc := e9
      subst e9
      simp only at hP hw9
      have hμc := hw9; clear hw9
      rw [hμc.1] at hP; have hμc := hμc.2
      have hrc : rc = sCo (μ (q + 1) i.toNat) (μ (q2 + 1) j.toNat) := hμc
      have hcb := sCo_01 (μ (q + 1) i.toNat) (μ (q2 + 1) j.toNat)
      have hvc := vis_1 hv hi.1 hj.1 (Or.inl ⟨by omega, hal1⟩)
      have hbc := hLC (i + 1) (j + 1) hvc (Or.inl (by omega))
      rw [← Int.add_assoc] at hbc
      unfold bnd at hbc
      have hvc1 := hvc.1
      have mlc := mulC (i := i + 1) (s := μ 41 3) (by omega) (by omega) (by omega) (by omega)
      refine lv_iconst (v := iZ 1) hx hb dX0_both_42 rfl ?_
      refine lv_aload_n hx hb dX0_both_43 rfl (lv_at hl 2 rfl) ?_
      refine fz_get (D := (dC, dI)) (ci := 0) (v := .ref (h0 + 42)) (C := RX0) (T := TX0) (N := 7) hx hb hts inG0 hown hK hP (k := 41) (by decide) (F := (sF41 h0)) sE_41 rfl 0 (by decide) (hts _ k182) (fun _ h9 => h9) rfl dX0_both_44 ?_
      refine lv_iload_n hx hb dX0_both_47 rfl (lv_at hl 5 rfl) ?_
      refine lv_iconst (v := iZ 1) hx hb dX0_both_48 rfl ?_
      refine lv_iadd hx hb dX0_both_49 ?_
      refine lv_topi (fun x9 ex9 => ?_)
      obtain rfl : x9 = iZ (i + 1) := ex9.trans (iZ_add _ _)
      refine lv_aload_n hx hb dX0_both_50 rfl (lv_at hl 2 rfl) ?_
      refine fz_get (D := (dC, dI)) (ci := 0) (v := .int (iZ (μ 41 3))) (C := RX0) (T := TX0) (N := 7) hx hb hts inG0 hown hK hP (k := 41) (by decide) (F := (sF41 h0)) sE_41 rfl 3 (by decide) (hts _ k185) (fun _ h9 => h9) rfl dX0_both_51 ?_
      refine lv_imul hx hb dX0_both_54 ?_
      refine lv_topi (fun x9 ex9 => ?_)
      obtain rfl : x9 = iZ ((i + 1) * (μ 41 3)) := ex9.trans (iZ_mul _ _)
      refine lv_iload hx hb dX0_both_55 (lv_at hl 6 rfl) ?_
      refine lv_iadd hx hb dX0_both_57 ?_
      refine lv_topi (fun x9 ex9 => ?_)
      obtain rfl : x9 = iZ (((i + 1) * (μ 41 3)) + j) := ex9.trans (iZ_add _ _)
      refine lv_iconst (v := iZ 1) hx hb dX0_both_58 rfl ?_
      refine lv_iadd hx hb dX0_both_59 ?_
      refine lv_topi (fun x9 ex9 => ?_)
      obtain rfl : x9 = iZ ((((i + 1) * (μ 41 3)) + j) + 1) := ex9.trans (iZ_add _ _)
      refine fz_ld (k := 42) (n := 106797) hx hb hK hP 0 (by decide) sE_42 rfl ⟨by omega, by omega⟩ (by decide) dX0_both_60 ?_
      refine lv_iconst (v := iZ 0) hx hb dX0_both_61 rfl ?_
      refine va_calli (va_runS (As := [.int (iZ (rc)), .int (iZ (1)), .int (iZ (μ 42 ((((i + 1) * (μ 41 3)) + j) + 1).toNat)), .int (iZ (0))]) (rest := []) ⟨hx, hb, hml, hown, hts⟩ (s_Ypacked l dC dI cI cZ cII cIII h0 H.size μ (rc) (1) (μ 42 ((((i + 1) * (μ 41 3)) + j) + 1).toNat) (0) (by first | assumption | omega | exact ⟨by omega, by omega⟩) (by first | assumption | omega | exact ⟨by omega, by omega⟩) (by first | assumption | omega | exact ⟨by omega, by omega⟩) (by first | assumption | omega | exact ⟨by omega, by omega⟩)) (cwS 4 hts (gS_G k788 k789 k7 k790) rfl rfl rfl (by decide +kernel) ⟨Nat.le_of_ble_eq_true rfl, Nat.le_of_ble_eq_true rfl⟩) ⟨fun a U g mk q => by obtain ⟨q0, q1, qP, qK, qM⟩ := q; exact ⟨q0, q1, qP, va_K.moved (u := U) (U := U.calling g mk a) (Vm.Alike.refl U.vm) qK, qM⟩, fun U hU hW => ⟨rfl, by rw [hU], by rw [hU]; exact hP, va_K.moved hW.alike hK, xM_warm hW hM⟩⟩ rfl rfl hl.1 rfl (lv_room (Nat.le_of_ble_eq_true rfl)) dX0_both_62 ⟨Nat.le_of_ble_eq_true rfl, Nat.le_of_ble_eq_true rfl⟩) hS (fun q _ h => fA_le hS.1 q h) (fA_le hS.1) (fun r9 u9 t9 H1 locs ht9 hvm9 hw9 hB9 hz9 hk9 hS => ?_)
      obtain ⟨μp, rp⟩ := u9
      obtain ⟨hP, -⟩ := hB9
      rw [ht9] at hP
      generalize H1 = H at hP hS ⊢
      obtain ⟨e9, hw9⟩ := hw9
      have e9 : r9 = iZ rp := e9
      subst e9
      simp only at hP hw9
      have hμp := hw9; clear hw9
      rw [hμp.1] at hP; have hμp := hμp.2
      have hrp := hμp.1 trivial
      exact W.iret (v := iZ (rp)) hx hb hr (fun t9 ht9 hW9 => ⟨⟨iZ (rp), (μ, rp), rfl, ⟨rfl, (by
                    dsimp only
                    refine ⟨rfl, ⟨by omega, by omega⟩, fun _ => ?_⟩
                    rw [show rp / 2 % 8 = 1 by omega]
                    exact Or.inr (Or.inl ⟨rfl, ⟨hi.1, hj.1⟩, Or.inl ⟨by omega, hal1⟩⟩))⟩, by rw [ht9]; exact hP, va_K.moved hW9.alike hK⟩, hS.F ht9⟩) hS.2.2 dX0_both_65
set_option maxHeartbeats 4000000 in
set_option maxRecDepth 100000 in
theorem s_YintoRow (l : Launch) (dC : Nat → ClassId) (dI : Nat → Nat → Nat) (cI cZ cII cIII : ClassId) (h0 sz : Nat) (μ : va_M) (q : Nat) (rm : Nat) (q2 : Nat) (rm2 : Nat) (i : Int) (j : Int) (hq : rowB q rm) (hq2 : rowB q2 rm2) (hG : rG μ q rm) (hG2 : rG μ q2 rm2) (h96 : rm2 = 96) (hst : μ 41 3 = μ q2 5 + 1) (hv : vis μ q q2 i j) (hLC : LC μ q q2 i j) (hi : i < μ q 5 ∧ μ (q + 1) i.toNat ≠ 515) (hj : j < μ q2 5 ∧ μ (q2 + 1) j.toNat ≠ 515) : Met l yX0_intoRow (Cond.code yX0_intoRow cX0_intoRow 7 (some .int) :: wsG) ({ frames := 3, cells := 0, slots := 0, locals := 61 } : Room) (va_Pc [.ref (h0 + 41), .ref (h0 + q), .ref (h0 + q2), .int (iZ (i)), .int (iZ (j))] (fun U => U.heap.size = sz ∧ va_P (dC, dI) vwCl (fw (sE cI cZ cII cIII h0) h0 233 μ) U.heap ∧ va_K (dC, dI) vwCl (sT cI cZ cII cIII) U ∧ xM U)) (va_Qi (fun (r9 : Int32) (u : va_M × Int) => r9 = iZ u.2 ∧ (fun (u : va_M) (r : Int) => u = μ ∧ wR μ q q2 i j r) u.1 u.2) (fun u t => va_P (dC, dI) vwCl (fw (sE cI cZ cII cIII h0) h0 233 u.1) t.heap ∧ va_K (dC, dI) vwCl (sT cI cZ cII cIII) t) (fA h0 233 sz)) 0 0 (fA h0 233 sz) := by
  refine Met.ofW (cc := cX0_intoRow) (maxL := 7) (ret := (some .int)) (by decide) rfl ?_
  intro p e s m args below meth c s₁ B hml hv
  obtain ⟨rfl, hsz, hP, hK, hM⟩ := hv
  have hx := B.exec
  have hb := B.bytes
  have hr := B.returns
  have hts : ∀ w ∈ wsG, w.before _ s = true := hG_of (atoms_spec (ws := (Cond.code yX0_intoRow cX0_intoRow 7 (some .int) :: wsG)) B.pre)
  have hown : s.vm.findClass RX0 = some m.cls := findClass_of_methodNamed B.named
  have hlocks := B.notSynchronized
  subst hsz
  have hS : va_S (fA h0 233 s.heap.size) s.heap s.heap [] := va_S.rf
  have hl := lv_entry ([.ref (h0 + 41), .ref (h0 + q), .ref (h0 + q2), .int (iZ (i)), .int (iZ (j))]) (n := 7) (Nat.le_of_ble_eq_true rfl)
  rw [lg_entry_eq]
  generalize (lg_sl ([.ref (h0 + 41), .ref (h0 + q), .ref (h0 + q2), .int (iZ (i)), .int (iZ (j))]) ++ List.replicate (7 - (lg_sl ([.ref (h0 + 41), .ref (h0 + q), .ref (h0 + q2), .int (iZ (i)), .int (iZ (j))])).length) Slot.unset).toArray = ls at hl ⊢
  have hl : lv_has ls 7 [(0, .ref (h0 + 41)), (1, .ref (h0 + q)), (2, .ref (h0 + q2)), (3, .int (iZ (i))), (4, .int (iZ (j)))] := hl
  have hqb := rowB_b hq
  have hqb2 := rowB_b hq2
  have hrm := rG_rm hq hG
  have hrm2 := rG_rm hq2 hG2
  have hs1 := hG.1 i.toNat
  have hs2 := hG2.1 j.toNat
  have hv0 := hv.1
  have ml0 := mulC (i := i) (s := μ 41 3) (by omega) (by omega) (by omega) (by omega)
  have hm1 := rG_m hG i (by omega) (by omega)
  have hm2 := rG_m hG2 j (by omega) (by omega)
  have ml1 := mulC (i := i + 1) (s := μ 41 3) (by omega) (by omega) (by omega) (by omega)
  refine lv_aload_n hx hb dX0_intoRow_0 rfl (lv_at hl 1 rfl) ?_
  refine fz_get (D := (dC, dI)) (ci := 4) (v := .ref (h0 + (q + 1))) (C := RX4) (T := TX4) (N := 8) hx hb hts inG4 hown hK hP (k := q) (by omega) (F := (sRF h0 q)) (sE_rowO hq) rfl 0 (by decide) (hts _ k80) (fun _ h9 => h9) rfl dX0_intoRow_1 ?_
  refine lv_iload_n hx hb dX0_intoRow_4 rfl (lv_at hl 3 rfl) ?_
  refine fz_ld (k := (q + 1)) (n := rm) hx hb hK hP 0 (by omega) (sE_rowA (r := 1) hq (by decide)) rfl ⟨by omega, by omega⟩ (by omega) dX0_intoRow_5 ?_
  refine va_calli (va_runSN (As := [.int (iZ (μ (q + 1) (i).toNat))]) (rest := []) ⟨hx, hb, hml, hown, hts⟩ (s_isOpen l dC dI cI cZ cII cIII h0 s.heap.size μ (μ (q + 1) (i).toNat) (by first | assumption | omega | exact ⟨by omega, by omega⟩)) ⟨va_cnB (host := "PageSkeleton") 1 hts (gI_G k423) rfl rfl rfl (xM_nest hM 17 rfl) (hts _ k1) (by decide +kernel) ⟨Nat.le_of_ble_eq_true rfl, Nat.le_of_ble_eq_true rfl⟩, hts _ k422, trivial⟩ ⟨fun a U g mk q => by obtain ⟨q0, q1, qP, qK, qM⟩ := q; exact ⟨q0, q1, qP, va_K.moved (u := U) (U := U.calling g mk a) (Vm.Alike.refl U.vm) qK, qM⟩, fun U hU hW => ⟨rfl, by rw [hU], by rw [hU]; exact hP, va_K.moved hW.alike hK, xM_warm hW hM⟩⟩ rfl rfl hl.1 rfl (lv_room (Nat.le_of_ble_eq_true rfl)) dX0_intoRow_6 ⟨Nat.le_of_ble_eq_true rfl, Nat.le_of_ble_eq_true rfl⟩) hS (fun q _ h => fA_le hS.1 q h) (fA_le hS.1) (fun r9 u9 t9 H1 locs ht9 hvm9 hw9 hB9 hz9 hk9 hS => ?_)
  obtain ⟨μ1, r2⟩ := u9
  obtain ⟨hP, -⟩ := hB9
  rw [ht9] at hP
  generalize H1 = H at hP hS ⊢
  obtain ⟨e9, hw9⟩ := hw9
  have e9 : r9 = iZ r2 := e9
  subst e9
  simp only at hP hw9
  have hμ1 := hw9; clear hw9
  rw [hμ1.1] at hP; have hμ1 := hμ1.2
  have hlf := if_el hμ1
  refine fz_if_ne (tgt := 15) (by constructor <;> omega) hx hb dX0_intoRow_9 (by decide) (fun c9_ => ?_) (fun c9_ => ?_)
  · refine lv_aload_n hx hb dX0_intoRow_15 rfl (lv_at hl 1 rfl) ?_
    refine fz_get (D := (dC, dI)) (ci := 4) (v := .ref (h0 + (q + 2))) (C := RX4) (T := TX4) (N := 8) hx hb hts inG4 hown hK hP (k := q) (by omega) (F := (sRF h0 q)) (sE_rowO hq) rfl 1 (by decide) (hts _ k85) (fun _ h9 => h9) rfl dX0_intoRow_16 ?_
    refine lv_iload_n hx hb dX0_intoRow_19 rfl (lv_at hl 3 rfl) ?_
    refine fz_ld (k := (q + 2)) (n := rm) hx hb hK hP 0 (by omega) (sE_rowA (r := 2) hq (by decide)) rfl ⟨by omega, by omega⟩ (by omega) dX0_intoRow_20 ?_
    refine lv_iload_n hx hb dX0_intoRow_21 rfl (lv_at hl 3 rfl) ?_
    refine lv_isub hx hb dX0_intoRow_22 ?_
    refine lv_topi (fun x9 ex9 => ?_)
    obtain rfl : x9 = iZ ((μ (q + 2) (i).toNat) - i) := ex9.trans (iZ_sub _ _)
    refine lv_iconst (v := iZ 1) hx hb dX0_intoRow_23 rfl ?_
    refine lv_isub hx hb dX0_intoRow_24 ?_
    refine lv_topi (fun x9 ex9 => ?_)
    obtain rfl : x9 = iZ (((μ (q + 2) (i).toNat) - i) - 1) := ex9.trans (iZ_sub _ _)
    refine lv_istore (lv' := [(5, .int (iZ (((μ (q + 2) (i).toNat) - i) - 1))), (0, .ref (h0 + 41)), (1, .ref (h0 + q)), (2, .ref (h0 + q2)), (3, .int (iZ (i))), (4, .int (iZ (j)))]) hx hb dX0_intoRow_25 hl (by decide) rfl (fun ls hl => ?_)
    refine lv_aload_n hx hb dX0_intoRow_27 rfl (lv_at hl 2 rfl) ?_
    refine lv_iload_n hx hb dX0_intoRow_28 rfl (lv_at hl 4 rfl) ?_
    refine lv_iconst (v := iZ 1) hx hb dX0_intoRow_29 rfl ?_
    refine lv_iadd hx hb dX0_intoRow_30 ?_
    refine lv_topi (fun x9 ex9 => ?_)
    obtain rfl : x9 = iZ (i + 1) := ex9.trans (iZ_add _ _)
    refine lv_aload_n hx hb dX0_intoRow_31 rfl (lv_at hl 3 rfl) ?_
    refine lv_iload hx hb dX0_intoRow_32 (lv_at hl 5 rfl) ?_
    refine lv_iload hx hb dX0_intoRow_34 (lv_at hl 0 rfl) ?_
    refine va_calli (va_runV (As := [.int (iZ (i + 1)), .ref (h0 + q2), .int (iZ (j)), .int (iZ (((μ (q + 2) (i).toNat) - i) - 1))]) (rest := []) ⟨hx, hb, hml, hown, hts⟩ (s_Rmatches l dC dI cI cZ cII cIII h0 H.size μ (q) (rm) (q2) (rm2) (i + 1) (j) (((μ (q + 2) (i).toNat) - i) - 1) (hq) (hq2) (by exact hG.1) (by exact hG2.1) (by first | assumption | omega | exact ⟨by omega, by omega⟩) (by first | assumption | omega | exact ⟨by omega, by omega⟩) (by first | assumption | omega | exact ⟨by omega, by omega⟩) (by first | assumption | omega | exact ⟨by omega, by omega⟩) (by first | assumption | omega | exact ⟨by omega, by omega⟩) (by first | assumption | omega | exact ⟨by omega, by omega⟩)) (cwV 4 hts (gV_G k797 k442 k443 k3 k444) rfl rfl rfl (by decide +kernel) ⟨Nat.le_of_ble_eq_true rfl, Nat.le_of_ble_eq_true rfl⟩) ⟨fun a U g mk q => by obtain ⟨q0, q1, qP, qK, qM⟩ := q; exact ⟨q0, q1, qP, va_K.moved (u := U) (U := U.calling g mk a) (Vm.Alike.refl U.vm) qK, qM⟩, va_recv hK hP (ci := 4) (q0 := q) rfl ((fw_get (by omega)).trans (by rw [(sE_rowO hq)])), fun U hU hW => ⟨rfl, by rw [hU], by rw [hU]; exact hP, va_K.moved hW.alike hK, xM_warm hW hM⟩⟩ rfl rfl hl.1 rfl (lv_room (Nat.le_of_ble_eq_true rfl)) dX0_intoRow_36 ⟨Nat.le_of_ble_eq_true rfl, Nat.le_of_ble_eq_true rfl⟩) hS (fun q _ h => fA_le hS.1 q h) (fA_le hS.1) (fun r9 u9 t9 H1 locs ht9 hvm9 hw9 hB9 hz9 hk9 hS => ?_)
    obtain ⟨μq, rq⟩ := u9
    obtain ⟨hP, -⟩ := hB9
    rw [ht9] at hP
    generalize H1 = H at hP hS ⊢
    obtain ⟨e9, hw9⟩ := hw9
    have e9 : r9 = iZ rq := e9
    subst e9
    simp only at hP hw9
    have hμq := hw9; clear hw9
    rw [hμq.1] at hP; have hμq := hμq.2
    have hrq := hμq
    have hr01 : rq = 0 ∨ rq = 1 := hrq.elim (fun h => Or.inr h.1) (fun h => Or.inl h.1)
    refine fz_if_ne (tgt := 45) (by constructor <;> omega) hx hb dX0_intoRow_39 (by decide) (fun c39_ => ?_) (fun c39_ => ?_)
    · have hmt := hrq.elim (fun h => h.2) (fun h => absurd h.1 (by omega))
      obtain ⟨y1_, y2_, y3_, y4_⟩ := vis_2 hG hG2 hv hi.1 (by omega) hmt
      have y5_ := y3_.1
      have hmt1 := hmt.1
      refine lv_aload_n hx hb dX0_intoRow_45 rfl (lv_at hl 2 rfl) ?_
      refine lv_iload_n hx hb dX0_intoRow_46 rfl (lv_at hl 4 rfl) ?_
      refine lv_iconst (v := iZ 1) hx hb dX0_intoRow_47 rfl ?_
      refine lv_iadd hx hb dX0_intoRow_48 ?_
      refine lv_topi (fun x9 ex9 => ?_)
      obtain rfl : x9 = iZ (i + 1) := ex9.trans (iZ_add _ _)
      refine lv_aload_n hx hb dX0_intoRow_49 rfl (lv_at hl 3 rfl) ?_
      refine lv_iload hx hb dX0_intoRow_50 (lv_at hl 5 rfl) ?_
      refine lv_iload hx hb dX0_intoRow_52 (lv_at hl 0 rfl) ?_
      refine va_calli (va_runV (As := [.int (iZ (i + 1)), .ref (h0 + q2), .int (iZ (j)), .int (iZ (((μ (q + 2) (i).toNat) - i) - 1))]) (rest := []) ⟨hx, hb, hml, hown, hts⟩ (s_RcostOfRange l dC dI cI cZ cII cIII h0 H.size μ (q) (rm) (q2) (rm2) (i + 1) (j) (((μ (q + 2) (i).toNat) - i) - 1) (hq) (hq2) (by exact hG.1) (by exact hG2.1) (by first | assumption | omega | exact ⟨by omega, by omega⟩) (by first | assumption | omega | exact ⟨by omega, by omega⟩) (by first | assumption | omega | exact ⟨by omega, by omega⟩)) (cwV 4 hts (gV_G k798 k799 k800 k3 k801) rfl rfl rfl (by decide +kernel) ⟨Nat.le_of_ble_eq_true rfl, Nat.le_of_ble_eq_true rfl⟩) ⟨fun a U g mk q => by obtain ⟨q0, q1, qP, qK, qM⟩ := q; exact ⟨q0, q1, qP, va_K.moved (u := U) (U := U.calling g mk a) (Vm.Alike.refl U.vm) qK, qM⟩, va_recv hK hP (ci := 4) (q0 := q) rfl ((fw_get (by omega)).trans (by rw [(sE_rowO hq)])), fun U hU hW => ⟨rfl, by rw [hU], by rw [hU]; exact hP, va_K.moved hW.alike hK, xM_warm hW hM⟩⟩ rfl rfl hl.1 rfl (lv_room (Nat.le_of_ble_eq_true rfl)) dX0_intoRow_54 ⟨Nat.le_of_ble_eq_true rfl, Nat.le_of_ble_eq_true rfl⟩) hS (fun q _ h => fA_le hS.1 q h) (fA_le hS.1) (fun r9 u9 t9 H1 locs ht9 hvm9 hw9 hB9 hz9 hk9 hS => ?_)
      obtain ⟨μc, rc⟩ := u9
      obtain ⟨hP, -⟩ := hB9
      rw [ht9] at hP
      generalize H1 = H at hP hS ⊢
      obtain ⟨e9, hw9⟩ := hw9
      have e9 : r9 = iZ rc := e9
      subst e9
      simp only at hP hw9
      have hμc := hw9; clear hw9
      rw [hμc.1] at hP; have hμc := hμc.2
      have hrc := hμc
      have hcb := cRng_b μ (q + 1) (i + 1).toNat (q2 + 1) j.toNat (μ (q + 2) i.toNat - i - 1).toNat
      refine lv_istore (lv' := [(6, .int (iZ (rc))), (5, .int (iZ (((μ (q + 2) (i).toNat) - i) - 1))), (0, .ref (h0 + 41)), (1, .ref (h0 + q)), (2, .ref (h0 + q2)), (3, .int (iZ (i))), (4, .int (iZ (j)))]) hx hb dX0_intoRow_57 hl (by decide) rfl (fun ls hl => ?_)
      refine lv_iload hx hb dX0_intoRow_59 (lv_at hl 0 rfl) ?_
      refine lv_iconst (v := iZ 2) hx hb dX0_intoRow_61 rfl ?_
      refine lv_aload_n hx hb dX0_intoRow_62 rfl (lv_at hl 2 rfl) ?_
      refine fz_get (D := (dC, dI)) (ci := 0) (v := .ref (h0 + 42)) (C := RX0) (T := TX0) (N := 7) hx hb hts inG0 hown hK hP (k := 41) (by decide) (F := (sF41 h0)) sE_41 rfl 0 (by decide) (hts _ k182) (fun _ h9 => h9) rfl dX0_intoRow_63 ?_
      refine lv_aload_n hx hb dX0_intoRow_66 rfl (lv_at hl 3 rfl) ?_
      refine lv_iload_n hx hb dX0_intoRow_67 rfl (lv_at hl 5 rfl) ?_
      refine va_calli (va_runV (As := [.int (iZ (i))]) (rest := [.ref (h0 + 42), .int (iZ (2)), .int (iZ (rc))]) ⟨hx, hb, hml, hown, hts⟩ (s_Rafter l dC dI cI cZ cII cIII h0 H.size μ (q) (rm) (i) (hq) (by first | assumption | omega | exact ⟨by omega, by omega⟩) (by constructor <;> omega)) (cwV 1 hts (gV_G k791 k438 k439 k3 k440) rfl rfl rfl (by decide +kernel) ⟨Nat.le_of_ble_eq_true rfl, Nat.le_of_ble_eq_true rfl⟩) ⟨fun a U g mk q => by obtain ⟨q0, q1, qP, qK, qM⟩ := q; exact ⟨q0, q1, qP, va_K.moved (u := U) (U := U.calling g mk a) (Vm.Alike.refl U.vm) qK, qM⟩, va_recv hK hP (ci := 4) (q0 := q) rfl ((fw_get (by omega)).trans (by rw [(sE_rowO hq)])), fun U hU hW => ⟨rfl, by rw [hU], by rw [hU]; exact hP, va_K.moved hW.alike hK, xM_warm hW hM⟩⟩ rfl rfl hl.1 rfl (lv_room (Nat.le_of_ble_eq_true rfl)) dX0_intoRow_68 ⟨Nat.le_of_ble_eq_true rfl, Nat.le_of_ble_eq_true rfl⟩) hS (fun q _ h => fA_le hS.1 q h) (fA_le hS.1) (fun r9 u9 t9 H1 locs ht9 hvm9 hw9 hB9 hz9 hk9 hS => ?_)
      obtain ⟨μa, ra⟩ := u9
      obtain ⟨hP, -⟩ := hB9
      rw [ht9] at hP
      generalize H1 = H at hP hS ⊢
      obtain ⟨e9, hw9⟩ := hw9
      have e9 : r9 = iZ ra := e9
      subst e9
      simp only at hP hw9
      have hμa := hw9; clear hw9
      rw [hμa.1] at hP; have hμa := hμa.2
      have hra := hμa
      rw [← hra] at y3_
      have hvc := y3_
      have hbc := hLC (ra) (j + (μ (q + 2) i.toNat - i - 1)) hvc (Or.inl (by omega))
      rw [← Int.add_assoc] at hbc
      unfold bnd at hbc
      have hvc1 := hvc.1
      have mlc := mulC (i := ra) (s := μ 41 3) (by omega) (by omega) (by omega) (by omega)
      refine lv_aload_n hx hb dX0_intoRow_71 rfl (lv_at hl 2 rfl) ?_
      refine fz_get (D := (dC, dI)) (ci := 0) (v := .int (iZ (μ 41 3))) (C := RX0) (T := TX0) (N := 7) hx hb hts inG0 hown hK hP (k := 41) (by decide) (F := (sF41 h0)) sE_41 rfl 3 (by decide) (hts _ k185) (fun _ h9 => h9) rfl dX0_intoRow_72 ?_
      refine lv_imul hx hb dX0_intoRow_75 ?_
      refine lv_topi (fun x9 ex9 => ?_)
      obtain rfl : x9 = iZ (ra * (μ 41 3)) := ex9.trans (iZ_mul _ _)
      refine lv_iload hx hb dX0_intoRow_76 (lv_at hl 6 rfl) ?_
      refine lv_iadd hx hb dX0_intoRow_78 ?_
      refine lv_topi (fun x9 ex9 => ?_)
      obtain rfl : x9 = iZ ((ra * (μ 41 3)) + j) := ex9.trans (iZ_add _ _)
      refine lv_iload hx hb dX0_intoRow_79 (lv_at hl 1 rfl) ?_
      refine lv_iadd hx hb dX0_intoRow_81 ?_
      refine lv_topi (fun x9 ex9 => ?_)
      obtain rfl : x9 = iZ (((ra * (μ 41 3)) + j) + (((μ (q + 2) (i).toNat) - i) - 1)) := ex9.trans (iZ_add _ _)
      refine fz_ld (k := 42) (n := 106797) hx hb hK hP 0 (by decide) sE_42 rfl ⟨by omega, by omega⟩ (by decide) dX0_intoRow_82 ?_
      refine lv_aload_n hx hb dX0_intoRow_83 rfl (lv_at hl 3 rfl) ?_
      refine fz_get (D := (dC, dI)) (ci := 4) (v := .ref (h0 + (q + 1))) (C := RX4) (T := TX4) (N := 8) hx hb hts inG4 hown hK hP (k := q) (by omega) (F := (sRF h0 q)) (sE_rowO hq) rfl 0 (by decide) (hts _ k80) (fun _ h9 => h9) rfl dX0_intoRow_84 ?_
      refine lv_iload_n hx hb dX0_intoRow_87 rfl (lv_at hl 5 rfl) ?_
      refine fz_ld (k := (q + 1)) (n := rm) hx hb hK hP 0 (by omega) (sE_rowA (r := 1) hq (by decide)) rfl ⟨by omega, by omega⟩ (by omega) dX0_intoRow_88 ?_
      refine lv_sipush (v := iZ 513) hx hb dX0_intoRow_89 rfl ?_
      refine fz_icmp_ne (tgt := 99) (by constructor <;> omega) (by decide) hx hb dX0_intoRow_92 (by decide) (fun c92_ => ?_) (fun c92_ => ?_)
      · refine lv_iconst (v := iZ 0) hx hb dX0_intoRow_99 rfl ?_
        refine va_calli (va_runS (As := [.int (iZ (rc)), .int (iZ (2)), .int (iZ (μ 42 (((ra * (μ 41 3)) + j) + (((μ (q + 2) (i).toNat) - i) - 1)).toNat)), .int (iZ (0))]) (rest := []) ⟨hx, hb, hml, hown, hts⟩ (s_Ypacked l dC dI cI cZ cII cIII h0 H.size μ (rc) (2) (μ 42 (((ra * (μ 41 3)) + j) + (((μ (q + 2) (i).toNat) - i) - 1)).toNat) (0) (by first | assumption | omega | exact ⟨by omega, by omega⟩) (by first | assumption | omega | exact ⟨by omega, by omega⟩) (by first | assumption | omega | exact ⟨by omega, by omega⟩) (by first | assumption | omega | exact ⟨by omega, by omega⟩)) (cwS 4 hts (gS_G k788 k789 k7 k790) rfl rfl rfl (by decide +kernel) ⟨Nat.le_of_ble_eq_true rfl, Nat.le_of_ble_eq_true rfl⟩) ⟨fun a U g mk q => by obtain ⟨q0, q1, qP, qK, qM⟩ := q; exact ⟨q0, q1, qP, va_K.moved (u := U) (U := U.calling g mk a) (Vm.Alike.refl U.vm) qK, qM⟩, fun U hU hW => ⟨rfl, by rw [hU], by rw [hU]; exact hP, va_K.moved hW.alike hK, xM_warm hW hM⟩⟩ rfl rfl hl.1 rfl (lv_room (Nat.le_of_ble_eq_true rfl)) dX0_intoRow_100 ⟨Nat.le_of_ble_eq_true rfl, Nat.le_of_ble_eq_true rfl⟩) hS (fun q _ h => fA_le hS.1 q h) (fA_le hS.1) (fun r9 u9 t9 H1 locs ht9 hvm9 hw9 hB9 hz9 hk9 hS => ?_)
        obtain ⟨μp, rp⟩ := u9
        obtain ⟨hP, -⟩ := hB9
        rw [ht9] at hP
        generalize H1 = H at hP hS ⊢
        obtain ⟨e9, hw9⟩ := hw9
        have e9 : r9 = iZ rp := e9
        subst e9
        simp only at hP hw9
        have hμp := hw9; clear hw9
        rw [hμp.1] at hP; have hμp := hμp.2
        have hrp := hμp.1 trivial
        exact W.iret (v := iZ (rp)) hx hb hr (fun t9 ht9 hW9 => ⟨⟨iZ (rp), (μ, rp), rfl, ⟨rfl, (by
                        dsimp only
                        have hrw : rp / 2 % 8 = 2 ∧ 0 ≤ rp ∧ rp ≤ 268435456 := by omega
                        refine ⟨rfl, hrw.2, fun _ => ?_⟩
                        rw [hrw.1]
                        exact Or.inr (Or.inr (Or.inl ⟨rfl, hi.1, by omega, hmt⟩)))⟩, by rw [ht9]; exact hP, va_K.moved hW9.alike hK⟩, hS.F ht9⟩) hS.2.2 dX0_intoRow_103
      · refine lv_iconst (v := iZ 1) hx hb dX0_intoRow_95 rfl ?_
        refine lv_goto (tgt := 100) hx hb dX0_intoRow_96 (by decide) ?_
        refine va_calli (va_runS (As := [.int (iZ (rc)), .int (iZ (2)), .int (iZ (μ 42 (((ra * (μ 41 3)) + j) + (((μ (q + 2) (i).toNat) - i) - 1)).toNat)), .int (iZ (1))]) (rest := []) ⟨hx, hb, hml, hown, hts⟩ (s_Ypacked l dC dI cI cZ cII cIII h0 H.size μ (rc) (2) (μ 42 (((ra * (μ 41 3)) + j) + (((μ (q + 2) (i).toNat) - i) - 1)).toNat) (1) (by first | assumption | omega | exact ⟨by omega, by omega⟩) (by first | assumption | omega | exact ⟨by omega, by omega⟩) (by first | assumption | omega | exact ⟨by omega, by omega⟩) (by first | assumption | omega | exact ⟨by omega, by omega⟩)) (cwS 4 hts (gS_G k788 k789 k7 k790) rfl rfl rfl (by decide +kernel) ⟨Nat.le_of_ble_eq_true rfl, Nat.le_of_ble_eq_true rfl⟩) ⟨fun a U g mk q => by obtain ⟨q0, q1, qP, qK, qM⟩ := q; exact ⟨q0, q1, qP, va_K.moved (u := U) (U := U.calling g mk a) (Vm.Alike.refl U.vm) qK, qM⟩, fun U hU hW => ⟨rfl, by rw [hU], by rw [hU]; exact hP, va_K.moved hW.alike hK, xM_warm hW hM⟩⟩ rfl rfl hl.1 rfl (lv_room (Nat.le_of_ble_eq_true rfl)) dX0_intoRow_100 ⟨Nat.le_of_ble_eq_true rfl, Nat.le_of_ble_eq_true rfl⟩) hS (fun q _ h => fA_le hS.1 q h) (fA_le hS.1) (fun r9 u9 t9 H1 locs ht9 hvm9 hw9 hB9 hz9 hk9 hS => ?_)
        obtain ⟨μp, rp⟩ := u9
        obtain ⟨hP, -⟩ := hB9
        rw [ht9] at hP
        generalize H1 = H at hP hS ⊢
        obtain ⟨e9, hw9⟩ := hw9
        have e9 : r9 = iZ rp := e9
        subst e9
        simp only at hP hw9
        have hμp := hw9; clear hw9
        rw [hμp.1] at hP; have hμp := hμp.2
        have hrp := hμp.2 trivial
        exact W.iret (v := iZ (rp)) hx hb hr (fun t9 ht9 hW9 => ⟨⟨iZ (rp), (μ, rp), rfl, ⟨rfl, (by
                        dsimp only
                        have hrw : rp / 2 % 8 = 2 ∧ 0 ≤ rp ∧ rp ≤ 268435456 := by omega
                        refine ⟨rfl, hrw.2, fun _ => ?_⟩
                        rw [hrw.1]
                        exact Or.inr (Or.inr (Or.inl ⟨rfl, hi.1, by omega, hmt⟩)))⟩, by rw [ht9]; exact hP, va_K.moved hW9.alike hK⟩, hS.F ht9⟩) hS.2.2 dX0_intoRow_103
    · refine lv_ldc (v := iZ 268435456) hx hb hown (hts _ k778) dX0_intoRow_42 ?_
      exact W.iret (v := iZ (268435456)) hx hb hr (fun t9 ht9 hW9 => ⟨⟨iZ (268435456), (μ, 268435456), rfl, ⟨rfl, (by
                    dsimp only
                    exact ⟨rfl, wR_b⟩)⟩, by rw [ht9]; exact hP, va_K.moved hW9.alike hK⟩, hS.F ht9⟩) hS.2.2 dX0_intoRow_44
  · refine lv_ldc (v := iZ 268435456) hx hb hown (hts _ k778) dX0_intoRow_12 ?_
    exact W.iret (v := iZ (268435456)) hx hb hr (fun t9 ht9 hW9 => ⟨⟨iZ (268435456), (μ, 268435456), rfl, ⟨rfl, (by
                dsimp only
                exact ⟨rfl, wR_b⟩)⟩, by rw [ht9]; exact hP, va_K.moved hW9.alike hK⟩, hS.F ht9⟩) hS.2.2 dX0_intoRow_14
set_option maxHeartbeats 4000000 in
set_option maxRecDepth 100000 in
theorem s_YintoPage (l : Launch) (dC : Nat → ClassId) (dI : Nat → Nat → Nat) (cI cZ cII cIII : ClassId) (h0 sz : Nat) (μ : va_M) (q : Nat) (rm : Nat) (q2 : Nat) (rm2 : Nat) (i : Int) (j : Int) (hq : rowB q rm) (hq2 : rowB q2 rm2) (hG : rG μ q rm) (hG2 : rG μ q2 rm2) (h96 : rm2 = 96) (hst : μ 41 3 = μ q2 5 + 1) (hv : vis μ q q2 i j) (hLC : LC μ q q2 i j) (hi : i < μ q 5 ∧ μ (q + 1) i.toNat ≠ 515) (hj : j < μ q2 5 ∧ μ (q2 + 1) j.toNat ≠ 515) : Met l yX0_intoPage (Cond.code yX0_intoPage cX0_intoPage 7 (some .int) :: wsG) ({ frames := 3, cells := 0, slots := 0, locals := 61 } : Room) (va_Pc [.ref (h0 + 41), .ref (h0 + q), .ref (h0 + q2), .int (iZ (i)), .int (iZ (j))] (fun U => U.heap.size = sz ∧ va_P (dC, dI) vwCl (fw (sE cI cZ cII cIII h0) h0 233 μ) U.heap ∧ va_K (dC, dI) vwCl (sT cI cZ cII cIII) U ∧ xM U)) (va_Qi (fun (r9 : Int32) (u : va_M × Int) => r9 = iZ u.2 ∧ (fun (u : va_M) (r : Int) => u = μ ∧ wR μ q q2 i j r) u.1 u.2) (fun u t => va_P (dC, dI) vwCl (fw (sE cI cZ cII cIII h0) h0 233 u.1) t.heap ∧ va_K (dC, dI) vwCl (sT cI cZ cII cIII) t) (fA h0 233 sz)) 0 0 (fA h0 233 sz) := by
  refine Met.ofW (cc := cX0_intoPage) (maxL := 7) (ret := (some .int)) (by decide) rfl ?_
  intro p e s m args below meth c s₁ B hml hv
  obtain ⟨rfl, hsz, hP, hK, hM⟩ := hv
  have hx := B.exec
  have hb := B.bytes
  have hr := B.returns
  have hts : ∀ w ∈ wsG, w.before _ s = true := hG_of (atoms_spec (ws := (Cond.code yX0_intoPage cX0_intoPage 7 (some .int) :: wsG)) B.pre)
  have hown : s.vm.findClass RX0 = some m.cls := findClass_of_methodNamed B.named
  have hlocks := B.notSynchronized
  subst hsz
  have hS : va_S (fA h0 233 s.heap.size) s.heap s.heap [] := va_S.rf
  have hl := lv_entry ([.ref (h0 + 41), .ref (h0 + q), .ref (h0 + q2), .int (iZ (i)), .int (iZ (j))]) (n := 7) (Nat.le_of_ble_eq_true rfl)
  rw [lg_entry_eq]
  generalize (lg_sl ([.ref (h0 + 41), .ref (h0 + q), .ref (h0 + q2), .int (iZ (i)), .int (iZ (j))]) ++ List.replicate (7 - (lg_sl ([.ref (h0 + 41), .ref (h0 + q), .ref (h0 + q2), .int (iZ (i)), .int (iZ (j))])).length) Slot.unset).toArray = ls at hl ⊢
  have hl : lv_has ls 7 [(0, .ref (h0 + 41)), (1, .ref (h0 + q)), (2, .ref (h0 + q2)), (3, .int (iZ (i))), (4, .int (iZ (j)))] := hl
  have hqb := rowB_b hq
  have hqb2 := rowB_b hq2
  have hrm := rG_rm hq hG
  have hrm2 := rG_rm hq2 hG2
  have hs1 := hG.1 i.toNat
  have hs2 := hG2.1 j.toNat
  have hv0 := hv.1
  have ml0 := mulC (i := i) (s := μ 41 3) (by omega) (by omega) (by omega) (by omega)
  have hm1 := rG_m hG i (by omega) (by omega)
  have hm2 := rG_m hG2 j (by omega) (by omega)
  have ml1 := mulC (i := i + 1) (s := μ 41 3) (by omega) (by omega) (by omega) (by omega)
  refine lv_aload_n hx hb dX0_intoPage_0 rfl (lv_at hl 2 rfl) ?_
  refine fz_get (D := (dC, dI)) (ci := 4) (v := .ref (h0 + (q2 + 1))) (C := RX4) (T := TX4) (N := 8) hx hb hts inG4 hown hK hP (k := q2) (by omega) (F := (sRF h0 q2)) (sE_rowO hq2) rfl 0 (by decide) (hts _ k80) (fun _ h9 => h9) rfl dX0_intoPage_1 ?_
  refine lv_iload hx hb dX0_intoPage_4 (lv_at hl 4 rfl) ?_
  refine fz_ld (k := (q2 + 1)) (n := rm2) hx hb hK hP 0 (by omega) (sE_rowA (r := 1) hq2 (by decide)) rfl ⟨by omega, by omega⟩ (by omega) dX0_intoPage_6 ?_
  refine lv_sipush (v := iZ 514) hx hb dX0_intoPage_7 rfl ?_
  refine fz_icmp_eq (tgt := 16) (by constructor <;> omega) (by decide) hx hb dX0_intoPage_10 (by decide) (fun c10_ => ?_) (fun c10_ => ?_)
  · refine lv_aload_n hx hb dX0_intoPage_16 rfl (lv_at hl 2 rfl) ?_
    refine fz_get (D := (dC, dI)) (ci := 4) (v := .ref (h0 + (q2 + 2))) (C := RX4) (T := TX4) (N := 8) hx hb hts inG4 hown hK hP (k := q2) (by omega) (F := (sRF h0 q2)) (sE_rowO hq2) rfl 1 (by decide) (hts _ k85) (fun _ h9 => h9) rfl dX0_intoPage_17 ?_
    refine lv_iload hx hb dX0_intoPage_20 (lv_at hl 4 rfl) ?_
    refine fz_ld (k := (q2 + 2)) (n := rm2) hx hb hK hP 0 (by omega) (sE_rowA (r := 2) hq2 (by decide)) rfl ⟨by omega, by omega⟩ (by omega) dX0_intoPage_22 ?_
    refine lv_iload hx hb dX0_intoPage_23 (lv_at hl 4 rfl) ?_
    refine lv_isub hx hb dX0_intoPage_25 ?_
    refine lv_topi (fun x9 ex9 => ?_)
    obtain rfl : x9 = iZ ((μ (q2 + 2) (j).toNat) - j) := ex9.trans (iZ_sub _ _)
    refine lv_iconst (v := iZ 1) hx hb dX0_intoPage_26 rfl ?_
    refine lv_isub hx hb dX0_intoPage_27 ?_
    refine lv_topi (fun x9 ex9 => ?_)
    obtain rfl : x9 = iZ (((μ (q2 + 2) (j).toNat) - j) - 1) := ex9.trans (iZ_sub _ _)
    refine lv_istore (lv' := [(5, .int (iZ (((μ (q2 + 2) (j).toNat) - j) - 1))), (0, .ref (h0 + 41)), (1, .ref (h0 + q)), (2, .ref (h0 + q2)), (3, .int (iZ (i))), (4, .int (iZ (j)))]) hx hb dX0_intoPage_28 hl (by decide) rfl (fun ls hl => ?_)
    refine lv_aload_n hx hb dX0_intoPage_30 rfl (lv_at hl 2 rfl) ?_
    refine lv_iload_n hx hb dX0_intoPage_31 rfl (lv_at hl 4 rfl) ?_
    refine lv_aload_n hx hb dX0_intoPage_32 rfl (lv_at hl 3 rfl) ?_
    refine lv_iload hx hb dX0_intoPage_33 (lv_at hl 5 rfl) ?_
    refine lv_iconst (v := iZ 1) hx hb dX0_intoPage_35 rfl ?_
    refine lv_iadd hx hb dX0_intoPage_36 ?_
    refine lv_topi (fun x9 ex9 => ?_)
    obtain rfl : x9 = iZ (j + 1) := ex9.trans (iZ_add _ _)
    refine lv_iload hx hb dX0_intoPage_37 (lv_at hl 0 rfl) ?_
    refine va_calli (va_runV (As := [.int (iZ (i)), .ref (h0 + q2), .int (iZ (j + 1)), .int (iZ (((μ (q2 + 2) (j).toNat) - j) - 1))]) (rest := []) ⟨hx, hb, hml, hown, hts⟩ (s_Rmatches l dC dI cI cZ cII cIII h0 s.heap.size μ (q) (rm) (q2) (rm2) (i) (j + 1) (((μ (q2 + 2) (j).toNat) - j) - 1) (hq) (hq2) (by exact hG.1) (by exact hG2.1) (by first | assumption | omega | exact ⟨by omega, by omega⟩) (by first | assumption | omega | exact ⟨by omega, by omega⟩) (by first | assumption | omega | exact ⟨by omega, by omega⟩) (by first | assumption | omega | exact ⟨by omega, by omega⟩) (by first | assumption | omega | exact ⟨by omega, by omega⟩) (by first | assumption | omega | exact ⟨by omega, by omega⟩)) (cwV 4 hts (gV_G k797 k442 k443 k3 k444) rfl rfl rfl (by decide +kernel) ⟨Nat.le_of_ble_eq_true rfl, Nat.le_of_ble_eq_true rfl⟩) ⟨fun a U g mk q => by obtain ⟨q0, q1, qP, qK, qM⟩ := q; exact ⟨q0, q1, qP, va_K.moved (u := U) (U := U.calling g mk a) (Vm.Alike.refl U.vm) qK, qM⟩, va_recv hK hP (ci := 4) (q0 := q) rfl ((fw_get (by omega)).trans (by rw [(sE_rowO hq)])), fun U hU hW => ⟨rfl, by rw [hU], by rw [hU]; exact hP, va_K.moved hW.alike hK, xM_warm hW hM⟩⟩ rfl rfl hl.1 rfl (lv_room (Nat.le_of_ble_eq_true rfl)) dX0_intoPage_39 ⟨Nat.le_of_ble_eq_true rfl, Nat.le_of_ble_eq_true rfl⟩) hS (fun q _ h => fA_le hS.1 q h) (fA_le hS.1) (fun r9 u9 t9 H1 locs ht9 hvm9 hw9 hB9 hz9 hk9 hS => ?_)
    obtain ⟨μq, rq⟩ := u9
    obtain ⟨hP, -⟩ := hB9
    rw [ht9] at hP
    generalize H1 = H at hP hS ⊢
    obtain ⟨e9, hw9⟩ := hw9
    have e9 : r9 = iZ rq := e9
    subst e9
    simp only at hP hw9
    have hμq := hw9; clear hw9
    rw [hμq.1] at hP; have hμq := hμq.2
    have hrq := hμq
    have hr01 : rq = 0 ∨ rq = 1 := hrq.elim (fun h => Or.inr h.1) (fun h => Or.inl h.1)
    refine fz_if_ne (tgt := 48) (by constructor <;> omega) hx hb dX0_intoPage_42 (by decide) (fun c42_ => ?_) (fun c42_ => ?_)
    · have hmt := hrq.elim (fun h => h.2) (fun h => absurd h.1 (by omega))
      obtain ⟨y1_, y2_, y3_, y4_⟩ := vis_3 hG hG2 hv hj.1 (by omega) hmt
      have y5_ := y3_.1
      have hmt1 := hmt.1
      refine lv_aload_n hx hb dX0_intoPage_48 rfl (lv_at hl 2 rfl) ?_
      refine lv_iload_n hx hb dX0_intoPage_49 rfl (lv_at hl 4 rfl) ?_
      refine lv_aload_n hx hb dX0_intoPage_50 rfl (lv_at hl 3 rfl) ?_
      refine lv_iload hx hb dX0_intoPage_51 (lv_at hl 5 rfl) ?_
      refine lv_iconst (v := iZ 1) hx hb dX0_intoPage_53 rfl ?_
      refine lv_iadd hx hb dX0_intoPage_54 ?_
      refine lv_topi (fun x9 ex9 => ?_)
      obtain rfl : x9 = iZ (j + 1) := ex9.trans (iZ_add _ _)
      refine lv_iload hx hb dX0_intoPage_55 (lv_at hl 0 rfl) ?_
      refine va_calli (va_runV (As := [.int (iZ (i)), .ref (h0 + q2), .int (iZ (j + 1)), .int (iZ (((μ (q2 + 2) (j).toNat) - j) - 1))]) (rest := []) ⟨hx, hb, hml, hown, hts⟩ (s_RcostOfRange l dC dI cI cZ cII cIII h0 H.size μ (q) (rm) (q2) (rm2) (i) (j + 1) (((μ (q2 + 2) (j).toNat) - j) - 1) (hq) (hq2) (by exact hG.1) (by exact hG2.1) (by first | assumption | omega | exact ⟨by omega, by omega⟩) (by first | assumption | omega | exact ⟨by omega, by omega⟩) (by first | assumption | omega | exact ⟨by omega, by omega⟩)) (cwV 4 hts (gV_G k798 k799 k800 k3 k801) rfl rfl rfl (by decide +kernel) ⟨Nat.le_of_ble_eq_true rfl, Nat.le_of_ble_eq_true rfl⟩) ⟨fun a U g mk q => by obtain ⟨q0, q1, qP, qK, qM⟩ := q; exact ⟨q0, q1, qP, va_K.moved (u := U) (U := U.calling g mk a) (Vm.Alike.refl U.vm) qK, qM⟩, va_recv hK hP (ci := 4) (q0 := q) rfl ((fw_get (by omega)).trans (by rw [(sE_rowO hq)])), fun U hU hW => ⟨rfl, by rw [hU], by rw [hU]; exact hP, va_K.moved hW.alike hK, xM_warm hW hM⟩⟩ rfl rfl hl.1 rfl (lv_room (Nat.le_of_ble_eq_true rfl)) dX0_intoPage_57 ⟨Nat.le_of_ble_eq_true rfl, Nat.le_of_ble_eq_true rfl⟩) hS (fun q _ h => fA_le hS.1 q h) (fA_le hS.1) (fun r9 u9 t9 H1 locs ht9 hvm9 hw9 hB9 hz9 hk9 hS => ?_)
      obtain ⟨μc, rc⟩ := u9
      obtain ⟨hP, -⟩ := hB9
      rw [ht9] at hP
      generalize H1 = H at hP hS ⊢
      obtain ⟨e9, hw9⟩ := hw9
      have e9 : r9 = iZ rc := e9
      subst e9
      simp only at hP hw9
      have hμc := hw9; clear hw9
      rw [hμc.1] at hP; have hμc := hμc.2
      have hrc := hμc
      have hcb := cRng_b μ (q + 1) i.toNat (q2 + 1) (j + 1).toNat (μ (q2 + 2) j.toNat - j - 1).toNat
      refine lv_istore (lv' := [(6, .int (iZ (rc))), (5, .int (iZ (((μ (q2 + 2) (j).toNat) - j) - 1))), (0, .ref (h0 + 41)), (1, .ref (h0 + q)), (2, .ref (h0 + q2)), (3, .int (iZ (i))), (4, .int (iZ (j)))]) hx hb dX0_intoPage_60 hl (by decide) rfl (fun ls hl => ?_)
      refine lv_iload hx hb dX0_intoPage_62 (lv_at hl 0 rfl) ?_
      refine lv_iconst (v := iZ 3) hx hb dX0_intoPage_64 rfl ?_
      refine lv_aload_n hx hb dX0_intoPage_65 rfl (lv_at hl 2 rfl) ?_
      refine fz_get (D := (dC, dI)) (ci := 0) (v := .ref (h0 + 42)) (C := RX0) (T := TX0) (N := 7) hx hb hts inG0 hown hK hP (k := 41) (by decide) (F := (sF41 h0)) sE_41 rfl 0 (by decide) (hts _ k182) (fun _ h9 => h9) rfl dX0_intoPage_66 ?_
      refine lv_iload_n hx hb dX0_intoPage_69 rfl (lv_at hl 5 rfl) ?_
      refine lv_iload hx hb dX0_intoPage_70 (lv_at hl 1 rfl) ?_
      refine lv_iadd hx hb dX0_intoPage_72 ?_
      refine lv_topi (fun x9 ex9 => ?_)
      obtain rfl : x9 = iZ (i + (((μ (q2 + 2) (j).toNat) - j) - 1)) := ex9.trans (iZ_add _ _)
      refine lv_aload_n hx hb dX0_intoPage_73 rfl (lv_at hl 2 rfl) ?_
      refine fz_get (D := (dC, dI)) (ci := 0) (v := .int (iZ (μ 41 3))) (C := RX0) (T := TX0) (N := 7) hx hb hts inG0 hown hK hP (k := 41) (by decide) (F := (sF41 h0)) sE_41 rfl 3 (by decide) (hts _ k185) (fun _ h9 => h9) rfl dX0_intoPage_74 ?_
      refine lv_imul hx hb dX0_intoPage_77 ?_
      refine lv_topi (fun x9 ex9 => ?_)
      obtain rfl : x9 = iZ ((i + (((μ (q2 + 2) (j).toNat) - j) - 1)) * (μ 41 3)) := ex9.trans (iZ_mul _ _)
      refine lv_aload_n hx hb dX0_intoPage_78 rfl (lv_at hl 4 rfl) ?_
      refine lv_iload hx hb dX0_intoPage_79 (lv_at hl 6 rfl) ?_
      refine va_calli (va_runV (As := [.int (iZ (j))]) (rest := [.int (iZ ((i + (((μ (q2 + 2) (j).toNat) - j) - 1)) * (μ 41 3))), .ref (h0 + 42), .int (iZ (3)), .int (iZ (rc))]) ⟨hx, hb, hml, hown, hts⟩ (s_Rafter l dC dI cI cZ cII cIII h0 H.size μ (q2) (rm2) (j) (hq2) (by first | assumption | omega | exact ⟨by omega, by omega⟩) (by constructor <;> omega)) (cwV 1 hts (gV_G k791 k438 k439 k3 k440) rfl rfl rfl (by decide +kernel) ⟨Nat.le_of_ble_eq_true rfl, Nat.le_of_ble_eq_true rfl⟩) ⟨fun a U g mk q => by obtain ⟨q0, q1, qP, qK, qM⟩ := q; exact ⟨q0, q1, qP, va_K.moved (u := U) (U := U.calling g mk a) (Vm.Alike.refl U.vm) qK, qM⟩, va_recv hK hP (ci := 4) (q0 := q2) rfl ((fw_get (by omega)).trans (by rw [(sE_rowO hq2)])), fun U hU hW => ⟨rfl, by rw [hU], by rw [hU]; exact hP, va_K.moved hW.alike hK, xM_warm hW hM⟩⟩ rfl rfl hl.1 rfl (lv_room (Nat.le_of_ble_eq_true rfl)) dX0_intoPage_81 ⟨Nat.le_of_ble_eq_true rfl, Nat.le_of_ble_eq_true rfl⟩) hS (fun q _ h => fA_le hS.1 q h) (fA_le hS.1) (fun r9 u9 t9 H1 locs ht9 hvm9 hw9 hB9 hz9 hk9 hS => ?_)
      obtain ⟨μa, ra⟩ := u9
      obtain ⟨hP, -⟩ := hB9
      rw [ht9] at hP
      generalize H1 = H at hP hS ⊢
      obtain ⟨e9, hw9⟩ := hw9
      have e9 : r9 = iZ ra := e9
      subst e9
      simp only at hP hw9
      have hμa := hw9; clear hw9
      rw [hμa.1] at hP; have hμa := hμa.2
      have hra := hμa
      rw [← hra] at y3_
      have hvc := y3_
      have hbc := hLC (i + (μ (q2 + 2) j.toNat - j - 1)) (ra) hvc (by omega)
      unfold bnd at hbc
      have hvc1 := hvc.1
      have mlc := mulC (i := i + (μ (q2 + 2) j.toNat - j - 1)) (s := μ 41 3) (by omega) (by omega) (by omega) (by omega)
      refine lv_iadd hx hb dX0_intoPage_84 ?_
      refine lv_topi (fun x9 ex9 => ?_)
      obtain rfl : x9 = iZ (((i + (((μ (q2 + 2) (j).toNat) - j) - 1)) * (μ 41 3)) + ra) := ex9.trans (iZ_add _ _)
      refine fz_ld (k := 42) (n := 106797) hx hb hK hP 0 (by decide) sE_42 rfl ⟨by omega, by omega⟩ (by decide) dX0_intoPage_85 ?_
      refine lv_iconst (v := iZ 0) hx hb dX0_intoPage_86 rfl ?_
      refine va_calli (va_runS (As := [.int (iZ (rc)), .int (iZ (3)), .int (iZ (μ 42 (((i + (((μ (q2 + 2) (j).toNat) - j) - 1)) * (μ 41 3)) + ra).toNat)), .int (iZ (0))]) (rest := []) ⟨hx, hb, hml, hown, hts⟩ (s_Ypacked l dC dI cI cZ cII cIII h0 H.size μ (rc) (3) (μ 42 (((i + (((μ (q2 + 2) (j).toNat) - j) - 1)) * (μ 41 3)) + ra).toNat) (0) (by first | assumption | omega | exact ⟨by omega, by omega⟩) (by first | assumption | omega | exact ⟨by omega, by omega⟩) (by first | assumption | omega | exact ⟨by omega, by omega⟩) (by first | assumption | omega | exact ⟨by omega, by omega⟩)) (cwS 4 hts (gS_G k788 k789 k7 k790) rfl rfl rfl (by decide +kernel) ⟨Nat.le_of_ble_eq_true rfl, Nat.le_of_ble_eq_true rfl⟩) ⟨fun a U g mk q => by obtain ⟨q0, q1, qP, qK, qM⟩ := q; exact ⟨q0, q1, qP, va_K.moved (u := U) (U := U.calling g mk a) (Vm.Alike.refl U.vm) qK, qM⟩, fun U hU hW => ⟨rfl, by rw [hU], by rw [hU]; exact hP, va_K.moved hW.alike hK, xM_warm hW hM⟩⟩ rfl rfl hl.1 rfl (lv_room (Nat.le_of_ble_eq_true rfl)) dX0_intoPage_87 ⟨Nat.le_of_ble_eq_true rfl, Nat.le_of_ble_eq_true rfl⟩) hS (fun q _ h => fA_le hS.1 q h) (fA_le hS.1) (fun r9 u9 t9 H1 locs ht9 hvm9 hw9 hB9 hz9 hk9 hS => ?_)
      obtain ⟨μp, rp⟩ := u9
      obtain ⟨hP, -⟩ := hB9
      rw [ht9] at hP
      generalize H1 = H at hP hS ⊢
      obtain ⟨e9, hw9⟩ := hw9
      have e9 : r9 = iZ rp := e9
      subst e9
      simp only at hP hw9
      have hμp := hw9; clear hw9
      rw [hμp.1] at hP; have hμp := hμp.2
      have hrp := hμp.1 trivial
      exact W.iret (v := iZ (rp)) hx hb hr (fun t9 ht9 hW9 => ⟨⟨iZ (rp), (μ, rp), rfl, ⟨rfl, (by
                    dsimp only
                    refine ⟨rfl, ⟨by omega, by omega⟩, fun _ => ?_⟩
                    rw [show rp / 2 % 8 = 3 by omega]
                    exact Or.inr (Or.inr (Or.inr (Or.inl ⟨rfl, hj.1, by omega, hmt⟩))))⟩, by rw [ht9]; exact hP, va_K.moved hW9.alike hK⟩, hS.F ht9⟩) hS.2.2 dX0_intoPage_90
    · refine lv_ldc (v := iZ 268435456) hx hb hown (hts _ k778) dX0_intoPage_45 ?_
      exact W.iret (v := iZ (268435456)) hx hb hr (fun t9 ht9 hW9 => ⟨⟨iZ (268435456), (μ, 268435456), rfl, ⟨rfl, (by
                    dsimp only
                    exact ⟨rfl, wR_b⟩)⟩, by rw [ht9]; exact hP, va_K.moved hW9.alike hK⟩, hS.F ht9⟩) hS.2.2 dX0_intoPage_47
  · refine lv_ldc (v := iZ 268435456) hx hb hown (hts _ k778) dX0_intoPage_13 ?_
    exact W.iret (v := iZ (268435456)) hx hb hr (fun t9 ht9 hW9 => ⟨⟨iZ (268435456), (μ, 268435456), rfl, ⟨rfl, (by
                dsimp only
                exact ⟨rfl, wR_b⟩)⟩, by rw [ht9]; exact hP, va_K.moved hW9.alike hK⟩, hS.F ht9⟩) hS.2.2 dX0_intoPage_15
set_option maxHeartbeats 4000000 in
set_option maxRecDepth 100000 in
theorem s_Ybest (l : Launch) (dC : Nat → ClassId) (dI : Nat → Nat → Nat) (cI cZ cII cIII : ClassId) (h0 sz : Nat) (μ : va_M) (q : Nat) (rm : Nat) (q2 : Nat) (rm2 : Nat) (i : Int) (j : Int) (hq : rowB q rm) (hq2 : rowB q2 rm2) (hG : rG μ q rm) (hG2 : rG μ q2 rm2) (h96 : rm2 = 96) (hst : μ 41 3 = μ q2 5 + 1) (hv : vis μ q q2 i j) (hLC : LC μ q q2 i j) : Met l yX0_best (Cond.code yX0_best cX0_best 9 (some .int) :: wsG) ({ frames := 4, cells := 0, slots := 0, locals := 87 } : Room) (va_Pc [.ref (h0 + 41), .ref (h0 + q), .ref (h0 + q2), .int (iZ (i)), .int (iZ (j))] (fun U => U.heap.size = sz ∧ va_P (dC, dI) vwCl (fw (sE cI cZ cII cIII h0) h0 233 μ) U.heap ∧ va_K (dC, dI) vwCl (sT cI cZ cII cIII) U ∧ xM U)) (va_Qi (fun (r9 : Int32) (u : va_M × Int) => r9 = iZ u.2 ∧ (fun (u : va_M) (r : Int) => u = μ ∧ cO μ q q2 i j r) u.1 u.2) (fun u t => va_P (dC, dI) vwCl (fw (sE cI cZ cII cIII h0) h0 233 u.1) t.heap ∧ va_K (dC, dI) vwCl (sT cI cZ cII cIII) t) (fA h0 233 sz)) 0 0 (fA h0 233 sz) := by
  refine Met.ofW (cc := cX0_best) (maxL := 9) (ret := (some .int)) (by decide) rfl ?_
  intro p e s m args below meth c s₁ B hml hv
  obtain ⟨rfl, hsz, hP, hK, hM⟩ := hv
  have hx := B.exec
  have hb := B.bytes
  have hr := B.returns
  have hts : ∀ w ∈ wsG, w.before _ s = true := hG_of (atoms_spec (ws := (Cond.code yX0_best cX0_best 9 (some .int) :: wsG)) B.pre)
  have hown : s.vm.findClass RX0 = some m.cls := findClass_of_methodNamed B.named
  have hlocks := B.notSynchronized
  subst hsz
  have hS : va_S (fA h0 233 s.heap.size) s.heap s.heap [] := va_S.rf
  have hl := lv_entry ([.ref (h0 + 41), .ref (h0 + q), .ref (h0 + q2), .int (iZ (i)), .int (iZ (j))]) (n := 9) (Nat.le_of_ble_eq_true rfl)
  rw [lg_entry_eq]
  generalize (lg_sl ([.ref (h0 + 41), .ref (h0 + q), .ref (h0 + q2), .int (iZ (i)), .int (iZ (j))]) ++ List.replicate (9 - (lg_sl ([.ref (h0 + 41), .ref (h0 + q), .ref (h0 + q2), .int (iZ (i)), .int (iZ (j))])).length) Slot.unset).toArray = ls at hl ⊢
  have hl : lv_has ls 9 [(0, .ref (h0 + 41)), (1, .ref (h0 + q)), (2, .ref (h0 + q2)), (3, .int (iZ (i))), (4, .int (iZ (j)))] := hl
  have hqb := rowB_b hq
  have hqb2 := rowB_b hq2
  have hrm := rG_rm hq hG
  have hrm2 := rG_rm hq2 hG2
  have hs1 := hG.1 i.toNat
  have hs2 := hG2.1 j.toNat
  have hv0 := hv.1
  have ml0 := mulC (i := i) (s := μ 41 3) (by omega) (by omega) (by omega) (by omega)
  refine lv_aload_n hx hb dX0_best_0 rfl (lv_at hl 1 rfl) ?_
  refine lv_iload_n hx hb dX0_best_1 rfl (lv_at hl 3 rfl) ?_
  refine va_calli (va_runV (As := [.int (iZ (i))]) (rest := []) ⟨hx, hb, hml, hown, hts⟩ (s_RendsAt l dC dI cI cZ cII cIII h0 s.heap.size μ (q) (rm) (i) (hq) (by first | assumption | omega | exact ⟨by omega, by omega⟩) (by first | assumption | omega | exact ⟨by omega, by omega⟩) (by intro _; constructor <;> omega)) (cwV 1 hts (gV_G k774 k775 k776 k3 k777) rfl rfl rfl (by decide +kernel) ⟨Nat.le_of_ble_eq_true rfl, Nat.le_of_ble_eq_true rfl⟩) ⟨fun a U g mk q => by obtain ⟨q0, q1, qP, qK, qM⟩ := q; exact ⟨q0, q1, qP, va_K.moved (u := U) (U := U.calling g mk a) (Vm.Alike.refl U.vm) qK, qM⟩, va_recv hK hP (ci := 4) (q0 := q) rfl ((fw_get (by omega)).trans (by rw [(sE_rowO hq)])), fun U hU hW => ⟨rfl, by rw [hU], by rw [hU]; exact hP, va_K.moved hW.alike hK, xM_warm hW hM⟩⟩ rfl rfl hl.1 rfl (lv_room (Nat.le_of_ble_eq_true rfl)) dX0_best_2 ⟨Nat.le_of_ble_eq_true rfl, Nat.le_of_ble_eq_true rfl⟩) hS (fun q _ h => fA_le hS.1 q h) (fA_le hS.1) (fun r9 u9 t9 H1 locs ht9 hvm9 hw9 hB9 hz9 hk9 hS => ?_)
  obtain ⟨μe, re⟩ := u9
  obtain ⟨hP, -⟩ := hB9
  rw [ht9] at hP
  generalize H1 = H at hP hS ⊢
  obtain ⟨e9, hw9⟩ := hw9
  have e9 : r9 = iZ re := e9
  subst e9
  simp only at hP hw9
  have hμe := hw9; clear hw9
  rw [hμe.1] at hP; have hμe := hμe.2
  have hre := if_el hμe
  refine lv_istore (lv' := [(5, .int (iZ (re))), (0, .ref (h0 + 41)), (1, .ref (h0 + q)), (2, .ref (h0 + q2)), (3, .int (iZ (i))), (4, .int (iZ (j)))]) hx hb dX0_best_5 hl (by decide) rfl (fun ls hl => ?_)
  refine lv_aload_n hx hb dX0_best_7 rfl (lv_at hl 3 rfl) ?_
  refine lv_iload hx hb dX0_best_8 (lv_at hl 5 rfl) ?_
  refine va_calli (va_runV (As := [.int (iZ (j))]) (rest := []) ⟨hx, hb, hml, hown, hts⟩ (s_RendsAt l dC dI cI cZ cII cIII h0 H.size μ (q2) (rm2) (j) (hq2) (by first | assumption | omega | exact ⟨by omega, by omega⟩) (by first | assumption | omega | exact ⟨by omega, by omega⟩) (by intro _; constructor <;> omega)) (cwV 1 hts (gV_G k774 k775 k776 k3 k777) rfl rfl rfl (by decide +kernel) ⟨Nat.le_of_ble_eq_true rfl, Nat.le_of_ble_eq_true rfl⟩) ⟨fun a U g mk q => by obtain ⟨q0, q1, qP, qK, qM⟩ := q; exact ⟨q0, q1, qP, va_K.moved (u := U) (U := U.calling g mk a) (Vm.Alike.refl U.vm) qK, qM⟩, va_recv hK hP (ci := 4) (q0 := q2) rfl ((fw_get (by omega)).trans (by rw [(sE_rowO hq2)])), fun U hU hW => ⟨rfl, by rw [hU], by rw [hU]; exact hP, va_K.moved hW.alike hK, xM_warm hW hM⟩⟩ rfl rfl hl.1 rfl (lv_room (Nat.le_of_ble_eq_true rfl)) dX0_best_10 ⟨Nat.le_of_ble_eq_true rfl, Nat.le_of_ble_eq_true rfl⟩) hS (fun q _ h => fA_le hS.1 q h) (fA_le hS.1) (fun r9 u9 t9 H1 locs ht9 hvm9 hw9 hB9 hz9 hk9 hS => ?_)
  obtain ⟨μf, pe⟩ := u9
  obtain ⟨hP, -⟩ := hB9
  rw [ht9] at hP
  generalize H1 = H at hP hS ⊢
  obtain ⟨e9, hw9⟩ := hw9
  have e9 : r9 = iZ pe := e9
  subst e9
  simp only at hP hw9
  have hμf := hw9; clear hw9
  rw [hμf.1] at hP; have hμf := hμf.2
  have hpe := if_el hμf
  refine lv_istore (lv' := [(6, .int (iZ (pe))), (5, .int (iZ (re))), (0, .ref (h0 + 41)), (1, .ref (h0 + q)), (2, .ref (h0 + q2)), (3, .int (iZ (i))), (4, .int (iZ (j)))]) hx hb dX0_best_13 hl (by decide) rfl (fun ls hl => ?_)
  refine lv_iload hx hb dX0_best_15 (lv_at hl 1 rfl) ?_
  refine fz_if_eq (tgt := 27) (by constructor <;> omega) hx hb dX0_best_17 (by decide) (fun c17_ => ?_) (fun c17_ => ?_)
  · refine lv_ldc (v := iZ 268435456) hx hb hown (hts _ k778) dX0_best_27 ?_
    refine lv_istore (lv' := [(7, .int (iZ (268435456))), (6, .int (iZ (pe))), (5, .int (iZ (re))), (0, .ref (h0 + 41)), (1, .ref (h0 + q)), (2, .ref (h0 + q2)), (3, .int (iZ (i))), (4, .int (iZ (j)))]) hx hb dX0_best_29 hl (by decide) rfl (fun ls hl => ?_)
    refine lv_iload hx hb dX0_best_31 (lv_at hl 2 rfl) ?_
    refine fz_if_ne (tgt := 76) (by constructor <;> omega) hx hb dX0_best_33 (by decide) (fun h9 => (by omega)) (fun c33_ => ?_)
    refine lv_iload hx hb dX0_best_36 (lv_at hl 1 rfl) ?_
    refine fz_if_ne (tgt := 76) (by constructor <;> omega) hx hb dX0_best_38 (by decide) (fun c38_ => ?_) (fun c38_ => ?_)
    · refine lv_iload hx hb dX0_best_76 (lv_at hl 2 rfl) ?_
      refine fz_if_ne (tgt := 136) (by constructor <;> omega) hx hb dX0_best_78 (by decide) (fun h9 => (by omega)) (fun c78_ => ?_)
      have hi8 : i < μ q 5 ∧ μ (q + 1) i.toNat ≠ 515 := by omega
      have hm1 := rG_m hG i (by omega) (by omega)
      have hsz := sz_b hG (by omega) hi8.1 hi8.2
      refine lv_aload_n hx hb dX0_best_81 rfl (lv_at hl 4 rfl) ?_
      refine fz_get (D := (dC, dI)) (ci := 4) (v := .ref (h0 + (q + 1))) (C := RX4) (T := TX4) (N := 8) hx hb hts inG4 hown hK hP (k := q) (by omega) (F := (sRF h0 q)) (sE_rowO hq) rfl 0 (by decide) (hts _ k80) (fun _ h9 => h9) rfl dX0_best_82 ?_
      refine lv_iload_n hx hb dX0_best_85 rfl (lv_at hl 6 rfl) ?_
      refine fz_ld (k := (q + 1)) (n := rm) hx hb hK hP 0 (by omega) (sE_rowA (r := 1) hq (by decide)) rfl ⟨by omega, by omega⟩ (by omega) dX0_best_86 ?_
      refine lv_sipush (v := iZ 513) hx hb dX0_best_87 rfl ?_
      refine fz_icmp_ne (tgt := 97) (by constructor <;> omega) (by decide) hx hb dX0_best_90 (by decide) (fun c90_ => ?_) (fun c90_ => ?_)
      · refine lv_aload_n hx hb dX0_best_97 rfl (lv_at hl 4 rfl) ?_
        refine lv_iload_n hx hb dX0_best_98 rfl (lv_at hl 6 rfl) ?_
        refine va_calli (va_runV (As := [.int (iZ (i))]) (rest := []) ⟨hx, hb, hml, hown, hts⟩ (s_RsizeAt l dC dI cI cZ cII cIII h0 H.size μ (q) (rm) (i) (hq) (by first | assumption | omega | exact ⟨by omega, by omega⟩) (by constructor <;> omega)) (cwV 1 hts (gV_G k808 k809 k810 k3 k811) rfl rfl rfl (by decide +kernel) ⟨Nat.le_of_ble_eq_true rfl, Nat.le_of_ble_eq_true rfl⟩) ⟨fun a U g mk q => by obtain ⟨q0, q1, qP, qK, qM⟩ := q; exact ⟨q0, q1, qP, va_K.moved (u := U) (U := U.calling g mk a) (Vm.Alike.refl U.vm) qK, qM⟩, va_recv hK hP (ci := 4) (q0 := q) rfl ((fw_get (by omega)).trans (by rw [(sE_rowO hq)])), fun U hU hW => ⟨rfl, by rw [hU], by rw [hU]; exact hP, va_K.moved hW.alike hK, xM_warm hW hM⟩⟩ rfl rfl hl.1 rfl (lv_room (Nat.le_of_ble_eq_true rfl)) dX0_best_99 ⟨Nat.le_of_ble_eq_true rfl, Nat.le_of_ble_eq_true rfl⟩) hS (fun q _ h => fA_le hS.1 q h) (fA_le hS.1) (fun r9 u9 t9 H1 locs ht9 hvm9 hw9 hB9 hz9 hk9 hS => ?_)
        obtain ⟨μs, rs⟩ := u9
        obtain ⟨hP, -⟩ := hB9
        rw [ht9] at hP
        generalize H1 = H at hP hS ⊢
        obtain ⟨e9, hw9⟩ := hw9
        have e9 : r9 = iZ rs := e9
        subst e9
        simp only at hP hw9
        have hμs := hw9; clear hw9
        rw [hμs.1] at hP; have hμs := hμs.2
        have hrs := hμs
        refine lv_istore (lv' := [(8, .int (iZ (rs))), (7, .int (iZ (268435456))), (6, .int (iZ (pe))), (5, .int (iZ (re))), (0, .ref (h0 + 41)), (1, .ref (h0 + q)), (2, .ref (h0 + q2)), (3, .int (iZ (i))), (4, .int (iZ (j)))]) hx hb dX0_best_102 hl (by decide) rfl (fun ls hl => ?_)
        refine lv_iload hx hb dX0_best_104 (lv_at hl 1 rfl) ?_
        refine lv_iload hx hb dX0_best_106 (lv_at hl 0 rfl) ?_
        refine lv_iconst (v := iZ 4) hx hb dX0_best_108 rfl ?_
        refine lv_aload_n hx hb dX0_best_109 rfl (lv_at hl 4 rfl) ?_
        refine fz_get (D := (dC, dI)) (ci := 0) (v := .ref (h0 + 42)) (C := RX0) (T := TX0) (N := 7) hx hb hts inG0 hown hK hP (k := 41) (by decide) (F := (sF41 h0)) sE_41 rfl 0 (by decide) (hts _ k182) (fun _ h9 => h9) rfl dX0_best_110 ?_
        refine lv_aload_n hx hb dX0_best_113 rfl (lv_at hl 5 rfl) ?_
        refine lv_iload_n hx hb dX0_best_114 rfl (lv_at hl 7 rfl) ?_
        refine va_calli (va_runV (As := [.int (iZ (i))]) (rest := [.ref (h0 + 42), .int (iZ (4)), .int (iZ (rs)), .int (iZ (268435456))]) ⟨hx, hb, hml, hown, hts⟩ (s_Rafter l dC dI cI cZ cII cIII h0 H.size μ (q) (rm) (i) (hq) (by first | assumption | omega | exact ⟨by omega, by omega⟩) (by constructor <;> omega)) (cwV 1 hts (gV_G k791 k438 k439 k3 k440) rfl rfl rfl (by decide +kernel) ⟨Nat.le_of_ble_eq_true rfl, Nat.le_of_ble_eq_true rfl⟩) ⟨fun a U g mk q => by obtain ⟨q0, q1, qP, qK, qM⟩ := q; exact ⟨q0, q1, qP, va_K.moved (u := U) (U := U.calling g mk a) (Vm.Alike.refl U.vm) qK, qM⟩, va_recv hK hP (ci := 4) (q0 := q) rfl ((fw_get (by omega)).trans (by rw [(sE_rowO hq)])), fun U hU hW => ⟨rfl, by rw [hU], by rw [hU]; exact hP, va_K.moved hW.alike hK, xM_warm hW hM⟩⟩ rfl rfl hl.1 rfl (lv_room (Nat.le_of_ble_eq_true rfl)) dX0_best_115 ⟨Nat.le_of_ble_eq_true rfl, Nat.le_of_ble_eq_true rfl⟩) hS (fun q _ h => fA_le hS.1 q h) (fA_le hS.1) (fun r9 u9 t9 H1 locs ht9 hvm9 hw9 hB9 hz9 hk9 hS => ?_)
        obtain ⟨μa, ra⟩ := u9
        obtain ⟨hP, -⟩ := hB9
        rw [ht9] at hP
        generalize H1 = H at hP hS ⊢
        obtain ⟨e9, hw9⟩ := hw9
        have e9 : r9 = iZ ra := e9
        subst e9
        simp only at hP hw9
        have hμa := hw9; clear hw9
        rw [hμa.1] at hP; have hμa := hμa.2
        have hra := hμa
        obtain ⟨y1_, y2_, y3_⟩ := vis_4 hG hv hi8.1 hi8.2
        rw [← hra] at y3_
        have hvc := y3_
        have hbc := hLC (ra) (j) hvc (Or.inl (by omega))
        unfold bnd at hbc
        have hvc1 := hvc.1
        have mlc := mulC (i := ra) (s := μ 41 3) (by omega) (by omega) (by omega) (by omega)
        refine lv_aload_n hx hb dX0_best_118 rfl (lv_at hl 4 rfl) ?_
        refine fz_get (D := (dC, dI)) (ci := 0) (v := .int (iZ (μ 41 3))) (C := RX0) (T := TX0) (N := 7) hx hb hts inG0 hown hK hP (k := 41) (by decide) (F := (sF41 h0)) sE_41 rfl 3 (by decide) (hts _ k185) (fun _ h9 => h9) rfl dX0_best_119 ?_
        refine lv_imul hx hb dX0_best_122 ?_
        refine lv_topi (fun x9 ex9 => ?_)
        obtain rfl : x9 = iZ (ra * (μ 41 3)) := ex9.trans (iZ_mul _ _)
        refine lv_iload hx hb dX0_best_123 (lv_at hl 8 rfl) ?_
        refine lv_iadd hx hb dX0_best_125 ?_
        refine lv_topi (fun x9 ex9 => ?_)
        obtain rfl : x9 = iZ ((ra * (μ 41 3)) + j) := ex9.trans (iZ_add _ _)
        refine fz_ld (k := 42) (n := 106797) hx hb hK hP 0 (by decide) sE_42 rfl ⟨by omega, by omega⟩ (by decide) dX0_best_126 ?_
        refine lv_iconst (v := iZ 1) hx hb dX0_best_127 rfl ?_
        refine va_calli (va_runS (As := [.int (iZ (rs)), .int (iZ (4)), .int (iZ (μ 42 ((ra * (μ 41 3)) + j).toNat)), .int (iZ (1))]) (rest := [.int (iZ (268435456))]) ⟨hx, hb, hml, hown, hts⟩ (s_Ypacked l dC dI cI cZ cII cIII h0 H.size μ (rs) (4) (μ 42 ((ra * (μ 41 3)) + j).toNat) (1) (by first | assumption | omega | exact ⟨by omega, by omega⟩) (by first | assumption | omega | exact ⟨by omega, by omega⟩) (by first | assumption | omega | exact ⟨by omega, by omega⟩) (by first | assumption | omega | exact ⟨by omega, by omega⟩)) (cwS 4 hts (gS_G k788 k789 k7 k790) rfl rfl rfl (by decide +kernel) ⟨Nat.le_of_ble_eq_true rfl, Nat.le_of_ble_eq_true rfl⟩) ⟨fun a U g mk q => by obtain ⟨q0, q1, qP, qK, qM⟩ := q; exact ⟨q0, q1, qP, va_K.moved (u := U) (U := U.calling g mk a) (Vm.Alike.refl U.vm) qK, qM⟩, fun U hU hW => ⟨rfl, by rw [hU], by rw [hU]; exact hP, va_K.moved hW.alike hK, xM_warm hW hM⟩⟩ rfl rfl hl.1 rfl (lv_room (Nat.le_of_ble_eq_true rfl)) dX0_best_128 ⟨Nat.le_of_ble_eq_true rfl, Nat.le_of_ble_eq_true rfl⟩) hS (fun q _ h => fA_le hS.1 q h) (fA_le hS.1) (fun r9 u9 t9 H1 locs ht9 hvm9 hw9 hB9 hz9 hk9 hS => ?_)
        obtain ⟨μp, p4⟩ := u9
        obtain ⟨hP, -⟩ := hB9
        rw [ht9] at hP
        generalize H1 = H at hP hS ⊢
        obtain ⟨e9, hw9⟩ := hw9
        have e9 : r9 = iZ p4 := e9
        subst e9
        simp only at hP hw9
        have hμp := hw9; clear hw9
        rw [hμp.1] at hP; have hμp := hμp.2
        have hp4 := hμp.2 trivial
        have hc4 : cO μ q q2 i j p4 := by
          refine ⟨⟨by omega, by omega⟩, ?_⟩
          rw [show p4 / 2 % 8 = 4 by omega]
          exact Or.inr (Or.inr (Or.inr (Or.inr (Or.inl ⟨rfl, hi8.1, hi8.2⟩))))
        have hc4b := hc4.1
        unfold bnd at hc4b
        refine va_mmin hx hb (hml.trans hl.1.symm) hown (hts _ k807) (hts _ k501) (hts _ k4) (hts _ k502) (Nat.le_of_ble_eq_true rfl) (Nat.le_of_ble_eq_true rfl) (Nat.le_of_ble_eq_true rfl) (Nat.le_of_ble_eq_true rfl) dX0_best_131 ?_
        refine lv_topi (fun x9 ex9 => ?_)
        obtain rfl : x9 = iZ (min 268435456 p4) := ex9.trans (iZ_mn (by decide) (by constructor <;> omega))
        refine lv_istore (lv' := [(7, .int (iZ (min 268435456 p4))), (8, .int (iZ (rs))), (6, .int (iZ (pe))), (5, .int (iZ (re))), (0, .ref (h0 + 41)), (1, .ref (h0 + q)), (2, .ref (h0 + q2)), (3, .int (iZ (i))), (4, .int (iZ (j)))]) hx hb dX0_best_134 hl (by decide) rfl (fun ls hl => ?_)
        refine lv_iload hx hb dX0_best_136 (lv_at hl 2 rfl) ?_
        refine fz_if_ne (tgt := 177) (by constructor <;> omega) hx hb dX0_best_138 (by decide) (fun c138_ => ?_) (fun h9 => (by omega))
        refine lv_iload hx hb dX0_best_177 (lv_at hl 0 rfl) ?_
        exact W.iret (v := iZ (min 268435456 p4)) hx hb hr (fun t9 ht9 hW9 => ⟨⟨iZ (min 268435456 p4), (μ, min 268435456 p4), rfl, ⟨rfl, (by
                        dsimp only
                        have hll : μ q 5 ≤ 1100 ∧ μ q2 5 ≤ 1100 := by omega
                        exact ⟨rfl, cO_min hv hll wR_b hc4⟩)⟩, by rw [ht9]; exact hP, va_K.moved hW9.alike hK⟩, hS.F ht9⟩) hS.2.2 dX0_best_179
      · refine lv_iconst (v := iZ 0) hx hb dX0_best_93 rfl ?_
        refine lv_goto (tgt := 102) hx hb dX0_best_94 (by decide) ?_
        refine lv_istore (lv' := [(8, .int (iZ (0))), (7, .int (iZ (268435456))), (6, .int (iZ (pe))), (5, .int (iZ (re))), (0, .ref (h0 + 41)), (1, .ref (h0 + q)), (2, .ref (h0 + q2)), (3, .int (iZ (i))), (4, .int (iZ (j)))]) hx hb dX0_best_102 hl (by decide) rfl (fun ls hl => ?_)
        refine lv_iload hx hb dX0_best_104 (lv_at hl 1 rfl) ?_
        refine lv_iload hx hb dX0_best_106 (lv_at hl 0 rfl) ?_
        refine lv_iconst (v := iZ 4) hx hb dX0_best_108 rfl ?_
        refine lv_aload_n hx hb dX0_best_109 rfl (lv_at hl 4 rfl) ?_
        refine fz_get (D := (dC, dI)) (ci := 0) (v := .ref (h0 + 42)) (C := RX0) (T := TX0) (N := 7) hx hb hts inG0 hown hK hP (k := 41) (by decide) (F := (sF41 h0)) sE_41 rfl 0 (by decide) (hts _ k182) (fun _ h9 => h9) rfl dX0_best_110 ?_
        refine lv_aload_n hx hb dX0_best_113 rfl (lv_at hl 5 rfl) ?_
        refine lv_iload_n hx hb dX0_best_114 rfl (lv_at hl 7 rfl) ?_
        refine va_calli (va_runV (As := [.int (iZ (i))]) (rest := [.ref (h0 + 42), .int (iZ (4)), .int (iZ (0)), .int (iZ (268435456))]) ⟨hx, hb, hml, hown, hts⟩ (s_Rafter l dC dI cI cZ cII cIII h0 H.size μ (q) (rm) (i) (hq) (by first | assumption | omega | exact ⟨by omega, by omega⟩) (by constructor <;> omega)) (cwV 1 hts (gV_G k791 k438 k439 k3 k440) rfl rfl rfl (by decide +kernel) ⟨Nat.le_of_ble_eq_true rfl, Nat.le_of_ble_eq_true rfl⟩) ⟨fun a U g mk q => by obtain ⟨q0, q1, qP, qK, qM⟩ := q; exact ⟨q0, q1, qP, va_K.moved (u := U) (U := U.calling g mk a) (Vm.Alike.refl U.vm) qK, qM⟩, va_recv hK hP (ci := 4) (q0 := q) rfl ((fw_get (by omega)).trans (by rw [(sE_rowO hq)])), fun U hU hW => ⟨rfl, by rw [hU], by rw [hU]; exact hP, va_K.moved hW.alike hK, xM_warm hW hM⟩⟩ rfl rfl hl.1 rfl (lv_room (Nat.le_of_ble_eq_true rfl)) dX0_best_115 ⟨Nat.le_of_ble_eq_true rfl, Nat.le_of_ble_eq_true rfl⟩) hS (fun q _ h => fA_le hS.1 q h) (fA_le hS.1) (fun r9 u9 t9 H1 locs ht9 hvm9 hw9 hB9 hz9 hk9 hS => ?_)
        obtain ⟨μa, ra⟩ := u9
        obtain ⟨hP, -⟩ := hB9
        rw [ht9] at hP
        generalize H1 = H at hP hS ⊢
        obtain ⟨e9, hw9⟩ := hw9
        have e9 : r9 = iZ ra := e9
        subst e9
        simp only at hP hw9
        have hμa := hw9; clear hw9
        rw [hμa.1] at hP; have hμa := hμa.2
        have hra := hμa
        obtain ⟨y1_, y2_, y3_⟩ := vis_4 hG hv hi8.1 hi8.2
        rw [← hra] at y3_
        have hvc := y3_
        have hbc := hLC (ra) (j) hvc (Or.inl (by omega))
        unfold bnd at hbc
        have hvc1 := hvc.1
        have mlc := mulC (i := ra) (s := μ 41 3) (by omega) (by omega) (by omega) (by omega)
        refine lv_aload_n hx hb dX0_best_118 rfl (lv_at hl 4 rfl) ?_
        refine fz_get (D := (dC, dI)) (ci := 0) (v := .int (iZ (μ 41 3))) (C := RX0) (T := TX0) (N := 7) hx hb hts inG0 hown hK hP (k := 41) (by decide) (F := (sF41 h0)) sE_41 rfl 3 (by decide) (hts _ k185) (fun _ h9 => h9) rfl dX0_best_119 ?_
        refine lv_imul hx hb dX0_best_122 ?_
        refine lv_topi (fun x9 ex9 => ?_)
        obtain rfl : x9 = iZ (ra * (μ 41 3)) := ex9.trans (iZ_mul _ _)
        refine lv_iload hx hb dX0_best_123 (lv_at hl 8 rfl) ?_
        refine lv_iadd hx hb dX0_best_125 ?_
        refine lv_topi (fun x9 ex9 => ?_)
        obtain rfl : x9 = iZ ((ra * (μ 41 3)) + j) := ex9.trans (iZ_add _ _)
        refine fz_ld (k := 42) (n := 106797) hx hb hK hP 0 (by decide) sE_42 rfl ⟨by omega, by omega⟩ (by decide) dX0_best_126 ?_
        refine lv_iconst (v := iZ 1) hx hb dX0_best_127 rfl ?_
        refine va_calli (va_runS (As := [.int (iZ (0)), .int (iZ (4)), .int (iZ (μ 42 ((ra * (μ 41 3)) + j).toNat)), .int (iZ (1))]) (rest := [.int (iZ (268435456))]) ⟨hx, hb, hml, hown, hts⟩ (s_Ypacked l dC dI cI cZ cII cIII h0 H.size μ (0) (4) (μ 42 ((ra * (μ 41 3)) + j).toNat) (1) (by first | assumption | omega | exact ⟨by omega, by omega⟩) (by first | assumption | omega | exact ⟨by omega, by omega⟩) (by first | assumption | omega | exact ⟨by omega, by omega⟩) (by first | assumption | omega | exact ⟨by omega, by omega⟩)) (cwS 4 hts (gS_G k788 k789 k7 k790) rfl rfl rfl (by decide +kernel) ⟨Nat.le_of_ble_eq_true rfl, Nat.le_of_ble_eq_true rfl⟩) ⟨fun a U g mk q => by obtain ⟨q0, q1, qP, qK, qM⟩ := q; exact ⟨q0, q1, qP, va_K.moved (u := U) (U := U.calling g mk a) (Vm.Alike.refl U.vm) qK, qM⟩, fun U hU hW => ⟨rfl, by rw [hU], by rw [hU]; exact hP, va_K.moved hW.alike hK, xM_warm hW hM⟩⟩ rfl rfl hl.1 rfl (lv_room (Nat.le_of_ble_eq_true rfl)) dX0_best_128 ⟨Nat.le_of_ble_eq_true rfl, Nat.le_of_ble_eq_true rfl⟩) hS (fun q _ h => fA_le hS.1 q h) (fA_le hS.1) (fun r9 u9 t9 H1 locs ht9 hvm9 hw9 hB9 hz9 hk9 hS => ?_)
        obtain ⟨μp, p4⟩ := u9
        obtain ⟨hP, -⟩ := hB9
        rw [ht9] at hP
        generalize H1 = H at hP hS ⊢
        obtain ⟨e9, hw9⟩ := hw9
        have e9 : r9 = iZ p4 := e9
        subst e9
        simp only at hP hw9
        have hμp := hw9; clear hw9
        rw [hμp.1] at hP; have hμp := hμp.2
        have hp4 := hμp.2 trivial
        have hc4 : cO μ q q2 i j p4 := by
          refine ⟨⟨by omega, by omega⟩, ?_⟩
          rw [show p4 / 2 % 8 = 4 by omega]
          exact Or.inr (Or.inr (Or.inr (Or.inr (Or.inl ⟨rfl, hi8.1, hi8.2⟩))))
        have hc4b := hc4.1
        unfold bnd at hc4b
        refine va_mmin hx hb (hml.trans hl.1.symm) hown (hts _ k807) (hts _ k501) (hts _ k4) (hts _ k502) (Nat.le_of_ble_eq_true rfl) (Nat.le_of_ble_eq_true rfl) (Nat.le_of_ble_eq_true rfl) (Nat.le_of_ble_eq_true rfl) dX0_best_131 ?_
        refine lv_topi (fun x9 ex9 => ?_)
        obtain rfl : x9 = iZ (min 268435456 p4) := ex9.trans (iZ_mn (by decide) (by constructor <;> omega))
        refine lv_istore (lv' := [(7, .int (iZ (min 268435456 p4))), (8, .int (iZ (0))), (6, .int (iZ (pe))), (5, .int (iZ (re))), (0, .ref (h0 + 41)), (1, .ref (h0 + q)), (2, .ref (h0 + q2)), (3, .int (iZ (i))), (4, .int (iZ (j)))]) hx hb dX0_best_134 hl (by decide) rfl (fun ls hl => ?_)
        refine lv_iload hx hb dX0_best_136 (lv_at hl 2 rfl) ?_
        refine fz_if_ne (tgt := 177) (by constructor <;> omega) hx hb dX0_best_138 (by decide) (fun c138_ => ?_) (fun h9 => (by omega))
        refine lv_iload hx hb dX0_best_177 (lv_at hl 0 rfl) ?_
        exact W.iret (v := iZ (min 268435456 p4)) hx hb hr (fun t9 ht9 hW9 => ⟨⟨iZ (min 268435456 p4), (μ, min 268435456 p4), rfl, ⟨rfl, (by
                        dsimp only
                        have hll : μ q 5 ≤ 1100 ∧ μ q2 5 ≤ 1100 := by omega
                        exact ⟨rfl, cO_min hv hll wR_b hc4⟩)⟩, by rw [ht9]; exact hP, va_K.moved hW9.alike hK⟩, hS.F ht9⟩) hS.2.2 dX0_best_179
    · have hi9 : i < μ q 5 ∧ μ (q + 1) i.toNat ≠ 515 := by omega
      have hj9 : j < μ q2 5 ∧ μ (q2 + 1) j.toNat ≠ 515 := by omega
      refine lv_aload_n hx hb dX0_best_41 rfl (lv_at hl 3 rfl) ?_
      refine lv_aload_n hx hb dX0_best_42 rfl (lv_at hl 4 rfl) ?_
      refine lv_aload_n hx hb dX0_best_43 rfl (lv_at hl 5 rfl) ?_
      refine lv_iload_n hx hb dX0_best_44 rfl (lv_at hl 6 rfl) ?_
      refine lv_iload hx hb dX0_best_45 (lv_at hl 7 rfl) ?_
      refine va_calli (va_runV (As := [.ref (h0 + q), .ref (h0 + q2), .int (iZ (i)), .int (iZ (j))]) (rest := []) ⟨hx, hb, hml, hown, hts⟩ (s_Yboth l dC dI cI cZ cII cIII h0 H.size μ (q) (rm) (q2) (rm2) (i) (j) (hq) (hq2) (by first | assumption | omega | exact ⟨by omega, by omega⟩) (by first | assumption | omega | exact ⟨by omega, by omega⟩) (by first | assumption | omega | exact ⟨by omega, by omega⟩) (by first | assumption | omega | exact ⟨by omega, by omega⟩) (by first | assumption | omega | exact ⟨by omega, by omega⟩) (by first | assumption | omega | exact ⟨by omega, by omega⟩) (by exact hi9) (by exact hj9)) (cwV 4 hts (gV_G k779 k781 ks_yX0_both k7 k782) rfl rfl rfl (by decide +kernel) ⟨Nat.le_of_ble_eq_true rfl, Nat.le_of_ble_eq_true rfl⟩) ⟨fun a U g mk q => by obtain ⟨q0, q1, qP, qK, qM⟩ := q; exact ⟨q0, q1, qP, va_K.moved (u := U) (U := U.calling g mk a) (Vm.Alike.refl U.vm) qK, qM⟩, va_recv hK hP (ci := 0) (q0 := 41) rfl ((fw_get (by decide)).trans (by rw [sE_41])), fun U hU hW => ⟨rfl, by rw [hU], by rw [hU]; exact hP, va_K.moved hW.alike hK, xM_warm hW hM⟩⟩ rfl rfl hl.1 rfl (lv_room (Nat.le_of_ble_eq_true rfl)) dX0_best_47 ⟨Nat.le_of_ble_eq_true rfl, Nat.le_of_ble_eq_true rfl⟩) hS (fun q _ h => fA_le hS.1 q h) (fA_le hS.1) (fun r9 u9 t9 H1 locs ht9 hvm9 hw9 hB9 hz9 hk9 hS => ?_)
      obtain ⟨μw1, w1⟩ := u9
      obtain ⟨hP, -⟩ := hB9
      rw [ht9] at hP
      generalize H1 = H at hP hS ⊢
      obtain ⟨e9, hw9⟩ := hw9
      have e9 : r9 = iZ w1 := e9
      subst e9
      simp only at hP hw9
      have hμw1 := hw9; clear hw9
      rw [hμw1.1] at hP; have hμw1 := hμw1.2
      have hw1 := hμw1
      have hw1b := hw1.1
      refine lv_aload_n hx hb dX0_best_50 rfl (lv_at hl 3 rfl) ?_
      refine lv_aload_n hx hb dX0_best_51 rfl (lv_at hl 4 rfl) ?_
      refine lv_aload_n hx hb dX0_best_52 rfl (lv_at hl 5 rfl) ?_
      refine lv_iload_n hx hb dX0_best_53 rfl (lv_at hl 6 rfl) ?_
      refine lv_iload hx hb dX0_best_54 (lv_at hl 7 rfl) ?_
      refine va_calli (va_runV (As := [.ref (h0 + q), .ref (h0 + q2), .int (iZ (i)), .int (iZ (j))]) (rest := [.int (iZ (w1))]) ⟨hx, hb, hml, hown, hts⟩ (s_YintoRow l dC dI cI cZ cII cIII h0 H.size μ (q) (rm) (q2) (rm2) (i) (j) (hq) (hq2) (by first | assumption | omega | exact ⟨by omega, by omega⟩) (by first | assumption | omega | exact ⟨by omega, by omega⟩) (by first | assumption | omega | exact ⟨by omega, by omega⟩) (by first | assumption | omega | exact ⟨by omega, by omega⟩) (by first | assumption | omega | exact ⟨by omega, by omega⟩) (by first | assumption | omega | exact ⟨by omega, by omega⟩) (by exact hi9) (by exact hj9)) (cwV 4 hts (gV_G k792 k794 ks_yX0_intoRow k7 k795) rfl rfl rfl (by decide +kernel) ⟨Nat.le_of_ble_eq_true rfl, Nat.le_of_ble_eq_true rfl⟩) ⟨fun a U g mk q => by obtain ⟨q0, q1, qP, qK, qM⟩ := q; exact ⟨q0, q1, qP, va_K.moved (u := U) (U := U.calling g mk a) (Vm.Alike.refl U.vm) qK, qM⟩, va_recv hK hP (ci := 0) (q0 := 41) rfl ((fw_get (by decide)).trans (by rw [sE_41])), fun U hU hW => ⟨rfl, by rw [hU], by rw [hU]; exact hP, va_K.moved hW.alike hK, xM_warm hW hM⟩⟩ rfl rfl hl.1 rfl (lv_room (Nat.le_of_ble_eq_true rfl)) dX0_best_56 ⟨Nat.le_of_ble_eq_true rfl, Nat.le_of_ble_eq_true rfl⟩) hS (fun q _ h => fA_le hS.1 q h) (fA_le hS.1) (fun r9 u9 t9 H1 locs ht9 hvm9 hw9 hB9 hz9 hk9 hS => ?_)
      obtain ⟨μw2, w2⟩ := u9
      obtain ⟨hP, -⟩ := hB9
      rw [ht9] at hP
      generalize H1 = H at hP hS ⊢
      obtain ⟨e9, hw9⟩ := hw9
      have e9 : r9 = iZ w2 := e9
      subst e9
      simp only at hP hw9
      have hμw2 := hw9; clear hw9
      rw [hμw2.1] at hP; have hμw2 := hμw2.2
      have hw2 := hμw2
      have hw2b := hw2.1
      refine lv_aload_n hx hb dX0_best_59 rfl (lv_at hl 3 rfl) ?_
      refine lv_aload_n hx hb dX0_best_60 rfl (lv_at hl 4 rfl) ?_
      refine lv_aload_n hx hb dX0_best_61 rfl (lv_at hl 5 rfl) ?_
      refine lv_iload_n hx hb dX0_best_62 rfl (lv_at hl 6 rfl) ?_
      refine lv_iload hx hb dX0_best_63 (lv_at hl 7 rfl) ?_
      refine va_calli (va_runV (As := [.ref (h0 + q), .ref (h0 + q2), .int (iZ (i)), .int (iZ (j))]) (rest := [.int (iZ (w2)), .int (iZ (w1))]) ⟨hx, hb, hml, hown, hts⟩ (s_YintoPage l dC dI cI cZ cII cIII h0 H.size μ (q) (rm) (q2) (rm2) (i) (j) (hq) (hq2) (by first | assumption | omega | exact ⟨by omega, by omega⟩) (by first | assumption | omega | exact ⟨by omega, by omega⟩) (by first | assumption | omega | exact ⟨by omega, by omega⟩) (by first | assumption | omega | exact ⟨by omega, by omega⟩) (by first | assumption | omega | exact ⟨by omega, by omega⟩) (by first | assumption | omega | exact ⟨by omega, by omega⟩) (by exact hi9) (by exact hj9)) (cwV 4 hts (gV_G k803 k805 ks_yX0_intoPage k7 k806) rfl rfl rfl (by decide +kernel) ⟨Nat.le_of_ble_eq_true rfl, Nat.le_of_ble_eq_true rfl⟩) ⟨fun a U g mk q => by obtain ⟨q0, q1, qP, qK, qM⟩ := q; exact ⟨q0, q1, qP, va_K.moved (u := U) (U := U.calling g mk a) (Vm.Alike.refl U.vm) qK, qM⟩, va_recv hK hP (ci := 0) (q0 := 41) rfl ((fw_get (by decide)).trans (by rw [sE_41])), fun U hU hW => ⟨rfl, by rw [hU], by rw [hU]; exact hP, va_K.moved hW.alike hK, xM_warm hW hM⟩⟩ rfl rfl hl.1 rfl (lv_room (Nat.le_of_ble_eq_true rfl)) dX0_best_65 ⟨Nat.le_of_ble_eq_true rfl, Nat.le_of_ble_eq_true rfl⟩) hS (fun q _ h => fA_le hS.1 q h) (fA_le hS.1) (fun r9 u9 t9 H1 locs ht9 hvm9 hw9 hB9 hz9 hk9 hS => ?_)
      obtain ⟨μw3, w3⟩ := u9
      obtain ⟨hP, -⟩ := hB9
      rw [ht9] at hP
      generalize H1 = H at hP hS ⊢
      obtain ⟨e9, hw9⟩ := hw9
      have e9 : r9 = iZ w3 := e9
      subst e9
      simp only at hP hw9
      have hμw3 := hw9; clear hw9
      rw [hμw3.1] at hP; have hμw3 := hμw3.2
      have hw3 := hμw3
      have hw3b := hw3.1
      refine va_mmin hx hb (hml.trans hl.1.symm) hown (hts _ k807) (hts _ k501) (hts _ k4) (hts _ k502) (Nat.le_of_ble_eq_true rfl) (Nat.le_of_ble_eq_true rfl) (Nat.le_of_ble_eq_true rfl) (Nat.le_of_ble_eq_true rfl) dX0_best_68 ?_
      refine lv_topi (fun x9 ex9 => ?_)
      obtain rfl : x9 = iZ (min w2 w3) := ex9.trans (iZ_mn (by constructor <;> omega) (by constructor <;> omega))
      refine va_mmin hx hb (hml.trans hl.1.symm) hown (hts _ k807) (hts _ k501) (hts _ k4) (hts _ k502) (Nat.le_of_ble_eq_true rfl) (Nat.le_of_ble_eq_true rfl) (Nat.le_of_ble_eq_true rfl) (Nat.le_of_ble_eq_true rfl) dX0_best_71 ?_
      refine lv_topi (fun x9 ex9 => ?_)
      obtain rfl : x9 = iZ (min w1 (min w2 w3)) := ex9.trans (iZ_mn (by constructor <;> omega) (by constructor <;> omega))
      refine lv_istore (lv' := [(7, .int (iZ (min w1 (min w2 w3)))), (6, .int (iZ (pe))), (5, .int (iZ (re))), (0, .ref (h0 + 41)), (1, .ref (h0 + q)), (2, .ref (h0 + q2)), (3, .int (iZ (i))), (4, .int (iZ (j)))]) hx hb dX0_best_74 hl (by decide) rfl (fun ls hl => ?_)
      refine lv_iload hx hb dX0_best_76 (lv_at hl 2 rfl) ?_
      refine fz_if_ne (tgt := 136) (by constructor <;> omega) hx hb dX0_best_78 (by decide) (fun h9 => (by omega)) (fun c78_ => ?_)
      have hi8 : i < μ q 5 ∧ μ (q + 1) i.toNat ≠ 515 := by omega
      have hm1 := rG_m hG i (by omega) (by omega)
      have hsz := sz_b hG (by omega) hi8.1 hi8.2
      refine lv_aload_n hx hb dX0_best_81 rfl (lv_at hl 4 rfl) ?_
      refine fz_get (D := (dC, dI)) (ci := 4) (v := .ref (h0 + (q + 1))) (C := RX4) (T := TX4) (N := 8) hx hb hts inG4 hown hK hP (k := q) (by omega) (F := (sRF h0 q)) (sE_rowO hq) rfl 0 (by decide) (hts _ k80) (fun _ h9 => h9) rfl dX0_best_82 ?_
      refine lv_iload_n hx hb dX0_best_85 rfl (lv_at hl 6 rfl) ?_
      refine fz_ld (k := (q + 1)) (n := rm) hx hb hK hP 0 (by omega) (sE_rowA (r := 1) hq (by decide)) rfl ⟨by omega, by omega⟩ (by omega) dX0_best_86 ?_
      refine lv_sipush (v := iZ 513) hx hb dX0_best_87 rfl ?_
      refine fz_icmp_ne (tgt := 97) (by constructor <;> omega) (by decide) hx hb dX0_best_90 (by decide) (fun c90_ => ?_) (fun c90_ => ?_)
      · refine lv_aload_n hx hb dX0_best_97 rfl (lv_at hl 4 rfl) ?_
        refine lv_iload_n hx hb dX0_best_98 rfl (lv_at hl 6 rfl) ?_
        refine va_calli (va_runV (As := [.int (iZ (i))]) (rest := []) ⟨hx, hb, hml, hown, hts⟩ (s_RsizeAt l dC dI cI cZ cII cIII h0 H.size μ (q) (rm) (i) (hq) (by first | assumption | omega | exact ⟨by omega, by omega⟩) (by constructor <;> omega)) (cwV 1 hts (gV_G k808 k809 k810 k3 k811) rfl rfl rfl (by decide +kernel) ⟨Nat.le_of_ble_eq_true rfl, Nat.le_of_ble_eq_true rfl⟩) ⟨fun a U g mk q => by obtain ⟨q0, q1, qP, qK, qM⟩ := q; exact ⟨q0, q1, qP, va_K.moved (u := U) (U := U.calling g mk a) (Vm.Alike.refl U.vm) qK, qM⟩, va_recv hK hP (ci := 4) (q0 := q) rfl ((fw_get (by omega)).trans (by rw [(sE_rowO hq)])), fun U hU hW => ⟨rfl, by rw [hU], by rw [hU]; exact hP, va_K.moved hW.alike hK, xM_warm hW hM⟩⟩ rfl rfl hl.1 rfl (lv_room (Nat.le_of_ble_eq_true rfl)) dX0_best_99 ⟨Nat.le_of_ble_eq_true rfl, Nat.le_of_ble_eq_true rfl⟩) hS (fun q _ h => fA_le hS.1 q h) (fA_le hS.1) (fun r9 u9 t9 H1 locs ht9 hvm9 hw9 hB9 hz9 hk9 hS => ?_)
        obtain ⟨μs, rs⟩ := u9
        obtain ⟨hP, -⟩ := hB9
        rw [ht9] at hP
        generalize H1 = H at hP hS ⊢
        obtain ⟨e9, hw9⟩ := hw9
        have e9 : r9 = iZ rs := e9
        subst e9
        simp only at hP hw9
        have hμs := hw9; clear hw9
        rw [hμs.1] at hP; have hμs := hμs.2
        have hrs := hμs
        refine lv_istore (lv' := [(8, .int (iZ (rs))), (7, .int (iZ (min w1 (min w2 w3)))), (6, .int (iZ (pe))), (5, .int (iZ (re))), (0, .ref (h0 + 41)), (1, .ref (h0 + q)), (2, .ref (h0 + q2)), (3, .int (iZ (i))), (4, .int (iZ (j)))]) hx hb dX0_best_102 hl (by decide) rfl (fun ls hl => ?_)
        refine lv_iload hx hb dX0_best_104 (lv_at hl 1 rfl) ?_
        refine lv_iload hx hb dX0_best_106 (lv_at hl 0 rfl) ?_
        refine lv_iconst (v := iZ 4) hx hb dX0_best_108 rfl ?_
        refine lv_aload_n hx hb dX0_best_109 rfl (lv_at hl 4 rfl) ?_
        refine fz_get (D := (dC, dI)) (ci := 0) (v := .ref (h0 + 42)) (C := RX0) (T := TX0) (N := 7) hx hb hts inG0 hown hK hP (k := 41) (by decide) (F := (sF41 h0)) sE_41 rfl 0 (by decide) (hts _ k182) (fun _ h9 => h9) rfl dX0_best_110 ?_
        refine lv_aload_n hx hb dX0_best_113 rfl (lv_at hl 5 rfl) ?_
        refine lv_iload_n hx hb dX0_best_114 rfl (lv_at hl 7 rfl) ?_
        refine va_calli (va_runV (As := [.int (iZ (i))]) (rest := [.ref (h0 + 42), .int (iZ (4)), .int (iZ (rs)), .int (iZ (min w1 (min w2 w3)))]) ⟨hx, hb, hml, hown, hts⟩ (s_Rafter l dC dI cI cZ cII cIII h0 H.size μ (q) (rm) (i) (hq) (by first | assumption | omega | exact ⟨by omega, by omega⟩) (by constructor <;> omega)) (cwV 1 hts (gV_G k791 k438 k439 k3 k440) rfl rfl rfl (by decide +kernel) ⟨Nat.le_of_ble_eq_true rfl, Nat.le_of_ble_eq_true rfl⟩) ⟨fun a U g mk q => by obtain ⟨q0, q1, qP, qK, qM⟩ := q; exact ⟨q0, q1, qP, va_K.moved (u := U) (U := U.calling g mk a) (Vm.Alike.refl U.vm) qK, qM⟩, va_recv hK hP (ci := 4) (q0 := q) rfl ((fw_get (by omega)).trans (by rw [(sE_rowO hq)])), fun U hU hW => ⟨rfl, by rw [hU], by rw [hU]; exact hP, va_K.moved hW.alike hK, xM_warm hW hM⟩⟩ rfl rfl hl.1 rfl (lv_room (Nat.le_of_ble_eq_true rfl)) dX0_best_115 ⟨Nat.le_of_ble_eq_true rfl, Nat.le_of_ble_eq_true rfl⟩) hS (fun q _ h => fA_le hS.1 q h) (fA_le hS.1) (fun r9 u9 t9 H1 locs ht9 hvm9 hw9 hB9 hz9 hk9 hS => ?_)
        obtain ⟨μa, ra⟩ := u9
        obtain ⟨hP, -⟩ := hB9
        rw [ht9] at hP
        generalize H1 = H at hP hS ⊢
        obtain ⟨e9, hw9⟩ := hw9
        have e9 : r9 = iZ ra := e9
        subst e9
        simp only at hP hw9
        have hμa := hw9; clear hw9
        rw [hμa.1] at hP; have hμa := hμa.2
        have hra := hμa
        obtain ⟨y1_, y2_, y3_⟩ := vis_4 hG hv hi8.1 hi8.2
        rw [← hra] at y3_
        have hvc := y3_
        have hbc := hLC (ra) (j) hvc (Or.inl (by omega))
        unfold bnd at hbc
        have hvc1 := hvc.1
        have mlc := mulC (i := ra) (s := μ 41 3) (by omega) (by omega) (by omega) (by omega)
        refine lv_aload_n hx hb dX0_best_118 rfl (lv_at hl 4 rfl) ?_
        refine fz_get (D := (dC, dI)) (ci := 0) (v := .int (iZ (μ 41 3))) (C := RX0) (T := TX0) (N := 7) hx hb hts inG0 hown hK hP (k := 41) (by decide) (F := (sF41 h0)) sE_41 rfl 3 (by decide) (hts _ k185) (fun _ h9 => h9) rfl dX0_best_119 ?_
        refine lv_imul hx hb dX0_best_122 ?_
        refine lv_topi (fun x9 ex9 => ?_)
        obtain rfl : x9 = iZ (ra * (μ 41 3)) := ex9.trans (iZ_mul _ _)
        refine lv_iload hx hb dX0_best_123 (lv_at hl 8 rfl) ?_
        refine lv_iadd hx hb dX0_best_125 ?_
        refine lv_topi (fun x9 ex9 => ?_)
        obtain rfl : x9 = iZ ((ra * (μ 41 3)) + j) := ex9.trans (iZ_add _ _)
        refine fz_ld (k := 42) (n := 106797) hx hb hK hP 0 (by decide) sE_42 rfl ⟨by omega, by omega⟩ (by decide) dX0_best_126 ?_
        refine lv_iconst (v := iZ 1) hx hb dX0_best_127 rfl ?_
        refine va_calli (va_runS (As := [.int (iZ (rs)), .int (iZ (4)), .int (iZ (μ 42 ((ra * (μ 41 3)) + j).toNat)), .int (iZ (1))]) (rest := [.int (iZ (min w1 (min w2 w3)))]) ⟨hx, hb, hml, hown, hts⟩ (s_Ypacked l dC dI cI cZ cII cIII h0 H.size μ (rs) (4) (μ 42 ((ra * (μ 41 3)) + j).toNat) (1) (by first | assumption | omega | exact ⟨by omega, by omega⟩) (by first | assumption | omega | exact ⟨by omega, by omega⟩) (by first | assumption | omega | exact ⟨by omega, by omega⟩) (by first | assumption | omega | exact ⟨by omega, by omega⟩)) (cwS 4 hts (gS_G k788 k789 k7 k790) rfl rfl rfl (by decide +kernel) ⟨Nat.le_of_ble_eq_true rfl, Nat.le_of_ble_eq_true rfl⟩) ⟨fun a U g mk q => by obtain ⟨q0, q1, qP, qK, qM⟩ := q; exact ⟨q0, q1, qP, va_K.moved (u := U) (U := U.calling g mk a) (Vm.Alike.refl U.vm) qK, qM⟩, fun U hU hW => ⟨rfl, by rw [hU], by rw [hU]; exact hP, va_K.moved hW.alike hK, xM_warm hW hM⟩⟩ rfl rfl hl.1 rfl (lv_room (Nat.le_of_ble_eq_true rfl)) dX0_best_128 ⟨Nat.le_of_ble_eq_true rfl, Nat.le_of_ble_eq_true rfl⟩) hS (fun q _ h => fA_le hS.1 q h) (fA_le hS.1) (fun r9 u9 t9 H1 locs ht9 hvm9 hw9 hB9 hz9 hk9 hS => ?_)
        obtain ⟨μp, p4⟩ := u9
        obtain ⟨hP, -⟩ := hB9
        rw [ht9] at hP
        generalize H1 = H at hP hS ⊢
        obtain ⟨e9, hw9⟩ := hw9
        have e9 : r9 = iZ p4 := e9
        subst e9
        simp only at hP hw9
        have hμp := hw9; clear hw9
        rw [hμp.1] at hP; have hμp := hμp.2
        have hp4 := hμp.2 trivial
        have hc4 : cO μ q q2 i j p4 := by
          refine ⟨⟨by omega, by omega⟩, ?_⟩
          rw [show p4 / 2 % 8 = 4 by omega]
          exact Or.inr (Or.inr (Or.inr (Or.inr (Or.inl ⟨rfl, hi8.1, hi8.2⟩))))
        have hc4b := hc4.1
        unfold bnd at hc4b
        refine va_mmin hx hb (hml.trans hl.1.symm) hown (hts _ k807) (hts _ k501) (hts _ k4) (hts _ k502) (Nat.le_of_ble_eq_true rfl) (Nat.le_of_ble_eq_true rfl) (Nat.le_of_ble_eq_true rfl) (Nat.le_of_ble_eq_true rfl) dX0_best_131 ?_
        refine lv_topi (fun x9 ex9 => ?_)
        obtain rfl : x9 = iZ (min (min w1 (min w2 w3)) p4) := ex9.trans (iZ_mn (by constructor <;> omega) (by constructor <;> omega))
        refine lv_istore (lv' := [(7, .int (iZ (min (min w1 (min w2 w3)) p4))), (8, .int (iZ (rs))), (6, .int (iZ (pe))), (5, .int (iZ (re))), (0, .ref (h0 + 41)), (1, .ref (h0 + q)), (2, .ref (h0 + q2)), (3, .int (iZ (i))), (4, .int (iZ (j)))]) hx hb dX0_best_134 hl (by decide) rfl (fun ls hl => ?_)
        refine lv_iload hx hb dX0_best_136 (lv_at hl 2 rfl) ?_
        refine fz_if_ne (tgt := 177) (by constructor <;> omega) hx hb dX0_best_138 (by decide) (fun h9 => (by omega)) (fun c138_ => ?_)
        have hj8 : j < μ q2 5 ∧ μ (q2 + 1) j.toNat ≠ 515 := by omega
        have hm2 := rG_m hG2 j (by omega) (by omega)
        have hsz2 := sz_b hG2 (by omega) hj8.1 hj8.2
        refine lv_iload hx hb dX0_best_141 (lv_at hl 0 rfl) ?_
        refine lv_aload_n hx hb dX0_best_143 rfl (lv_at hl 6 rfl) ?_
        refine lv_iload hx hb dX0_best_144 (lv_at hl 8 rfl) ?_
        refine va_calli (va_runV (As := [.int (iZ (j))]) (rest := [.int (iZ (min (min w1 (min w2 w3)) p4))]) ⟨hx, hb, hml, hown, hts⟩ (s_RsizeAt l dC dI cI cZ cII cIII h0 H.size μ (q2) (rm2) (j) (hq2) (by first | assumption | omega | exact ⟨by omega, by omega⟩) (by constructor <;> omega)) (cwV 1 hts (gV_G k808 k809 k810 k3 k811) rfl rfl rfl (by decide +kernel) ⟨Nat.le_of_ble_eq_true rfl, Nat.le_of_ble_eq_true rfl⟩) ⟨fun a U g mk q => by obtain ⟨q0, q1, qP, qK, qM⟩ := q; exact ⟨q0, q1, qP, va_K.moved (u := U) (U := U.calling g mk a) (Vm.Alike.refl U.vm) qK, qM⟩, va_recv hK hP (ci := 4) (q0 := q2) rfl ((fw_get (by omega)).trans (by rw [(sE_rowO hq2)])), fun U hU hW => ⟨rfl, by rw [hU], by rw [hU]; exact hP, va_K.moved hW.alike hK, xM_warm hW hM⟩⟩ rfl rfl hl.1 rfl (lv_room (Nat.le_of_ble_eq_true rfl)) dX0_best_146 ⟨Nat.le_of_ble_eq_true rfl, Nat.le_of_ble_eq_true rfl⟩) hS (fun q _ h => fA_le hS.1 q h) (fA_le hS.1) (fun r9 u9 t9 H1 locs ht9 hvm9 hw9 hB9 hz9 hk9 hS => ?_)
        obtain ⟨μs2, rs2⟩ := u9
        obtain ⟨hP, -⟩ := hB9
        rw [ht9] at hP
        generalize H1 = H at hP hS ⊢
        obtain ⟨e9, hw9⟩ := hw9
        have e9 : r9 = iZ rs2 := e9
        subst e9
        simp only at hP hw9
        have hμs2 := hw9; clear hw9
        rw [hμs2.1] at hP; have hμs2 := hμs2.2
        have hrs2 := hμs2
        refine lv_iconst (v := iZ 5) hx hb dX0_best_149 rfl ?_
        refine lv_aload_n hx hb dX0_best_150 rfl (lv_at hl 4 rfl) ?_
        refine fz_get (D := (dC, dI)) (ci := 0) (v := .ref (h0 + 42)) (C := RX0) (T := TX0) (N := 7) hx hb hts inG0 hown hK hP (k := 41) (by decide) (F := (sF41 h0)) sE_41 rfl 0 (by decide) (hts _ k182) (fun _ h9 => h9) rfl dX0_best_151 ?_
        refine lv_iload_n hx hb dX0_best_154 rfl (lv_at hl 7 rfl) ?_
        refine lv_aload_n hx hb dX0_best_155 rfl (lv_at hl 4 rfl) ?_
        refine fz_get (D := (dC, dI)) (ci := 0) (v := .int (iZ (μ 41 3))) (C := RX0) (T := TX0) (N := 7) hx hb hts inG0 hown hK hP (k := 41) (by decide) (F := (sF41 h0)) sE_41 rfl 3 (by decide) (hts _ k185) (fun _ h9 => h9) rfl dX0_best_156 ?_
        refine lv_imul hx hb dX0_best_159 ?_
        refine lv_topi (fun x9 ex9 => ?_)
        obtain rfl : x9 = iZ (i * (μ 41 3)) := ex9.trans (iZ_mul _ _)
        refine lv_aload_n hx hb dX0_best_160 rfl (lv_at hl 6 rfl) ?_
        refine lv_iload hx hb dX0_best_161 (lv_at hl 8 rfl) ?_
        refine va_calli (va_runV (As := [.int (iZ (j))]) (rest := [.int (iZ (i * (μ 41 3))), .ref (h0 + 42), .int (iZ (5)), .int (iZ (rs2)), .int (iZ (min (min w1 (min w2 w3)) p4))]) ⟨hx, hb, hml, hown, hts⟩ (s_Rafter l dC dI cI cZ cII cIII h0 H.size μ (q2) (rm2) (j) (hq2) (by first | assumption | omega | exact ⟨by omega, by omega⟩) (by constructor <;> omega)) (cwV 1 hts (gV_G k791 k438 k439 k3 k440) rfl rfl rfl (by decide +kernel) ⟨Nat.le_of_ble_eq_true rfl, Nat.le_of_ble_eq_true rfl⟩) ⟨fun a U g mk q => by obtain ⟨q0, q1, qP, qK, qM⟩ := q; exact ⟨q0, q1, qP, va_K.moved (u := U) (U := U.calling g mk a) (Vm.Alike.refl U.vm) qK, qM⟩, va_recv hK hP (ci := 4) (q0 := q2) rfl ((fw_get (by omega)).trans (by rw [(sE_rowO hq2)])), fun U hU hW => ⟨rfl, by rw [hU], by rw [hU]; exact hP, va_K.moved hW.alike hK, xM_warm hW hM⟩⟩ rfl rfl hl.1 rfl (lv_room (Nat.le_of_ble_eq_true rfl)) dX0_best_163 ⟨Nat.le_of_ble_eq_true rfl, Nat.le_of_ble_eq_true rfl⟩) hS (fun q _ h => fA_le hS.1 q h) (fA_le hS.1) (fun r9 u9 t9 H1 locs ht9 hvm9 hw9 hB9 hz9 hk9 hS => ?_)
        obtain ⟨μb, rb⟩ := u9
        obtain ⟨hP, -⟩ := hB9
        rw [ht9] at hP
        generalize H1 = H at hP hS ⊢
        obtain ⟨e9, hw9⟩ := hw9
        have e9 : r9 = iZ rb := e9
        subst e9
        simp only at hP hw9
        have hμb := hw9; clear hw9
        rw [hμb.1] at hP; have hμb := hμb.2
        have hrb := hμb
        obtain ⟨z1_, z2_, z3_⟩ := vis_5 hG2 hv hj8.1 hj8.2
        rw [← hrb] at z3_
        have hvd := z3_
        have hbd := hLC (i) (rb) hvd (Or.inr ⟨rfl, by omega⟩)
        unfold bnd at hbd
        have hvd1 := hvd.1
        have mld := mulC (i := i) (s := μ 41 3) (by omega) (by omega) (by omega) (by omega)
        refine lv_iadd hx hb dX0_best_166 ?_
        refine lv_topi (fun x9 ex9 => ?_)
        obtain rfl : x9 = iZ ((i * (μ 41 3)) + rb) := ex9.trans (iZ_add _ _)
        refine fz_ld (k := 42) (n := 106797) hx hb hK hP 0 (by decide) sE_42 rfl ⟨by omega, by omega⟩ (by decide) dX0_best_167 ?_
        refine lv_iconst (v := iZ 1) hx hb dX0_best_168 rfl ?_
        refine va_calli (va_runS (As := [.int (iZ (rs2)), .int (iZ (5)), .int (iZ (μ 42 ((i * (μ 41 3)) + rb).toNat)), .int (iZ (1))]) (rest := [.int (iZ (min (min w1 (min w2 w3)) p4))]) ⟨hx, hb, hml, hown, hts⟩ (s_Ypacked l dC dI cI cZ cII cIII h0 H.size μ (rs2) (5) (μ 42 ((i * (μ 41 3)) + rb).toNat) (1) (by first | assumption | omega | exact ⟨by omega, by omega⟩) (by first | assumption | omega | exact ⟨by omega, by omega⟩) (by first | assumption | omega | exact ⟨by omega, by omega⟩) (by first | assumption | omega | exact ⟨by omega, by omega⟩)) (cwS 4 hts (gS_G k788 k789 k7 k790) rfl rfl rfl (by decide +kernel) ⟨Nat.le_of_ble_eq_true rfl, Nat.le_of_ble_eq_true rfl⟩) ⟨fun a U g mk q => by obtain ⟨q0, q1, qP, qK, qM⟩ := q; exact ⟨q0, q1, qP, va_K.moved (u := U) (U := U.calling g mk a) (Vm.Alike.refl U.vm) qK, qM⟩, fun U hU hW => ⟨rfl, by rw [hU], by rw [hU]; exact hP, va_K.moved hW.alike hK, xM_warm hW hM⟩⟩ rfl rfl hl.1 rfl (lv_room (Nat.le_of_ble_eq_true rfl)) dX0_best_169 ⟨Nat.le_of_ble_eq_true rfl, Nat.le_of_ble_eq_true rfl⟩) hS (fun q _ h => fA_le hS.1 q h) (fA_le hS.1) (fun r9 u9 t9 H1 locs ht9 hvm9 hw9 hB9 hz9 hk9 hS => ?_)
        obtain ⟨μp2, p5⟩ := u9
        obtain ⟨hP, -⟩ := hB9
        rw [ht9] at hP
        generalize H1 = H at hP hS ⊢
        obtain ⟨e9, hw9⟩ := hw9
        have e9 : r9 = iZ p5 := e9
        subst e9
        simp only at hP hw9
        have hμp2 := hw9; clear hw9
        rw [hμp2.1] at hP; have hμp2 := hμp2.2
        have hp5 := hμp2.2 trivial
        have hc5 : cO μ q q2 i j p5 := by
          refine ⟨⟨by omega, by omega⟩, ?_⟩
          rw [show p5 / 2 % 8 = 5 by omega]
          exact Or.inr (Or.inr (Or.inr (Or.inr (Or.inr ⟨rfl, hj8.1, hj8.2⟩))))
        have hc5b := hc5.1
        unfold bnd at hc5b
        refine va_mmin hx hb (hml.trans hl.1.symm) hown (hts _ k807) (hts _ k501) (hts _ k4) (hts _ k502) (Nat.le_of_ble_eq_true rfl) (Nat.le_of_ble_eq_true rfl) (Nat.le_of_ble_eq_true rfl) (Nat.le_of_ble_eq_true rfl) dX0_best_172 ?_
        refine lv_topi (fun x9 ex9 => ?_)
        obtain rfl : x9 = iZ (min (min (min w1 (min w2 w3)) p4) p5) := ex9.trans (iZ_mn (by constructor <;> omega) (by constructor <;> omega))
        refine lv_istore (lv' := [(7, .int (iZ (min (min (min w1 (min w2 w3)) p4) p5))), (8, .int (iZ (rs))), (6, .int (iZ (pe))), (5, .int (iZ (re))), (0, .ref (h0 + 41)), (1, .ref (h0 + q)), (2, .ref (h0 + q2)), (3, .int (iZ (i))), (4, .int (iZ (j)))]) hx hb dX0_best_175 hl (by decide) rfl (fun ls hl => ?_)
        refine lv_iload hx hb dX0_best_177 (lv_at hl 0 rfl) ?_
        exact W.iret (v := iZ (min (min (min w1 (min w2 w3)) p4) p5)) hx hb hr (fun t9 ht9 hW9 => ⟨⟨iZ (min (min (min w1 (min w2 w3)) p4) p5), (μ, min (min (min w1 (min w2 w3)) p4) p5), rfl, ⟨rfl, (by
                        dsimp only
                        have hll : μ q 5 ≤ 1100 ∧ μ q2 5 ≤ 1100 := by omega
                        exact ⟨rfl, cO_min hv hll (cO_R hv hll (cO_min hv hll (wR_min hw1 (wR_min hw2 hw3)) hc4)) hc5⟩)⟩, by rw [ht9]; exact hP, va_K.moved hW9.alike hK⟩, hS.F ht9⟩) hS.2.2 dX0_best_179
      · refine lv_iconst (v := iZ 0) hx hb dX0_best_93 rfl ?_
        refine lv_goto (tgt := 102) hx hb dX0_best_94 (by decide) ?_
        refine lv_istore (lv' := [(8, .int (iZ (0))), (7, .int (iZ (min w1 (min w2 w3)))), (6, .int (iZ (pe))), (5, .int (iZ (re))), (0, .ref (h0 + 41)), (1, .ref (h0 + q)), (2, .ref (h0 + q2)), (3, .int (iZ (i))), (4, .int (iZ (j)))]) hx hb dX0_best_102 hl (by decide) rfl (fun ls hl => ?_)
        refine lv_iload hx hb dX0_best_104 (lv_at hl 1 rfl) ?_
        refine lv_iload hx hb dX0_best_106 (lv_at hl 0 rfl) ?_
        refine lv_iconst (v := iZ 4) hx hb dX0_best_108 rfl ?_
        refine lv_aload_n hx hb dX0_best_109 rfl (lv_at hl 4 rfl) ?_
        refine fz_get (D := (dC, dI)) (ci := 0) (v := .ref (h0 + 42)) (C := RX0) (T := TX0) (N := 7) hx hb hts inG0 hown hK hP (k := 41) (by decide) (F := (sF41 h0)) sE_41 rfl 0 (by decide) (hts _ k182) (fun _ h9 => h9) rfl dX0_best_110 ?_
        refine lv_aload_n hx hb dX0_best_113 rfl (lv_at hl 5 rfl) ?_
        refine lv_iload_n hx hb dX0_best_114 rfl (lv_at hl 7 rfl) ?_
        refine va_calli (va_runV (As := [.int (iZ (i))]) (rest := [.ref (h0 + 42), .int (iZ (4)), .int (iZ (0)), .int (iZ (min w1 (min w2 w3)))]) ⟨hx, hb, hml, hown, hts⟩ (s_Rafter l dC dI cI cZ cII cIII h0 H.size μ (q) (rm) (i) (hq) (by first | assumption | omega | exact ⟨by omega, by omega⟩) (by constructor <;> omega)) (cwV 1 hts (gV_G k791 k438 k439 k3 k440) rfl rfl rfl (by decide +kernel) ⟨Nat.le_of_ble_eq_true rfl, Nat.le_of_ble_eq_true rfl⟩) ⟨fun a U g mk q => by obtain ⟨q0, q1, qP, qK, qM⟩ := q; exact ⟨q0, q1, qP, va_K.moved (u := U) (U := U.calling g mk a) (Vm.Alike.refl U.vm) qK, qM⟩, va_recv hK hP (ci := 4) (q0 := q) rfl ((fw_get (by omega)).trans (by rw [(sE_rowO hq)])), fun U hU hW => ⟨rfl, by rw [hU], by rw [hU]; exact hP, va_K.moved hW.alike hK, xM_warm hW hM⟩⟩ rfl rfl hl.1 rfl (lv_room (Nat.le_of_ble_eq_true rfl)) dX0_best_115 ⟨Nat.le_of_ble_eq_true rfl, Nat.le_of_ble_eq_true rfl⟩) hS (fun q _ h => fA_le hS.1 q h) (fA_le hS.1) (fun r9 u9 t9 H1 locs ht9 hvm9 hw9 hB9 hz9 hk9 hS => ?_)
        obtain ⟨μa, ra⟩ := u9
        obtain ⟨hP, -⟩ := hB9
        rw [ht9] at hP
        generalize H1 = H at hP hS ⊢
        obtain ⟨e9, hw9⟩ := hw9
        have e9 : r9 = iZ ra := e9
        subst e9
        simp only at hP hw9
        have hμa := hw9; clear hw9
        rw [hμa.1] at hP; have hμa := hμa.2
        have hra := hμa
        obtain ⟨y1_, y2_, y3_⟩ := vis_4 hG hv hi8.1 hi8.2
        rw [← hra] at y3_
        have hvc := y3_
        have hbc := hLC (ra) (j) hvc (Or.inl (by omega))
        unfold bnd at hbc
        have hvc1 := hvc.1
        have mlc := mulC (i := ra) (s := μ 41 3) (by omega) (by omega) (by omega) (by omega)
        refine lv_aload_n hx hb dX0_best_118 rfl (lv_at hl 4 rfl) ?_
        refine fz_get (D := (dC, dI)) (ci := 0) (v := .int (iZ (μ 41 3))) (C := RX0) (T := TX0) (N := 7) hx hb hts inG0 hown hK hP (k := 41) (by decide) (F := (sF41 h0)) sE_41 rfl 3 (by decide) (hts _ k185) (fun _ h9 => h9) rfl dX0_best_119 ?_
        refine lv_imul hx hb dX0_best_122 ?_
        refine lv_topi (fun x9 ex9 => ?_)
        obtain rfl : x9 = iZ (ra * (μ 41 3)) := ex9.trans (iZ_mul _ _)
        refine lv_iload hx hb dX0_best_123 (lv_at hl 8 rfl) ?_
        refine lv_iadd hx hb dX0_best_125 ?_
        refine lv_topi (fun x9 ex9 => ?_)
        obtain rfl : x9 = iZ ((ra * (μ 41 3)) + j) := ex9.trans (iZ_add _ _)
        refine fz_ld (k := 42) (n := 106797) hx hb hK hP 0 (by decide) sE_42 rfl ⟨by omega, by omega⟩ (by decide) dX0_best_126 ?_
        refine lv_iconst (v := iZ 1) hx hb dX0_best_127 rfl ?_
        refine va_calli (va_runS (As := [.int (iZ (0)), .int (iZ (4)), .int (iZ (μ 42 ((ra * (μ 41 3)) + j).toNat)), .int (iZ (1))]) (rest := [.int (iZ (min w1 (min w2 w3)))]) ⟨hx, hb, hml, hown, hts⟩ (s_Ypacked l dC dI cI cZ cII cIII h0 H.size μ (0) (4) (μ 42 ((ra * (μ 41 3)) + j).toNat) (1) (by first | assumption | omega | exact ⟨by omega, by omega⟩) (by first | assumption | omega | exact ⟨by omega, by omega⟩) (by first | assumption | omega | exact ⟨by omega, by omega⟩) (by first | assumption | omega | exact ⟨by omega, by omega⟩)) (cwS 4 hts (gS_G k788 k789 k7 k790) rfl rfl rfl (by decide +kernel) ⟨Nat.le_of_ble_eq_true rfl, Nat.le_of_ble_eq_true rfl⟩) ⟨fun a U g mk q => by obtain ⟨q0, q1, qP, qK, qM⟩ := q; exact ⟨q0, q1, qP, va_K.moved (u := U) (U := U.calling g mk a) (Vm.Alike.refl U.vm) qK, qM⟩, fun U hU hW => ⟨rfl, by rw [hU], by rw [hU]; exact hP, va_K.moved hW.alike hK, xM_warm hW hM⟩⟩ rfl rfl hl.1 rfl (lv_room (Nat.le_of_ble_eq_true rfl)) dX0_best_128 ⟨Nat.le_of_ble_eq_true rfl, Nat.le_of_ble_eq_true rfl⟩) hS (fun q _ h => fA_le hS.1 q h) (fA_le hS.1) (fun r9 u9 t9 H1 locs ht9 hvm9 hw9 hB9 hz9 hk9 hS => ?_)
        obtain ⟨μp, p4⟩ := u9
        obtain ⟨hP, -⟩ := hB9
        rw [ht9] at hP
        generalize H1 = H at hP hS ⊢
        obtain ⟨e9, hw9⟩ := hw9
        have e9 : r9 = iZ p4 := e9
        subst e9
        simp only at hP hw9
        have hμp := hw9; clear hw9
        rw [hμp.1] at hP; have hμp := hμp.2
        have hp4 := hμp.2 trivial
        have hc4 : cO μ q q2 i j p4 := by
          refine ⟨⟨by omega, by omega⟩, ?_⟩
          rw [show p4 / 2 % 8 = 4 by omega]
          exact Or.inr (Or.inr (Or.inr (Or.inr (Or.inl ⟨rfl, hi8.1, hi8.2⟩))))
        have hc4b := hc4.1
        unfold bnd at hc4b
        refine va_mmin hx hb (hml.trans hl.1.symm) hown (hts _ k807) (hts _ k501) (hts _ k4) (hts _ k502) (Nat.le_of_ble_eq_true rfl) (Nat.le_of_ble_eq_true rfl) (Nat.le_of_ble_eq_true rfl) (Nat.le_of_ble_eq_true rfl) dX0_best_131 ?_
        refine lv_topi (fun x9 ex9 => ?_)
        obtain rfl : x9 = iZ (min (min w1 (min w2 w3)) p4) := ex9.trans (iZ_mn (by constructor <;> omega) (by constructor <;> omega))
        refine lv_istore (lv' := [(7, .int (iZ (min (min w1 (min w2 w3)) p4))), (8, .int (iZ (0))), (6, .int (iZ (pe))), (5, .int (iZ (re))), (0, .ref (h0 + 41)), (1, .ref (h0 + q)), (2, .ref (h0 + q2)), (3, .int (iZ (i))), (4, .int (iZ (j)))]) hx hb dX0_best_134 hl (by decide) rfl (fun ls hl => ?_)
        refine lv_iload hx hb dX0_best_136 (lv_at hl 2 rfl) ?_
        refine fz_if_ne (tgt := 177) (by constructor <;> omega) hx hb dX0_best_138 (by decide) (fun h9 => (by omega)) (fun c138_ => ?_)
        have hj8 : j < μ q2 5 ∧ μ (q2 + 1) j.toNat ≠ 515 := by omega
        have hm2 := rG_m hG2 j (by omega) (by omega)
        have hsz2 := sz_b hG2 (by omega) hj8.1 hj8.2
        refine lv_iload hx hb dX0_best_141 (lv_at hl 0 rfl) ?_
        refine lv_aload_n hx hb dX0_best_143 rfl (lv_at hl 6 rfl) ?_
        refine lv_iload hx hb dX0_best_144 (lv_at hl 8 rfl) ?_
        refine va_calli (va_runV (As := [.int (iZ (j))]) (rest := [.int (iZ (min (min w1 (min w2 w3)) p4))]) ⟨hx, hb, hml, hown, hts⟩ (s_RsizeAt l dC dI cI cZ cII cIII h0 H.size μ (q2) (rm2) (j) (hq2) (by first | assumption | omega | exact ⟨by omega, by omega⟩) (by constructor <;> omega)) (cwV 1 hts (gV_G k808 k809 k810 k3 k811) rfl rfl rfl (by decide +kernel) ⟨Nat.le_of_ble_eq_true rfl, Nat.le_of_ble_eq_true rfl⟩) ⟨fun a U g mk q => by obtain ⟨q0, q1, qP, qK, qM⟩ := q; exact ⟨q0, q1, qP, va_K.moved (u := U) (U := U.calling g mk a) (Vm.Alike.refl U.vm) qK, qM⟩, va_recv hK hP (ci := 4) (q0 := q2) rfl ((fw_get (by omega)).trans (by rw [(sE_rowO hq2)])), fun U hU hW => ⟨rfl, by rw [hU], by rw [hU]; exact hP, va_K.moved hW.alike hK, xM_warm hW hM⟩⟩ rfl rfl hl.1 rfl (lv_room (Nat.le_of_ble_eq_true rfl)) dX0_best_146 ⟨Nat.le_of_ble_eq_true rfl, Nat.le_of_ble_eq_true rfl⟩) hS (fun q _ h => fA_le hS.1 q h) (fA_le hS.1) (fun r9 u9 t9 H1 locs ht9 hvm9 hw9 hB9 hz9 hk9 hS => ?_)
        obtain ⟨μs2, rs2⟩ := u9
        obtain ⟨hP, -⟩ := hB9
        rw [ht9] at hP
        generalize H1 = H at hP hS ⊢
        obtain ⟨e9, hw9⟩ := hw9
        have e9 : r9 = iZ rs2 := e9
        subst e9
        simp only at hP hw9
        have hμs2 := hw9; clear hw9
        rw [hμs2.1] at hP; have hμs2 := hμs2.2
        have hrs2 := hμs2
        refine lv_iconst (v := iZ 5) hx hb dX0_best_149 rfl ?_
        refine lv_aload_n hx hb dX0_best_150 rfl (lv_at hl 4 rfl) ?_
        refine fz_get (D := (dC, dI)) (ci := 0) (v := .ref (h0 + 42)) (C := RX0) (T := TX0) (N := 7) hx hb hts inG0 hown hK hP (k := 41) (by decide) (F := (sF41 h0)) sE_41 rfl 0 (by decide) (hts _ k182) (fun _ h9 => h9) rfl dX0_best_151 ?_
        refine lv_iload_n hx hb dX0_best_154 rfl (lv_at hl 7 rfl) ?_
        refine lv_aload_n hx hb dX0_best_155 rfl (lv_at hl 4 rfl) ?_
        refine fz_get (D := (dC, dI)) (ci := 0) (v := .int (iZ (μ 41 3))) (C := RX0) (T := TX0) (N := 7) hx hb hts inG0 hown hK hP (k := 41) (by decide) (F := (sF41 h0)) sE_41 rfl 3 (by decide) (hts _ k185) (fun _ h9 => h9) rfl dX0_best_156 ?_
        refine lv_imul hx hb dX0_best_159 ?_
        refine lv_topi (fun x9 ex9 => ?_)
        obtain rfl : x9 = iZ (i * (μ 41 3)) := ex9.trans (iZ_mul _ _)
        refine lv_aload_n hx hb dX0_best_160 rfl (lv_at hl 6 rfl) ?_
        refine lv_iload hx hb dX0_best_161 (lv_at hl 8 rfl) ?_
        refine va_calli (va_runV (As := [.int (iZ (j))]) (rest := [.int (iZ (i * (μ 41 3))), .ref (h0 + 42), .int (iZ (5)), .int (iZ (rs2)), .int (iZ (min (min w1 (min w2 w3)) p4))]) ⟨hx, hb, hml, hown, hts⟩ (s_Rafter l dC dI cI cZ cII cIII h0 H.size μ (q2) (rm2) (j) (hq2) (by first | assumption | omega | exact ⟨by omega, by omega⟩) (by constructor <;> omega)) (cwV 1 hts (gV_G k791 k438 k439 k3 k440) rfl rfl rfl (by decide +kernel) ⟨Nat.le_of_ble_eq_true rfl, Nat.le_of_ble_eq_true rfl⟩) ⟨fun a U g mk q => by obtain ⟨q0, q1, qP, qK, qM⟩ := q; exact ⟨q0, q1, qP, va_K.moved (u := U) (U := U.calling g mk a) (Vm.Alike.refl U.vm) qK, qM⟩, va_recv hK hP (ci := 4) (q0 := q2) rfl ((fw_get (by omega)).trans (by rw [(sE_rowO hq2)])), fun U hU hW => ⟨rfl, by rw [hU], by rw [hU]; exact hP, va_K.moved hW.alike hK, xM_warm hW hM⟩⟩ rfl rfl hl.1 rfl (lv_room (Nat.le_of_ble_eq_true rfl)) dX0_best_163 ⟨Nat.le_of_ble_eq_true rfl, Nat.le_of_ble_eq_true rfl⟩) hS (fun q _ h => fA_le hS.1 q h) (fA_le hS.1) (fun r9 u9 t9 H1 locs ht9 hvm9 hw9 hB9 hz9 hk9 hS => ?_)
        obtain ⟨μb, rb⟩ := u9
        obtain ⟨hP, -⟩ := hB9
        rw [ht9] at hP
        generalize H1 = H at hP hS ⊢
        obtain ⟨e9, hw9⟩ := hw9
        have e9 : r9 = iZ rb := e9
        subst e9
        simp only at hP hw9
        have hμb := hw9; clear hw9
        rw [hμb.1] at hP; have hμb := hμb.2
        have hrb := hμb
        obtain ⟨z1_, z2_, z3_⟩ := vis_5 hG2 hv hj8.1 hj8.2
        rw [← hrb] at z3_
        have hvd := z3_
        have hbd := hLC (i) (rb) hvd (Or.inr ⟨rfl, by omega⟩)
        unfold bnd at hbd
        have hvd1 := hvd.1
        have mld := mulC (i := i) (s := μ 41 3) (by omega) (by omega) (by omega) (by omega)
        refine lv_iadd hx hb dX0_best_166 ?_
        refine lv_topi (fun x9 ex9 => ?_)
        obtain rfl : x9 = iZ ((i * (μ 41 3)) + rb) := ex9.trans (iZ_add _ _)
        refine fz_ld (k := 42) (n := 106797) hx hb hK hP 0 (by decide) sE_42 rfl ⟨by omega, by omega⟩ (by decide) dX0_best_167 ?_
        refine lv_iconst (v := iZ 1) hx hb dX0_best_168 rfl ?_
        refine va_calli (va_runS (As := [.int (iZ (rs2)), .int (iZ (5)), .int (iZ (μ 42 ((i * (μ 41 3)) + rb).toNat)), .int (iZ (1))]) (rest := [.int (iZ (min (min w1 (min w2 w3)) p4))]) ⟨hx, hb, hml, hown, hts⟩ (s_Ypacked l dC dI cI cZ cII cIII h0 H.size μ (rs2) (5) (μ 42 ((i * (μ 41 3)) + rb).toNat) (1) (by first | assumption | omega | exact ⟨by omega, by omega⟩) (by first | assumption | omega | exact ⟨by omega, by omega⟩) (by first | assumption | omega | exact ⟨by omega, by omega⟩) (by first | assumption | omega | exact ⟨by omega, by omega⟩)) (cwS 4 hts (gS_G k788 k789 k7 k790) rfl rfl rfl (by decide +kernel) ⟨Nat.le_of_ble_eq_true rfl, Nat.le_of_ble_eq_true rfl⟩) ⟨fun a U g mk q => by obtain ⟨q0, q1, qP, qK, qM⟩ := q; exact ⟨q0, q1, qP, va_K.moved (u := U) (U := U.calling g mk a) (Vm.Alike.refl U.vm) qK, qM⟩, fun U hU hW => ⟨rfl, by rw [hU], by rw [hU]; exact hP, va_K.moved hW.alike hK, xM_warm hW hM⟩⟩ rfl rfl hl.1 rfl (lv_room (Nat.le_of_ble_eq_true rfl)) dX0_best_169 ⟨Nat.le_of_ble_eq_true rfl, Nat.le_of_ble_eq_true rfl⟩) hS (fun q _ h => fA_le hS.1 q h) (fA_le hS.1) (fun r9 u9 t9 H1 locs ht9 hvm9 hw9 hB9 hz9 hk9 hS => ?_)
        obtain ⟨μp2, p5⟩ := u9
        obtain ⟨hP, -⟩ := hB9
        rw [ht9] at hP
        generalize H1 = H at hP hS ⊢
        obtain ⟨e9, hw9⟩ := hw9
        have e9 : r9 = iZ p5 := e9
        subst e9
        simp only at hP hw9
        have hμp2 := hw9; clear hw9
        rw [hμp2.1] at hP; have hμp2 := hμp2.2
        have hp5 := hμp2.2 trivial
        have hc5 : cO μ q q2 i j p5 := by
          refine ⟨⟨by omega, by omega⟩, ?_⟩
          rw [show p5 / 2 % 8 = 5 by omega]
          exact Or.inr (Or.inr (Or.inr (Or.inr (Or.inr ⟨rfl, hj8.1, hj8.2⟩))))
        have hc5b := hc5.1
        unfold bnd at hc5b
        refine va_mmin hx hb (hml.trans hl.1.symm) hown (hts _ k807) (hts _ k501) (hts _ k4) (hts _ k502) (Nat.le_of_ble_eq_true rfl) (Nat.le_of_ble_eq_true rfl) (Nat.le_of_ble_eq_true rfl) (Nat.le_of_ble_eq_true rfl) dX0_best_172 ?_
        refine lv_topi (fun x9 ex9 => ?_)
        obtain rfl : x9 = iZ (min (min (min w1 (min w2 w3)) p4) p5) := ex9.trans (iZ_mn (by constructor <;> omega) (by constructor <;> omega))
        refine lv_istore (lv' := [(7, .int (iZ (min (min (min w1 (min w2 w3)) p4) p5))), (8, .int (iZ (0))), (6, .int (iZ (pe))), (5, .int (iZ (re))), (0, .ref (h0 + 41)), (1, .ref (h0 + q)), (2, .ref (h0 + q2)), (3, .int (iZ (i))), (4, .int (iZ (j)))]) hx hb dX0_best_175 hl (by decide) rfl (fun ls hl => ?_)
        refine lv_iload hx hb dX0_best_177 (lv_at hl 0 rfl) ?_
        exact W.iret (v := iZ (min (min (min w1 (min w2 w3)) p4) p5)) hx hb hr (fun t9 ht9 hW9 => ⟨⟨iZ (min (min (min w1 (min w2 w3)) p4) p5), (μ, min (min (min w1 (min w2 w3)) p4) p5), rfl, ⟨rfl, (by
                        dsimp only
                        have hll : μ q 5 ≤ 1100 ∧ μ q2 5 ≤ 1100 := by omega
                        exact ⟨rfl, cO_min hv hll (cO_R hv hll (cO_min hv hll (wR_min hw1 (wR_min hw2 hw3)) hc4)) hc5⟩)⟩, by rw [ht9]; exact hP, va_K.moved hW9.alike hK⟩, hS.F ht9⟩) hS.2.2 dX0_best_179
  · refine lv_iload hx hb dX0_best_20 (lv_at hl 0 rfl) ?_
    refine fz_if_eq (tgt := 27) (by constructor <;> omega) hx hb dX0_best_22 (by decide) (fun c22_ => ?_) (fun c22_ => ?_)
    · refine lv_ldc (v := iZ 268435456) hx hb hown (hts _ k778) dX0_best_27 ?_
      refine lv_istore (lv' := [(7, .int (iZ (268435456))), (6, .int (iZ (pe))), (5, .int (iZ (re))), (0, .ref (h0 + 41)), (1, .ref (h0 + q)), (2, .ref (h0 + q2)), (3, .int (iZ (i))), (4, .int (iZ (j)))]) hx hb dX0_best_29 hl (by decide) rfl (fun ls hl => ?_)
      refine lv_iload hx hb dX0_best_31 (lv_at hl 2 rfl) ?_
      refine fz_if_ne (tgt := 76) (by constructor <;> omega) hx hb dX0_best_33 (by decide) (fun c33_ => ?_) (fun h9 => (by omega))
      refine lv_iload hx hb dX0_best_76 (lv_at hl 2 rfl) ?_
      refine fz_if_ne (tgt := 136) (by constructor <;> omega) hx hb dX0_best_78 (by decide) (fun c78_ => ?_) (fun h9 => (by omega))
      refine lv_iload hx hb dX0_best_136 (lv_at hl 1 rfl) ?_
      refine fz_if_ne (tgt := 177) (by constructor <;> omega) hx hb dX0_best_138 (by decide) (fun h9 => (by omega)) (fun c138_ => ?_)
      have hj8 : j < μ q2 5 ∧ μ (q2 + 1) j.toNat ≠ 515 := by omega
      have hm2 := rG_m hG2 j (by omega) (by omega)
      have hsz2 := sz_b hG2 (by omega) hj8.1 hj8.2
      refine lv_iload hx hb dX0_best_141 (lv_at hl 0 rfl) ?_
      refine lv_aload_n hx hb dX0_best_143 rfl (lv_at hl 5 rfl) ?_
      refine lv_iload hx hb dX0_best_144 (lv_at hl 7 rfl) ?_
      refine va_calli (va_runV (As := [.int (iZ (j))]) (rest := [.int (iZ (268435456))]) ⟨hx, hb, hml, hown, hts⟩ (s_RsizeAt l dC dI cI cZ cII cIII h0 H.size μ (q2) (rm2) (j) (hq2) (by first | assumption | omega | exact ⟨by omega, by omega⟩) (by constructor <;> omega)) (cwV 1 hts (gV_G k808 k809 k810 k3 k811) rfl rfl rfl (by decide +kernel) ⟨Nat.le_of_ble_eq_true rfl, Nat.le_of_ble_eq_true rfl⟩) ⟨fun a U g mk q => by obtain ⟨q0, q1, qP, qK, qM⟩ := q; exact ⟨q0, q1, qP, va_K.moved (u := U) (U := U.calling g mk a) (Vm.Alike.refl U.vm) qK, qM⟩, va_recv hK hP (ci := 4) (q0 := q2) rfl ((fw_get (by omega)).trans (by rw [(sE_rowO hq2)])), fun U hU hW => ⟨rfl, by rw [hU], by rw [hU]; exact hP, va_K.moved hW.alike hK, xM_warm hW hM⟩⟩ rfl rfl hl.1 rfl (lv_room (Nat.le_of_ble_eq_true rfl)) dX0_best_146 ⟨Nat.le_of_ble_eq_true rfl, Nat.le_of_ble_eq_true rfl⟩) hS (fun q _ h => fA_le hS.1 q h) (fA_le hS.1) (fun r9 u9 t9 H1 locs ht9 hvm9 hw9 hB9 hz9 hk9 hS => ?_)
      obtain ⟨μs2, rs2⟩ := u9
      obtain ⟨hP, -⟩ := hB9
      rw [ht9] at hP
      generalize H1 = H at hP hS ⊢
      obtain ⟨e9, hw9⟩ := hw9
      have e9 : r9 = iZ rs2 := e9
      subst e9
      simp only at hP hw9
      have hμs2 := hw9; clear hw9
      rw [hμs2.1] at hP; have hμs2 := hμs2.2
      have hrs2 := hμs2
      refine lv_iconst (v := iZ 5) hx hb dX0_best_149 rfl ?_
      refine lv_aload_n hx hb dX0_best_150 rfl (lv_at hl 3 rfl) ?_
      refine fz_get (D := (dC, dI)) (ci := 0) (v := .ref (h0 + 42)) (C := RX0) (T := TX0) (N := 7) hx hb hts inG0 hown hK hP (k := 41) (by decide) (F := (sF41 h0)) sE_41 rfl 0 (by decide) (hts _ k182) (fun _ h9 => h9) rfl dX0_best_151 ?_
      refine lv_iload_n hx hb dX0_best_154 rfl (lv_at hl 6 rfl) ?_
      refine lv_aload_n hx hb dX0_best_155 rfl (lv_at hl 3 rfl) ?_
      refine fz_get (D := (dC, dI)) (ci := 0) (v := .int (iZ (μ 41 3))) (C := RX0) (T := TX0) (N := 7) hx hb hts inG0 hown hK hP (k := 41) (by decide) (F := (sF41 h0)) sE_41 rfl 3 (by decide) (hts _ k185) (fun _ h9 => h9) rfl dX0_best_156 ?_
      refine lv_imul hx hb dX0_best_159 ?_
      refine lv_topi (fun x9 ex9 => ?_)
      obtain rfl : x9 = iZ (i * (μ 41 3)) := ex9.trans (iZ_mul _ _)
      refine lv_aload_n hx hb dX0_best_160 rfl (lv_at hl 5 rfl) ?_
      refine lv_iload hx hb dX0_best_161 (lv_at hl 7 rfl) ?_
      refine va_calli (va_runV (As := [.int (iZ (j))]) (rest := [.int (iZ (i * (μ 41 3))), .ref (h0 + 42), .int (iZ (5)), .int (iZ (rs2)), .int (iZ (268435456))]) ⟨hx, hb, hml, hown, hts⟩ (s_Rafter l dC dI cI cZ cII cIII h0 H.size μ (q2) (rm2) (j) (hq2) (by first | assumption | omega | exact ⟨by omega, by omega⟩) (by constructor <;> omega)) (cwV 1 hts (gV_G k791 k438 k439 k3 k440) rfl rfl rfl (by decide +kernel) ⟨Nat.le_of_ble_eq_true rfl, Nat.le_of_ble_eq_true rfl⟩) ⟨fun a U g mk q => by obtain ⟨q0, q1, qP, qK, qM⟩ := q; exact ⟨q0, q1, qP, va_K.moved (u := U) (U := U.calling g mk a) (Vm.Alike.refl U.vm) qK, qM⟩, va_recv hK hP (ci := 4) (q0 := q2) rfl ((fw_get (by omega)).trans (by rw [(sE_rowO hq2)])), fun U hU hW => ⟨rfl, by rw [hU], by rw [hU]; exact hP, va_K.moved hW.alike hK, xM_warm hW hM⟩⟩ rfl rfl hl.1 rfl (lv_room (Nat.le_of_ble_eq_true rfl)) dX0_best_163 ⟨Nat.le_of_ble_eq_true rfl, Nat.le_of_ble_eq_true rfl⟩) hS (fun q _ h => fA_le hS.1 q h) (fA_le hS.1) (fun r9 u9 t9 H1 locs ht9 hvm9 hw9 hB9 hz9 hk9 hS => ?_)
      obtain ⟨μb, rb⟩ := u9
      obtain ⟨hP, -⟩ := hB9
      rw [ht9] at hP
      generalize H1 = H at hP hS ⊢
      obtain ⟨e9, hw9⟩ := hw9
      have e9 : r9 = iZ rb := e9
      subst e9
      simp only at hP hw9
      have hμb := hw9; clear hw9
      rw [hμb.1] at hP; have hμb := hμb.2
      have hrb := hμb
      obtain ⟨z1_, z2_, z3_⟩ := vis_5 hG2 hv hj8.1 hj8.2
      rw [← hrb] at z3_
      have hvd := z3_
      have hbd := hLC (i) (rb) hvd (Or.inr ⟨rfl, by omega⟩)
      unfold bnd at hbd
      have hvd1 := hvd.1
      have mld := mulC (i := i) (s := μ 41 3) (by omega) (by omega) (by omega) (by omega)
      refine lv_iadd hx hb dX0_best_166 ?_
      refine lv_topi (fun x9 ex9 => ?_)
      obtain rfl : x9 = iZ ((i * (μ 41 3)) + rb) := ex9.trans (iZ_add _ _)
      refine fz_ld (k := 42) (n := 106797) hx hb hK hP 0 (by decide) sE_42 rfl ⟨by omega, by omega⟩ (by decide) dX0_best_167 ?_
      refine lv_iconst (v := iZ 1) hx hb dX0_best_168 rfl ?_
      refine va_calli (va_runS (As := [.int (iZ (rs2)), .int (iZ (5)), .int (iZ (μ 42 ((i * (μ 41 3)) + rb).toNat)), .int (iZ (1))]) (rest := [.int (iZ (268435456))]) ⟨hx, hb, hml, hown, hts⟩ (s_Ypacked l dC dI cI cZ cII cIII h0 H.size μ (rs2) (5) (μ 42 ((i * (μ 41 3)) + rb).toNat) (1) (by first | assumption | omega | exact ⟨by omega, by omega⟩) (by first | assumption | omega | exact ⟨by omega, by omega⟩) (by first | assumption | omega | exact ⟨by omega, by omega⟩) (by first | assumption | omega | exact ⟨by omega, by omega⟩)) (cwS 4 hts (gS_G k788 k789 k7 k790) rfl rfl rfl (by decide +kernel) ⟨Nat.le_of_ble_eq_true rfl, Nat.le_of_ble_eq_true rfl⟩) ⟨fun a U g mk q => by obtain ⟨q0, q1, qP, qK, qM⟩ := q; exact ⟨q0, q1, qP, va_K.moved (u := U) (U := U.calling g mk a) (Vm.Alike.refl U.vm) qK, qM⟩, fun U hU hW => ⟨rfl, by rw [hU], by rw [hU]; exact hP, va_K.moved hW.alike hK, xM_warm hW hM⟩⟩ rfl rfl hl.1 rfl (lv_room (Nat.le_of_ble_eq_true rfl)) dX0_best_169 ⟨Nat.le_of_ble_eq_true rfl, Nat.le_of_ble_eq_true rfl⟩) hS (fun q _ h => fA_le hS.1 q h) (fA_le hS.1) (fun r9 u9 t9 H1 locs ht9 hvm9 hw9 hB9 hz9 hk9 hS => ?_)
      obtain ⟨μp2, p5⟩ := u9
      obtain ⟨hP, -⟩ := hB9
      rw [ht9] at hP
      generalize H1 = H at hP hS ⊢
      obtain ⟨e9, hw9⟩ := hw9
      have e9 : r9 = iZ p5 := e9
      subst e9
      simp only at hP hw9
      have hμp2 := hw9; clear hw9
      rw [hμp2.1] at hP; have hμp2 := hμp2.2
      have hp5 := hμp2.2 trivial
      have hc5 : cO μ q q2 i j p5 := by
        refine ⟨⟨by omega, by omega⟩, ?_⟩
        rw [show p5 / 2 % 8 = 5 by omega]
        exact Or.inr (Or.inr (Or.inr (Or.inr (Or.inr ⟨rfl, hj8.1, hj8.2⟩))))
      have hc5b := hc5.1
      unfold bnd at hc5b
      refine va_mmin hx hb (hml.trans hl.1.symm) hown (hts _ k807) (hts _ k501) (hts _ k4) (hts _ k502) (Nat.le_of_ble_eq_true rfl) (Nat.le_of_ble_eq_true rfl) (Nat.le_of_ble_eq_true rfl) (Nat.le_of_ble_eq_true rfl) dX0_best_172 ?_
      refine lv_topi (fun x9 ex9 => ?_)
      obtain rfl : x9 = iZ (min 268435456 p5) := ex9.trans (iZ_mn (by decide) (by constructor <;> omega))
      refine lv_istore (lv' := [(7, .int (iZ (min 268435456 p5))), (6, .int (iZ (pe))), (5, .int (iZ (re))), (0, .ref (h0 + 41)), (1, .ref (h0 + q)), (2, .ref (h0 + q2)), (3, .int (iZ (i))), (4, .int (iZ (j)))]) hx hb dX0_best_175 hl (by decide) rfl (fun ls hl => ?_)
      refine lv_iload hx hb dX0_best_177 (lv_at hl 0 rfl) ?_
      exact W.iret (v := iZ (min 268435456 p5)) hx hb hr (fun t9 ht9 hW9 => ⟨⟨iZ (min 268435456 p5), (μ, min 268435456 p5), rfl, ⟨rfl, (by
                    dsimp only
                    have hll : μ q 5 ≤ 1100 ∧ μ q2 5 ≤ 1100 := by omega
                    exact ⟨rfl, cO_min hv hll wR_b hc5⟩)⟩, by rw [ht9]; exact hP, va_K.moved hW9.alike hK⟩, hS.F ht9⟩) hS.2.2 dX0_best_179
    · refine lv_iconst (v := iZ 1) hx hb dX0_best_25 rfl ?_
      exact W.iret (v := iZ (1)) hx hb hr (fun t9 ht9 hW9 => ⟨⟨iZ (1), (μ, 1), rfl, ⟨rfl, (by
                    dsimp only
                    refine ⟨rfl, ⟨by omega, by omega⟩, ?_⟩
                    rw [show (1 : Int) / 2 % 8 = 0 from rfl]
                    exact Or.inl ⟨rfl, by omega, by omega⟩)⟩, by rw [ht9]; exact hP, va_K.moved hW9.alike hK⟩, hS.F ht9⟩) hS.2.2 dX0_best_26

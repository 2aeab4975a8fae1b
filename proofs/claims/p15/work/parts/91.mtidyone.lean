theorem k1452 : (Cond.methodLink "PageSkeletonModel" (290 : Nat) ({ cls := "PageSkeletonModel", name := "isRepeat", desc := "(II)Z" } : MethodName)) ∈ wsG := wsG_at 1452 (by decide +kernel) (by decide +kernel)
theorem k1454 : (Cond.instanceMethod ({ cls := "PageSkeletonModel", name := "isRepeat", desc := "(II)Z" } : MethodName)) ∈ wsG := wsG_at 1454 (by decide +kernel) (by decide +kernel)
theorem k1455 : (Cond.code ({ cls := "PageSkeletonModel", name := "isRepeat", desc := "(II)Z" } : MethodName) prog_12_method_44_code (3 : Nat) (Option.some FieldType.boolean)) ∈ wsG := wsG_at 1455 (by decide +kernel) (by decide +kernel)
theorem k1456 : (Cond.methodLink "PageSkeletonModel" (294 : Nat) ({ cls := "PageSkeletonModel", name := "joinsTwo", desc := "(III)V" } : MethodName)) ∈ wsG := wsG_at 1456 (by decide +kernel) (by decide +kernel)
theorem k1458 : (Cond.instanceMethod ({ cls := "PageSkeletonModel", name := "joinsTwo", desc := "(III)V" } : MethodName)) ∈ wsG := wsG_at 1458 (by decide +kernel) (by decide +kernel)
theorem k1459 : (Cond.code ({ cls := "PageSkeletonModel", name := "joinsTwo", desc := "(III)V" } : MethodName) prog_12_method_46_code (5 : Nat) (Option.none : Option Jvm.ClassFile.FieldType)) ∈ wsG := wsG_at 1459 (by decide +kernel) (by decide +kernel)
theorem k1460 : (Cond.methodLink "PageSkeletonModel" (297 : Nat) ({ cls := "PageSkeletonModel", name := "hasAt", desc := "(IIII)Z" } : MethodName)) ∈ wsG := wsG_at 1460 (by decide +kernel) (by decide +kernel)
theorem k1462 : (Cond.instanceMethod ({ cls := "PageSkeletonModel", name := "hasAt", desc := "(IIII)Z" } : MethodName)) ∈ wsG := wsG_at 1462 (by decide +kernel) (by decide +kernel)
theorem k1463 : (Cond.code ({ cls := "PageSkeletonModel", name := "hasAt", desc := "(IIII)Z" } : MethodName) prog_12_method_45_code (5 : Nat) (Option.some FieldType.boolean)) ∈ wsG := wsG_at 1463 (by decide +kernel) (by decide +kernel)
theorem k1468 : (Cond.methodLink "PageSkeletonModel" (300 : Nat) ({ cls := "PageSkeletonModel", name := "takesIn", desc := "(IIIZ)Z" } : MethodName)) ∈ wsG := wsG_at 1468 (by decide +kernel) (by decide +kernel)
theorem k1470 : (Cond.instanceMethod ({ cls := "PageSkeletonModel", name := "takesIn", desc := "(IIIZ)Z" } : MethodName)) ∈ wsG := wsG_at 1470 (by decide +kernel) (by decide +kernel)
theorem k1471 : (Cond.code ({ cls := "PageSkeletonModel", name := "takesIn", desc := "(IIIZ)Z" } : MethodName) prog_12_method_47_code (8 : Nat) (Option.some FieldType.boolean)) ∈ wsG := wsG_at 1471 (by decide +kernel) (by decide +kernel)
theorem ks_yX10_isRepeat : Cond.selects RX10 yX10_isRepeat yX10_isRepeat ∈ wsG := wsG_mem (by decide +kernel) (by decide +kernel)
theorem ks_yX10_joinsTwo : Cond.selects RX10 yX10_joinsTwo yX10_joinsTwo ∈ wsG := wsG_mem (by decide +kernel) (by decide +kernel)
theorem ks_yX10_hasAt : Cond.selects RX10 yX10_hasAt yX10_hasAt ∈ wsG := wsG_mem (by decide +kernel) (by decide +kernel)
theorem ks_yX10_takesIn : Cond.selects RX10 yX10_takesIn yX10_takesIn ∈ wsG := wsG_mem (by decide +kernel) (by decide +kernel)
theorem dX10_hasAt_0 : decode cX10_hasAt 0 = .ok (.iload_n 3, 1) := by decide +kernel
theorem dX10_hasAt_1 : decode cX10_hasAt 1 = .ok (.ifCond .lt 33, 3) := by decide +kernel
theorem dX10_hasAt_4 : decode cX10_hasAt 4 = .ok (.aload_n 0, 1) := by decide +kernel
theorem dX10_hasAt_5 : decode cX10_hasAt 5 = .ok (.iload_n 1, 1) := by decide +kernel
theorem dX10_hasAt_6 : decode cX10_hasAt 6 = .ok (.aload_n 0, 1) := by decide +kernel
theorem dX10_hasAt_7 : decode cX10_hasAt 7 = .ok (.getfield 64, 3) := by decide +kernel
theorem dX10_hasAt_10 : decode cX10_hasAt 10 = .ok (.iconst 0, 1) := by decide +kernel
theorem dX10_hasAt_11 : decode cX10_hasAt 11 = .ok (.aaload, 1) := by decide +kernel
theorem dX10_hasAt_12 : decode cX10_hasAt 12 = .ok (.iload_n 2, 1) := by decide +kernel
theorem dX10_hasAt_13 : decode cX10_hasAt 13 = .ok (.iaload, 1) := by decide +kernel
theorem dX10_hasAt_14 : decode cX10_hasAt 14 = .ok (.iload_n 1, 1) := by decide +kernel
theorem dX10_hasAt_15 : decode cX10_hasAt 15 = .ok (.aload_n 0, 1) := by decide +kernel
theorem dX10_hasAt_16 : decode cX10_hasAt 16 = .ok (.getfield 64, 3) := by decide +kernel
theorem dX10_hasAt_19 : decode cX10_hasAt 19 = .ok (.iconst 0, 1) := by decide +kernel
theorem dX10_hasAt_20 : decode cX10_hasAt 20 = .ok (.aaload, 1) := by decide +kernel
theorem dX10_hasAt_21 : decode cX10_hasAt 21 = .ok (.iload_n 3, 1) := by decide +kernel
theorem dX10_hasAt_22 : decode cX10_hasAt 22 = .ok (.iload 4, 2) := by decide +kernel
theorem dX10_hasAt_24 : decode cX10_hasAt 24 = .ok (.invokevirtual 252, 3) := by decide +kernel
theorem dX10_hasAt_27 : decode cX10_hasAt 27 = .ok (.ifCond .eq 7, 3) := by decide +kernel
theorem dX10_hasAt_30 : decode cX10_hasAt 30 = .ok (.iconst 1, 1) := by decide +kernel
theorem dX10_hasAt_31 : decode cX10_hasAt 31 = .ok (.goto 4, 3) := by decide +kernel
theorem dX10_hasAt_34 : decode cX10_hasAt 34 = .ok (.iconst 0, 1) := by decide +kernel
theorem dX10_hasAt_35 : decode cX10_hasAt 35 = .ok (.ireturn, 1) := by decide +kernel
theorem dX10_tidiesOne_0 : decode cX10_tidiesOne 0 = .ok (.aload_n 0, 1) := by decide +kernel
theorem dX10_tidiesOne_1 : decode cX10_tidiesOne 1 = .ok (.iload_n 1, 1) := by decide +kernel
theorem dX10_tidiesOne_2 : decode cX10_tidiesOne 2 = .ok (.iconst 0, 1) := by decide +kernel
theorem dX10_tidiesOne_3 : decode cX10_tidiesOne 3 = .ok (.aload_n 0, 1) := by decide +kernel
theorem dX10_tidiesOne_4 : decode cX10_tidiesOne 4 = .ok (.getfield 54, 3) := by decide +kernel
theorem dX10_tidiesOne_7 : decode cX10_tidiesOne 7 = .ok (.iload_n 1, 1) := by decide +kernel
theorem dX10_tidiesOne_8 : decode cX10_tidiesOne 8 = .ok (.iaload, 1) := by decide +kernel
theorem dX10_tidiesOne_9 : decode cX10_tidiesOne 9 = .ok (.aload_n 0, 1) := by decide +kernel
theorem dX10_tidiesOne_10 : decode cX10_tidiesOne 10 = .ok (.getfield 64, 3) := by decide +kernel
theorem dX10_tidiesOne_13 : decode cX10_tidiesOne 13 = .ok (.iconst 0, 1) := by decide +kernel
theorem dX10_tidiesOne_14 : decode cX10_tidiesOne 14 = .ok (.aaload, 1) := by decide +kernel
theorem dX10_tidiesOne_15 : decode cX10_tidiesOne 15 = .ok (.invokevirtual 225, 3) := by decide +kernel
theorem dX10_tidiesOne_18 : decode cX10_tidiesOne 18 = .ok (.istore_n 2, 1) := by decide +kernel
theorem dX10_tidiesOne_19 : decode cX10_tidiesOne 19 = .ok (.iconst 0, 1) := by decide +kernel
theorem dX10_tidiesOne_20 : decode cX10_tidiesOne 20 = .ok (.istore_n 3, 1) := by decide +kernel
theorem dX10_tidiesOne_21 : decode cX10_tidiesOne 21 = .ok (.iload_n 3, 1) := by decide +kernel
theorem dX10_tidiesOne_22 : decode cX10_tidiesOne 22 = .ok (.iconst 1, 1) := by decide +kernel
theorem dX10_tidiesOne_23 : decode cX10_tidiesOne 23 = .ok (.iadd, 1) := by decide +kernel
theorem dX10_tidiesOne_24 : decode cX10_tidiesOne 24 = .ok (.iload_n 2, 1) := by decide +kernel
theorem dX10_tidiesOne_25 : decode cX10_tidiesOne 25 = .ok (.if_icmp .ge 64, 3) := by decide +kernel
theorem dX10_tidiesOne_28 : decode cX10_tidiesOne 28 = .ok (.aload_n 0, 1) := by decide +kernel
theorem dX10_tidiesOne_29 : decode cX10_tidiesOne 29 = .ok (.iload_n 1, 1) := by decide +kernel
theorem dX10_tidiesOne_30 : decode cX10_tidiesOne 30 = .ok (.aload_n 0, 1) := by decide +kernel
theorem dX10_tidiesOne_31 : decode cX10_tidiesOne 31 = .ok (.getfield 64, 3) := by decide +kernel
theorem dX10_tidiesOne_34 : decode cX10_tidiesOne 34 = .ok (.iconst 0, 1) := by decide +kernel
theorem dX10_tidiesOne_35 : decode cX10_tidiesOne 35 = .ok (.aaload, 1) := by decide +kernel
theorem dX10_tidiesOne_36 : decode cX10_tidiesOne 36 = .ok (.iload_n 3, 1) := by decide +kernel
theorem dX10_tidiesOne_37 : decode cX10_tidiesOne 37 = .ok (.iaload, 1) := by decide +kernel
theorem dX10_tidiesOne_38 : decode cX10_tidiesOne 38 = .ok (.invokevirtual 290, 3) := by decide +kernel
theorem dX10_tidiesOne_41 : decode cX10_tidiesOne 41 = .ok (.ifCond .eq 42, 3) := by decide +kernel
theorem dX10_tidiesOne_44 : decode cX10_tidiesOne 44 = .ok (.aload_n 0, 1) := by decide +kernel
theorem dX10_tidiesOne_45 : decode cX10_tidiesOne 45 = .ok (.iload_n 1, 1) := by decide +kernel
theorem dX10_tidiesOne_46 : decode cX10_tidiesOne 46 = .ok (.aload_n 0, 1) := by decide +kernel
theorem dX10_tidiesOne_47 : decode cX10_tidiesOne 47 = .ok (.getfield 64, 3) := by decide +kernel
theorem dX10_tidiesOne_50 : decode cX10_tidiesOne 50 = .ok (.iconst 0, 1) := by decide +kernel
theorem dX10_tidiesOne_51 : decode cX10_tidiesOne 51 = .ok (.aaload, 1) := by decide +kernel
theorem dX10_tidiesOne_52 : decode cX10_tidiesOne 52 = .ok (.iload_n 3, 1) := by decide +kernel
theorem dX10_tidiesOne_53 : decode cX10_tidiesOne 53 = .ok (.iaload, 1) := by decide +kernel
theorem dX10_tidiesOne_54 : decode cX10_tidiesOne 54 = .ok (.iload_n 1, 1) := by decide +kernel
theorem dX10_tidiesOne_55 : decode cX10_tidiesOne 55 = .ok (.aload_n 0, 1) := by decide +kernel
theorem dX10_tidiesOne_56 : decode cX10_tidiesOne 56 = .ok (.getfield 64, 3) := by decide +kernel
theorem dX10_tidiesOne_59 : decode cX10_tidiesOne 59 = .ok (.iconst 0, 1) := by decide +kernel
theorem dX10_tidiesOne_60 : decode cX10_tidiesOne 60 = .ok (.aaload, 1) := by decide +kernel
theorem dX10_tidiesOne_61 : decode cX10_tidiesOne 61 = .ok (.iload_n 3, 1) := by decide +kernel
theorem dX10_tidiesOne_62 : decode cX10_tidiesOne 62 = .ok (.iconst 1, 1) := by decide +kernel
theorem dX10_tidiesOne_63 : decode cX10_tidiesOne 63 = .ok (.iadd, 1) := by decide +kernel
theorem dX10_tidiesOne_64 : decode cX10_tidiesOne 64 = .ok (.iaload, 1) := by decide +kernel
theorem dX10_tidiesOne_65 : decode cX10_tidiesOne 65 = .ok (.invokevirtual 211, 3) := by decide +kernel
theorem dX10_tidiesOne_68 : decode cX10_tidiesOne 68 = .ok (.ifCond .ne 6, 3) := by decide +kernel
theorem dX10_tidiesOne_71 : decode cX10_tidiesOne 71 = .ok (.goto 12, 3) := by decide +kernel
theorem dX10_tidiesOne_74 : decode cX10_tidiesOne 74 = .ok (.aload_n 0, 1) := by decide +kernel
theorem dX10_tidiesOne_75 : decode cX10_tidiesOne 75 = .ok (.iload_n 1, 1) := by decide +kernel
theorem dX10_tidiesOne_76 : decode cX10_tidiesOne 76 = .ok (.iload_n 2, 1) := by decide +kernel
theorem dX10_tidiesOne_77 : decode cX10_tidiesOne 77 = .ok (.iload_n 3, 1) := by decide +kernel
theorem dX10_tidiesOne_78 : decode cX10_tidiesOne 78 = .ok (.invokevirtual 294, 3) := by decide +kernel
theorem dX10_tidiesOne_81 : decode cX10_tidiesOne 81 = .ok (.iconst 1, 1) := by decide +kernel
theorem dX10_tidiesOne_82 : decode cX10_tidiesOne 82 = .ok (.ireturn, 1) := by decide +kernel
theorem dX10_tidiesOne_83 : decode cX10_tidiesOne 83 = .ok (.iinc 3 1, 3) := by decide +kernel
theorem dX10_tidiesOne_86 : decode cX10_tidiesOne 86 = .ok (.goto (-65), 3) := by decide +kernel
theorem dX10_tidiesOne_89 : decode cX10_tidiesOne 89 = .ok (.iconst 0, 1) := by decide +kernel
theorem dX10_tidiesOne_90 : decode cX10_tidiesOne 90 = .ok (.istore_n 3, 1) := by decide +kernel
theorem dX10_tidiesOne_91 : decode cX10_tidiesOne 91 = .ok (.iload_n 3, 1) := by decide +kernel
theorem dX10_tidiesOne_92 : decode cX10_tidiesOne 92 = .ok (.iload_n 2, 1) := by decide +kernel
theorem dX10_tidiesOne_93 : decode cX10_tidiesOne 93 = .ok (.if_icmp .ge 59, 3) := by decide +kernel
theorem dX10_tidiesOne_96 : decode cX10_tidiesOne 96 = .ok (.aload_n 0, 1) := by decide +kernel
theorem dX10_tidiesOne_97 : decode cX10_tidiesOne 97 = .ok (.iload_n 1, 1) := by decide +kernel
theorem dX10_tidiesOne_98 : decode cX10_tidiesOne 98 = .ok (.aload_n 0, 1) := by decide +kernel
theorem dX10_tidiesOne_99 : decode cX10_tidiesOne 99 = .ok (.getfield 64, 3) := by decide +kernel
theorem dX10_tidiesOne_102 : decode cX10_tidiesOne 102 = .ok (.iconst 0, 1) := by decide +kernel
theorem dX10_tidiesOne_103 : decode cX10_tidiesOne 103 = .ok (.aaload, 1) := by decide +kernel
theorem dX10_tidiesOne_104 : decode cX10_tidiesOne 104 = .ok (.iload_n 3, 1) := by decide +kernel
theorem dX10_tidiesOne_105 : decode cX10_tidiesOne 105 = .ok (.iaload, 1) := by decide +kernel
theorem dX10_tidiesOne_106 : decode cX10_tidiesOne 106 = .ok (.invokevirtual 290, 3) := by decide +kernel
theorem dX10_tidiesOne_109 : decode cX10_tidiesOne 109 = .ok (.ifCond .eq 37, 3) := by decide +kernel
theorem dX10_tidiesOne_112 : decode cX10_tidiesOne 112 = .ok (.aload_n 0, 1) := by decide +kernel
theorem dX10_tidiesOne_113 : decode cX10_tidiesOne 113 = .ok (.iload_n 1, 1) := by decide +kernel
theorem dX10_tidiesOne_114 : decode cX10_tidiesOne 114 = .ok (.iload_n 3, 1) := by decide +kernel
theorem dX10_tidiesOne_115 : decode cX10_tidiesOne 115 = .ok (.iload_n 3, 1) := by decide +kernel
theorem dX10_tidiesOne_116 : decode cX10_tidiesOne 116 = .ok (.aload_n 0, 1) := by decide +kernel
theorem dX10_tidiesOne_117 : decode cX10_tidiesOne 117 = .ok (.iload_n 1, 1) := by decide +kernel
theorem dX10_tidiesOne_118 : decode cX10_tidiesOne 118 = .ok (.aload_n 0, 1) := by decide +kernel
theorem dX10_tidiesOne_119 : decode cX10_tidiesOne 119 = .ok (.getfield 64, 3) := by decide +kernel
theorem dX10_tidiesOne_122 : decode cX10_tidiesOne 122 = .ok (.iconst 0, 1) := by decide +kernel
theorem dX10_tidiesOne_123 : decode cX10_tidiesOne 123 = .ok (.aaload, 1) := by decide +kernel
theorem dX10_tidiesOne_124 : decode cX10_tidiesOne 124 = .ok (.iload_n 3, 1) := by decide +kernel
theorem dX10_tidiesOne_125 : decode cX10_tidiesOne 125 = .ok (.iaload, 1) := by decide +kernel
theorem dX10_tidiesOne_126 : decode cX10_tidiesOne 126 = .ok (.invokevirtual 207, 3) := by decide +kernel
theorem dX10_tidiesOne_129 : decode cX10_tidiesOne 129 = .ok (.isub, 1) := by decide +kernel
theorem dX10_tidiesOne_130 : decode cX10_tidiesOne 130 = .ok (.iload_n 2, 1) := by decide +kernel
theorem dX10_tidiesOne_131 : decode cX10_tidiesOne 131 = .ok (.invokevirtual 297, 3) := by decide +kernel
theorem dX10_tidiesOne_134 : decode cX10_tidiesOne 134 = .ok (.ifCond .eq 12, 3) := by decide +kernel
theorem dX10_tidiesOne_137 : decode cX10_tidiesOne 137 = .ok (.aload_n 0, 1) := by decide +kernel
theorem dX10_tidiesOne_138 : decode cX10_tidiesOne 138 = .ok (.iload_n 1, 1) := by decide +kernel
theorem dX10_tidiesOne_139 : decode cX10_tidiesOne 139 = .ok (.iload_n 2, 1) := by decide +kernel
theorem dX10_tidiesOne_140 : decode cX10_tidiesOne 140 = .ok (.iload_n 3, 1) := by decide +kernel
theorem dX10_tidiesOne_141 : decode cX10_tidiesOne 141 = .ok (.iconst 1, 1) := by decide +kernel
theorem dX10_tidiesOne_142 : decode cX10_tidiesOne 142 = .ok (.invokevirtual 300, 3) := by decide +kernel
theorem dX10_tidiesOne_145 : decode cX10_tidiesOne 145 = .ok (.ireturn, 1) := by decide +kernel
theorem dX10_tidiesOne_146 : decode cX10_tidiesOne 146 = .ok (.iinc 3 1, 3) := by decide +kernel
theorem dX10_tidiesOne_149 : decode cX10_tidiesOne 149 = .ok (.goto (-58), 3) := by decide +kernel
theorem dX10_tidiesOne_152 : decode cX10_tidiesOne 152 = .ok (.iconst 0, 1) := by decide +kernel
theorem dX10_tidiesOne_153 : decode cX10_tidiesOne 153 = .ok (.istore_n 3, 1) := by decide +kernel
theorem dX10_tidiesOne_154 : decode cX10_tidiesOne 154 = .ok (.iload_n 3, 1) := by decide +kernel
theorem dX10_tidiesOne_155 : decode cX10_tidiesOne 155 = .ok (.iload_n 2, 1) := by decide +kernel
theorem dX10_tidiesOne_156 : decode cX10_tidiesOne 156 = .ok (.if_icmp .ge 47, 3) := by decide +kernel
theorem dX10_tidiesOne_159 : decode cX10_tidiesOne 159 = .ok (.aload_n 0, 1) := by decide +kernel
theorem dX10_tidiesOne_160 : decode cX10_tidiesOne 160 = .ok (.iload_n 1, 1) := by decide +kernel
theorem dX10_tidiesOne_161 : decode cX10_tidiesOne 161 = .ok (.aload_n 0, 1) := by decide +kernel
theorem dX10_tidiesOne_162 : decode cX10_tidiesOne 162 = .ok (.getfield 64, 3) := by decide +kernel
theorem dX10_tidiesOne_165 : decode cX10_tidiesOne 165 = .ok (.iconst 0, 1) := by decide +kernel
theorem dX10_tidiesOne_166 : decode cX10_tidiesOne 166 = .ok (.aaload, 1) := by decide +kernel
theorem dX10_tidiesOne_167 : decode cX10_tidiesOne 167 = .ok (.iload_n 3, 1) := by decide +kernel
theorem dX10_tidiesOne_168 : decode cX10_tidiesOne 168 = .ok (.iaload, 1) := by decide +kernel
theorem dX10_tidiesOne_169 : decode cX10_tidiesOne 169 = .ok (.invokevirtual 290, 3) := by decide +kernel
theorem dX10_tidiesOne_172 : decode cX10_tidiesOne 172 = .ok (.ifCond .eq 25, 3) := by decide +kernel
theorem dX10_tidiesOne_175 : decode cX10_tidiesOne 175 = .ok (.aload_n 0, 1) := by decide +kernel
theorem dX10_tidiesOne_176 : decode cX10_tidiesOne 176 = .ok (.iload_n 1, 1) := by decide +kernel
theorem dX10_tidiesOne_177 : decode cX10_tidiesOne 177 = .ok (.iload_n 3, 1) := by decide +kernel
theorem dX10_tidiesOne_178 : decode cX10_tidiesOne 178 = .ok (.iload_n 3, 1) := by decide +kernel
theorem dX10_tidiesOne_179 : decode cX10_tidiesOne 179 = .ok (.iconst 1, 1) := by decide +kernel
theorem dX10_tidiesOne_180 : decode cX10_tidiesOne 180 = .ok (.iadd, 1) := by decide +kernel
theorem dX10_tidiesOne_181 : decode cX10_tidiesOne 181 = .ok (.iload_n 2, 1) := by decide +kernel
theorem dX10_tidiesOne_182 : decode cX10_tidiesOne 182 = .ok (.invokevirtual 297, 3) := by decide +kernel
theorem dX10_tidiesOne_185 : decode cX10_tidiesOne 185 = .ok (.ifCond .eq 12, 3) := by decide +kernel
theorem dX10_tidiesOne_188 : decode cX10_tidiesOne 188 = .ok (.aload_n 0, 1) := by decide +kernel
theorem dX10_tidiesOne_189 : decode cX10_tidiesOne 189 = .ok (.iload_n 1, 1) := by decide +kernel
theorem dX10_tidiesOne_190 : decode cX10_tidiesOne 190 = .ok (.iload_n 2, 1) := by decide +kernel
theorem dX10_tidiesOne_191 : decode cX10_tidiesOne 191 = .ok (.iload_n 3, 1) := by decide +kernel
theorem dX10_tidiesOne_192 : decode cX10_tidiesOne 192 = .ok (.iconst 0, 1) := by decide +kernel
theorem dX10_tidiesOne_193 : decode cX10_tidiesOne 193 = .ok (.invokevirtual 300, 3) := by decide +kernel
theorem dX10_tidiesOne_196 : decode cX10_tidiesOne 196 = .ok (.ireturn, 1) := by decide +kernel
theorem dX10_tidiesOne_197 : decode cX10_tidiesOne 197 = .ok (.iinc 3 1, 3) := by decide +kernel
theorem dX10_tidiesOne_200 : decode cX10_tidiesOne 200 = .ok (.goto (-46), 3) := by decide +kernel
theorem dX10_tidiesOne_203 : decode cX10_tidiesOne 203 = .ok (.aload_n 0, 1) := by decide +kernel
theorem dX10_tidiesOne_204 : decode cX10_tidiesOne 204 = .ok (.iload_n 1, 1) := by decide +kernel
theorem dX10_tidiesOne_205 : decode cX10_tidiesOne 205 = .ok (.invokevirtual 244, 3) := by decide +kernel
theorem dX10_tidiesOne_208 : decode cX10_tidiesOne 208 = .ok (.ireturn, 1) := by decide +kernel
set_option maxHeartbeats 40000000 in
set_option maxRecDepth 100000 in
theorem m_hasAt (l : Launch) (dC : Nat → ClassId) (dI : Nat → Nat → Nat) (cI cZ cII cIII : ClassId) (h0 sz : Nat) (μ : va_M) (t : Int) (k : Int) (f9 : Int) (m9 : Int) (w : Rw) (za : Nat) (va : Int) (la : Rw) (ra : Rw) (ht : 0 ≤ t ∧ t < 70) (hR : RA μ t.toNat w 0) (hN : rN w ≤ 900) (hwf : rWF w) (hHH : rH w ≤ 20) (hrow : rowIs μ 723 w 0) (h260 : rI w ≤ 260) (ht3 : t ≠ 50 ∧ t ≠ 51 ∧ t ≠ 52) (hm9 : m9 = rI w) (hk : 0 ≤ k) (hf : f9 ≤ rI w ∧ -1000 ≤ f9) (hit : rdrop k.toNat w = Std.DTreeMap.Internal.Impl.inner za 4 va la ra) : Met l yX10_hasAt (Cond.code yX10_hasAt cX10_hasAt 5 (some .boolean) :: wsG) ({ frames := 26, cells := 0, slots := 0, locals := 790 } : Room) (va_Pc [.ref h0, .int (iZ (t)), .int (iZ (k)), .int (iZ (f9)), .int (iZ (m9))] (fun U => U.heap.size = sz ∧ va_P (dC, dI) vwCl (fw (mE cI cZ cII cIII h0) h0 6325 μ) U.heap ∧ va_K (dC, dI) vwCl (mT cI cZ cII cIII) U)) (va_Qi (fun (r9 : Int32) (u : va_M × Int) => r9 = iZ u.2 ∧ (fun (u : va_M) (r : Int) => u = μ ∧ ((r = 1 ∧ 0 ≤ f9 ∧ nxt la (rdrop f9.toNat w)) ∨ (r = 0 ∧ ¬ (0 ≤ f9 ∧ nxt la (rdrop f9.toNat w))))) u.1 u.2) (fun u t => va_P (dC, dI) vwCl (fw (mE cI cZ cII cIII h0) h0 6325 u.1) t.heap ∧ va_K (dC, dI) vwCl (mT cI cZ cII cIII) t) (fA h0 6325 sz)) 0 0 (fA h0 6325 sz) := by
  refine Met.ofW (cc := cX10_hasAt) (maxL := 5) (ret := (some .boolean)) (by decide) rfl ?_
  intro p e s m args below meth c s₁ B hml hv
  obtain ⟨rfl, hsz, hP, hK⟩ := hv
  have hx := B.exec
  have hb := B.bytes
  have hr := B.returns
  have hts : ∀ w ∈ wsG, w.before _ s = true := hG_of (atoms_spec (ws := (Cond.code yX10_hasAt cX10_hasAt 5 (some .boolean) :: wsG)) B.pre)
  have hown : s.vm.findClass RX10 = some m.cls := findClass_of_methodNamed B.named
  have hlocks := B.notSynchronized
  subst hsz
  have hS : va_S (fA h0 6325 s.heap.size) s.heap s.heap [] := va_S.rf
  have hl := lv_entry ([.ref h0, .int (iZ (t)), .int (iZ (k)), .int (iZ (f9)), .int (iZ (m9))]) (n := 5) (Nat.le_of_ble_eq_true rfl)
  rw [lg_entry_eq]
  generalize (lg_sl ([.ref h0, .int (iZ (t)), .int (iZ (k)), .int (iZ (f9)), .int (iZ (m9))]) ++ List.replicate (5 - (lg_sl ([.ref h0, .int (iZ (t)), .int (iZ (k)), .int (iZ (f9)), .int (iZ (m9))])).length) Slot.unset).toArray = ls at hl ⊢
  have hl : lv_has ls 5 [(0, .ref h0), (1, .int (iZ (t))), (2, .int (iZ (k))), (3, .int (iZ (f9))), (4, .int (iZ (m9)))] := hl
  have hIa := rdrop_I k.toNat w
  have hNa := rdrop_N k.toNat w
  have hHa := rdrop_H k.toNat w
  have hWa := rdrop_WF k.toNat w hwf
  have hRa := RA_drop k.toNat w 0 hR
  rw [hit] at hIa hNa hHa hWa hRa
  rw [rN_in] at hNa; rw [rI_in] at hIa; rw [rH_in] at hHa
  rw [Nat.zero_add] at hRa
  obtain ⟨a1, a2, a3, a4, _⟩ := hRa
  refine lv_iload_n hx hb dX10_hasAt_0 rfl (lv_at hl 3 rfl) ?_
  refine fz_if_lt (tgt := 34) (by constructor <;> omega) hx hb dX10_hasAt_1 (by decide) (fun c1_ => ?_) (fun c1_ => ?_)
  · refine lv_iconst (v := iZ 0) hx hb dX10_hasAt_34 rfl ?_
    exact W.zret (v := iZ (0)) hx hb hr (by decide +kernel) (fun t9 ht9 hW9 => ⟨⟨iZ (0), (μ, 0), rfl, ⟨rfl, (by
                dsimp only
                refine ⟨rfl, ?_⟩
                first
                  | (have c9 := c27_
                     rcases h? with ⟨h, h2⟩ | ⟨h, h2⟩
                     · have h4 : 0 ≤ f9 := by omega
                       by_cases h5 : ((1 : Int) = 0)
                       · omega
                       · exact Or.inl ⟨by omega, h4, h2⟩
                     · exact Or.inr ⟨by omega, fun h3 => h2 h3.2⟩)
                  | exact Or.inr ⟨rfl, fun h3 => by omega⟩)⟩, by rw [ht9]; exact hP, va_K.moved hW9.alike hK⟩, hS.F ht9⟩) hS.2.2 dX10_hasAt_35
  · refine lv_aload_n hx hb dX10_hasAt_4 rfl (lv_at hl 0 rfl) ?_
    refine lv_iload_n hx hb dX10_hasAt_5 rfl (lv_at hl 1 rfl) ?_
    refine lv_aload_n hx hb dX10_hasAt_6 rfl (lv_at hl 0 rfl) ?_
    refine fz_get (D := (dC, dI)) (ci := 10) (v := .ref (h0 + 722)) (C := RX10) (T := TX10) (N := 53) hx hb hts inG10 hown hK hP (k := 0) (by decide) (F := mF h0) mE_obj rfl 29 (by decide) (hts _ k1195) (fun _ h9 => h9) rfl dX10_hasAt_7 ?_
    refine lv_iconst (v := iZ 0) hx hb dX10_hasAt_10 rfl ?_
    refine fz_ald (k := 722) (n := 14) (k2 := (723 + 0)) hx hb hK hP 2 rfl (by decide) mE_rowS rfl ⟨by omega, by omega⟩ (by decide) (if_pos (by omega)) dX10_hasAt_11 ?_
    refine lv_iload_n hx hb dX10_hasAt_12 rfl (lv_at hl 2 rfl) ?_
    refine fz_ld (k := (723 + 0)) (n := 260) hx hb hK hP 0 (by omega) (mE_rowSR (by omega)) rfl ⟨by omega, by omega⟩ (by decide) dX10_hasAt_13 ?_
    rw [show μ (723 + 0) (k).toNat = (rO w k.toNat : Int) from (by rw [hrow _ (by omega)]; omega)]
    refine lv_iload_n hx hb dX10_hasAt_14 rfl (lv_at hl 1 rfl) ?_
    refine lv_aload_n hx hb dX10_hasAt_15 rfl (lv_at hl 0 rfl) ?_
    refine fz_get (D := (dC, dI)) (ci := 10) (v := .ref (h0 + 722)) (C := RX10) (T := TX10) (N := 53) hx hb hts inG10 hown hK hP (k := 0) (by decide) (F := mF h0) mE_obj rfl 29 (by decide) (hts _ k1195) (fun _ h9 => h9) rfl dX10_hasAt_16 ?_
    refine lv_iconst (v := iZ 0) hx hb dX10_hasAt_19 rfl ?_
    refine fz_ald (k := 722) (n := 14) (k2 := (723 + 0)) hx hb hK hP 2 rfl (by decide) mE_rowS rfl ⟨by omega, by omega⟩ (by decide) (if_pos (by omega)) dX10_hasAt_20 ?_
    refine lv_iload_n hx hb dX10_hasAt_21 rfl (lv_at hl 3 rfl) ?_
    refine lv_iload hx hb dX10_hasAt_22 (lv_at hl 4 rfl) ?_
    refine va_calli (va_runV (As := [.int (iZ (t)), .int (iZ ((rO w k.toNat : Int))), .int (iZ (t)), .ref (h0 + (723 + 0)), .int (iZ (f9)), .int (iZ (m9))]) (rest := []) ⟨hx, hb, hml, hown, hts⟩ (m_areNext l dC dI cI cZ cII cIII h0 s.heap.size μ (t) ((rO w k.toNat : Int)) (t) (723) (f9) (m9) (4) (va) (la) (w) (0) (by first | assumption | omega | exact ⟨by omega, by omega⟩) (by first | assumption | omega | exact ⟨by omega, by omega⟩) (by omega) (by exact ⟨a1, a2, a3, a4⟩) (by exact ⟨hWa.1, hWa.2.1, hWa.2.2.1, hWa.2.2.2.1, hWa.2.2.2.2.1, hWa.2.2.2.2.2.1, hWa.2.2.2.2.2.2.1⟩) (by exact Or.inl ⟨by omega, by omega⟩) (by exact hrow) (by exact hR) (by omega) (by exact hwf) (by exact h260) (by exact hm9) (by omega) (by omega)) (cwV 6 hts (gV_G k1464 k1466 ks_yX10_areNext k13 k1467) rfl rfl rfl (by decide +kernel) ⟨Nat.le_of_ble_eq_true rfl, Nat.le_of_ble_eq_true rfl⟩) ⟨fun a U g mk q => by obtain ⟨q0, q1, qP, qK⟩ := q; exact ⟨q0, q1, qP, va_K.moved (u := U) (U := U.calling g mk a) (Vm.Alike.refl U.vm) qK⟩, va_recv hK hP (ci := 10) (q0 := 0) rfl ((fw_get (by decide)).trans (by rw [mE_obj]; rfl)), fun U hU hW => ⟨rfl, by rw [hU], by rw [hU]; exact hP, va_K.moved hW.alike hK⟩⟩ rfl rfl hl.1 rfl (lv_room (Nat.le_of_ble_eq_true rfl)) dX10_hasAt_24 ⟨Nat.le_of_ble_eq_true rfl, Nat.le_of_ble_eq_true rfl⟩) hS (fun q _ h => fA_le hS.1 q h) (fA_le hS.1) (fun r9 u9 t9 H1 locs ht9 hvm9 hw9 hB9 hz9 hk9 hS => ?_)
    obtain ⟨μ1, r2⟩ := u9
    obtain ⟨hP, -⟩ := hB9
    rw [ht9] at hP
    generalize H1 = H at hP hS ⊢
    obtain ⟨e9, hw9⟩ := hw9
    have e9 : r9 = iZ r2 := e9
    subst e9
    simp only at hP hw9
    have hμ1 := hw9; clear hw9
    rw [hμ1.1] at hP; have hμ1 := hμ1.2
    refine fz_if_eq (tgt := 34) (by constructor <;> omega) hx hb dX10_hasAt_27 (by decide) (fun c27_ => ?_) (fun c27_ => ?_)
    · refine lv_iconst (v := iZ 0) hx hb dX10_hasAt_34 rfl ?_
      exact W.zret (v := iZ (0)) hx hb hr (by decide +kernel) (fun t9 ht9 hW9 => ⟨⟨iZ (0), (μ, 0), rfl, ⟨rfl, (by
                    dsimp only
                    refine ⟨rfl, ?_⟩
                    first
                      | (have c9 := c27_
                         rcases hμ1 with ⟨h, h2⟩ | ⟨h, h2⟩
                         · have h4 : 0 ≤ f9 := by omega
                           by_cases h5 : ((1 : Int) = 0)
                           · omega
                           · exact Or.inl ⟨by omega, h4, h2⟩
                         · exact Or.inr ⟨by omega, fun h3 => h2 h3.2⟩)
                      | exact Or.inr ⟨rfl, fun h3 => by omega⟩)⟩, by rw [ht9]; exact hP, va_K.moved hW9.alike hK⟩, hS.F ht9⟩) hS.2.2 dX10_hasAt_35
    · refine lv_iconst (v := iZ 1) hx hb dX10_hasAt_30 rfl ?_
      refine lv_goto (tgt := 35) hx hb dX10_hasAt_31 (by decide) ?_
      exact W.zret (v := iZ (1)) hx hb hr (by decide +kernel) (fun t9 ht9 hW9 => ⟨⟨iZ (1), (μ, 1), rfl, ⟨rfl, (by
                    dsimp only
                    refine ⟨rfl, ?_⟩
                    first
                      | (have c9 := c27_
                         rcases hμ1 with ⟨h, h2⟩ | ⟨h, h2⟩
                         · have h4 : 0 ≤ f9 := by omega
                           by_cases h5 : ((1 : Int) = 0)
                           · omega
                           · exact Or.inl ⟨by omega, h4, h2⟩
                         · exact Or.inr ⟨by omega, fun h3 => h2 h3.2⟩)
                      | exact Or.inr ⟨rfl, fun h3 => by omega⟩)⟩, by rw [ht9]; exact hP, va_K.moved hW9.alike hK⟩, hS.F ht9⟩) hS.2.2 dX10_hasAt_35
set_option maxHeartbeats 40000000 in
set_option maxRecDepth 100000 in
theorem LX10_tidiesOne_21 {p : Program} {l : Launch} {e : Env} {R : Room} {s : State} {m : MethodId} {args : Array Value} {below : List Frame} {meth : Method} {c : Code} {cells slots : Nat} {Q : State → Prop} {dC : Nat → ClassId} {dI : Nat → Nat → Nat} {h0 : Nat} {cI cZ cII cIII : ClassId} (hx : p.tables.exec = Jvm.exec) (hb : c.code = cX10_tidiesOne) (hml : c.maxLocals = 4) (hown : s.vm.findClass RX10 = some m.cls) (hts : ∀ w ∈ wsG, w.before args s = true) (hK : va_K (dC, dI) vwCl (mT cI cZ cII cIII) s) (hRf : 27 ≤ R.frames) (hRl : 860 ≤ R.locals) (hRc : cells ≤ R.cells) (hRs : slots ≤ R.slots) (μ0 : va_M) (t : Int) (m9 : Int) (w : Rw) (ht : 0 ≤ t ∧ t < 70) (hR : RA μ0 t.toNat w 0) (hN : rN w ≤ 900) (hwf : rWF w) (hHH : rH w ≤ 20) (hrow : rowIs μ0 723 w 0) (h260 : rI w ≤ 260) (ht3 : t ≠ 50 ∧ t ≠ 51 ∧ t ≠ 52) (hm9 : m9 = rI w) (hexit81 : ∀ (k : Int) (μ : va_M) (H : Heap) (locs : List Loc) (ls : Array Slot), (∃ w2 : Rw, TR μ t.toNat w2 ∧ TDr w w2 ∧ rI w2 < rI w ∧ fr (FQ t.toNat) μ0 μ) → va_P (dC, dI) vwCl (fw (mE cI cZ cII cIII h0) h0 6325 μ) H → va_S (fA h0 6325 s.heap.size) s.heap H locs → lv_has ls 4 [] → W p l e R s m args below meth c H locs cells slots Q (F0 m 81 ls [])) (hexit89 : ∀ (k : Int) (μ : va_M) (H : Heap) (locs : List Loc) (ls : Array Slot), (μ = μ0) → va_P (dC, dI) vwCl (fw (mE cI cZ cII cIII h0) h0 6325 μ) H → va_S (fA h0 6325 s.heap.size) s.heap H locs → lv_has ls 4 [(2, .int (iZ (m9))), (1, .int (iZ (t))), (0, .ref h0)] → W p l e R s m args below meth c H locs cells slots Q (F0 m 89 ls [])) :
    ∀ (n9 : Nat) (k : Int) (μ : va_M) (H : Heap) (locs : List Loc) (ls : Array Slot), (μ = μ0) → (0 ≤ k ∧ k ≤ rI w) → (300 - k).toNat < n9 → va_P (dC, dI) vwCl (fw (mE cI cZ cII cIII h0) h0 6325 μ) H → va_S (fA h0 6325 s.heap.size) s.heap H locs → lv_has ls 4 [(3, .int (iZ (k))), (2, .int (iZ (m9))), (1, .int (iZ (t))), (0, .ref h0)] → W p l e R s m args below meth c H locs cells slots Q (F0 m 21 ls []) := by
  intro n9
  induction n9 with
  | zero => intro k μ H locs ls hm hk hm9 hP hS hl; exact absurd hm9 (Nat.not_lt_zero _)
  | succ n9 ih =>
    intro k μ H locs ls hm hk hm9 hP hS hl
    subst hm
    refine lv_iload_n hx hb dX10_tidiesOne_21 rfl (lv_at hl 0 rfl) ?_
    refine lv_iconst (v := iZ 1) hx hb dX10_tidiesOne_22 rfl ?_
    refine lv_iadd hx hb dX10_tidiesOne_23 ?_
    refine lv_topi (fun x9 ex9 => ?_)
    obtain rfl : x9 = iZ (k + 1) := ex9.trans (iZ_add _ _)
    refine lv_iload_n hx hb dX10_tidiesOne_24 rfl (lv_at hl 1 rfl) ?_
    refine fz_icmp_ge (tgt := 89) (by constructor <;> omega) (by constructor <;> omega) hx hb dX10_tidiesOne_25 (by decide) (fun c25_ => ?_) (fun c25_ => ?_)
    · exact hexit89 (k) μ H locs ls (by rfl) hP hS (lv_sub hl [1, 2, 3] rfl)
    · have hIx := rdrop_I (k.toNat) w
      have hNx := rdrop_N (k.toNat) w
      have hHx := rdrop_H (k.toNat) w
      have hFx := rdrop_WF (k.toNat) w hwf
      have hRx := RA_drop (k.toNat) w 0 hR
      obtain ⟨zx, kx, vx, lx, wx, hex⟩ := rI_pos (w := rdrop (k.toNat) w) (by omega)
      rw [hex] at hIx hNx hHx hFx hRx
      rw [rN_in] at hNx; rw [rI_in] at hIx; rw [rH_in] at hHx
      obtain ⟨rx1, rx2, rx3, rx4, rx5⟩ := hRx
      rw [Nat.zero_add] at rx1 rx2 rx3 rx4
      have fxA : iWF kx vx lx := ⟨hFx.1, hFx.2.1, hFx.2.2.1, hFx.2.2.2.1, hFx.2.2.2.2.1, hFx.2.2.2.2.2.1, hFx.2.2.2.2.2.2.1⟩
      have hIy := rdrop_I (k.toNat + 1) w
      have hNy := rdrop_N (k.toNat + 1) w
      have hHy := rdrop_H (k.toNat + 1) w
      have hFy := rdrop_WF (k.toNat + 1) w hwf
      have hRy := RA_drop (k.toNat + 1) w 0 hR
      obtain ⟨zy, ky, vy, ly, wy, hey⟩ := rI_pos (w := rdrop (k.toNat + 1) w) (by omega)
      rw [hey] at hIy hNy hHy hFy hRy
      rw [rN_in] at hNy; rw [rI_in] at hIy; rw [rH_in] at hHy
      obtain ⟨ry1, ry2, ry3, ry4, ry5⟩ := hRy
      rw [Nat.zero_add] at ry1 ry2 ry3 ry4
      have fyA : iWF ky vy ly := ⟨hFy.1, hFy.2.1, hFy.2.2.1, hFy.2.2.2.1, hFy.2.2.2.2.1, hFy.2.2.2.2.2.1, hFy.2.2.2.2.2.2.1⟩
      refine lv_aload_n hx hb dX10_tidiesOne_28 rfl (lv_at hl 3 rfl) ?_
      refine lv_iload_n hx hb dX10_tidiesOne_29 rfl (lv_at hl 2 rfl) ?_
      refine lv_aload_n hx hb dX10_tidiesOne_30 rfl (lv_at hl 3 rfl) ?_
      refine fz_get (D := (dC, dI)) (ci := 10) (v := .ref (h0 + 722)) (C := RX10) (T := TX10) (N := 53) hx hb hts inG10 hown hK hP (k := 0) (by decide) (F := mF h0) mE_obj rfl 29 (by decide) (hts _ k1195) (fun _ h9 => h9) rfl dX10_tidiesOne_31 ?_
      refine lv_iconst (v := iZ 0) hx hb dX10_tidiesOne_34 rfl ?_
      refine fz_ald (k := 722) (n := 14) (k2 := (723 + 0)) hx hb hK hP 2 rfl (by decide) mE_rowS rfl ⟨by omega, by omega⟩ (by decide) (if_pos (by omega)) dX10_tidiesOne_35 ?_
      refine lv_iload_n hx hb dX10_tidiesOne_36 rfl (lv_at hl 0 rfl) ?_
      refine fz_ld (k := (723 + 0)) (n := 260) hx hb hK hP 0 (by omega) (mE_rowSR (by omega)) rfl ⟨by omega, by omega⟩ (by decide) dX10_tidiesOne_37 ?_
      rw [show μ (723 + 0) (k).toNat = (rO w k.toNat : Int) from (by rw [hrow _ (by omega)]; omega)]
      refine va_calli (va_runV (As := [.int (iZ (t)), .int (iZ ((rO w k.toNat : Int)))]) (rest := []) ⟨hx, hb, hml, hown, hts⟩ (m_isRepeat l dC dI cI cZ cII cIII h0 H.size μ (t) ((rO w k.toNat : Int)) (by first | assumption | omega | exact ⟨by omega, by omega⟩) (by omega) (by rw [show ((rO w k.toNat : Nat) : Int).toNat = rO w k.toNat from rfl, rx1]; have h9 := fxA.1; constructor <;> omega)) (cwV 2 hts (gV_G k1452 k1454 ks_yX10_isRepeat k13 k1455) rfl rfl rfl (by decide +kernel) ⟨by show 1 + 1 ≤ _; omega, by show 8 + (3 + 11) + (14) ≤ _; omega⟩) ⟨fun a U g mk q => by obtain ⟨q0, q1, qP, qK⟩ := q; exact ⟨q0, q1, qP, va_K.moved (u := U) (U := U.calling g mk a) (Vm.Alike.refl U.vm) qK⟩, va_recv hK hP (ci := 10) (q0 := 0) rfl ((fw_get (by decide)).trans (by rw [mE_obj]; rfl)), fun U hU hW => ⟨rfl, by rw [hU], by rw [hU]; exact hP, va_K.moved hW.alike hK⟩⟩ rfl rfl hl.1 rfl (lv_room (Nat.le_of_ble_eq_true rfl)) dX10_tidiesOne_38 ⟨hRc, hRs⟩) hS (fun q _ h => fA_le hS.1 q h) (fA_le hS.1) (fun r9 u9 t9 H1 locs ht9 hvm9 hw9 hB9 hz9 hk9 hS => ?_)
      obtain ⟨μ1, r2⟩ := u9
      obtain ⟨hP, -⟩ := hB9
      rw [ht9] at hP
      generalize H1 = H at hP hS ⊢
      obtain ⟨e9, hw9⟩ := hw9
      have e9 : r9 = iZ r2 := e9
      subst e9
      simp only at hP hw9
      have hμ1 := hw9; clear hw9
      rw [hμ1.1] at hP; have hμ1 := hμ1.2
      rw [show ((rO w k.toNat : Nat) : Int).toNat = rO w k.toNat from rfl, rx1] at hμ1
      refine fz_if_eq (tgt := 83) (by constructor <;> omega) hx hb dX10_tidiesOne_41 (by decide) (fun c41_ => ?_) (fun c41_ => ?_)
      · refine lv_iinc (v := iZ (k + 1)) (lv' := [(3, .int (iZ (k + 1))), (2, .int (iZ (m9))), (1, .int (iZ (t))), (0, .ref h0)]) hx hb dX10_tidiesOne_83 hl (k := 0) rfl (iZ_add _ _) (by decide) rfl (fun ls hl => ?_)
        refine lv_goto (tgt := 21) hx hb dX10_tidiesOne_86 (by decide) ?_
        exact ih (k + 1) μ H locs ls (by rfl) (by omega) (by omega) hP hS (lv_sub hl [0, 1, 2, 3] rfl)
      · obtain rfl : kx = 4 := by
          split at hμ1
          · omega
          · omega
        refine lv_aload_n hx hb dX10_tidiesOne_44 rfl (lv_at hl 3 rfl) ?_
        refine lv_iload_n hx hb dX10_tidiesOne_45 rfl (lv_at hl 2 rfl) ?_
        refine lv_aload_n hx hb dX10_tidiesOne_46 rfl (lv_at hl 3 rfl) ?_
        refine fz_get (D := (dC, dI)) (ci := 10) (v := .ref (h0 + 722)) (C := RX10) (T := TX10) (N := 53) hx hb hts inG10 hown hK hP (k := 0) (by decide) (F := mF h0) mE_obj rfl 29 (by decide) (hts _ k1195) (fun _ h9 => h9) rfl dX10_tidiesOne_47 ?_
        refine lv_iconst (v := iZ 0) hx hb dX10_tidiesOne_50 rfl ?_
        refine fz_ald (k := 722) (n := 14) (k2 := (723 + 0)) hx hb hK hP 2 rfl (by decide) mE_rowS rfl ⟨by omega, by omega⟩ (by decide) (if_pos (by omega)) dX10_tidiesOne_51 ?_
        refine lv_iload_n hx hb dX10_tidiesOne_52 rfl (lv_at hl 0 rfl) ?_
        refine fz_ld (k := (723 + 0)) (n := 260) hx hb hK hP 0 (by omega) (mE_rowSR (by omega)) rfl ⟨by omega, by omega⟩ (by decide) dX10_tidiesOne_53 ?_
        rw [show μ (723 + 0) (k).toNat = (rO w k.toNat : Int) from (by rw [hrow _ (by omega)]; omega)]
        refine lv_iload_n hx hb dX10_tidiesOne_54 rfl (lv_at hl 2 rfl) ?_
        refine lv_aload_n hx hb dX10_tidiesOne_55 rfl (lv_at hl 3 rfl) ?_
        refine fz_get (D := (dC, dI)) (ci := 10) (v := .ref (h0 + 722)) (C := RX10) (T := TX10) (N := 53) hx hb hts inG10 hown hK hP (k := 0) (by decide) (F := mF h0) mE_obj rfl 29 (by decide) (hts _ k1195) (fun _ h9 => h9) rfl dX10_tidiesOne_56 ?_
        refine lv_iconst (v := iZ 0) hx hb dX10_tidiesOne_59 rfl ?_
        refine fz_ald (k := 722) (n := 14) (k2 := (723 + 0)) hx hb hK hP 2 rfl (by decide) mE_rowS rfl ⟨by omega, by omega⟩ (by decide) (if_pos (by omega)) dX10_tidiesOne_60 ?_
        refine lv_iload_n hx hb dX10_tidiesOne_61 rfl (lv_at hl 0 rfl) ?_
        refine lv_iconst (v := iZ 1) hx hb dX10_tidiesOne_62 rfl ?_
        refine lv_iadd hx hb dX10_tidiesOne_63 ?_
        refine lv_topi (fun x9 ex9 => ?_)
        obtain rfl : x9 = iZ (k + 1) := ex9.trans (iZ_add _ _)
        refine fz_ld (k := (723 + 0)) (n := 260) hx hb hK hP 0 (by omega) (mE_rowSR (by omega)) rfl ⟨by omega, by omega⟩ (by decide) dX10_tidiesOne_64 ?_
        rw [show μ (723 + 0) (k + 1).toNat = (rO w (k.toNat + 1) : Int) from (by rw [show (k + 1).toNat = k.toNat + 1 by omega, hrow _ (by omega)]; omega)]
        refine va_calli (va_runV (As := [.int (iZ (t)), .int (iZ ((rO w k.toNat : Int))), .int (iZ (t)), .int (iZ ((rO w (k.toNat + 1) : Int)))]) (rest := []) ⟨hx, hb, hml, hown, hts⟩ (m_areAlike l dC dI cI cZ cII cIII h0 (20) H.size μ (t) ((rO w k.toNat : Int)) (t) ((rO w (k.toNat + 1) : Int)) (4) (vx) (lx) (ky) (vy) (ly) (by first | assumption | omega | exact ⟨by omega, by omega⟩) (by first | assumption | omega | exact ⟨by omega, by omega⟩) (by omega) (by omega) (by exact ⟨rx1, rx2, rx3, rx4⟩) (by exact ⟨ry1, ry2, ry3, ry4⟩) (by exact fxA) (by exact fyA) (by omega)) (cwV 4 hts (gV_G k1397 k1399 ks_yX10_areAlike k13 k1400) rfl rfl rfl (by decide +kernel) ⟨by show 23 + 1 ≤ _; omega, by show 8 + (8 + 11) + (700) ≤ _; omega⟩) ⟨fun a U g mk q => by obtain ⟨q0, q1, qP, qK⟩ := q; exact ⟨q0, q1, qP, va_K.moved (u := U) (U := U.calling g mk a) (Vm.Alike.refl U.vm) qK⟩, va_recv hK hP (ci := 10) (q0 := 0) rfl ((fw_get (by decide)).trans (by rw [mE_obj]; rfl)), fun U hU hW => ⟨rfl, by rw [hU], by rw [hU]; exact hP, va_K.moved hW.alike hK⟩⟩ rfl rfl hl.1 rfl (lv_room (Nat.le_of_ble_eq_true rfl)) dX10_tidiesOne_65 ⟨hRc, hRs⟩) hS (fun q _ h => fA_le hS.1 q h) (fA_le hS.1) (fun r9 u9 t9 H1 locs ht9 hvm9 hw9 hB9 hz9 hk9 hS => ?_)
        obtain ⟨μ3, r4⟩ := u9
        obtain ⟨hP, -⟩ := hB9
        rw [ht9] at hP
        generalize H1 = H at hP hS ⊢
        obtain ⟨e9, hw9⟩ := hw9
        have e9 : r9 = iZ r4 := e9
        subst e9
        simp only at hP hw9
        have hμ3 := hw9; clear hw9
        rw [hμ3.1] at hP; have hμ3 := hμ3.2
        refine fz_if_ne (tgt := 74) (by constructor <;> omega) hx hb dX10_tidiesOne_68 (by decide) (fun c68_ => ?_) (fun c68_ => ?_)
        · have hal : ialk 4 vx lx ky vy ly := by
            rcases hμ3 with ⟨_, h⟩ | ⟨h, _⟩
            · exact h
            · omega
          obtain rfl : ky = 4 := (alk_k hal).2.2.2.1.mp rfl
          have hral : ralk lx ly := by
            rcases hal with ⟨h, _⟩ | ⟨_, _, _, h⟩
            · unfold isTx at h; omega
            · exact h
          refine lv_aload_n hx hb dX10_tidiesOne_74 rfl (lv_at hl 3 rfl) ?_
          refine lv_iload_n hx hb dX10_tidiesOne_75 rfl (lv_at hl 2 rfl) ?_
          refine lv_iload_n hx hb dX10_tidiesOne_76 rfl (lv_at hl 1 rfl) ?_
          refine lv_iload_n hx hb dX10_tidiesOne_77 rfl (lv_at hl 0 rfl) ?_
          refine va_callv (va_runV (As := [.int (iZ (t)), .int (iZ (m9)), .int (iZ (k))]) (rest := []) ⟨hx, hb, hml, hown, hts⟩ (m_joinsTwo l dC dI cI cZ cII cIII h0 H.size μ (t) (m9) (w) (k) (zx) (vx) (lx) (wx) (zy) (vy) (ly) (wy) (by first | assumption | omega | exact ⟨by omega, by omega⟩) (by first | assumption | omega | exact ⟨by omega, by omega⟩) (by first | assumption | omega | exact ⟨by omega, by omega⟩) (by first | assumption | omega | exact ⟨by omega, by omega⟩) (by first | assumption | omega | exact ⟨by omega, by omega⟩) (by first | assumption | omega | exact ⟨by omega, by omega⟩) (by first | assumption | omega | exact ⟨by omega, by omega⟩) (by first | assumption | omega | exact ⟨by omega, by omega⟩) (by first | assumption | omega | exact ⟨by omega, by omega⟩) (by first | assumption | omega | exact ⟨by omega, by omega⟩) (by exact ⟨hex, hey, hral⟩)) (cwV 3 hts (gV_G k1456 k1458 ks_yX10_joinsTwo k13 k1459) rfl rfl rfl (by decide +kernel) ⟨by show 24 + 1 ≤ _; omega, by show 8 + (5 + 11) + (760) ≤ _; omega⟩) ⟨fun a U g mk q => by obtain ⟨q0, q1, qP, qK⟩ := q; exact ⟨q0, q1, qP, va_K.moved (u := U) (U := U.calling g mk a) (Vm.Alike.refl U.vm) qK⟩, va_recv hK hP (ci := 10) (q0 := 0) rfl ((fw_get (by decide)).trans (by rw [mE_obj]; rfl)), fun U hU hW => ⟨rfl, by rw [hU], by rw [hU]; exact hP, va_K.moved hW.alike hK⟩⟩ rfl rfl hl.1 rfl (lv_room (Nat.le_of_ble_eq_true rfl)) dX10_tidiesOne_78 ⟨hRc, hRs⟩) hS (fun q _ h => fA_le hS.1 q h) (fA_le hS.1) (fun u9 t9 H1 locs ht9 hvm9 hw9 hB9 hz9 hk9 hS => ?_)
          obtain ⟨hP, -⟩ := hB9
          rw [ht9] at hP
          generalize H1 = H at hP hS ⊢
          obtain ⟨μj, eμj⟩ : ∃ x : va_M, x = u9 := ⟨_, rfl⟩
          rw [← eμj] at hP hw9
          have hμj := hw9; clear hw9
          exact hexit81 (0) μj H locs ls (by exact ⟨_, hμj.1, TDr_two hwf hex hey hral, by rw [rtk_I (by omega) (by omega)]; omega, fr_mono (P2 := FQ t.toNat) hμj.2 (fun x y h => by unfold PK at h; unfold FQ FP P8; rcases h with h | h; exact Or.inr (Or.inl (Or.inr (Or.inr h))); exact Or.inr (Or.inr (Or.inl h)))⟩) hP hS (lv_sub hl [] rfl)
        · refine lv_goto (tgt := 83) hx hb dX10_tidiesOne_71 (by decide) ?_
          refine lv_iinc (v := iZ (k + 1)) (lv' := [(3, .int (iZ (k + 1))), (2, .int (iZ (m9))), (1, .int (iZ (t))), (0, .ref h0)]) hx hb dX10_tidiesOne_83 hl (k := 0) rfl (iZ_add _ _) (by decide) rfl (fun ls hl => ?_)
          refine lv_goto (tgt := 21) hx hb dX10_tidiesOne_86 (by decide) ?_
          exact ih (k + 1) μ H locs ls (by rfl) (by omega) (by omega) hP hS (lv_sub hl [0, 1, 2, 3] rfl)
set_option maxHeartbeats 40000000 in
set_option maxRecDepth 100000 in
theorem LX10_tidiesOne_91 {p : Program} {l : Launch} {e : Env} {R : Room} {s : State} {m : MethodId} {args : Array Value} {below : List Frame} {meth : Method} {c : Code} {cells slots : Nat} {Q : State → Prop} {dC : Nat → ClassId} {dI : Nat → Nat → Nat} {h0 : Nat} {cI cZ cII cIII : ClassId} (hx : p.tables.exec = Jvm.exec) (hb : c.code = cX10_tidiesOne) (hml : c.maxLocals = 4) (hown : s.vm.findClass RX10 = some m.cls) (hts : ∀ w ∈ wsG, w.before args s = true) (hK : va_K (dC, dI) vwCl (mT cI cZ cII cIII) s) (hRf : 27 ≤ R.frames) (hRl : 860 ≤ R.locals) (hRc : cells ≤ R.cells) (hRs : slots ≤ R.slots) (μ0 : va_M) (t : Int) (m9 : Int) (w : Rw) (ht : 0 ≤ t ∧ t < 70) (hR : RA μ0 t.toNat w 0) (hN : rN w ≤ 900) (hwf : rWF w) (hHH : rH w ≤ 20) (hrow : rowIs μ0 723 w 0) (h260 : rI w ≤ 260) (ht3 : t ≠ 50 ∧ t ≠ 51 ∧ t ≠ 52) (hm9 : m9 = rI w) (hexit145 : ∀ (k : Int) (μ : va_M) (H : Heap) (locs : List Loc) (ls : Array Slot), (∃ w2 : Rw, TR μ t.toNat w2 ∧ TDr w w2 ∧ rI w2 < rI w ∧ fr (FQ t.toNat) μ0 μ) → va_P (dC, dI) vwCl (fw (mE cI cZ cII cIII h0) h0 6325 μ) H → va_S (fA h0 6325 s.heap.size) s.heap H locs → lv_has ls 4 [] → W p l e R s m args below meth c H locs cells slots Q (F0 m 145 ls [.int (iZ (1))])) (hexit152 : ∀ (k : Int) (μ : va_M) (H : Heap) (locs : List Loc) (ls : Array Slot), (μ = μ0) → va_P (dC, dI) vwCl (fw (mE cI cZ cII cIII h0) h0 6325 μ) H → va_S (fA h0 6325 s.heap.size) s.heap H locs → lv_has ls 4 [(2, .int (iZ (m9))), (1, .int (iZ (t))), (0, .ref h0)] → W p l e R s m args below meth c H locs cells slots Q (F0 m 152 ls [])) :
    ∀ (n9 : Nat) (k : Int) (μ : va_M) (H : Heap) (locs : List Loc) (ls : Array Slot), (μ = μ0) → (0 ≤ k ∧ k ≤ rI w) → (300 - k).toNat < n9 → va_P (dC, dI) vwCl (fw (mE cI cZ cII cIII h0) h0 6325 μ) H → va_S (fA h0 6325 s.heap.size) s.heap H locs → lv_has ls 4 [(3, .int (iZ (k))), (2, .int (iZ (m9))), (1, .int (iZ (t))), (0, .ref h0)] → W p l e R s m args below meth c H locs cells slots Q (F0 m 91 ls []) := by
  intro n9
  induction n9 with
  | zero => intro k μ H locs ls hm hk hm9 hP hS hl; exact absurd hm9 (Nat.not_lt_zero _)
  | succ n9 ih =>
    intro k μ H locs ls hm hk hm9 hP hS hl
    subst hm
    refine lv_iload_n hx hb dX10_tidiesOne_91 rfl (lv_at hl 0 rfl) ?_
    refine lv_iload_n hx hb dX10_tidiesOne_92 rfl (lv_at hl 1 rfl) ?_
    refine fz_icmp_ge (tgt := 152) (by constructor <;> omega) (by constructor <;> omega) hx hb dX10_tidiesOne_93 (by decide) (fun c93_ => ?_) (fun c93_ => ?_)
    · exact hexit152 (k) μ H locs ls (by rfl) hP hS (lv_sub hl [1, 2, 3] rfl)
    · have hIx := rdrop_I (k.toNat) w
      have hNx := rdrop_N (k.toNat) w
      have hHx := rdrop_H (k.toNat) w
      have hFx := rdrop_WF (k.toNat) w hwf
      have hRx := RA_drop (k.toNat) w 0 hR
      obtain ⟨zx, kx, vx, lx, wx, hex⟩ := rI_pos (w := rdrop (k.toNat) w) (by omega)
      rw [hex] at hIx hNx hHx hFx hRx
      rw [rN_in] at hNx; rw [rI_in] at hIx; rw [rH_in] at hHx
      obtain ⟨rx1, rx2, rx3, rx4, rx5⟩ := hRx
      rw [Nat.zero_add] at rx1 rx2 rx3 rx4
      have fxA : iWF kx vx lx := ⟨hFx.1, hFx.2.1, hFx.2.2.1, hFx.2.2.2.1, hFx.2.2.2.2.1, hFx.2.2.2.2.2.1, hFx.2.2.2.2.2.2.1⟩
      refine lv_aload_n hx hb dX10_tidiesOne_96 rfl (lv_at hl 3 rfl) ?_
      refine lv_iload_n hx hb dX10_tidiesOne_97 rfl (lv_at hl 2 rfl) ?_
      refine lv_aload_n hx hb dX10_tidiesOne_98 rfl (lv_at hl 3 rfl) ?_
      refine fz_get (D := (dC, dI)) (ci := 10) (v := .ref (h0 + 722)) (C := RX10) (T := TX10) (N := 53) hx hb hts inG10 hown hK hP (k := 0) (by decide) (F := mF h0) mE_obj rfl 29 (by decide) (hts _ k1195) (fun _ h9 => h9) rfl dX10_tidiesOne_99 ?_
      refine lv_iconst (v := iZ 0) hx hb dX10_tidiesOne_102 rfl ?_
      refine fz_ald (k := 722) (n := 14) (k2 := (723 + 0)) hx hb hK hP 2 rfl (by decide) mE_rowS rfl ⟨by omega, by omega⟩ (by decide) (if_pos (by omega)) dX10_tidiesOne_103 ?_
      refine lv_iload_n hx hb dX10_tidiesOne_104 rfl (lv_at hl 0 rfl) ?_
      refine fz_ld (k := (723 + 0)) (n := 260) hx hb hK hP 0 (by omega) (mE_rowSR (by omega)) rfl ⟨by omega, by omega⟩ (by decide) dX10_tidiesOne_105 ?_
      rw [show μ (723 + 0) (k).toNat = (rO w k.toNat : Int) from (by rw [hrow _ (by omega)]; omega)]
      refine va_calli (va_runV (As := [.int (iZ (t)), .int (iZ ((rO w k.toNat : Int)))]) (rest := []) ⟨hx, hb, hml, hown, hts⟩ (m_isRepeat l dC dI cI cZ cII cIII h0 H.size μ (t) ((rO w k.toNat : Int)) (by first | assumption | omega | exact ⟨by omega, by omega⟩) (by omega) (by rw [show ((rO w k.toNat : Nat) : Int).toNat = rO w k.toNat from rfl, rx1]; have h9 := fxA.1; constructor <;> omega)) (cwV 2 hts (gV_G k1452 k1454 ks_yX10_isRepeat k13 k1455) rfl rfl rfl (by decide +kernel) ⟨by show 1 + 1 ≤ _; omega, by show 8 + (3 + 11) + (14) ≤ _; omega⟩) ⟨fun a U g mk q => by obtain ⟨q0, q1, qP, qK⟩ := q; exact ⟨q0, q1, qP, va_K.moved (u := U) (U := U.calling g mk a) (Vm.Alike.refl U.vm) qK⟩, va_recv hK hP (ci := 10) (q0 := 0) rfl ((fw_get (by decide)).trans (by rw [mE_obj]; rfl)), fun U hU hW => ⟨rfl, by rw [hU], by rw [hU]; exact hP, va_K.moved hW.alike hK⟩⟩ rfl rfl hl.1 rfl (lv_room (Nat.le_of_ble_eq_true rfl)) dX10_tidiesOne_106 ⟨hRc, hRs⟩) hS (fun q _ h => fA_le hS.1 q h) (fA_le hS.1) (fun r9 u9 t9 H1 locs ht9 hvm9 hw9 hB9 hz9 hk9 hS => ?_)
      obtain ⟨μ5, r6⟩ := u9
      obtain ⟨hP, -⟩ := hB9
      rw [ht9] at hP
      generalize H1 = H at hP hS ⊢
      obtain ⟨e9, hw9⟩ := hw9
      have e9 : r9 = iZ r6 := e9
      subst e9
      simp only at hP hw9
      have hμ5 := hw9; clear hw9
      rw [hμ5.1] at hP; have hμ5 := hμ5.2
      rw [show ((rO w k.toNat : Nat) : Int).toNat = rO w k.toNat from rfl, rx1] at hμ5
      refine fz_if_eq (tgt := 146) (by constructor <;> omega) hx hb dX10_tidiesOne_109 (by decide) (fun c109_ => ?_) (fun c109_ => ?_)
      · refine lv_iinc (v := iZ (k + 1)) (lv' := [(3, .int (iZ (k + 1))), (2, .int (iZ (m9))), (1, .int (iZ (t))), (0, .ref h0)]) hx hb dX10_tidiesOne_146 hl (k := 0) rfl (iZ_add _ _) (by decide) rfl (fun ls hl => ?_)
        refine lv_goto (tgt := 91) hx hb dX10_tidiesOne_149 (by decide) ?_
        exact ih (k + 1) μ H locs ls (by rfl) (by omega) (by omega) hP hS (lv_sub hl [0, 1, 2, 3] rfl)
      · obtain rfl : kx = 4 := by
          split at hμ5
          · omega
          · omega
        refine lv_aload_n hx hb dX10_tidiesOne_112 rfl (lv_at hl 3 rfl) ?_
        refine lv_iload_n hx hb dX10_tidiesOne_113 rfl (lv_at hl 2 rfl) ?_
        refine lv_iload_n hx hb dX10_tidiesOne_114 rfl (lv_at hl 0 rfl) ?_
        refine lv_iload_n hx hb dX10_tidiesOne_115 rfl (lv_at hl 0 rfl) ?_
        refine lv_aload_n hx hb dX10_tidiesOne_116 rfl (lv_at hl 3 rfl) ?_
        refine lv_iload_n hx hb dX10_tidiesOne_117 rfl (lv_at hl 2 rfl) ?_
        refine lv_aload_n hx hb dX10_tidiesOne_118 rfl (lv_at hl 3 rfl) ?_
        refine fz_get (D := (dC, dI)) (ci := 10) (v := .ref (h0 + 722)) (C := RX10) (T := TX10) (N := 53) hx hb hts inG10 hown hK hP (k := 0) (by decide) (F := mF h0) mE_obj rfl 29 (by decide) (hts _ k1195) (fun _ h9 => h9) rfl dX10_tidiesOne_119 ?_
        refine lv_iconst (v := iZ 0) hx hb dX10_tidiesOne_122 rfl ?_
        refine fz_ald (k := 722) (n := 14) (k2 := (723 + 0)) hx hb hK hP 2 rfl (by decide) mE_rowS rfl ⟨by omega, by omega⟩ (by decide) (if_pos (by omega)) dX10_tidiesOne_123 ?_
        refine lv_iload_n hx hb dX10_tidiesOne_124 rfl (lv_at hl 0 rfl) ?_
        refine fz_ld (k := (723 + 0)) (n := 260) hx hb hK hP 0 (by omega) (mE_rowSR (by omega)) rfl ⟨by omega, by omega⟩ (by decide) dX10_tidiesOne_125 ?_
        rw [show μ (723 + 0) (k).toNat = (rO w k.toNat : Int) from (by rw [hrow _ (by omega)]; omega)]
        refine va_calli (va_runV (As := [.int (iZ (t)), .int (iZ ((rO w k.toNat : Int)))]) (rest := [.int (iZ (k)), .int (iZ (k)), .int (iZ (t)), .ref h0]) ⟨hx, hb, hml, hown, hts⟩ (m_itemsIn l dC dI cI cZ cII cIII h0 H.size μ (t) ((rO w k.toNat : Int)) (lx) (by first | assumption | omega | exact ⟨by omega, by omega⟩) (by omega) (by exact rx3) (by exact rx4)) (cwV 2 hts (gV_G k1404 k1406 ks_yX10_itemsIn k13 k1407) rfl rfl rfl (by decide +kernel) ⟨by show 1 + 1 ≤ _; omega, by show 8 + (5 + 11) + (14) ≤ _; omega⟩) ⟨fun a U g mk q => by obtain ⟨q0, q1, qP, qK⟩ := q; exact ⟨q0, q1, qP, va_K.moved (u := U) (U := U.calling g mk a) (Vm.Alike.refl U.vm) qK⟩, va_recv hK hP (ci := 10) (q0 := 0) rfl ((fw_get (by decide)).trans (by rw [mE_obj]; rfl)), fun U hU hW => ⟨rfl, by rw [hU], by rw [hU]; exact hP, va_K.moved hW.alike hK⟩⟩ rfl rfl hl.1 rfl (lv_room (Nat.le_of_ble_eq_true rfl)) dX10_tidiesOne_126 ⟨hRc, hRs⟩) hS (fun q _ h => fA_le hS.1 q h) (fA_le hS.1) (fun r9 u9 t9 H1 locs ht9 hvm9 hw9 hB9 hz9 hk9 hS => ?_)
        obtain ⟨μ7, ri⟩ := u9
        obtain ⟨hP, -⟩ := hB9
        rw [ht9] at hP
        generalize H1 = H at hP hS ⊢
        obtain ⟨e9, hw9⟩ := hw9
        have e9 : r9 = iZ ri := e9
        subst e9
        simp only at hP hw9
        have hμ7 := hw9; clear hw9
        rw [hμ7.1] at hP; have hμ7 := hμ7.2
        have hri : ri = rI lx := hμ7
        have hriN := rI_N2 lx
        refine lv_isub hx hb dX10_tidiesOne_129 ?_
        refine lv_topi (fun x9 ex9 => ?_)
        obtain rfl : x9 = iZ (k - ri) := ex9.trans (iZ_sub _ _)
        refine lv_iload_n hx hb dX10_tidiesOne_130 rfl (lv_at hl 1 rfl) ?_
        refine va_calli (va_runV (As := [.int (iZ (t)), .int (iZ (k)), .int (iZ (k - ri)), .int (iZ (m9))]) (rest := []) ⟨hx, hb, hml, hown, hts⟩ (m_hasAt l dC dI cI cZ cII cIII h0 H.size μ (t) (k) (k - ri) (m9) (w) (zx) (vx) (lx) (wx) (by first | assumption | omega | exact ⟨by omega, by omega⟩) (by first | assumption | omega | exact ⟨by omega, by omega⟩) (by first | assumption | omega | exact ⟨by omega, by omega⟩) (by first | assumption | omega | exact ⟨by omega, by omega⟩) (by first | assumption | omega | exact ⟨by omega, by omega⟩) (by first | assumption | omega | exact ⟨by omega, by omega⟩) (by first | assumption | omega | exact ⟨by omega, by omega⟩) (by first | assumption | omega | exact ⟨by omega, by omega⟩) (by first | assumption | omega | exact ⟨by omega, by omega⟩) (by first | assumption | omega | exact ⟨by omega, by omega⟩) (by omega) (by exact hex)) (cwV 4 hts (gV_G k1460 k1462 ks_yX10_hasAt k13 k1463) rfl rfl rfl (by decide +kernel) ⟨by show 26 + 1 ≤ _; omega, by show 8 + (5 + 11) + (790) ≤ _; omega⟩) ⟨fun a U g mk q => by obtain ⟨q0, q1, qP, qK⟩ := q; exact ⟨q0, q1, qP, va_K.moved (u := U) (U := U.calling g mk a) (Vm.Alike.refl U.vm) qK⟩, va_recv hK hP (ci := 10) (q0 := 0) rfl ((fw_get (by decide)).trans (by rw [mE_obj]; rfl)), fun U hU hW => ⟨rfl, by rw [hU], by rw [hU]; exact hP, va_K.moved hW.alike hK⟩⟩ rfl rfl hl.1 rfl (lv_room (Nat.le_of_ble_eq_true rfl)) dX10_tidiesOne_131 ⟨hRc, hRs⟩) hS (fun q _ h => fA_le hS.1 q h) (fA_le hS.1) (fun r9 u9 t9 H1 locs ht9 hvm9 hw9 hB9 hz9 hk9 hS => ?_)
        obtain ⟨μ8, r10⟩ := u9
        obtain ⟨hP, -⟩ := hB9
        rw [ht9] at hP
        generalize H1 = H at hP hS ⊢
        obtain ⟨e9, hw9⟩ := hw9
        have e9 : r9 = iZ r10 := e9
        subst e9
        simp only at hP hw9
        have hμ8 := hw9; clear hw9
        rw [hμ8.1] at hP; have hμ8 := hμ8.2
        refine fz_if_eq (tgt := 146) (by constructor <;> omega) hx hb dX10_tidiesOne_134 (by decide) (fun c134_ => ?_) (fun c134_ => ?_)
        · refine lv_iinc (v := iZ (k + 1)) (lv' := [(3, .int (iZ (k + 1))), (2, .int (iZ (m9))), (1, .int (iZ (t))), (0, .ref h0)]) hx hb dX10_tidiesOne_146 hl (k := 0) rfl (iZ_add _ _) (by decide) rfl (fun ls hl => ?_)
          refine lv_goto (tgt := 91) hx hb dX10_tidiesOne_149 (by decide) ?_
          exact ih (k + 1) μ H locs ls (by rfl) (by omega) (by omega) hP hS (lv_sub hl [0, 1, 2, 3] rfl)
        · have hhA : 0 ≤ k - ri ∧ nxt lx (rdrop (k - ri).toNat w) := by
            rcases hμ8 with ⟨_, h⟩ | ⟨h, _⟩
            · exact h
            · omega
          refine lv_aload_n hx hb dX10_tidiesOne_137 rfl (lv_at hl 3 rfl) ?_
          refine lv_iload_n hx hb dX10_tidiesOne_138 rfl (lv_at hl 2 rfl) ?_
          refine lv_iload_n hx hb dX10_tidiesOne_139 rfl (lv_at hl 1 rfl) ?_
          refine lv_iload_n hx hb dX10_tidiesOne_140 rfl (lv_at hl 0 rfl) ?_
          refine lv_iconst (v := iZ 1) hx hb dX10_tidiesOne_141 rfl ?_
          refine va_calli (va_runV (As := [.int (iZ (t)), .int (iZ (m9)), .int (iZ (k)), .int (iZ (1))]) (rest := []) ⟨hx, hb, hml, hown, hts⟩ (m_takesIn1 l dC dI cI cZ cII cIII h0 H.size μ (t) (m9) (w) (k) (ri) ((k - ri)) (zx) (vx) (lx) (wx) (by first | assumption | omega | exact ⟨by omega, by omega⟩) (by first | assumption | omega | exact ⟨by omega, by omega⟩) (by first | assumption | omega | exact ⟨by omega, by omega⟩) (by first | assumption | omega | exact ⟨by omega, by omega⟩) (by first | assumption | omega | exact ⟨by omega, by omega⟩) (by first | assumption | omega | exact ⟨by omega, by omega⟩) (by first | assumption | omega | exact ⟨by omega, by omega⟩) (by first | assumption | omega | exact ⟨by omega, by omega⟩) (by first | assumption | omega | exact ⟨by omega, by omega⟩) (by omega) (by exact hri) (by rfl) (by exact ⟨hex, hhA.2⟩)) (cwV 4 hts (gV_G k1468 k1470 ks_yX10_takesIn k13 k1471) rfl rfl rfl (by decide +kernel) ⟨by show 25 + 1 ≤ _; omega, by show 8 + (8 + 11) + (770) ≤ _; omega⟩) ⟨fun a U g mk q => by obtain ⟨q0, q1, qP, qK⟩ := q; exact ⟨q0, q1, qP, va_K.moved (u := U) (U := U.calling g mk a) (Vm.Alike.refl U.vm) qK⟩, va_recv hK hP (ci := 10) (q0 := 0) rfl ((fw_get (by decide)).trans (by rw [mE_obj]; rfl)), fun U hU hW => ⟨rfl, by rw [hU], by rw [hU]; exact hP, va_K.moved hW.alike hK⟩⟩ rfl rfl hl.1 rfl (lv_room (Nat.le_of_ble_eq_true rfl)) dX10_tidiesOne_142 ⟨hRc, hRs⟩) hS (fun q _ h => fA_le hS.1 q h) (fA_le hS.1) (fun r9 u9 t9 H1 locs ht9 hvm9 hw9 hB9 hz9 hk9 hS => ?_)
          obtain ⟨μj, rj⟩ := u9
          obtain ⟨hP, -⟩ := hB9
          rw [ht9] at hP
          generalize H1 = H at hP hS ⊢
          obtain ⟨e9, hw9⟩ := hw9
          have e9 : r9 = iZ rj := e9
          subst e9
          simp only at hP hw9
          have hμj := hw9; clear hw9
          have hr1 : rj = 1 := hμj.1
          obtain rfl : rj = 1 := by omega
          exact hexit145 (0) μj H locs ls (by
                            have h8 : lx ≠ .leaf := fxA.2.2.1 (by omega)
                            have h7 : 0 < rI lx := by
                              cases lx with
                              | leaf => exact absurd rfl h8
                              | inner _ _ _ _ _ => rw [rI_in]; omega
                            exact ⟨_, hμj.2.1, TDr_in hwf hex hhA.2 (Or.inr ⟨by omega, rfl, rfl⟩) (by omega), by rw [rtk_I (by omega) (by omega)]; omega, fr_mono (P2 := FQ t.toNat) hμj.2.2 (fun x y h => by unfold PK at h; unfold FQ FP P8; rcases h with h | h; exact Or.inr (Or.inl (Or.inr (Or.inr h))); exact Or.inr (Or.inr (Or.inl h)))⟩) hP hS (lv_sub hl [] rfl)
set_option maxHeartbeats 40000000 in
set_option maxRecDepth 100000 in
theorem LX10_tidiesOne_154 {p : Program} {l : Launch} {e : Env} {R : Room} {s : State} {m : MethodId} {args : Array Value} {below : List Frame} {meth : Method} {c : Code} {cells slots : Nat} {Q : State → Prop} {dC : Nat → ClassId} {dI : Nat → Nat → Nat} {h0 : Nat} {cI cZ cII cIII : ClassId} (hx : p.tables.exec = Jvm.exec) (hb : c.code = cX10_tidiesOne) (hml : c.maxLocals = 4) (hown : s.vm.findClass RX10 = some m.cls) (hts : ∀ w ∈ wsG, w.before args s = true) (hK : va_K (dC, dI) vwCl (mT cI cZ cII cIII) s) (hRf : 27 ≤ R.frames) (hRl : 860 ≤ R.locals) (hRc : cells ≤ R.cells) (hRs : slots ≤ R.slots) (μ0 : va_M) (t : Int) (m9 : Int) (w : Rw) (ht : 0 ≤ t ∧ t < 70) (hR : RA μ0 t.toNat w 0) (hN : rN w ≤ 900) (hwf : rWF w) (hHH : rH w ≤ 20) (hrow : rowIs μ0 723 w 0) (h260 : rI w ≤ 260) (ht3 : t ≠ 50 ∧ t ≠ 51 ∧ t ≠ 52) (hm9 : m9 = rI w) (hexit196 : ∀ (k : Int) (μ : va_M) (H : Heap) (locs : List Loc) (ls : Array Slot), (∃ w2 : Rw, TR μ t.toNat w2 ∧ TDr w w2 ∧ rI w2 < rI w ∧ fr (FQ t.toNat) μ0 μ) → va_P (dC, dI) vwCl (fw (mE cI cZ cII cIII h0) h0 6325 μ) H → va_S (fA h0 6325 s.heap.size) s.heap H locs → lv_has ls 4 [] → W p l e R s m args below meth c H locs cells slots Q (F0 m 196 ls [.int (iZ (1))])) (hexit203 : ∀ (k : Int) (μ : va_M) (H : Heap) (locs : List Loc) (ls : Array Slot), (μ = μ0) → va_P (dC, dI) vwCl (fw (mE cI cZ cII cIII h0) h0 6325 μ) H → va_S (fA h0 6325 s.heap.size) s.heap H locs → lv_has ls 4 [(2, .int (iZ (m9))), (1, .int (iZ (t))), (0, .ref h0)] → W p l e R s m args below meth c H locs cells slots Q (F0 m 203 ls [])) :
    ∀ (n9 : Nat) (k : Int) (μ : va_M) (H : Heap) (locs : List Loc) (ls : Array Slot), (μ = μ0) → (0 ≤ k ∧ k ≤ rI w) → (300 - k).toNat < n9 → va_P (dC, dI) vwCl (fw (mE cI cZ cII cIII h0) h0 6325 μ) H → va_S (fA h0 6325 s.heap.size) s.heap H locs → lv_has ls 4 [(3, .int (iZ (k))), (2, .int (iZ (m9))), (1, .int (iZ (t))), (0, .ref h0)] → W p l e R s m args below meth c H locs cells slots Q (F0 m 154 ls []) := by
  intro n9
  induction n9 with
  | zero => intro k μ H locs ls hm hk hm9 hP hS hl; exact absurd hm9 (Nat.not_lt_zero _)
  | succ n9 ih =>
    intro k μ H locs ls hm hk hm9 hP hS hl
    subst hm
    refine lv_iload_n hx hb dX10_tidiesOne_154 rfl (lv_at hl 0 rfl) ?_
    refine lv_iload_n hx hb dX10_tidiesOne_155 rfl (lv_at hl 1 rfl) ?_
    refine fz_icmp_ge (tgt := 203) (by constructor <;> omega) (by constructor <;> omega) hx hb dX10_tidiesOne_156 (by decide) (fun c156_ => ?_) (fun c156_ => ?_)
    · exact hexit203 (k) μ H locs ls (by rfl) hP hS (lv_sub hl [1, 2, 3] rfl)
    · have hIx := rdrop_I (k.toNat) w
      have hNx := rdrop_N (k.toNat) w
      have hHx := rdrop_H (k.toNat) w
      have hFx := rdrop_WF (k.toNat) w hwf
      have hRx := RA_drop (k.toNat) w 0 hR
      obtain ⟨zx, kx, vx, lx, wx, hex⟩ := rI_pos (w := rdrop (k.toNat) w) (by omega)
      rw [hex] at hIx hNx hHx hFx hRx
      rw [rN_in] at hNx; rw [rI_in] at hIx; rw [rH_in] at hHx
      obtain ⟨rx1, rx2, rx3, rx4, rx5⟩ := hRx
      rw [Nat.zero_add] at rx1 rx2 rx3 rx4
      have fxA : iWF kx vx lx := ⟨hFx.1, hFx.2.1, hFx.2.2.1, hFx.2.2.2.1, hFx.2.2.2.2.1, hFx.2.2.2.2.2.1, hFx.2.2.2.2.2.2.1⟩
      refine lv_aload_n hx hb dX10_tidiesOne_159 rfl (lv_at hl 3 rfl) ?_
      refine lv_iload_n hx hb dX10_tidiesOne_160 rfl (lv_at hl 2 rfl) ?_
      refine lv_aload_n hx hb dX10_tidiesOne_161 rfl (lv_at hl 3 rfl) ?_
      refine fz_get (D := (dC, dI)) (ci := 10) (v := .ref (h0 + 722)) (C := RX10) (T := TX10) (N := 53) hx hb hts inG10 hown hK hP (k := 0) (by decide) (F := mF h0) mE_obj rfl 29 (by decide) (hts _ k1195) (fun _ h9 => h9) rfl dX10_tidiesOne_162 ?_
      refine lv_iconst (v := iZ 0) hx hb dX10_tidiesOne_165 rfl ?_
      refine fz_ald (k := 722) (n := 14) (k2 := (723 + 0)) hx hb hK hP 2 rfl (by decide) mE_rowS rfl ⟨by omega, by omega⟩ (by decide) (if_pos (by omega)) dX10_tidiesOne_166 ?_
      refine lv_iload_n hx hb dX10_tidiesOne_167 rfl (lv_at hl 0 rfl) ?_
      refine fz_ld (k := (723 + 0)) (n := 260) hx hb hK hP 0 (by omega) (mE_rowSR (by omega)) rfl ⟨by omega, by omega⟩ (by decide) dX10_tidiesOne_168 ?_
      rw [show μ (723 + 0) (k).toNat = (rO w k.toNat : Int) from (by rw [hrow _ (by omega)]; omega)]
      refine va_calli (va_runV (As := [.int (iZ (t)), .int (iZ ((rO w k.toNat : Int)))]) (rest := []) ⟨hx, hb, hml, hown, hts⟩ (m_isRepeat l dC dI cI cZ cII cIII h0 H.size μ (t) ((rO w k.toNat : Int)) (by first | assumption | omega | exact ⟨by omega, by omega⟩) (by omega) (by rw [show ((rO w k.toNat : Nat) : Int).toNat = rO w k.toNat from rfl, rx1]; have h9 := fxA.1; constructor <;> omega)) (cwV 2 hts (gV_G k1452 k1454 ks_yX10_isRepeat k13 k1455) rfl rfl rfl (by decide +kernel) ⟨by show 1 + 1 ≤ _; omega, by show 8 + (3 + 11) + (14) ≤ _; omega⟩) ⟨fun a U g mk q => by obtain ⟨q0, q1, qP, qK⟩ := q; exact ⟨q0, q1, qP, va_K.moved (u := U) (U := U.calling g mk a) (Vm.Alike.refl U.vm) qK⟩, va_recv hK hP (ci := 10) (q0 := 0) rfl ((fw_get (by decide)).trans (by rw [mE_obj]; rfl)), fun U hU hW => ⟨rfl, by rw [hU], by rw [hU]; exact hP, va_K.moved hW.alike hK⟩⟩ rfl rfl hl.1 rfl (lv_room (Nat.le_of_ble_eq_true rfl)) dX10_tidiesOne_169 ⟨hRc, hRs⟩) hS (fun q _ h => fA_le hS.1 q h) (fA_le hS.1) (fun r9 u9 t9 H1 locs ht9 hvm9 hw9 hB9 hz9 hk9 hS => ?_)
      obtain ⟨μ11, r12⟩ := u9
      obtain ⟨hP, -⟩ := hB9
      rw [ht9] at hP
      generalize H1 = H at hP hS ⊢
      obtain ⟨e9, hw9⟩ := hw9
      have e9 : r9 = iZ r12 := e9
      subst e9
      simp only at hP hw9
      have hμ11 := hw9; clear hw9
      rw [hμ11.1] at hP; have hμ11 := hμ11.2
      rw [show ((rO w k.toNat : Nat) : Int).toNat = rO w k.toNat from rfl, rx1] at hμ11
      refine fz_if_eq (tgt := 197) (by constructor <;> omega) hx hb dX10_tidiesOne_172 (by decide) (fun c172_ => ?_) (fun c172_ => ?_)
      · refine lv_iinc (v := iZ (k + 1)) (lv' := [(3, .int (iZ (k + 1))), (2, .int (iZ (m9))), (1, .int (iZ (t))), (0, .ref h0)]) hx hb dX10_tidiesOne_197 hl (k := 0) rfl (iZ_add _ _) (by decide) rfl (fun ls hl => ?_)
        refine lv_goto (tgt := 154) hx hb dX10_tidiesOne_200 (by decide) ?_
        exact ih (k + 1) μ H locs ls (by rfl) (by omega) (by omega) hP hS (lv_sub hl [0, 1, 2, 3] rfl)
      · obtain rfl : kx = 4 := by
          split at hμ11
          · omega
          · omega
        refine lv_aload_n hx hb dX10_tidiesOne_175 rfl (lv_at hl 3 rfl) ?_
        refine lv_iload_n hx hb dX10_tidiesOne_176 rfl (lv_at hl 2 rfl) ?_
        refine lv_iload_n hx hb dX10_tidiesOne_177 rfl (lv_at hl 0 rfl) ?_
        refine lv_iload_n hx hb dX10_tidiesOne_178 rfl (lv_at hl 0 rfl) ?_
        refine lv_iconst (v := iZ 1) hx hb dX10_tidiesOne_179 rfl ?_
        refine lv_iadd hx hb dX10_tidiesOne_180 ?_
        refine lv_topi (fun x9 ex9 => ?_)
        obtain rfl : x9 = iZ (k + 1) := ex9.trans (iZ_add _ _)
        refine lv_iload_n hx hb dX10_tidiesOne_181 rfl (lv_at hl 1 rfl) ?_
        refine va_calli (va_runV (As := [.int (iZ (t)), .int (iZ (k)), .int (iZ (k + 1)), .int (iZ (m9))]) (rest := []) ⟨hx, hb, hml, hown, hts⟩ (m_hasAt l dC dI cI cZ cII cIII h0 H.size μ (t) (k) (k + 1) (m9) (w) (zx) (vx) (lx) (wx) (by first | assumption | omega | exact ⟨by omega, by omega⟩) (by first | assumption | omega | exact ⟨by omega, by omega⟩) (by first | assumption | omega | exact ⟨by omega, by omega⟩) (by first | assumption | omega | exact ⟨by omega, by omega⟩) (by first | assumption | omega | exact ⟨by omega, by omega⟩) (by first | assumption | omega | exact ⟨by omega, by omega⟩) (by first | assumption | omega | exact ⟨by omega, by omega⟩) (by first | assumption | omega | exact ⟨by omega, by omega⟩) (by first | assumption | omega | exact ⟨by omega, by omega⟩) (by first | assumption | omega | exact ⟨by omega, by omega⟩) (by omega) (by exact hex)) (cwV 4 hts (gV_G k1460 k1462 ks_yX10_hasAt k13 k1463) rfl rfl rfl (by decide +kernel) ⟨by show 26 + 1 ≤ _; omega, by show 8 + (5 + 11) + (790) ≤ _; omega⟩) ⟨fun a U g mk q => by obtain ⟨q0, q1, qP, qK⟩ := q; exact ⟨q0, q1, qP, va_K.moved (u := U) (U := U.calling g mk a) (Vm.Alike.refl U.vm) qK⟩, va_recv hK hP (ci := 10) (q0 := 0) rfl ((fw_get (by decide)).trans (by rw [mE_obj]; rfl)), fun U hU hW => ⟨rfl, by rw [hU], by rw [hU]; exact hP, va_K.moved hW.alike hK⟩⟩ rfl rfl hl.1 rfl (lv_room (Nat.le_of_ble_eq_true rfl)) dX10_tidiesOne_182 ⟨hRc, hRs⟩) hS (fun q _ h => fA_le hS.1 q h) (fA_le hS.1) (fun r9 u9 t9 H1 locs ht9 hvm9 hw9 hB9 hz9 hk9 hS => ?_)
        obtain ⟨μ13, r14⟩ := u9
        obtain ⟨hP, -⟩ := hB9
        rw [ht9] at hP
        generalize H1 = H at hP hS ⊢
        obtain ⟨e9, hw9⟩ := hw9
        have e9 : r9 = iZ r14 := e9
        subst e9
        simp only at hP hw9
        have hμ13 := hw9; clear hw9
        rw [hμ13.1] at hP; have hμ13 := hμ13.2
        refine fz_if_eq (tgt := 197) (by constructor <;> omega) hx hb dX10_tidiesOne_185 (by decide) (fun c185_ => ?_) (fun c185_ => ?_)
        · refine lv_iinc (v := iZ (k + 1)) (lv' := [(3, .int (iZ (k + 1))), (2, .int (iZ (m9))), (1, .int (iZ (t))), (0, .ref h0)]) hx hb dX10_tidiesOne_197 hl (k := 0) rfl (iZ_add _ _) (by decide) rfl (fun ls hl => ?_)
          refine lv_goto (tgt := 154) hx hb dX10_tidiesOne_200 (by decide) ?_
          exact ih (k + 1) μ H locs ls (by rfl) (by omega) (by omega) hP hS (lv_sub hl [0, 1, 2, 3] rfl)
        · have hhA : 0 ≤ k + 1 ∧ nxt lx (rdrop (k + 1).toNat w) := by
            rcases hμ13 with ⟨_, h⟩ | ⟨h, _⟩
            · exact h
            · omega
          have hnI := nxt_I _ _ hhA.2
          rw [rdrop_I] at hnI
          refine lv_aload_n hx hb dX10_tidiesOne_188 rfl (lv_at hl 3 rfl) ?_
          refine lv_iload_n hx hb dX10_tidiesOne_189 rfl (lv_at hl 2 rfl) ?_
          refine lv_iload_n hx hb dX10_tidiesOne_190 rfl (lv_at hl 1 rfl) ?_
          refine lv_iload_n hx hb dX10_tidiesOne_191 rfl (lv_at hl 0 rfl) ?_
          refine lv_iconst (v := iZ 0) hx hb dX10_tidiesOne_192 rfl ?_
          refine va_calli (va_runV (As := [.int (iZ (t)), .int (iZ (m9)), .int (iZ (k)), .int (iZ (0))]) (rest := []) ⟨hx, hb, hml, hown, hts⟩ (m_takesIn0 l dC dI cI cZ cII cIII h0 H.size μ (t) (m9) (w) (k) ((rI lx : Int)) ((k + 1)) (zx) (vx) (lx) (wx) (by first | assumption | omega | exact ⟨by omega, by omega⟩) (by first | assumption | omega | exact ⟨by omega, by omega⟩) (by first | assumption | omega | exact ⟨by omega, by omega⟩) (by first | assumption | omega | exact ⟨by omega, by omega⟩) (by first | assumption | omega | exact ⟨by omega, by omega⟩) (by first | assumption | omega | exact ⟨by omega, by omega⟩) (by first | assumption | omega | exact ⟨by omega, by omega⟩) (by first | assumption | omega | exact ⟨by omega, by omega⟩) (by first | assumption | omega | exact ⟨by omega, by omega⟩) (by omega) (by rfl) (by rfl) (by exact ⟨hex, hhA.2⟩)) (cwV 4 hts (gV_G k1468 k1470 ks_yX10_takesIn k13 k1471) rfl rfl rfl (by decide +kernel) ⟨by show 25 + 1 ≤ _; omega, by show 8 + (8 + 11) + (770) ≤ _; omega⟩) ⟨fun a U g mk q => by obtain ⟨q0, q1, qP, qK⟩ := q; exact ⟨q0, q1, qP, va_K.moved (u := U) (U := U.calling g mk a) (Vm.Alike.refl U.vm) qK⟩, va_recv hK hP (ci := 10) (q0 := 0) rfl ((fw_get (by decide)).trans (by rw [mE_obj]; rfl)), fun U hU hW => ⟨rfl, by rw [hU], by rw [hU]; exact hP, va_K.moved hW.alike hK⟩⟩ rfl rfl hl.1 rfl (lv_room (Nat.le_of_ble_eq_true rfl)) dX10_tidiesOne_193 ⟨hRc, hRs⟩) hS (fun q _ h => fA_le hS.1 q h) (fA_le hS.1) (fun r9 u9 t9 H1 locs ht9 hvm9 hw9 hB9 hz9 hk9 hS => ?_)
          obtain ⟨μj, rj⟩ := u9
          obtain ⟨hP, -⟩ := hB9
          rw [ht9] at hP
          generalize H1 = H at hP hS ⊢
          obtain ⟨e9, hw9⟩ := hw9
          have e9 : r9 = iZ rj := e9
          subst e9
          simp only at hP hw9
          have hμj := hw9; clear hw9
          have hr1 : rj = 1 := hμj.1
          obtain rfl : rj = 1 := by omega
          exact hexit196 (0) μj H locs ls (by
                            have h8 : lx ≠ .leaf := fxA.2.2.1 (by omega)
                            have h7 : 0 < rI lx := by
                              cases lx with
                              | leaf => exact absurd rfl h8
                              | inner _ _ _ _ _ => rw [rI_in]; omega
                            exact ⟨_, hμj.2.1, TDr_in hwf hex hhA.2 (Or.inl ⟨by omega, rfl, by omega⟩) (by omega), by rw [rtk_I (by omega) (by omega)]; omega, fr_mono (P2 := FQ t.toNat) hμj.2.2 (fun x y h => by unfold PK at h; unfold FQ FP P8; rcases h with h | h; exact Or.inr (Or.inl (Or.inr (Or.inr h))); exact Or.inr (Or.inr (Or.inl h)))⟩) hP hS (lv_sub hl [] rfl)
set_option maxHeartbeats 40000000 in
set_option maxRecDepth 100000 in
theorem m_tidiesOne (l : Launch) (dC : Nat → ClassId) (dI : Nat → Nat → Nat) (cI cZ cII cIII : ClassId) (h0 sz : Nat) (μ : va_M) (t : Int) (w : Rw) (ht : 54 ≤ t ∧ t < 70) (hT : TR μ t.toNat w) (hO : OKr w) : Met l yX10_tidiesOne (Cond.code yX10_tidiesOne cX10_tidiesOne 4 (some .boolean) :: wsG) ({ frames := 27, cells := 0, slots := 0, locals := 860 } : Room) (va_Pc [.ref h0, .int (iZ (t))] (fun U => U.heap.size = sz ∧ va_P (dC, dI) vwCl (fw (mE cI cZ cII cIII h0) h0 6325 μ) U.heap ∧ va_K (dC, dI) vwCl (mT cI cZ cII cIII) U)) (va_Qi (fun (r9 : Int32) (u : va_M × Int) => r9 = iZ u.2 ∧ (fun (u : va_M) (r : Int) => (r = 0 ∧ fr (fun x y => x = 723) μ u) ∨ (r = 1 ∧ ∃ w2 : Rw, TR u t.toNat w2 ∧ TDr w w2 ∧ rI w2 < rI w ∧ fr (FQ t.toNat) μ u)) u.1 u.2) (fun u t => va_P (dC, dI) vwCl (fw (mE cI cZ cII cIII h0) h0 6325 u.1) t.heap ∧ va_K (dC, dI) vwCl (mT cI cZ cII cIII) t) (fA h0 6325 sz)) 0 0 (fA h0 6325 sz) := by
  refine Met.ofW (cc := cX10_tidiesOne) (maxL := 4) (ret := (some .boolean)) (by decide) rfl ?_
  intro p e s m args below meth c s₁ B hml hv
  obtain ⟨rfl, hsz, hP, hK⟩ := hv
  have hx := B.exec
  have hb := B.bytes
  have hr := B.returns
  have hts : ∀ w ∈ wsG, w.before _ s = true := hG_of (atoms_spec (ws := (Cond.code yX10_tidiesOne cX10_tidiesOne 4 (some .boolean) :: wsG)) B.pre)
  have hown : s.vm.findClass RX10 = some m.cls := findClass_of_methodNamed B.named
  have hlocks := B.notSynchronized
  subst hsz
  have hS : va_S (fA h0 6325 s.heap.size) s.heap s.heap [] := va_S.rf
  have hl := lv_entry ([.ref h0, .int (iZ (t))]) (n := 4) (Nat.le_of_ble_eq_true rfl)
  rw [lg_entry_eq]
  generalize (lg_sl ([.ref h0, .int (iZ (t))]) ++ List.replicate (4 - (lg_sl ([.ref h0, .int (iZ (t))])).length) Slot.unset).toArray = ls at hl ⊢
  have hl : lv_has ls 4 [(0, .ref h0), (1, .int (iZ (t)))] := hl
  have hbd := OKr_b hO
  have hwf := hO.1
  have hR : RA μ t.toNat w 0 := hT.2
  have hn0 : μ 719 t.toNat = rN w := hT.1
  refine lv_aload_n hx hb dX10_tidiesOne_0 rfl (lv_at hl 0 rfl) ?_
  refine lv_iload_n hx hb dX10_tidiesOne_1 rfl (lv_at hl 1 rfl) ?_
  refine lv_iconst (v := iZ 0) hx hb dX10_tidiesOne_2 rfl ?_
  refine lv_aload_n hx hb dX10_tidiesOne_3 rfl (lv_at hl 0 rfl) ?_
  refine fz_get (D := (dC, dI)) (ci := 10) (v := .ref (h0 + 719)) (C := RX10) (T := TX10) (N := 53) hx hb hts inG10 hown hK hP (k := 0) (by decide) (F := mF h0) mE_obj rfl 21 (by decide) (hts _ k1187) (fun _ h9 => h9) rfl dX10_tidiesOne_4 ?_
  refine lv_iload_n hx hb dX10_tidiesOne_7 rfl (lv_at hl 1 rfl) ?_
  refine fz_ld (k := 719) (n := 70) hx hb hK hP 0 (by decide) mE_nodes rfl ⟨by omega, by omega⟩ (by decide) dX10_tidiesOne_8 ?_
  rw [show μ 719 (t).toNat = (rN w : Int) from (by exact hn0)]
  refine lv_aload_n hx hb dX10_tidiesOne_9 rfl (lv_at hl 0 rfl) ?_
  refine fz_get (D := (dC, dI)) (ci := 10) (v := .ref (h0 + 722)) (C := RX10) (T := TX10) (N := 53) hx hb hts inG10 hown hK hP (k := 0) (by decide) (F := mF h0) mE_obj rfl 29 (by decide) (hts _ k1195) (fun _ h9 => h9) rfl dX10_tidiesOne_10 ?_
  refine lv_iconst (v := iZ 0) hx hb dX10_tidiesOne_13 rfl ?_
  refine fz_ald (k := 722) (n := 14) (k2 := (723 + 0)) hx hb hK hP 2 rfl (by decide) mE_rowS rfl ⟨by omega, by omega⟩ (by decide) (if_pos (by omega)) dX10_tidiesOne_14 ?_
  refine va_calli (va_runV (As := [.int (iZ (t)), .int (iZ (0)), .int (iZ ((rN w : Int))), .ref (h0 + (723 + 0))]) (rest := []) ⟨hx, hb, hml, hown, hts⟩ (m_lists l dC dI cI cZ cII cIII h0 s.heap.size μ (t) (0) ((rN w : Int)) ((723 + 0)) (w) (by first | assumption | omega | exact ⟨by omega, by omega⟩) (by omega) (by omega) (by exact hR) (by exact Or.inl (by decide)) (by omega)) (cwV 4 hts (gV_G k1389 k1391 ks_yX10_lists k13 k1392) rfl rfl rfl (by decide +kernel) ⟨Nat.le_of_ble_eq_true rfl, Nat.le_of_ble_eq_true rfl⟩) ⟨fun a U g mk q => by obtain ⟨q0, q1, qP, qK⟩ := q; exact ⟨q0, q1, qP, va_K.moved (u := U) (U := U.calling g mk a) (Vm.Alike.refl U.vm) qK⟩, va_recv hK hP (ci := 10) (q0 := 0) rfl ((fw_get (by decide)).trans (by rw [mE_obj]; rfl)), fun U hU hW => ⟨rfl, by rw [hU], by rw [hU]; exact hP, va_K.moved hW.alike hK⟩⟩ rfl rfl hl.1 rfl (lv_room (Nat.le_of_ble_eq_true rfl)) dX10_tidiesOne_15 ⟨Nat.le_of_ble_eq_true rfl, Nat.le_of_ble_eq_true rfl⟩) hS (fun q _ h => fA_le hS.1 q h) (fA_le hS.1) (fun r9 u9 t9 H1 locs ht9 hvm9 hw9 hB9 hz9 hk9 hS => ?_)
  obtain ⟨μa, ma⟩ := u9
  obtain ⟨hP, -⟩ := hB9
  rw [ht9] at hP
  generalize H1 = H at hP hS ⊢
  obtain ⟨e9, hw9⟩ := hw9
  have e9 : r9 = iZ ma := e9
  subst e9
  simp only at hP hw9
  have hμa := hw9; clear hw9
  have fa : fr (fun x y => x = 723) μ μa := hμa.2.2
  have hka : ∀ x, μa (507 + t.toNat) x = μ (507 + t.toNat) x ∧ μa (578 + t.toNat) x = μ (578 + t.toNat) x ∧ μa (649 + t.toNat) x = μ (649 + t.toNat) x := fun x => ⟨fa _ _ (by show ¬ _ = 723; omega), fa _ _ (by show ¬ _ = 723; omega), fa _ _ (by show ¬ _ = 723; omega)⟩
  have hma : ma = rI w := hμa.1
  have hRa : RA μa t.toNat w 0 := RA_kept hR (fun x _ _ => hka x)
  have hrowa : rowIs μa 723 w 0 := fun m hm => by have := hμa.2.1 m hm; omega
  refine lv_istore_n (lv' := [(2, .int (iZ (ma))), (0, .ref h0), (1, .int (iZ (t)))]) hx hb dX10_tidiesOne_18 rfl hl (by decide) rfl (fun ls hl => ?_)
  refine lv_iconst (v := iZ 0) hx hb dX10_tidiesOne_19 rfl ?_
  refine lv_istore_n (lv' := [(3, .int (iZ (0))), (2, .int (iZ (ma))), (0, .ref h0), (1, .int (iZ (t)))]) hx hb dX10_tidiesOne_20 rfl hl (by decide) rfl (fun ls hl => ?_)
  refine LX10_tidiesOne_21 hx hb hml hown hts hK (Nat.le_of_ble_eq_true rfl) (Nat.le_of_ble_eq_true rfl) (Nat.le_of_ble_eq_true rfl) (Nat.le_of_ble_eq_true rfl) (μa) (t) (ma) (w) (by omega) (by exact hRa) (by omega) (by exact hwf) (by omega) (by exact hrowa) (by omega) (by omega) (by exact hma) ?_ ?_ _ (0) μa H locs ls (by rfl) (by omega) (Nat.lt_succ_self _) hP hS (lv_sub hl [0, 1, 3, 2] rfl)
  · intro k_15 μ15_ H locs ls q2_15 hP hS hl
    have hl : lv_has ls 4 [] := hl
    refine lv_iconst (v := iZ 1) hx hb dX10_tidiesOne_81 rfl ?_
    exact W.zret (v := iZ (1)) hx hb hr (by decide +kernel) (fun t9 ht9 hW9 => ⟨⟨iZ (1), (μ15_, 1), rfl, ⟨rfl, (by
                dsimp only
                obtain ⟨w2, y1, y2, y3, y4⟩ := q2_15
                exact Or.inr ⟨rfl, w2, y1, y2, y3, fr_trans (fr_mono fa (fun x y h => Or.inl h)) y4⟩)⟩, by rw [ht9]; exact hP, va_K.moved hW9.alike hK⟩, hS.F ht9⟩) hS.2.2 dX10_tidiesOne_82
  · intro k_16 μ16_ H locs ls q1_16 hP hS hl
    have hl : lv_has ls 4 [(2, .int (iZ (ma))), (1, .int (iZ (t))), (0, .ref h0)] := hl
    have hPn89 := hP
    obtain rfl := q1_16
    have hP := hPn89
    refine lv_iconst (v := iZ 0) hx hb dX10_tidiesOne_89 rfl ?_
    refine lv_istore_n (lv' := [(3, .int (iZ (0))), (2, .int (iZ (ma))), (1, .int (iZ (t))), (0, .ref h0)]) hx hb dX10_tidiesOne_90 rfl hl (by decide) rfl (fun ls hl => ?_)
    refine LX10_tidiesOne_91 hx hb hml hown hts hK (Nat.le_of_ble_eq_true rfl) (Nat.le_of_ble_eq_true rfl) (Nat.le_of_ble_eq_true rfl) (Nat.le_of_ble_eq_true rfl) (μ16_) (t) (ma) (w) (by omega) (by exact hRa) (by omega) (by exact hwf) (by omega) (by exact hrowa) (by omega) (by omega) (by exact hma) ?_ ?_ _ (0) μ16_ H locs ls (by rfl) (by omega) (Nat.lt_succ_self _) hP hS (lv_sub hl [0, 1, 2, 3] rfl)
    · intro k_17 μ17_ H locs ls q2_17 hP hS hl
      have hl : lv_has ls 4 [] := hl
      exact W.zret (v := iZ (1)) hx hb hr (by decide +kernel) (fun t9 ht9 hW9 => ⟨⟨iZ (1), (μ17_, 1), rfl, ⟨rfl, (by
                    dsimp only
                    obtain ⟨w2, y1, y2, y3, y4⟩ := q2_17
                    exact Or.inr ⟨rfl, w2, y1, y2, y3, fr_trans (fr_mono fa (fun x y h => Or.inl h)) y4⟩)⟩, by rw [ht9]; exact hP, va_K.moved hW9.alike hK⟩, hS.F ht9⟩) hS.2.2 dX10_tidiesOne_145
    · intro k_18 μ18_ H locs ls q1_18 hP hS hl
      have hl : lv_has ls 4 [(2, .int (iZ (ma))), (1, .int (iZ (t))), (0, .ref h0)] := hl
      have hPn152 := hP
      obtain rfl := q1_18
      have hP := hPn152
      refine lv_iconst (v := iZ 0) hx hb dX10_tidiesOne_152 rfl ?_
      refine lv_istore_n (lv' := [(3, .int (iZ (0))), (2, .int (iZ (ma))), (1, .int (iZ (t))), (0, .ref h0)]) hx hb dX10_tidiesOne_153 rfl hl (by decide) rfl (fun ls hl => ?_)
      refine LX10_tidiesOne_154 hx hb hml hown hts hK (Nat.le_of_ble_eq_true rfl) (Nat.le_of_ble_eq_true rfl) (Nat.le_of_ble_eq_true rfl) (Nat.le_of_ble_eq_true rfl) (μ18_) (t) (ma) (w) (by omega) (by exact hRa) (by omega) (by exact hwf) (by omega) (by exact hrowa) (by omega) (by omega) (by exact hma) ?_ ?_ _ (0) μ18_ H locs ls (by rfl) (by omega) (Nat.lt_succ_self _) hP hS (lv_sub hl [0, 1, 2, 3] rfl)
      · intro k_19 μ19_ H locs ls q2_19 hP hS hl
        have hl : lv_has ls 4 [] := hl
        exact W.zret (v := iZ (1)) hx hb hr (by decide +kernel) (fun t9 ht9 hW9 => ⟨⟨iZ (1), (μ19_, 1), rfl, ⟨rfl, (by
                        dsimp only
                        obtain ⟨w2, y1, y2, y3, y4⟩ := q2_19
                        exact Or.inr ⟨rfl, w2, y1, y2, y3, fr_trans (fr_mono fa (fun x y h => Or.inl h)) y4⟩)⟩, by rw [ht9]; exact hP, va_K.moved hW9.alike hK⟩, hS.F ht9⟩) hS.2.2 dX10_tidiesOne_196
      · intro k_20 μ20_ H locs ls q1_20 hP hS hl
        have hl : lv_has ls 4 [(2, .int (iZ (ma))), (1, .int (iZ (t))), (0, .ref h0)] := hl
        have hPn203 := hP
        obtain rfl := q1_20
        have hP := hPn203
        refine lv_aload_n hx hb dX10_tidiesOne_203 rfl (lv_at hl 2 rfl) ?_
        refine lv_iload_n hx hb dX10_tidiesOne_204 rfl (lv_at hl 1 rfl) ?_
        refine va_calli (va_runV (As := [.int (iZ (t))]) (rest := []) ⟨hx, hb, hml, hown, hts⟩ (m_foldsOne l dC dI cI cZ cII cIII h0 H.size μ20_ (t) (w) (by omega) (by omega) (by exact ⟨by rw [fa _ _ (by show ¬ 719 = 723; omega)]; exact hn0, hRa⟩) (by omega) (by exact hwf) (by omega) (by omega)) (cwV 1 hts (gV_G k1385 k1387 ks_yX10_foldsOne k13 k1388) rfl rfl rfl (by decide +kernel) ⟨Nat.le_of_ble_eq_true rfl, Nat.le_of_ble_eq_true rfl⟩) ⟨fun a U g mk q => by obtain ⟨q0, q1, qP, qK⟩ := q; exact ⟨q0, q1, qP, va_K.moved (u := U) (U := U.calling g mk a) (Vm.Alike.refl U.vm) qK⟩, va_recv hK hP (ci := 10) (q0 := 0) rfl ((fw_get (by decide)).trans (by rw [mE_obj]; rfl)), fun U hU hW => ⟨rfl, by rw [hU], by rw [hU]; exact hP, va_K.moved hW.alike hK⟩⟩ rfl rfl hl.1 rfl (lv_room (Nat.le_of_ble_eq_true rfl)) dX10_tidiesOne_205 ⟨Nat.le_of_ble_eq_true rfl, Nat.le_of_ble_eq_true rfl⟩) hS (fun q _ h => fA_le hS.1 q h) (fA_le hS.1) (fun r9 u9 t9 H1 locs ht9 hvm9 hw9 hB9 hz9 hk9 hS => ?_)
        obtain ⟨μ21, rf9⟩ := u9
        obtain ⟨hP, -⟩ := hB9
        rw [ht9] at hP
        generalize H1 = H at hP hS ⊢
        obtain ⟨e9, hw9⟩ := hw9
        have e9 : r9 = iZ rf9 := e9
        subst e9
        simp only at hP hw9
        have hμ21 := hw9; clear hw9
        exact W.zret (v := iZ (rf9)) hx hb hr (by exact fz_narZ (by rcases hμ21 with ⟨h, _⟩ | ⟨h, _⟩ <;> omega)) (fun t9 ht9 hW9 => ⟨⟨iZ (rf9), (μ21, rf9), rfl, ⟨rfl, (by
                        dsimp only
                        rcases hμ21 with ⟨h, h2, _⟩ | ⟨h, a1, s1, c1, h2, h3, h4, _⟩
                        · exact Or.inl ⟨h, fr_trans fa h2⟩
                        · exact Or.inr ⟨h, _, h3, TDr_put h2, rput_Il h2, fr_trans (fr_mono fa (fun x y h => Or.inl h)) h4⟩)⟩, by rw [ht9]; exact hP, va_K.moved hW9.alike hK⟩, hS.F ht9⟩) hS.2.2 dX10_tidiesOne_208

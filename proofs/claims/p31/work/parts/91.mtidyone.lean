set_option maxRecDepth 100000 in
theorem k1452 : (Cond.methodLink "PageSkeletonModel" (290 : Nat) ({ cls := "PageSkeletonModel", name := "isRepeat", desc := "(II)Z" } : MethodName)) ∈ wsG := wsG_a7 12 rfl rfl
set_option maxRecDepth 100000 in
theorem k1454 : (Cond.instanceMethod ({ cls := "PageSkeletonModel", name := "isRepeat", desc := "(II)Z" } : MethodName)) ∈ wsG := wsG_a7 14 rfl rfl
set_option maxRecDepth 100000 in
theorem k1455 : (Cond.code ({ cls := "PageSkeletonModel", name := "isRepeat", desc := "(II)Z" } : MethodName) prog_12_method_44_code (3 : Nat) (Option.some FieldType.boolean)) ∈ wsG := wsG_a7 15 rfl rfl
set_option maxRecDepth 100000 in
theorem k1456 : (Cond.methodLink "PageSkeletonModel" (294 : Nat) ({ cls := "PageSkeletonModel", name := "joinsTwo", desc := "(III)V" } : MethodName)) ∈ wsG := wsG_a7 16 rfl rfl
set_option maxRecDepth 100000 in
theorem k1458 : (Cond.instanceMethod ({ cls := "PageSkeletonModel", name := "joinsTwo", desc := "(III)V" } : MethodName)) ∈ wsG := wsG_a7 18 rfl rfl
set_option maxRecDepth 100000 in
theorem k1459 : (Cond.code ({ cls := "PageSkeletonModel", name := "joinsTwo", desc := "(III)V" } : MethodName) prog_12_method_46_code (5 : Nat) (Option.none : Option Jvm.ClassFile.FieldType)) ∈ wsG := wsG_a7 19 rfl rfl
set_option maxRecDepth 100000 in
theorem k1460 : (Cond.methodLink "PageSkeletonModel" (297 : Nat) ({ cls := "PageSkeletonModel", name := "hasAt", desc := "(IIII)Z" } : MethodName)) ∈ wsG := wsG_a7 20 rfl rfl
set_option maxRecDepth 100000 in
theorem k1462 : (Cond.instanceMethod ({ cls := "PageSkeletonModel", name := "hasAt", desc := "(IIII)Z" } : MethodName)) ∈ wsG := wsG_a7 22 rfl rfl
set_option maxRecDepth 100000 in
theorem k1463 : (Cond.code ({ cls := "PageSkeletonModel", name := "hasAt", desc := "(IIII)Z" } : MethodName) prog_12_method_45_code (5 : Nat) (Option.some FieldType.boolean)) ∈ wsG := wsG_a7 23 rfl rfl
set_option maxRecDepth 100000 in
theorem k1468 : (Cond.methodLink "PageSkeletonModel" (300 : Nat) ({ cls := "PageSkeletonModel", name := "takesIn", desc := "(IIIZ)Z" } : MethodName)) ∈ wsG := wsG_a7 28 rfl rfl
set_option maxRecDepth 100000 in
theorem k1470 : (Cond.instanceMethod ({ cls := "PageSkeletonModel", name := "takesIn", desc := "(IIIZ)Z" } : MethodName)) ∈ wsG := wsG_a7 30 rfl rfl
set_option maxRecDepth 100000 in
theorem k1471 : (Cond.code ({ cls := "PageSkeletonModel", name := "takesIn", desc := "(IIIZ)Z" } : MethodName) prog_12_method_47_code (8 : Nat) (Option.some FieldType.boolean)) ∈ wsG := wsG_a7 31 rfl rfl
set_option maxRecDepth 100000 in
theorem ks_yX10_isRepeat : Cond.selects RX10 yX10_isRepeat yX10_isRepeat ∈ wsG := wsG_p 72 rfl rfl
set_option maxRecDepth 100000 in
theorem ks_yX10_joinsTwo : Cond.selects RX10 yX10_joinsTwo yX10_joinsTwo ∈ wsG := wsG_p 73 rfl rfl
set_option maxRecDepth 100000 in
theorem ks_yX10_hasAt : Cond.selects RX10 yX10_hasAt yX10_hasAt ∈ wsG := wsG_p 74 rfl rfl
set_option maxRecDepth 100000 in
theorem ks_yX10_takesIn : Cond.selects RX10 yX10_takesIn yX10_takesIn ∈ wsG := wsG_p 76 rfl rfl
theorem dX10_hasAt_0 : decode cX10_hasAt 0 = .ok (.iload_n 3, 1) := by decide +kernel
theorem dX10_hasAt_1 : decode cX10_hasAt 1 = .ok (.ifCond .lt 33, 3) := by decide +kernel
theorem dX10_hasAt_4 : decode cX10_hasAt 4 = .ok (.aload_n 0, 1) := by decide +kernel
theorem dX10_hasAt_5 : decode cX10_hasAt 5 = .ok (.iload_n 1, 1) := by decide +kernel
theorem dX10_hasAt_6 : decode cX10_hasAt 6 = .ok (.aload_n 0, 1) := by decide +kernel
theorem dX10_hasAt_7 : decode cX10_hasAt 7 = .ok (.getfield 64, 3) := by decide +kernel
theorem dX10_hasAt_10 : decode cX10_hasAt 10 = .ok (.iconst 0, 1) := by decide +kernel
theorem dX10_hasAt_11 : decode cX10_hasAt 11 = .ok (.aaload, 1) := by decide +kernel
theorem dX10_hasAt_12 : decode cX10_hasAt 12 = .ok (.iload_n 2, 1) := by decide +kernel
theorem dX10_hasAt_13 : decode cX10_hasAt 13 = .ok (.iaload, 1) := by decide +kernel
theorem dX10_hasAt_14 : decode cX10_hasAt 14 = .ok (.iload_n 1, 1) := by decide +kernel
theorem dX10_hasAt_15 : decode cX10_hasAt 15 = .ok (.aload_n 0, 1) := by decide +kernel
theorem dX10_hasAt_16 : decode cX10_hasAt 16 = .ok (.getfield 64, 3) := by decide +kernel
theorem dX10_hasAt_19 : decode cX10_hasAt 19 = .ok (.iconst 0, 1) := by decide +kernel
theorem dX10_hasAt_20 : decode cX10_hasAt 20 = .ok (.aaload, 1) := by decide +kernel
theorem dX10_hasAt_21 : decode cX10_hasAt 21 = .ok (.iload_n 3, 1) := by decide +kernel
theorem dX10_hasAt_22 : decode cX10_hasAt 22 = .ok (.iload 4, 2) := by decide +kernel
theorem dX10_hasAt_24 : decode cX10_hasAt 24 = .ok (.invokevirtual 252, 3) := by decide +kernel
theorem dX10_hasAt_27 : decode cX10_hasAt 27 = .ok (.ifCond .eq 7, 3) := by decide +kernel
theorem dX10_hasAt_30 : decode cX10_hasAt 30 = .ok (.iconst 1, 1) := by decide +kernel
theorem dX10_hasAt_31 : decode cX10_hasAt 31 = .ok (.goto 4, 3) := by decide +kernel
theorem dX10_hasAt_34 : decode cX10_hasAt 34 = .ok (.iconst 0, 1) := by decide +kernel
theorem dX10_hasAt_35 : decode cX10_hasAt 35 = .ok (.ireturn, 1) := by decide +kernel
theorem dX10_tidiesOne_0 : decode cX10_tidiesOne 0 = .ok (.aload_n 0, 1) := by decide +kernel
theorem dX10_tidiesOne_1 : decode cX10_tidiesOne 1 = .ok (.iload_n 1, 1) := by decide +kernel
theorem dX10_tidiesOne_2 : decode cX10_tidiesOne 2 = .ok (.iconst 0, 1) := by decide +kernel
theorem dX10_tidiesOne_3 : decode cX10_tidiesOne 3 = .ok (.aload_n 0, 1) := by decide +kernel
theorem dX10_tidiesOne_4 : decode cX10_tidiesOne 4 = .ok (.getfield 54, 3) := by decide +kernel
theorem dX10_tidiesOne_7 : decode cX10_tidiesOne 7 = .ok (.iload_n 1, 1) := by decide +kernel
theorem dX10_tidiesOne_8 : decode cX10_tidiesOne 8 = .ok (.iaload, 1) := by decide +kernel
theorem dX10_tidiesOne_9 : decode cX10_tidiesOne 9 = .ok (.aload_n 0, 1) := by decide +kernel
theorem dX10_tidiesOne_10 : decode cX10_tidiesOne 10 = .ok (.getfield 64, 3) := by decide +kernel
theorem dX10_tidiesOne_13 : decode cX10_tidiesOne 13 = .ok (.iconst 0, 1) := by decide +kernel
theorem dX10_tidiesOne_14 : decode cX10_tidiesOne 14 = .ok (.aaload, 1) := by decide +kernel
theorem dX10_tidiesOne_15 : decode cX10_tidiesOne 15 = .ok (.invokevirtual 225, 3) := by decide +kernel
theorem dX10_tidiesOne_18 : decode cX10_tidiesOne 18 = .ok (.istore_n 2, 1) := by decide +kernel
theorem dX10_tidiesOne_19 : decode cX10_tidiesOne 19 = .ok (.iconst 0, 1) := by decide +kernel
theorem dX10_tidiesOne_20 : decode cX10_tidiesOne 20 = .ok (.istore_n 3, 1) := by decide +kernel
theorem dX10_tidiesOne_21 : decode cX10_tidiesOne 21 = .ok (.iload_n 3, 1) := by decide +kernel
theorem dX10_tidiesOne_22 : decode cX10_tidiesOne 22 = .ok (.iconst 1, 1) := by decide +kernel
theorem dX10_tidiesOne_23 : decode cX10_tidiesOne 23 = .ok (.iadd, 1) := by decide +kernel
theorem dX10_tidiesOne_24 : decode cX10_tidiesOne 24 = .ok (.iload_n 2, 1) := by decide +kernel
theorem dX10_tidiesOne_25 : decode cX10_tidiesOne 25 = .ok (.if_icmp .ge 64, 3) := by decide +kernel
theorem dX10_tidiesOne_28 : decode cX10_tidiesOne 28 = .ok (.aload_n 0, 1) := by decide +kernel
theorem dX10_tidiesOne_29 : decode cX10_tidiesOne 29 = .ok (.iload_n 1, 1) := by decide +kernel
theorem dX10_tidiesOne_30 : decode cX10_tidiesOne 30 = .ok (.aload_n 0, 1) := by decide +kernel
theorem dX10_tidiesOne_31 : decode cX10_tidiesOne 31 = .ok (.getfield 64, 3) := by decide +kernel
theorem dX10_tidiesOne_34 : decode cX10_tidiesOne 34 = .ok (.iconst 0, 1) := by decide +kernel
theorem dX10_tidiesOne_35 : decode cX10_tidiesOne 35 = .ok (.aaload, 1) := by decide +kernel
theorem dX10_tidiesOne_36 : decode cX10_tidiesOne 36 = .ok (.iload_n 3, 1) := by decide +kernel
theorem dX10_tidiesOne_37 : decode cX10_tidiesOne 37 = .ok (.iaload, 1) := by decide +kernel
theorem dX10_tidiesOne_38 : decode cX10_tidiesOne 38 = .ok (.invokevirtual 290, 3) := by decide +kernel
theorem dX10_tidiesOne_41 : decode cX10_tidiesOne 41 = .ok (.ifCond .eq 42, 3) := by decide +kernel
theorem dX10_tidiesOne_44 : decode cX10_tidiesOne 44 = .ok (.aload_n 0, 1) := by decide +kernel
theorem dX10_tidiesOne_45 : decode cX10_tidiesOne 45 = .ok (.iload_n 1, 1) := by decide +kernel
theorem dX10_tidiesOne_46 : decode cX10_tidiesOne 46 = .ok (.aload_n 0, 1) := by decide +kernel
theorem dX10_tidiesOne_47 : decode cX10_tidiesOne 47 = .ok (.getfield 64, 3) := by decide +kernel
theorem dX10_tidiesOne_50 : decode cX10_tidiesOne 50 = .ok (.iconst 0, 1) := by decide +kernel
theorem dX10_tidiesOne_51 : decode cX10_tidiesOne 51 = .ok (.aaload, 1) := by decide +kernel
theorem dX10_tidiesOne_52 : decode cX10_tidiesOne 52 = .ok (.iload_n 3, 1) := by decide +kernel
theorem dX10_tidiesOne_53 : decode cX10_tidiesOne 53 = .ok (.iaload, 1) := by decide +kernel
theorem dX10_tidiesOne_54 : decode cX10_tidiesOne 54 = .ok (.iload_n 1, 1) := by decide +kernel
theorem dX10_tidiesOne_55 : decode cX10_tidiesOne 55 = .ok (.aload_n 0, 1) := by decide +kernel
theorem dX10_tidiesOne_56 : decode cX10_tidiesOne 56 = .ok (.getfield 64, 3) := by decide +kernel
theorem dX10_tidiesOne_59 : decode cX10_tidiesOne 59 = .ok (.iconst 0, 1) := by decide +kernel
theorem dX10_tidiesOne_60 : decode cX10_tidiesOne 60 = .ok (.aaload, 1) := by decide +kernel
theorem dX10_tidiesOne_61 : decode cX10_tidiesOne 61 = .ok (.iload_n 3, 1) := by decide +kernel
theorem dX10_tidiesOne_62 : decode cX10_tidiesOne 62 = .ok (.iconst 1, 1) := by decide +kernel
theorem dX10_tidiesOne_63 : decode cX10_tidiesOne 63 = .ok (.iadd, 1) := by decide +kernel
theorem dX10_tidiesOne_64 : decode cX10_tidiesOne 64 = .ok (.iaload, 1) := by decide +kernel
theorem dX10_tidiesOne_65 : decode cX10_tidiesOne 65 = .ok (.invokevirtual 211, 3) := by decide +kernel
theorem dX10_tidiesOne_68 : decode cX10_tidiesOne 68 = .ok (.ifCond .ne 6, 3) := by decide +kernel
theorem dX10_tidiesOne_71 : decode cX10_tidiesOne 71 = .ok (.goto 12, 3) := by decide +kernel
theorem dX10_tidiesOne_74 : decode cX10_tidiesOne 74 = .ok (.aload_n 0, 1) := by decide +kernel
theorem dX10_tidiesOne_75 : decode cX10_tidiesOne 75 = .ok (.iload_n 1, 1) := by decide +kernel
theorem dX10_tidiesOne_76 : decode cX10_tidiesOne 76 = .ok (.iload_n 2, 1) := by decide +kernel
theorem dX10_tidiesOne_77 : decode cX10_tidiesOne 77 = .ok (.iload_n 3, 1) := by decide +kernel
theorem dX10_tidiesOne_78 : decode cX10_tidiesOne 78 = .ok (.invokevirtual 294, 3) := by decide +kernel
theorem dX10_tidiesOne_81 : decode cX10_tidiesOne 81 = .ok (.iconst 1, 1) := by decide +kernel
theorem dX10_tidiesOne_82 : decode cX10_tidiesOne 82 = .ok (.ireturn, 1) := by decide +kernel
theorem dX10_tidiesOne_83 : decode cX10_tidiesOne 83 = .ok (.iinc 3 1, 3) := by decide +kernel
theorem dX10_tidiesOne_86 : decode cX10_tidiesOne 86 = .ok (.goto (-65), 3) := by decide +kernel
theorem dX10_tidiesOne_89 : decode cX10_tidiesOne 89 = .ok (.iconst 0, 1) := by decide +kernel
theorem dX10_tidiesOne_90 : decode cX10_tidiesOne 90 = .ok (.istore_n 3, 1) := by decide +kernel
theorem dX10_tidiesOne_91 : decode cX10_tidiesOne 91 = .ok (.iload_n 3, 1) := by decide +kernel
theorem dX10_tidiesOne_92 : decode cX10_tidiesOne 92 = .ok (.iload_n 2, 1) := by decide +kernel
theorem dX10_tidiesOne_93 : decode cX10_tidiesOne 93 = .ok (.if_icmp .ge 59, 3) := by decide +kernel
theorem dX10_tidiesOne_96 : decode cX10_tidiesOne 96 = .ok (.aload_n 0, 1) := by decide +kernel
theorem dX10_tidiesOne_97 : decode cX10_tidiesOne 97 = .ok (.iload_n 1, 1) := by decide +kernel
theorem dX10_tidiesOne_98 : decode cX10_tidiesOne 98 = .ok (.aload_n 0, 1) := by decide +kernel
theorem dX10_tidiesOne_99 : decode cX10_tidiesOne 99 = .ok (.getfield 64, 3) := by decide +kernel
theorem dX10_tidiesOne_102 : decode cX10_tidiesOne 102 = .ok (.iconst 0, 1) := by decide +kernel
theorem dX10_tidiesOne_103 : decode cX10_tidiesOne 103 = .ok (.aaload, 1) := by decide +kernel
theorem dX10_tidiesOne_104 : decode cX10_tidiesOne 104 = .ok (.iload_n 3, 1) := by decide +kernel
theorem dX10_tidiesOne_105 : decode cX10_tidiesOne 105 = .ok (.iaload, 1) := by decide +kernel
theorem dX10_tidiesOne_106 : decode cX10_tidiesOne 106 = .ok (.invokevirtual 290, 3) := by decide +kernel
theorem dX10_tidiesOne_109 : decode cX10_tidiesOne 109 = .ok (.ifCond .eq 37, 3) := by decide +kernel
theorem dX10_tidiesOne_112 : decode cX10_tidiesOne 112 = .ok (.aload_n 0, 1) := by decide +kernel
theorem dX10_tidiesOne_113 : decode cX10_tidiesOne 113 = .ok (.iload_n 1, 1) := by decide +kernel
theorem dX10_tidiesOne_114 : decode cX10_tidiesOne 114 = .ok (.iload_n 3, 1) := by decide +kernel
theorem dX10_tidiesOne_115 : decode cX10_tidiesOne 115 = .ok (.iload_n 3, 1) := by decide +kernel
theorem dX10_tidiesOne_116 : decode cX10_tidiesOne 116 = .ok (.aload_n 0, 1) := by decide +kernel
theorem dX10_tidiesOne_117 : decode cX10_tidiesOne 117 = .ok (.iload_n 1, 1) := by decide +kernel
theorem dX10_tidiesOne_118 : decode cX10_tidiesOne 118 = .ok (.aload_n 0, 1) := by decide +kernel
theorem dX10_tidiesOne_119 : decode cX10_tidiesOne 119 = .ok (.getfield 64, 3) := by decide +kernel
theorem dX10_tidiesOne_122 : decode cX10_tidiesOne 122 = .ok (.iconst 0, 1) := by decide +kernel
theorem dX10_tidiesOne_123 : decode cX10_tidiesOne 123 = .ok (.aaload, 1) := by decide +kernel
theorem dX10_tidiesOne_124 : decode cX10_tidiesOne 124 = .ok (.iload_n 3, 1) := by decide +kernel
theorem dX10_tidiesOne_125 : decode cX10_tidiesOne 125 = .ok (.iaload, 1) := by decide +kernel
theorem dX10_tidiesOne_126 : decode cX10_tidiesOne 126 = .ok (.invokevirtual 207, 3) := by decide +kernel
theorem dX10_tidiesOne_129 : decode cX10_tidiesOne 129 = .ok (.isub, 1) := by decide +kernel
theorem dX10_tidiesOne_130 : decode cX10_tidiesOne 130 = .ok (.iload_n 2, 1) := by decide +kernel
theorem dX10_tidiesOne_131 : decode cX10_tidiesOne 131 = .ok (.invokevirtual 297, 3) := by decide +kernel
theorem dX10_tidiesOne_134 : decode cX10_tidiesOne 134 = .ok (.ifCond .eq 12, 3) := by decide +kernel
theorem dX10_tidiesOne_137 : decode cX10_tidiesOne 137 = .ok (.aload_n 0, 1) := by decide +kernel
theorem dX10_tidiesOne_138 : decode cX10_tidiesOne 138 = .ok (.iload_n 1, 1) := by decide +kernel
theorem dX10_tidiesOne_139 : decode cX10_tidiesOne 139 = .ok (.iload_n 2, 1) := by decide +kernel
theorem dX10_tidiesOne_140 : decode cX10_tidiesOne 140 = .ok (.iload_n 3, 1) := by decide +kernel
theorem dX10_tidiesOne_141 : decode cX10_tidiesOne 141 = .ok (.iconst 1, 1) := by decide +kernel
theorem dX10_tidiesOne_142 : decode cX10_tidiesOne 142 = .ok (.invokevirtual 300, 3) := by decide +kernel
theorem dX10_tidiesOne_145 : decode cX10_tidiesOne 145 = .ok (.ireturn, 1) := by decide +kernel
theorem dX10_tidiesOne_146 : decode cX10_tidiesOne 146 = .ok (.iinc 3 1, 3) := by decide +kernel
theorem dX10_tidiesOne_149 : decode cX10_tidiesOne 149 = .ok (.goto (-58), 3) := by decide +kernel
theorem dX10_tidiesOne_152 : decode cX10_tidiesOne 152 = .ok (.iconst 0, 1) := by decide +kernel
theorem dX10_tidiesOne_153 : decode cX10_tidiesOne 153 = .ok (.istore_n 3, 1) := by decide +kernel
theorem dX10_tidiesOne_154 : decode cX10_tidiesOne 154 = .ok (.iload_n 3, 1) := by decide +kernel
theorem dX10_tidiesOne_155 : decode cX10_tidiesOne 155 = .ok (.iload_n 2, 1) := by decide +kernel
theorem dX10_tidiesOne_156 : decode cX10_tidiesOne 156 = .ok (.if_icmp .ge 47, 3) := by decide +kernel
theorem dX10_tidiesOne_159 : decode cX10_tidiesOne 159 = .ok (.aload_n 0, 1) := by decide +kernel
theorem dX10_tidiesOne_160 : decode cX10_tidiesOne 160 = .ok (.iload_n 1, 1) := by decide +kernel
theorem dX10_tidiesOne_161 : decode cX10_tidiesOne 161 = .ok (.aload_n 0, 1) := by decide +kernel
theorem dX10_tidiesOne_162 : decode cX10_tidiesOne 162 = .ok (.getfield 64, 3) := by decide +kernel
theorem dX10_tidiesOne_165 : decode cX10_tidiesOne 165 = .ok (.iconst 0, 1) := by decide +kernel
theorem dX10_tidiesOne_166 : decode cX10_tidiesOne 166 = .ok (.aaload, 1) := by decide +kernel
theorem dX10_tidiesOne_167 : decode cX10_tidiesOne 167 = .ok (.iload_n 3, 1) := by decide +kernel
theorem dX10_tidiesOne_168 : decode cX10_tidiesOne 168 = .ok (.iaload, 1) := by decide +kernel
theorem dX10_tidiesOne_169 : decode cX10_tidiesOne 169 = .ok (.invokevirtual 290, 3) := by decide +kernel
theorem dX10_tidiesOne_172 : decode cX10_tidiesOne 172 = .ok (.ifCond .eq 25, 3) := by decide +kernel
theorem dX10_tidiesOne_175 : decode cX10_tidiesOne 175 = .ok (.aload_n 0, 1) := by decide +kernel
theorem dX10_tidiesOne_176 : decode cX10_tidiesOne 176 = .ok (.iload_n 1, 1) := by decide +kernel
theorem dX10_tidiesOne_177 : decode cX10_tidiesOne 177 = .ok (.iload_n 3, 1) := by decide +kernel
theorem dX10_tidiesOne_178 : decode cX10_tidiesOne 178 = .ok (.iload_n 3, 1) := by decide +kernel
theorem dX10_tidiesOne_179 : decode cX10_tidiesOne 179 = .ok (.iconst 1, 1) := by decide +kernel
theorem dX10_tidiesOne_180 : decode cX10_tidiesOne 180 = .ok (.iadd, 1) := by decide +kernel
theorem dX10_tidiesOne_181 : decode cX10_tidiesOne 181 = .ok (.iload_n 2, 1) := by decide +kernel
theorem dX10_tidiesOne_182 : decode cX10_tidiesOne 182 = .ok (.invokevirtual 297, 3) := by decide +kernel
theorem dX10_tidiesOne_185 : decode cX10_tidiesOne 185 = .ok (.ifCond .eq 12, 3) := by decide +kernel
theorem dX10_tidiesOne_188 : decode cX10_tidiesOne 188 = .ok (.aload_n 0, 1) := by decide +kernel
theorem dX10_tidiesOne_189 : decode cX10_tidiesOne 189 = .ok (.iload_n 1, 1) := by decide +kernel
theorem dX10_tidiesOne_190 : decode cX10_tidiesOne 190 = .ok (.iload_n 2, 1) := by decide +kernel
theorem dX10_tidiesOne_191 : decode cX10_tidiesOne 191 = .ok (.iload_n 3, 1) := by decide +kernel
theorem dX10_tidiesOne_192 : decode cX10_tidiesOne 192 = .ok (.iconst 0, 1) := by decide +kernel
theorem dX10_tidiesOne_193 : decode cX10_tidiesOne 193 = .ok (.invokevirtual 300, 3) := by decide +kernel
theorem dX10_tidiesOne_196 : decode cX10_tidiesOne 196 = .ok (.ireturn, 1) := by decide +kernel
theorem dX10_tidiesOne_197 : decode cX10_tidiesOne 197 = .ok (.iinc 3 1, 3) := by decide +kernel
theorem dX10_tidiesOne_200 : decode cX10_tidiesOne 200 = .ok (.goto (-46), 3) := by decide +kernel
theorem dX10_tidiesOne_203 : decode cX10_tidiesOne 203 = .ok (.aload_n 0, 1) := by decide +kernel
theorem dX10_tidiesOne_204 : decode cX10_tidiesOne 204 = .ok (.iload_n 1, 1) := by decide +kernel
theorem dX10_tidiesOne_205 : decode cX10_tidiesOne 205 = .ok (.invokevirtual 244, 3) := by decide +kernel
theorem dX10_tidiesOne_208 : decode cX10_tidiesOne 208 = .ok (.ireturn, 1) := by decide +kernel
set_option maxHeartbeats 40000000 in
set_option maxRecDepth 100000 in
theorem m_hasAt (l : Launch) (dC : Nat → ClassId) (dI : Nat → Nat → Nat) (cI cZ cII cIII : ClassId) (h0 sz : Nat) (μ : va_M) (t : Int) (k : Int) (f9 : Int) (m9 : Int) (w : Rw) (za : Nat) (va : Int) (la : Rw) (ra : Rw) (ht : 0 ≤ t ∧ t < 70) (hR : RA μ t.toNat w 0) (hN : rN w ≤ 900) (hwf : rWF w) (hHH : rH w ≤ 20) (hrow : rowIs μ 723 w 0) (h260 : rI w ≤ 260) (ht3 : t ≠ 50 ∧ t ≠ 51 ∧ t ≠ 52) (hm9 : m9 = rI w) (hk : 0 ≤ k) (hf : f9 ≤ rI w ∧ -1000 ≤ f9) (hit : rdrop k.toNat w = Std.DTreeMap.Internal.Impl.inner za 4 va la ra) : Met l yX10_hasAt (Cond.code yX10_hasAt cX10_hasAt 5 (some .boolean) :: wsG) ({ frames := 26, cells := 0, slots := 0, locals := 790 } : Room) (va_Pc [.ref h0, .int (iZ (t)), .int (iZ (k)), .int (iZ (f9)), .int (iZ (m9))] (fun U => U.heap.size = sz ∧ va_P (dC, dI) vwCl (fw (mE cI cZ cII cIII h0) h0 6325 μ) U.heap ∧ va_K (dC, dI) vwCl (mT cI cZ cII cIII) U)) (va_Qi (fun (r9 : Int32) (u : va_M × Int) => r9 = iZ u.2 ∧ (fun (u : va_M) (r : Int) => u = μ ∧ ((r = 1 ∧ 0 ≤ f9 ∧ nxt la (rdrop f9.toNat w)) ∨ (r = 0 ∧ ¬ (0 ≤ f9 ∧ nxt la (rdrop f9.toNat w))))) u.1 u.2) (fun u t => va_P (dC, dI) vwCl (fw (mE cI cZ cII cIII h0) h0 6325 u.1) t.heap ∧ va_K (dC, dI) vwCl (mT cI cZ cII cIII) t) (fA h0 6325 sz)) 0 0 (fA h0 6325 sz) := by
  refine Met.ofW (cc := cX10_hasAt) (maxL := 5) (ret := (some .boolean)) (by decide) rfl ?_
  intro p e s m args below meth c s₁ B hml hv
  obtain ⟨rfl, hsz, hP, hK⟩ := hv
  have hx := B.exec
  have hb := B.bytes
  have hr := B.returns
  have hts : ∀ w ∈ wsG, w.before _ s = true := hG_of (atoms_spec (ws := (Cond.code yX10_hasAt cX10_hasAt 5 (some .boolean) :: wsG)) B.pre)
  have hown : s.vm.findClass RX10 = some m.cls := findClass_of_methodNamed B.named
  have hlocks := B.notSynchronized
  subst hsz
  have hS : va_S (fA h0 6325 s.heap.size) s.heap s.heap [] := va_S.rf
  have hl := lv_entry ([.ref h0, .int (iZ (t)), .int (iZ (k)), .int (iZ (f9)), .int (iZ (m9))]) (n := 5) (Nat.le_of_ble_eq_true rfl)
  rw [lg_entry_eq]
  generalize (lg_sl ([.ref h0, .int (iZ (t)), .int (iZ (k)), .int (iZ (f9)), .int (iZ (m9))]) ++ List.replicate (5 - (lg_sl ([.ref h0, .int (iZ (t)), .int (iZ (k)), .int (iZ (f9)), .int (iZ (m9))])).length) Slot.unset).toArray = ls at hl ⊢
  have hl : lv_has ls 5 [(0, .ref h0), (1, .int (iZ (t))), (2, .int (iZ (k))), (3, .int (iZ (f9))), (4, .int (iZ (m9)))] := hl
  have hIa := rdrop_I k.toNat w
  have hNa := rdrop_N k.toNat w
  have hHa := rdrop_H k.toNat w
  have hWa := rdrop_WF k.toNat w hwf
  have hRa := RA_drop k.toNat w 0 hR
  rw [hit] at hIa hNa hHa hWa hRa
  rw [rN_in] at hNa; rw [rI_in] at hIa; rw [rH_in] at hHa
  rw [Nat.zero_add] at hRa
  obtain ⟨a1, a2, a3, a4, _⟩ := hRa
  refine lv_iload_n hx hb dX10_hasAt_0 rfl (lv_at hl 3 rfl) ?_
  refine fz_if_lt (tgt := 34) (by constructor <;> omega) hx hb dX10_hasAt_1 (by decide) (fun c1_ => ?_) (fun c1_ => ?_)
  · refine lv_iconst (v := iZ 0) hx hb dX10_hasAt_34 rfl ?_
    exact W.zret (v := iZ (0)) hx hb hr (by decide +kernel) (fun t9 ht9 hW9 => ⟨⟨iZ (0), (μ, 0), rfl, ⟨rfl, (by
                dsimp only
                refine ⟨rfl, ?_⟩
                first
                  | (have c9 := c27_
                     rcases h? with ⟨h, h2⟩ | ⟨h, h2⟩
                     · have h4 : 0 ≤ f9 := by omega
                       by_cases h5 : ((1 : Int) = 0)
                       · omega
                       · exact Or.inl ⟨by omega, h4, h2⟩
                     · exact Or.inr ⟨by omega, fun h3 => h2 h3.2⟩)
                  | exact Or.inr ⟨rfl, fun h3 => by omega⟩)⟩, by rw [ht9]; exact hP, va_K.moved hW9.alike hK⟩, hS.F ht9⟩) hS.2.2 dX10_hasAt_35
  · refine lv_aload_n hx hb dX10_hasAt_4 rfl (lv_at hl 0 rfl) ?_
    refine lv_iload_n hx hb dX10_hasAt_5 rfl (lv_at hl 1 rfl) ?_
    refine lv_aload_n hx hb dX10_hasAt_6 rfl (lv_at hl 0 rfl) ?_
    refine fz_get (D := (dC, dI)) (ci := 10) (v := .ref (h0 + 722)) (C := RX10) (T := TX10) (N := 53) hx hb hts inG10 hown hK hP (k := 0) (by decide) (F := mF h0) mE_obj rfl 29 (by decide) (hts _ k1195) (fun _ h9 => h9) rfl dX10_hasAt_7 ?_
    refine lv_iconst (v := iZ 0) hx hb dX10_hasAt_10 rfl ?_
    refine fz_ald (k := 722) (n := 14) (k2 := (723 + 0)) hx hb hK hP 2 rfl (by decide) mE_rowS rfl ⟨by omega, by omega⟩ (by decide) (if_pos (by omega)) dX10_hasAt_11 ?_
    refine lv_iload_n hx hb dX10_hasAt_12 rfl (lv_at hl 2 rfl) ?_
    refine fz_ld (k := (723 + 0)) (n := 260) hx hb hK hP 0 (by omega) (mE_rowSR (by omega)) rfl ⟨by omega, by omega⟩ (by decide) dX10_hasAt_13 ?_
    rw [show μ (723 + 0) (k).toNat = (rO w k.toNat : Int) from (by rw [hrow _ (by omega)]; omega)]
    refine lv_iload_n hx hb dX10_hasAt_14 rfl (lv_at hl 1 rfl) ?_
    refine lv_aload_n hx hb dX10_hasAt_15 rfl (lv_at hl 0 rfl) ?_
    refine fz_get (D := (dC, dI)) (ci := 10) (v := .ref (h0 + 722)) (C := RX10) (T := TX10) (N := 53) hx hb hts inG10 hown hK hP (k := 0) (by decide) (F := mF h0) mE_obj rfl 29 (by decide) (hts _ k1195) (fun _ h9 => h9) rfl dX10_hasAt_16 ?_
    refine lv_iconst (v := iZ 0) hx hb dX10_hasAt_19 rfl ?_
    refine fz_ald (k := 722) (n := 14) (k2 := (723 + 0)) hx hb hK hP 2 rfl (by decide) mE_rowS rfl ⟨by omega, by omega⟩ (by decide) (if_pos (by omega)) dX10_hasAt_20 ?_
    refine lv_iload_n hx hb dX10_hasAt_21 rfl (lv_at hl 3 rfl) ?_
    refine lv_iload hx hb dX10_hasAt_22 (lv_at hl 4 rfl) ?_
    refine va_calli (va_runV (As := [.int (iZ (t)), .int (iZ ((rO w k.toNat : Int))), .int (iZ (t)), .ref (h0 + (723 + 0)), .int (iZ (f9)), .int (iZ (m9))]) (rest := []) ⟨hx, hb, hml, hown, hts⟩ (m_areNext l dC dI cI cZ cII cIII h0 s.heap.size μ (t) ((rO w k.toNat : Int)) (t) (723) (f9) (m9) (4) (va) (la) (w) (0) (by first | assumption | omega | exact ⟨by omega, by omega⟩) (by first | assumption | omega | exact ⟨by omega, by omega⟩) (by omega) (by exact ⟨a1, a2, a3, a4⟩) (by exact ⟨hWa.1, hWa.2.1, hWa.2.2.1, hWa.2.2.2.1, hWa.2.2.2.2.1, hWa.2.2.2.2.2.1, hWa.2.2.2.2.2.2.1⟩) (by exact Or.inl ⟨by omega, by omega⟩) (by exact hrow) (by exact hR) (by omega) (by exact hwf) (by exact h260) (by exact hm9) (by omega) (by omega)) (cwV 6 hts (gV_G k1464 k1466 ks_yX10_areNext k13 k1467) rfl rfl rfl (by decide +kernel) ⟨Nat.le_of_ble_eq_true rfl, Nat.le_of_ble_eq_true rfl⟩) ⟨fun a U g mk q => by obtain ⟨q0, q1, qP, qK⟩ := q; exact ⟨q0, q1, qP, va_K.moved (u := U) (U := U.calling g mk a) (Vm.Alike.refl U.vm) qK⟩, va_recv hK hP (ci := 10) (q0 := 0) rfl ((fw_get (by decide)).trans (by rw [mE_obj]; rfl)), fun U hU hW => ⟨rfl, by rw [hU], by rw [hU]; exact hP, va_K.moved hW.alike hK⟩⟩ rfl rfl hl.1 rfl (lv_room (Nat.le_of_ble_eq_true rfl)) dX10_hasAt_24 ⟨Nat.le_of_ble_eq_true rfl, Nat.le_of_ble_eq_true rfl⟩) hS (fun q _ h => fA_le hS.1 q h) (fA_le hS.1) (fun r9 u9 t9 H1 locs ht9 hvm9 hw9 hB9 hz9 hk9 hS => ?_)
    obtain ⟨μ1, r2⟩ := u9
    obtain ⟨hP, -⟩ := hB9
    rw [ht9] at hP
    generalize H1 = H at hP hS ⊢
    obtain ⟨e9, hw9⟩ := hw9
    have e9 : r9 = iZ r2 := e9
    subst e9
    simp only at hP hw9
    have hμ1 := hw9; clear hw9
    rw [hμ1.1] at hP; have hμ1 := hμ1.2
    refine fz_if_eq (tgt := 34) (by constructor <;> omega) hx hb dX10_hasAt_27 (by decide) (fun c27_ => ?_) (fun c27_ => ?_)
    · refine lv_iconst (v := iZ 0) hx hb dX10_hasAt_34 rfl ?_
      exact W.zret (v := iZ (0)) hx hb hr (by decide +kernel) (fun t9 ht9 hW9 => ⟨⟨iZ (0), (μ, 0), rfl, ⟨rfl, (by
                    dsimp only
                    refine ⟨rfl, ?_⟩
                    first
                      | (have c9 := c27_
                         rcases hμ1 with ⟨h, h2⟩ | ⟨h, h2⟩
                         · have h4 : 0 ≤ f9 := by omega
                           by_cases h5 : ((1 : Int) = 0)
                           · omega
                           · exact Or.inl ⟨by omega, h4, h2⟩
                         · exact Or.inr ⟨by omega, fun h3 => h2 h3.2⟩)
                      | exact Or.inr ⟨rfl, fun h3 => by omega⟩)⟩, by rw [ht9]; exact hP, va_K.moved hW9.alike hK⟩, hS.F ht9⟩) hS.2.2 dX10_hasAt_35
    · refine lv_iconst (v := iZ 1) hx hb dX10_hasAt_30 rfl ?_
      refine lv_goto (tgt := 35) hx hb dX10_hasAt_31 (by decide) ?_
      exact W.zret (v := iZ (1)) hx hb hr (by decide +kernel) (fun t9 ht9 hW9 => ⟨⟨iZ (1), (μ, 1), rfl, ⟨rfl, (by
                    dsimp only
                    refine ⟨rfl, ?_⟩
                    first
                      | (have c9 := c27_
                         rcases hμ1 with ⟨h, h2⟩ | ⟨h, h2⟩
                         · have h4 : 0 ≤ f9 := by omega
                           by_cases h5 : ((1 : Int) = 0)
                           · omega
                           · exact Or.inl ⟨by omega, h4, h2⟩
                         · exact Or.inr ⟨by omega, fun h3 => h2 h3.2⟩)
                      | exact Or.inr ⟨rfl, fun h3 => by omega⟩)⟩, by rw [ht9]; exact hP, va_K.moved hW9.alike hK⟩, hS.F ht9⟩) hS.2.2 dX10_hasAt_35

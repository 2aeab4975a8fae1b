theorem k1460 : (Cond.methodLink "PageSkeletonModel" (252 : Nat) ({ cls := "PageSkeletonModel", name := "areNext", desc := "(III[III)Z" } : MethodName)) ∈ wsG := wsG_at 1460 (by decide +kernel) (by decide +kernel)
theorem k1462 : (Cond.instanceMethod ({ cls := "PageSkeletonModel", name := "areNext", desc := "(III[III)Z" } : MethodName)) ∈ wsG := wsG_at 1462 (by decide +kernel) (by decide +kernel)
theorem k1463 : (Cond.code ({ cls := "PageSkeletonModel", name := "areNext", desc := "(III[III)Z" } : MethodName) prog_12_method_34_code (10 : Nat) (Option.some FieldType.boolean)) ∈ wsG := wsG_at 1463 (by decide +kernel) (by decide +kernel)
theorem k1468 : (Cond.methodLink "PageSkeletonModel" (256 : Nat) ({ cls := "PageSkeletonModel", name := "fusesRow", desc := "(III[III)I" } : MethodName)) ∈ wsG := wsG_at 1468 (by decide +kernel) (by decide +kernel)
theorem k1470 : (Cond.instanceMethod ({ cls := "PageSkeletonModel", name := "fusesRow", desc := "(III[III)I" } : MethodName)) ∈ wsG := wsG_at 1470 (by decide +kernel) (by decide +kernel)
theorem k1471 : (Cond.code ({ cls := "PageSkeletonModel", name := "fusesRow", desc := "(III[III)I" } : MethodName) prog_12_method_35_code (11 : Nat) (Option.some FieldType.int)) ∈ wsG := wsG_at 1471 (by decide +kernel) (by decide +kernel)
theorem k1552 : (Cond.methodLink "PageSkeletonModel" (248 : Nat) ({ cls := "PageSkeletonModel", name := "meets", desc := "(IIII)I" } : MethodName)) ∈ wsG := wsG_at 1552 (by decide +kernel) (by decide +kernel)
theorem k1554 : (Cond.instanceMethod ({ cls := "PageSkeletonModel", name := "meets", desc := "(IIII)I" } : MethodName)) ∈ wsG := wsG_at 1554 (by decide +kernel) (by decide +kernel)
theorem k1555 : (Cond.code ({ cls := "PageSkeletonModel", name := "meets", desc := "(IIII)I" } : MethodName) prog_12_method_37_code (10 : Nat) (Option.some FieldType.int)) ∈ wsG := wsG_at 1555 (by decide +kernel) (by decide +kernel)
theorem ks_yX10_areNext : Cond.selects RX10 yX10_areNext yX10_areNext ∈ wsG := wsG_mem (by decide +kernel) (by decide +kernel)
theorem ks_yX10_fusesRow : Cond.selects RX10 yX10_fusesRow yX10_fusesRow ∈ wsG := wsG_mem (by decide +kernel) (by decide +kernel)
theorem ks_yX10_meets : Cond.selects RX10 yX10_meets yX10_meets ∈ wsG := wsG_mem (by decide +kernel) (by decide +kernel)
theorem dX10_costOf_0 : decode cX10_costOf 0 = .ok (.aload_n 0, 1) := by decide +kernel
theorem dX10_costOf_1 : decode cX10_costOf 1 = .ok (.getfield 76, 3) := by decide +kernel
theorem dX10_costOf_4 : decode cX10_costOf 4 = .ok (.iload_n 2, 1) := by decide +kernel
theorem dX10_costOf_5 : decode cX10_costOf 5 = .ok (.iaload, 1) := by decide +kernel
theorem dX10_costOf_6 : decode cX10_costOf 6 = .ok (.istore 5, 2) := by decide +kernel
theorem dX10_costOf_8 : decode cX10_costOf 8 = .ok (.aload_n 0, 1) := by decide +kernel
theorem dX10_costOf_9 : decode cX10_costOf 9 = .ok (.getfield 79, 3) := by decide +kernel
theorem dX10_costOf_12 : decode cX10_costOf 12 = .ok (.iload_n 2, 1) := by decide +kernel
theorem dX10_costOf_13 : decode cX10_costOf 13 = .ok (.iaload, 1) := by decide +kernel
theorem dX10_costOf_14 : decode cX10_costOf 14 = .ok (.istore 6, 2) := by decide +kernel
theorem dX10_costOf_16 : decode cX10_costOf 16 = .ok (.iload_n 3, 1) := by decide +kernel
theorem dX10_costOf_17 : decode cX10_costOf 17 = .ok (.aload_n 0, 1) := by decide +kernel
theorem dX10_costOf_18 : decode cX10_costOf 18 = .ok (.getfield 82, 3) := by decide +kernel
theorem dX10_costOf_21 : decode cX10_costOf 21 = .ok (.iload_n 2, 1) := by decide +kernel
theorem dX10_costOf_22 : decode cX10_costOf 22 = .ok (.iaload, 1) := by decide +kernel
theorem dX10_costOf_23 : decode cX10_costOf 23 = .ok (.if_icmp .ge 14, 3) := by decide +kernel
theorem dX10_costOf_26 : decode cX10_costOf 26 = .ok (.aload_n 0, 1) := by decide +kernel
theorem dX10_costOf_27 : decode cX10_costOf 27 = .ok (.getfield 64, 3) := by decide +kernel
theorem dX10_costOf_30 : decode cX10_costOf 30 = .ok (.iload_n 2, 1) := by decide +kernel
theorem dX10_costOf_31 : decode cX10_costOf 31 = .ok (.aaload, 1) := by decide +kernel
theorem dX10_costOf_32 : decode cX10_costOf 32 = .ok (.iload_n 3, 1) := by decide +kernel
theorem dX10_costOf_33 : decode cX10_costOf 33 = .ok (.iaload, 1) := by decide +kernel
theorem dX10_costOf_34 : decode cX10_costOf 34 = .ok (.goto 4, 3) := by decide +kernel
theorem dX10_costOf_37 : decode cX10_costOf 37 = .ok (.iconst (-1), 1) := by decide +kernel
theorem dX10_costOf_38 : decode cX10_costOf 38 = .ok (.istore 7, 2) := by decide +kernel
theorem dX10_costOf_40 : decode cX10_costOf 40 = .ok (.iload 4, 2) := by decide +kernel
theorem dX10_costOf_42 : decode cX10_costOf 42 = .ok (.aload_n 0, 1) := by decide +kernel
theorem dX10_costOf_43 : decode cX10_costOf 43 = .ok (.getfield 85, 3) := by decide +kernel
theorem dX10_costOf_46 : decode cX10_costOf 46 = .ok (.iload_n 2, 1) := by decide +kernel
theorem dX10_costOf_47 : decode cX10_costOf 47 = .ok (.iaload, 1) := by decide +kernel
theorem dX10_costOf_48 : decode cX10_costOf 48 = .ok (.if_icmp .ge 15, 3) := by decide +kernel
theorem dX10_costOf_51 : decode cX10_costOf 51 = .ok (.aload_n 0, 1) := by decide +kernel
theorem dX10_costOf_52 : decode cX10_costOf 52 = .ok (.getfield 67, 3) := by decide +kernel
theorem dX10_costOf_55 : decode cX10_costOf 55 = .ok (.iload_n 2, 1) := by decide +kernel
theorem dX10_costOf_56 : decode cX10_costOf 56 = .ok (.aaload, 1) := by decide +kernel
theorem dX10_costOf_57 : decode cX10_costOf 57 = .ok (.iload 4, 2) := by decide +kernel
theorem dX10_costOf_59 : decode cX10_costOf 59 = .ok (.iaload, 1) := by decide +kernel
theorem dX10_costOf_60 : decode cX10_costOf 60 = .ok (.goto 4, 3) := by decide +kernel
theorem dX10_costOf_63 : decode cX10_costOf 63 = .ok (.iconst (-1), 1) := by decide +kernel
theorem dX10_costOf_64 : decode cX10_costOf 64 = .ok (.istore 8, 2) := by decide +kernel
theorem dX10_costOf_66 : decode cX10_costOf 66 = .ok (.iload_n 1, 1) := by decide +kernel
theorem dX10_costOf_67 : decode cX10_costOf 67 = .ok (.iconst 4, 1) := by decide +kernel
theorem dX10_costOf_68 : decode cX10_costOf 68 = .ok (.if_icmp .ne 68, 3) := by decide +kernel
theorem dX10_costOf_71 : decode cX10_costOf 71 = .ok (.iload 7, 2) := by decide +kernel
theorem dX10_costOf_73 : decode cX10_costOf 73 = .ok (.iconst (-1), 1) := by decide +kernel
theorem dX10_costOf_74 : decode cX10_costOf 74 = .ok (.if_icmp .ne 8, 3) := by decide +kernel
theorem dX10_costOf_77 : decode cX10_costOf 77 = .ok (.ldc 247, 2) := by decide +kernel
theorem dX10_costOf_79 : decode cX10_costOf 79 = .ok (.goto 56, 3) := by decide +kernel
theorem dX10_costOf_82 : decode cX10_costOf 82 = .ok (.aload_n 0, 1) := by decide +kernel
theorem dX10_costOf_83 : decode cX10_costOf 83 = .ok (.getfield 45, 3) := by decide +kernel
theorem dX10_costOf_86 : decode cX10_costOf 86 = .ok (.iload 5, 2) := by decide +kernel
theorem dX10_costOf_88 : decode cX10_costOf 88 = .ok (.aaload, 1) := by decide +kernel
theorem dX10_costOf_89 : decode cX10_costOf 89 = .ok (.iload 7, 2) := by decide +kernel
theorem dX10_costOf_91 : decode cX10_costOf 91 = .ok (.iaload, 1) := by decide +kernel
theorem dX10_costOf_92 : decode cX10_costOf 92 = .ok (.iconst 3, 1) := by decide +kernel
theorem dX10_costOf_93 : decode cX10_costOf 93 = .ok (.if_icmp .ne 7, 3) := by decide +kernel
theorem dX10_costOf_96 : decode cX10_costOf 96 = .ok (.iconst 0, 1) := by decide +kernel
theorem dX10_costOf_97 : decode cX10_costOf 97 = .ok (.goto 24, 3) := by decide +kernel
theorem dX10_costOf_100 : decode cX10_costOf 100 = .ok (.aload_n 0, 1) := by decide +kernel
theorem dX10_costOf_101 : decode cX10_costOf 101 = .ok (.iload 5, 2) := by decide +kernel
theorem dX10_costOf_103 : decode cX10_costOf 103 = .ok (.iload 7, 2) := by decide +kernel
theorem dX10_costOf_105 : decode cX10_costOf 105 = .ok (.iload 7, 2) := by decide +kernel
theorem dX10_costOf_107 : decode cX10_costOf 107 = .ok (.aload_n 0, 1) := by decide +kernel
theorem dX10_costOf_108 : decode cX10_costOf 108 = .ok (.getfield 51, 3) := by decide +kernel
theorem dX10_costOf_111 : decode cX10_costOf 111 = .ok (.iload 5, 2) := by decide +kernel
theorem dX10_costOf_113 : decode cX10_costOf 113 = .ok (.aaload, 1) := by decide +kernel
theorem dX10_costOf_114 : decode cX10_costOf 114 = .ok (.iload 7, 2) := by decide +kernel
theorem dX10_costOf_116 : decode cX10_costOf 116 = .ok (.iaload, 1) := by decide +kernel
theorem dX10_costOf_117 : decode cX10_costOf 117 = .ok (.iadd, 1) := by decide +kernel
theorem dX10_costOf_118 : decode cX10_costOf 118 = .ok (.invokevirtual 222, 3) := by decide +kernel
theorem dX10_costOf_121 : decode cX10_costOf 121 = .ok (.aload_n 0, 1) := by decide +kernel
theorem dX10_costOf_122 : decode cX10_costOf 122 = .ok (.getfield 73, 3) := by decide +kernel
theorem dX10_costOf_125 : decode cX10_costOf 125 = .ok (.iload_n 2, 1) := by decide +kernel
theorem dX10_costOf_126 : decode cX10_costOf 126 = .ok (.aaload, 1) := by decide +kernel
theorem dX10_costOf_127 : decode cX10_costOf 127 = .ok (.iload_n 3, 1) := by decide +kernel
theorem dX10_costOf_128 : decode cX10_costOf 128 = .ok (.iconst 1, 1) := by decide +kernel
theorem dX10_costOf_129 : decode cX10_costOf 129 = .ok (.iadd, 1) := by decide +kernel
theorem dX10_costOf_130 : decode cX10_costOf 130 = .ok (.aaload, 1) := by decide +kernel
theorem dX10_costOf_131 : decode cX10_costOf 131 = .ok (.iload 4, 2) := by decide +kernel
theorem dX10_costOf_133 : decode cX10_costOf 133 = .ok (.iaload, 1) := by decide +kernel
theorem dX10_costOf_134 : decode cX10_costOf 134 = .ok (.iadd, 1) := by decide +kernel
theorem dX10_costOf_135 : decode cX10_costOf 135 = .ok (.ireturn, 1) := by decide +kernel
theorem dX10_costOf_136 : decode cX10_costOf 136 = .ok (.iload_n 1, 1) := by decide +kernel
theorem dX10_costOf_137 : decode cX10_costOf 137 = .ok (.iconst 5, 1) := by decide +kernel
theorem dX10_costOf_138 : decode cX10_costOf 138 = .ok (.if_icmp .ne 50, 3) := by decide +kernel
theorem dX10_costOf_141 : decode cX10_costOf 141 = .ok (.iload 8, 2) := by decide +kernel
theorem dX10_costOf_143 : decode cX10_costOf 143 = .ok (.iconst (-1), 1) := by decide +kernel
theorem dX10_costOf_144 : decode cX10_costOf 144 = .ok (.if_icmp .ne 8, 3) := by decide +kernel
theorem dX10_costOf_147 : decode cX10_costOf 147 = .ok (.ldc 247, 2) := by decide +kernel
theorem dX10_costOf_149 : decode cX10_costOf 149 = .ok (.goto 38, 3) := by decide +kernel
theorem dX10_costOf_152 : decode cX10_costOf 152 = .ok (.aload_n 0, 1) := by decide +kernel
theorem dX10_costOf_153 : decode cX10_costOf 153 = .ok (.iload 6, 2) := by decide +kernel
theorem dX10_costOf_155 : decode cX10_costOf 155 = .ok (.iload 8, 2) := by decide +kernel
theorem dX10_costOf_157 : decode cX10_costOf 157 = .ok (.iload 8, 2) := by decide +kernel
theorem dX10_costOf_159 : decode cX10_costOf 159 = .ok (.aload_n 0, 1) := by decide +kernel
theorem dX10_costOf_160 : decode cX10_costOf 160 = .ok (.getfield 51, 3) := by decide +kernel
theorem dX10_costOf_163 : decode cX10_costOf 163 = .ok (.iload 6, 2) := by decide +kernel
theorem dX10_costOf_165 : decode cX10_costOf 165 = .ok (.aaload, 1) := by decide +kernel
theorem dX10_costOf_166 : decode cX10_costOf 166 = .ok (.iload 8, 2) := by decide +kernel
theorem dX10_costOf_168 : decode cX10_costOf 168 = .ok (.iaload, 1) := by decide +kernel
theorem dX10_costOf_169 : decode cX10_costOf 169 = .ok (.iadd, 1) := by decide +kernel
theorem dX10_costOf_170 : decode cX10_costOf 170 = .ok (.invokevirtual 222, 3) := by decide +kernel
theorem dX10_costOf_173 : decode cX10_costOf 173 = .ok (.aload_n 0, 1) := by decide +kernel
theorem dX10_costOf_174 : decode cX10_costOf 174 = .ok (.getfield 73, 3) := by decide +kernel
theorem dX10_costOf_177 : decode cX10_costOf 177 = .ok (.iload_n 2, 1) := by decide +kernel
theorem dX10_costOf_178 : decode cX10_costOf 178 = .ok (.aaload, 1) := by decide +kernel
theorem dX10_costOf_179 : decode cX10_costOf 179 = .ok (.iload_n 3, 1) := by decide +kernel
theorem dX10_costOf_180 : decode cX10_costOf 180 = .ok (.aaload, 1) := by decide +kernel
theorem dX10_costOf_181 : decode cX10_costOf 181 = .ok (.iload 4, 2) := by decide +kernel
theorem dX10_costOf_183 : decode cX10_costOf 183 = .ok (.iconst 1, 1) := by decide +kernel
theorem dX10_costOf_184 : decode cX10_costOf 184 = .ok (.iadd, 1) := by decide +kernel
theorem dX10_costOf_185 : decode cX10_costOf 185 = .ok (.iaload, 1) := by decide +kernel
theorem dX10_costOf_186 : decode cX10_costOf 186 = .ok (.iadd, 1) := by decide +kernel
theorem dX10_costOf_187 : decode cX10_costOf 187 = .ok (.ireturn, 1) := by decide +kernel
theorem dX10_costOf_188 : decode cX10_costOf 188 = .ok (.iload 7, 2) := by decide +kernel
theorem dX10_costOf_190 : decode cX10_costOf 190 = .ok (.iconst (-1), 1) := by decide +kernel
theorem dX10_costOf_191 : decode cX10_costOf 191 = .ok (.if_icmp .eq 9, 3) := by decide +kernel
theorem dX10_costOf_194 : decode cX10_costOf 194 = .ok (.iload 8, 2) := by decide +kernel
theorem dX10_costOf_196 : decode cX10_costOf 196 = .ok (.iconst (-1), 1) := by decide +kernel
theorem dX10_costOf_197 : decode cX10_costOf 197 = .ok (.if_icmp .ne 6, 3) := by decide +kernel
theorem dX10_costOf_200 : decode cX10_costOf 200 = .ok (.ldc 247, 2) := by decide +kernel
theorem dX10_costOf_202 : decode cX10_costOf 202 = .ok (.ireturn, 1) := by decide +kernel
theorem dX10_costOf_203 : decode cX10_costOf 203 = .ok (.iload_n 1, 1) := by decide +kernel
theorem dX10_costOf_204 : decode cX10_costOf 204 = .ok (.iconst 1, 1) := by decide +kernel
theorem dX10_costOf_205 : decode cX10_costOf 205 = .ok (.if_icmp .ne 30, 3) := by decide +kernel
theorem dX10_costOf_208 : decode cX10_costOf 208 = .ok (.aload_n 0, 1) := by decide +kernel
theorem dX10_costOf_209 : decode cX10_costOf 209 = .ok (.iload_n 2, 1) := by decide +kernel
theorem dX10_costOf_210 : decode cX10_costOf 210 = .ok (.iload 7, 2) := by decide +kernel
theorem dX10_costOf_212 : decode cX10_costOf 212 = .ok (.iload 8, 2) := by decide +kernel
theorem dX10_costOf_214 : decode cX10_costOf 214 = .ok (.iconst (-1), 1) := by decide +kernel
theorem dX10_costOf_215 : decode cX10_costOf 215 = .ok (.invokevirtual 248, 3) := by decide +kernel
theorem dX10_costOf_218 : decode cX10_costOf 218 = .ok (.aload_n 0, 1) := by decide +kernel
theorem dX10_costOf_219 : decode cX10_costOf 219 = .ok (.getfield 73, 3) := by decide +kernel
theorem dX10_costOf_222 : decode cX10_costOf 222 = .ok (.iload_n 2, 1) := by decide +kernel
theorem dX10_costOf_223 : decode cX10_costOf 223 = .ok (.aaload, 1) := by decide +kernel
theorem dX10_costOf_224 : decode cX10_costOf 224 = .ok (.iload_n 3, 1) := by decide +kernel
theorem dX10_costOf_225 : decode cX10_costOf 225 = .ok (.iconst 1, 1) := by decide +kernel
theorem dX10_costOf_226 : decode cX10_costOf 226 = .ok (.iadd, 1) := by decide +kernel
theorem dX10_costOf_227 : decode cX10_costOf 227 = .ok (.aaload, 1) := by decide +kernel
theorem dX10_costOf_228 : decode cX10_costOf 228 = .ok (.iload 4, 2) := by decide +kernel
theorem dX10_costOf_230 : decode cX10_costOf 230 = .ok (.iconst 1, 1) := by decide +kernel
theorem dX10_costOf_231 : decode cX10_costOf 231 = .ok (.iadd, 1) := by decide +kernel
theorem dX10_costOf_232 : decode cX10_costOf 232 = .ok (.iaload, 1) := by decide +kernel
theorem dX10_costOf_233 : decode cX10_costOf 233 = .ok (.iadd, 1) := by decide +kernel
theorem dX10_costOf_234 : decode cX10_costOf 234 = .ok (.ireturn, 1) := by decide +kernel
theorem dX10_costOf_235 : decode cX10_costOf 235 = .ok (.iload_n 1, 1) := by decide +kernel
theorem dX10_costOf_236 : decode cX10_costOf 236 = .ok (.iconst 2, 1) := by decide +kernel
theorem dX10_costOf_237 : decode cX10_costOf 237 = .ok (.if_icmp .ne 90, 3) := by decide +kernel
theorem dX10_costOf_240 : decode cX10_costOf 240 = .ok (.aload_n 0, 1) := by decide +kernel
theorem dX10_costOf_241 : decode cX10_costOf 241 = .ok (.getfield 45, 3) := by decide +kernel
theorem dX10_costOf_244 : decode cX10_costOf 244 = .ok (.iload 5, 2) := by decide +kernel
theorem dX10_costOf_246 : decode cX10_costOf 246 = .ok (.aaload, 1) := by decide +kernel
theorem dX10_costOf_247 : decode cX10_costOf 247 = .ok (.iload 7, 2) := by decide +kernel
theorem dX10_costOf_249 : decode cX10_costOf 249 = .ok (.iaload, 1) := by decide +kernel
theorem dX10_costOf_250 : decode cX10_costOf 250 = .ok (.iconst 3, 1) := by decide +kernel
theorem dX10_costOf_251 : decode cX10_costOf 251 = .ok (.if_icmp .lt 30, 3) := by decide +kernel
theorem dX10_costOf_254 : decode cX10_costOf 254 = .ok (.aload_n 0, 1) := by decide +kernel
theorem dX10_costOf_255 : decode cX10_costOf 255 = .ok (.iload 5, 2) := by decide +kernel
theorem dX10_costOf_257 : decode cX10_costOf 257 = .ok (.iload 7, 2) := by decide +kernel
theorem dX10_costOf_259 : decode cX10_costOf 259 = .ok (.iload 6, 2) := by decide +kernel
theorem dX10_costOf_261 : decode cX10_costOf 261 = .ok (.aload_n 0, 1) := by decide +kernel
theorem dX10_costOf_262 : decode cX10_costOf 262 = .ok (.getfield 67, 3) := by decide +kernel
theorem dX10_costOf_265 : decode cX10_costOf 265 = .ok (.iload_n 2, 1) := by decide +kernel
theorem dX10_costOf_266 : decode cX10_costOf 266 = .ok (.aaload, 1) := by decide +kernel
theorem dX10_costOf_267 : decode cX10_costOf 267 = .ok (.iload 4, 2) := by decide +kernel
theorem dX10_costOf_269 : decode cX10_costOf 269 = .ok (.aload_n 0, 1) := by decide +kernel
theorem dX10_costOf_270 : decode cX10_costOf 270 = .ok (.getfield 85, 3) := by decide +kernel
theorem dX10_costOf_273 : decode cX10_costOf 273 = .ok (.iload_n 2, 1) := by decide +kernel
theorem dX10_costOf_274 : decode cX10_costOf 274 = .ok (.iaload, 1) := by decide +kernel
theorem dX10_costOf_275 : decode cX10_costOf 275 = .ok (.invokevirtual 252, 3) := by decide +kernel
theorem dX10_costOf_278 : decode cX10_costOf 278 = .ok (.ifCond .ne 6, 3) := by decide +kernel
theorem dX10_costOf_281 : decode cX10_costOf 281 = .ok (.ldc 247, 2) := by decide +kernel
theorem dX10_costOf_283 : decode cX10_costOf 283 = .ok (.ireturn, 1) := by decide +kernel
theorem dX10_costOf_284 : decode cX10_costOf 284 = .ok (.aload_n 0, 1) := by decide +kernel
theorem dX10_costOf_285 : decode cX10_costOf 285 = .ok (.iload 5, 2) := by decide +kernel
theorem dX10_costOf_287 : decode cX10_costOf 287 = .ok (.iload 7, 2) := by decide +kernel
theorem dX10_costOf_289 : decode cX10_costOf 289 = .ok (.iload 6, 2) := by decide +kernel
theorem dX10_costOf_291 : decode cX10_costOf 291 = .ok (.aload_n 0, 1) := by decide +kernel
theorem dX10_costOf_292 : decode cX10_costOf 292 = .ok (.getfield 67, 3) := by decide +kernel
theorem dX10_costOf_295 : decode cX10_costOf 295 = .ok (.iload_n 2, 1) := by decide +kernel
theorem dX10_costOf_296 : decode cX10_costOf 296 = .ok (.aaload, 1) := by decide +kernel
theorem dX10_costOf_297 : decode cX10_costOf 297 = .ok (.iload 4, 2) := by decide +kernel
theorem dX10_costOf_299 : decode cX10_costOf 299 = .ok (.iconst (-1), 1) := by decide +kernel
theorem dX10_costOf_300 : decode cX10_costOf 300 = .ok (.invokevirtual 256, 3) := by decide +kernel
theorem dX10_costOf_303 : decode cX10_costOf 303 = .ok (.aload_n 0, 1) := by decide +kernel
theorem dX10_costOf_304 : decode cX10_costOf 304 = .ok (.getfield 73, 3) := by decide +kernel
theorem dX10_costOf_307 : decode cX10_costOf 307 = .ok (.iload_n 2, 1) := by decide +kernel
theorem dX10_costOf_308 : decode cX10_costOf 308 = .ok (.aaload, 1) := by decide +kernel
theorem dX10_costOf_309 : decode cX10_costOf 309 = .ok (.iload_n 3, 1) := by decide +kernel
theorem dX10_costOf_310 : decode cX10_costOf 310 = .ok (.iconst 1, 1) := by decide +kernel
theorem dX10_costOf_311 : decode cX10_costOf 311 = .ok (.iadd, 1) := by decide +kernel
theorem dX10_costOf_312 : decode cX10_costOf 312 = .ok (.aaload, 1) := by decide +kernel
theorem dX10_costOf_313 : decode cX10_costOf 313 = .ok (.iload 4, 2) := by decide +kernel
theorem dX10_costOf_315 : decode cX10_costOf 315 = .ok (.aload_n 0, 1) := by decide +kernel
theorem dX10_costOf_316 : decode cX10_costOf 316 = .ok (.iload 5, 2) := by decide +kernel
theorem dX10_costOf_318 : decode cX10_costOf 318 = .ok (.iload 7, 2) := by decide +kernel
theorem dX10_costOf_320 : decode cX10_costOf 320 = .ok (.invokevirtual 207, 3) := by decide +kernel
theorem dX10_costOf_323 : decode cX10_costOf 323 = .ok (.iadd, 1) := by decide +kernel
theorem dX10_costOf_324 : decode cX10_costOf 324 = .ok (.iaload, 1) := by decide +kernel
theorem dX10_costOf_325 : decode cX10_costOf 325 = .ok (.iadd, 1) := by decide +kernel
theorem dX10_costOf_326 : decode cX10_costOf 326 = .ok (.ireturn, 1) := by decide +kernel
theorem dX10_costOf_327 : decode cX10_costOf 327 = .ok (.aload_n 0, 1) := by decide +kernel
theorem dX10_costOf_328 : decode cX10_costOf 328 = .ok (.getfield 45, 3) := by decide +kernel
theorem dX10_costOf_331 : decode cX10_costOf 331 = .ok (.iload 6, 2) := by decide +kernel
theorem dX10_costOf_333 : decode cX10_costOf 333 = .ok (.aaload, 1) := by decide +kernel
theorem dX10_costOf_334 : decode cX10_costOf 334 = .ok (.iload 8, 2) := by decide +kernel
theorem dX10_costOf_336 : decode cX10_costOf 336 = .ok (.iaload, 1) := by decide +kernel
theorem dX10_costOf_337 : decode cX10_costOf 337 = .ok (.iconst 4, 1) := by decide +kernel
theorem dX10_costOf_338 : decode cX10_costOf 338 = .ok (.if_icmp .ne 29, 3) := by decide +kernel
theorem dX10_costOf_341 : decode cX10_costOf 341 = .ok (.aload_n 0, 1) := by decide +kernel
theorem dX10_costOf_342 : decode cX10_costOf 342 = .ok (.iload 6, 2) := by decide +kernel
theorem dX10_costOf_344 : decode cX10_costOf 344 = .ok (.iload 8, 2) := by decide +kernel
theorem dX10_costOf_346 : decode cX10_costOf 346 = .ok (.iload 5, 2) := by decide +kernel
theorem dX10_costOf_348 : decode cX10_costOf 348 = .ok (.aload_n 0, 1) := by decide +kernel
theorem dX10_costOf_349 : decode cX10_costOf 349 = .ok (.getfield 64, 3) := by decide +kernel
theorem dX10_costOf_352 : decode cX10_costOf 352 = .ok (.iload_n 2, 1) := by decide +kernel
theorem dX10_costOf_353 : decode cX10_costOf 353 = .ok (.aaload, 1) := by decide +kernel
theorem dX10_costOf_354 : decode cX10_costOf 354 = .ok (.iload_n 3, 1) := by decide +kernel
theorem dX10_costOf_355 : decode cX10_costOf 355 = .ok (.aload_n 0, 1) := by decide +kernel
theorem dX10_costOf_356 : decode cX10_costOf 356 = .ok (.getfield 82, 3) := by decide +kernel
theorem dX10_costOf_359 : decode cX10_costOf 359 = .ok (.iload_n 2, 1) := by decide +kernel
theorem dX10_costOf_360 : decode cX10_costOf 360 = .ok (.iaload, 1) := by decide +kernel
theorem dX10_costOf_361 : decode cX10_costOf 361 = .ok (.invokevirtual 252, 3) := by decide +kernel
theorem dX10_costOf_364 : decode cX10_costOf 364 = .ok (.ifCond .ne 6, 3) := by decide +kernel
theorem dX10_costOf_367 : decode cX10_costOf 367 = .ok (.ldc 247, 2) := by decide +kernel
theorem dX10_costOf_369 : decode cX10_costOf 369 = .ok (.ireturn, 1) := by decide +kernel
theorem dX10_costOf_370 : decode cX10_costOf 370 = .ok (.aload_n 0, 1) := by decide +kernel
theorem dX10_costOf_371 : decode cX10_costOf 371 = .ok (.iload 6, 2) := by decide +kernel
theorem dX10_costOf_373 : decode cX10_costOf 373 = .ok (.iload 8, 2) := by decide +kernel
theorem dX10_costOf_375 : decode cX10_costOf 375 = .ok (.iload 5, 2) := by decide +kernel
theorem dX10_costOf_377 : decode cX10_costOf 377 = .ok (.aload_n 0, 1) := by decide +kernel
theorem dX10_costOf_378 : decode cX10_costOf 378 = .ok (.getfield 64, 3) := by decide +kernel
theorem dX10_costOf_381 : decode cX10_costOf 381 = .ok (.iload_n 2, 1) := by decide +kernel
theorem dX10_costOf_382 : decode cX10_costOf 382 = .ok (.aaload, 1) := by decide +kernel
theorem dX10_costOf_383 : decode cX10_costOf 383 = .ok (.iload_n 3, 1) := by decide +kernel
theorem dX10_costOf_384 : decode cX10_costOf 384 = .ok (.iconst (-1), 1) := by decide +kernel
theorem dX10_costOf_385 : decode cX10_costOf 385 = .ok (.invokevirtual 256, 3) := by decide +kernel
theorem dX10_costOf_388 : decode cX10_costOf 388 = .ok (.aload_n 0, 1) := by decide +kernel
theorem dX10_costOf_389 : decode cX10_costOf 389 = .ok (.getfield 73, 3) := by decide +kernel
theorem dX10_costOf_392 : decode cX10_costOf 392 = .ok (.iload_n 2, 1) := by decide +kernel
theorem dX10_costOf_393 : decode cX10_costOf 393 = .ok (.aaload, 1) := by decide +kernel
theorem dX10_costOf_394 : decode cX10_costOf 394 = .ok (.iload_n 3, 1) := by decide +kernel
theorem dX10_costOf_395 : decode cX10_costOf 395 = .ok (.aload_n 0, 1) := by decide +kernel
theorem dX10_costOf_396 : decode cX10_costOf 396 = .ok (.iload 6, 2) := by decide +kernel
theorem dX10_costOf_398 : decode cX10_costOf 398 = .ok (.iload 8, 2) := by decide +kernel
theorem dX10_costOf_400 : decode cX10_costOf 400 = .ok (.invokevirtual 207, 3) := by decide +kernel
theorem dX10_costOf_403 : decode cX10_costOf 403 = .ok (.iadd, 1) := by decide +kernel
theorem dX10_costOf_404 : decode cX10_costOf 404 = .ok (.aaload, 1) := by decide +kernel
theorem dX10_costOf_405 : decode cX10_costOf 405 = .ok (.iload 4, 2) := by decide +kernel
theorem dX10_costOf_407 : decode cX10_costOf 407 = .ok (.iconst 1, 1) := by decide +kernel
theorem dX10_costOf_408 : decode cX10_costOf 408 = .ok (.iadd, 1) := by decide +kernel
theorem dX10_costOf_409 : decode cX10_costOf 409 = .ok (.iaload, 1) := by decide +kernel
theorem dX10_costOf_410 : decode cX10_costOf 410 = .ok (.iadd, 1) := by decide +kernel
theorem dX10_costOf_411 : decode cX10_costOf 411 = .ok (.ireturn, 1) := by decide +kernel
set_option maxHeartbeats 40000000 in
set_option maxRecDepth 100000 in
theorem m_costOf (l : Launch) (dC : Nat → ClassId) (dI : Nat → Nat → Nat) (cI cZ cII cIII : ClassId) (h0 : Nat) : ∀ (d : Nat), ∀ (sz : Nat) (μ : va_M) (n : Int) (q : Int) (i : Int) (j : Int) (t : Int) (u1 : Int) (wS : Rw) (wP : Rw) (ps : Int) (pq : Int), (∀ (sz : Nat) (μ : va_M) (n : Int) (t : Int) (a1 : Int) (a2 : Int) (u1 : Int) (b1 : Int) (b2 : Int) (o1 : Int) (wS : Rw) (wP : Rw), (0 ≤ n ∧ n + rH wP ≤ 13) → (0 ≤ t ∧ t < 70) → (0 ≤ u1 ∧ u1 < 70) → (0 ≤ a1 ∧ a2 = a1 + rN wS ∧ a2 ≤ 900) → (0 ≤ b1 ∧ b2 = b1 + rN wP ∧ b2 ≤ 900) → (RA μ t.toNat wS a1.toNat) → (RA μ u1.toNat wP b1.toNat) → (rWF wS) → (rWF wP) → (rL wS ≤ 259 ∧ rL wP ≤ 60 ∧ rH wS ≤ 20) → (-1 ≤ o1 ∧ o1 < 70 ∧ o1 ≠ t ∧ o1 ≠ u1) → (capI2 o1 (μ 719 o1.toNat) (rN (lrow wS wP))) → (rH wP < d) → Met l yX10_laysRow (Cond.code yX10_laysRow cX10_laysRow 13 (some .int) :: wsG) ({ frames := 5 * d + 32, cells := 0, slots := 0, locals := 200 * d + 900 } : Room) (va_Pc [.ref h0, .int (iZ (n)), .int (iZ (t)), .int (iZ (a1)), .int (iZ (a2)), .int (iZ (u1)), .int (iZ (b1)), .int (iZ (b2)), .int (iZ (o1))] (fun U => U.heap.size = sz ∧ va_P (dC, dI) vwCl (fw (mE cI cZ cII cIII h0) h0 6325 μ) U.heap ∧ va_K (dC, dI) vwCl (mT cI cZ cII cIII) U)) (va_Qi (fun (r9 : Int32) (u : va_M × Int) => r9 = iZ u.2 ∧ (fun (u : va_M) (r : Int) => r = (lay wS wP).1 ∧ u 0 33 = (if (lay wS wP).2 = true then 1 else 0) ∧ layO μ u n.toNat o1 (lrow wS wP)) u.1 u.2) (fun u t => va_P (dC, dI) vwCl (fw (mE cI cZ cII cIII h0) h0 6325 u.1) t.heap ∧ va_K (dC, dI) vwCl (mT cI cZ cII cIII) t) (fA h0 6325 sz)) 0 0 (fA h0 6325 sz)) → (0 ≤ n ∧ n + rH wP ≤ 13) → (lvS μ n.toNat t u1 wS wP ps pq) → (leA μ n.toNat wS wP i.toNat j.toNat) → (1 ≤ q ∧ q ≤ 5) → (0 ≤ i ∧ i ≤ rI wS) → (0 ≤ j ∧ j ≤ rI wP) → (0 ≤ t ∧ t < 70) → (0 ≤ u1 ∧ u1 < 70) → (t ≠ -1 ∧ u1 ≠ -1) → (0 ≤ ps ∧ ps + rN wS ≤ 900) → (0 ≤ pq ∧ pq + rN wP ≤ 900) → (rWF wS) → (rWF wP) → (rL wS ≤ 259 ∧ rL wP ≤ 60 ∧ rH wS ≤ 20) → (rH wP ≤ d) → Met l yX10_costOf (Cond.code yX10_costOf cX10_costOf 9 (some .int) :: wsG) ({ frames := 5 * d + 32 + 1 + 1, cells := 0, slots := 0, locals := 200 * d + 900 + 40 + 40 } : Room) (va_Pc [.ref h0, .int (iZ (q)), .int (iZ (n)), .int (iZ (i)), .int (iZ (j))] (fun U => U.heap.size = sz ∧ va_P (dC, dI) vwCl (fw (mE cI cZ cII cIII h0) h0 6325 μ) U.heap ∧ va_K (dC, dI) vwCl (mT cI cZ cII cIII) U)) (va_Qi (fun (r9 : Int32) (u : va_M × Int) => r9 = iZ u.2 ∧ (fun (u : va_M) (r : Int) => r = waF q (rdrop i.toNat wS) (rdrop j.toNat wP) ∧ fr (LD (n.toNat + 1)) μ u) u.1 u.2) (fun u t => va_P (dC, dI) vwCl (fw (mE cI cZ cII cIII h0) h0 6325 u.1) t.heap ∧ va_K (dC, dI) vwCl (mT cI cZ cII cIII) t) (fA h0 6325 sz)) 0 0 (fA h0 6325 sz) := by
  intro d
  induction d using Nat.strongRecOn with
  | _ d ih =>
  intro sz μ n q i j t u1 wS wP ps pq hLR hn hL hle hq hi hj ht hu htu hps hpq hwS hwP h260 hd
  refine Met.ofW (cc := cX10_costOf) (maxL := 9) (ret := (some .int)) (by decide) rfl ?_
  intro p e s m args below meth c s₁ B hml hv
  obtain ⟨rfl, hsz, hP, hK⟩ := hv
  have hx := B.exec
  have hb := B.bytes
  have hr := B.returns
  have hts : ∀ w ∈ wsG, w.before _ s = true := hG_of (atoms_spec (ws := (Cond.code yX10_costOf cX10_costOf 9 (some .int) :: wsG)) B.pre)
  have hown : s.vm.findClass RX10 = some m.cls := findClass_of_methodNamed B.named
  have hlocks := B.notSynchronized
  subst hsz
  have hS : va_S (fA h0 6325 s.heap.size) s.heap s.heap [] := va_S.rf
  have hl := lv_entry ([.ref h0, .int (iZ (q)), .int (iZ (n)), .int (iZ (i)), .int (iZ (j))]) (n := 9) (Nat.le_of_ble_eq_true rfl)
  rw [lg_entry_eq]
  generalize (lg_sl ([.ref h0, .int (iZ (q)), .int (iZ (n)), .int (iZ (i)), .int (iZ (j))]) ++ List.replicate (9 - (lg_sl ([.ref h0, .int (iZ (q)), .int (iZ (n)), .int (iZ (i)), .int (iZ (j))])).length) Slot.unset).toArray = ls at hl ⊢
  have hl : lv_has ls 9 [(0, .ref h0), (1, .int (iZ (q))), (2, .int (iZ (n))), (3, .int (iZ (i))), (4, .int (iZ (j)))] := hl
  have hIS := rI_L wS hwS
  have hIP := rI_L wP hwP
  obtain ⟨v1, v2, v3, v4, v5, v6, v7, v8⟩ := hL
  have ei1 : (i + 1).toNat = i.toNat + 1 := by (first | ((try clear hμ1); (try clear hμ2); (try clear hμ3); (try clear hμ4); (try clear hμ5); (try clear hμ6); (try clear hμ7); (try clear hμ8); (try clear hμm); (try clear hμr); (try clear h9); (try clear hnx9); omega) | omega)
  have ej1 : (j + 1).toNat = j.toNat + 1 := by (first | ((try clear hμ1); (try clear hμ2); (try clear hμ3); (try clear hμ4); (try clear hμ5); (try clear hμ6); (try clear hμ7); (try clear hμ8); (try clear hμm); (try clear hμr); (try clear h9); (try clear hnx9); omega) | omega)
  have hcr : ∀ a b : Nat, a ≤ rI wS → b ≤ rI wP → 0 ≤ (lay (rdrop a wS) (rdrop b wP)).1 ∧ (lay (rdrop a wS) (rdrop b wP)).1 ≤ 1800 := fun a b _ _ => by
    have h1 := lay_1 (rdrop a wS) (rdrop b wP)
    have h2 := rL_N (rdrop a wS)
    have h3 := rL_N (rdrop b wP)
    have h4 := rdrop_N2 a wS
    have h5 := rdrop_N2 b wP
    omega
  refine lv_aload_n hx hb dX10_costOf_0 rfl (lv_at hl 0 rfl) ?_
  refine fz_get (D := (dC, dI)) (ci := 10) (v := .ref (h0 + 4408)) (C := RX10) (T := TX10) (N := 53) hx hb hts inG10 hown hK hP (k := 0) (by decide) (F := mF h0) mE_obj rfl 34 (by decide) (hts _ k1200) (fun _ h9 => h9) rfl dX10_costOf_1 ?_
  refine lv_iload_n hx hb dX10_costOf_4 rfl (lv_at hl 2 rfl) ?_
  refine fz_ld (k := 4408) (n := 14) hx hb hK hP 0 (by decide) mE_treeS rfl ⟨by (first | ((try clear hμ1); (try clear hμ2); (try clear hμ3); (try clear hμ4); (try clear hμ5); (try clear hμ6); (try clear hμ7); (try clear hμ8); (try clear hμm); (try clear hμr); (try clear h9); (try clear hnx9); omega) | omega), by (first | ((try clear hμ1); (try clear hμ2); (try clear hμ3); (try clear hμ4); (try clear hμ5); (try clear hμ6); (try clear hμ7); (try clear hμ8); (try clear hμm); (try clear hμr); (try clear h9); (try clear hnx9); omega) | omega)⟩ (by decide) dX10_costOf_5 ?_
  rw [show μ 4408 (n).toNat = t from (by exact v1)]
  refine lv_istore (lv' := [(5, .int (iZ (t))), (0, .ref h0), (1, .int (iZ (q))), (2, .int (iZ (n))), (3, .int (iZ (i))), (4, .int (iZ (j)))]) hx hb dX10_costOf_6 hl (by decide) rfl (fun ls hl => ?_)
  refine lv_aload_n hx hb dX10_costOf_8 rfl (lv_at hl 1 rfl) ?_
  refine fz_get (D := (dC, dI)) (ci := 10) (v := .ref (h0 + 4409)) (C := RX10) (T := TX10) (N := 53) hx hb hts inG10 hown hK hP (k := 0) (by decide) (F := mF h0) mE_obj rfl 35 (by decide) (hts _ k1201) (fun _ h9 => h9) rfl dX10_costOf_9 ?_
  refine lv_iload_n hx hb dX10_costOf_12 rfl (lv_at hl 3 rfl) ?_
  refine fz_ld (k := 4409) (n := 14) hx hb hK hP 0 (by decide) mE_treeP rfl ⟨by (first | ((try clear hμ1); (try clear hμ2); (try clear hμ3); (try clear hμ4); (try clear hμ5); (try clear hμ6); (try clear hμ7); (try clear hμ8); (try clear hμm); (try clear hμr); (try clear h9); (try clear hnx9); omega) | omega), by (first | ((try clear hμ1); (try clear hμ2); (try clear hμ3); (try clear hμ4); (try clear hμ5); (try clear hμ6); (try clear hμ7); (try clear hμ8); (try clear hμm); (try clear hμr); (try clear h9); (try clear hnx9); omega) | omega)⟩ (by decide) dX10_costOf_13 ?_
  rw [show μ 4409 (n).toNat = u1 from (by exact v2)]
  refine lv_istore (lv' := [(6, .int (iZ (u1))), (5, .int (iZ (t))), (0, .ref h0), (1, .int (iZ (q))), (2, .int (iZ (n))), (3, .int (iZ (i))), (4, .int (iZ (j)))]) hx hb dX10_costOf_14 hl (by decide) rfl (fun ls hl => ?_)
  refine lv_iload_n hx hb dX10_costOf_16 rfl (lv_at hl 5 rfl) ?_
  refine lv_aload_n hx hb dX10_costOf_17 rfl (lv_at hl 2 rfl) ?_
  refine fz_get (D := (dC, dI)) (ci := 10) (v := .ref (h0 + 4410)) (C := RX10) (T := TX10) (N := 53) hx hb hts inG10 hown hK hP (k := 0) (by decide) (F := mF h0) mE_obj rfl 36 (by decide) (hts _ k1202) (fun _ h9 => h9) rfl dX10_costOf_18 ?_
  refine lv_iload_n hx hb dX10_costOf_21 rfl (lv_at hl 4 rfl) ?_
  refine fz_ld (k := 4410) (n := 14) hx hb hK hP 0 (by decide) mE_manyS rfl ⟨by (first | ((try clear hμ1); (try clear hμ2); (try clear hμ3); (try clear hμ4); (try clear hμ5); (try clear hμ6); (try clear hμ7); (try clear hμ8); (try clear hμm); (try clear hμr); (try clear h9); (try clear hnx9); omega) | omega), by (first | ((try clear hμ1); (try clear hμ2); (try clear hμ3); (try clear hμ4); (try clear hμ5); (try clear hμ6); (try clear hμ7); (try clear hμ8); (try clear hμm); (try clear hμr); (try clear h9); (try clear hnx9); omega) | omega)⟩ (by decide) dX10_costOf_22 ?_
  rw [show μ 4410 (n).toNat = (rI wS : Int) from (by exact v3)]
  refine fz_icmp_ge (tgt := 37) (by constructor <;> (first | ((try clear hμ1); (try clear hμ2); (try clear hμ3); (try clear hμ4); (try clear hμ5); (try clear hμ6); (try clear hμ7); (try clear hμ8); (try clear hμm); (try clear hμr); (try clear h9); (try clear hnx9); omega) | omega)) (by constructor <;> (first | ((try clear hμ1); (try clear hμ2); (try clear hμ3); (try clear hμ4); (try clear hμ5); (try clear hμ6); (try clear hμ7); (try clear hμ8); (try clear hμm); (try clear hμr); (try clear h9); (try clear hnx9); omega) | omega)) hx hb dX10_costOf_23 (by decide) (fun c23_ => ?_) (fun c23_ => ?_)
  · have hSe : rdrop i.toNat wS = .leaf := rdrop_0 (by (first | ((try clear hμ1); (try clear hμ2); (try clear hμ3); (try clear hμ4); (try clear hμ5); (try clear hμ6); (try clear hμ7); (try clear hμ8); (try clear hμm); (try clear hμr); (try clear h9); (try clear hnx9); omega) | omega))
    refine lv_iconst (v := iZ (-1)) hx hb dX10_costOf_37 rfl ?_
    refine lv_istore (lv' := [(7, .int (iZ ((-1)))), (6, .int (iZ (u1))), (5, .int (iZ (t))), (0, .ref h0), (1, .int (iZ (q))), (2, .int (iZ (n))), (3, .int (iZ (i))), (4, .int (iZ (j)))]) hx hb dX10_costOf_38 hl (by decide) rfl (fun ls hl => ?_)
    refine lv_iload hx hb dX10_costOf_40 (lv_at hl 7 rfl) ?_
    refine lv_aload_n hx hb dX10_costOf_42 rfl (lv_at hl 3 rfl) ?_
    refine fz_get (D := (dC, dI)) (ci := 10) (v := .ref (h0 + 4411)) (C := RX10) (T := TX10) (N := 53) hx hb hts inG10 hown hK hP (k := 0) (by decide) (F := mF h0) mE_obj rfl 37 (by decide) (hts _ k1203) (fun _ h9 => h9) rfl dX10_costOf_43 ?_
    refine lv_iload_n hx hb dX10_costOf_46 rfl (lv_at hl 5 rfl) ?_
    refine fz_ld (k := 4411) (n := 14) hx hb hK hP 0 (by decide) mE_manyP rfl ⟨by (first | ((try clear hμ1); (try clear hμ2); (try clear hμ3); (try clear hμ4); (try clear hμ5); (try clear hμ6); (try clear hμ7); (try clear hμ8); (try clear hμm); (try clear hμr); (try clear h9); (try clear hnx9); omega) | omega), by (first | ((try clear hμ1); (try clear hμ2); (try clear hμ3); (try clear hμ4); (try clear hμ5); (try clear hμ6); (try clear hμ7); (try clear hμ8); (try clear hμm); (try clear hμr); (try clear h9); (try clear hnx9); omega) | omega)⟩ (by decide) dX10_costOf_47 ?_
    rw [show μ 4411 (n).toNat = (rI wP : Int) from (by exact v4)]
    refine fz_icmp_ge (tgt := 63) (by constructor <;> (first | ((try clear hμ1); (try clear hμ2); (try clear hμ3); (try clear hμ4); (try clear hμ5); (try clear hμ6); (try clear hμ7); (try clear hμ8); (try clear hμm); (try clear hμr); (try clear h9); (try clear hnx9); omega) | omega)) (by constructor <;> (first | ((try clear hμ1); (try clear hμ2); (try clear hμ3); (try clear hμ4); (try clear hμ5); (try clear hμ6); (try clear hμ7); (try clear hμ8); (try clear hμm); (try clear hμr); (try clear h9); (try clear hnx9); omega) | omega)) hx hb dX10_costOf_48 (by decide) (fun c48_ => ?_) (fun c48_ => ?_)
    · have hPe : rdrop j.toNat wP = .leaf := rdrop_0 (by (first | ((try clear hμ1); (try clear hμ2); (try clear hμ3); (try clear hμ4); (try clear hμ5); (try clear hμ6); (try clear hμ7); (try clear hμ8); (try clear hμm); (try clear hμr); (try clear h9); (try clear hnx9); omega) | omega))
      refine lv_iconst (v := iZ (-1)) hx hb dX10_costOf_63 rfl ?_
      refine lv_istore (lv' := [(8, .int (iZ ((-1)))), (7, .int (iZ ((-1)))), (6, .int (iZ (u1))), (5, .int (iZ (t))), (0, .ref h0), (1, .int (iZ (q))), (2, .int (iZ (n))), (3, .int (iZ (i))), (4, .int (iZ (j)))]) hx hb dX10_costOf_64 hl (by decide) rfl (fun ls hl => ?_)
      refine lv_iload_n hx hb dX10_costOf_66 rfl (lv_at hl 5 rfl) ?_
      refine lv_iconst (v := iZ 4) hx hb dX10_costOf_67 rfl ?_
      refine fz_icmp_ne (tgt := 136) (by constructor <;> (first | ((try clear hμ1); (try clear hμ2); (try clear hμ3); (try clear hμ4); (try clear hμ5); (try clear hμ6); (try clear hμ7); (try clear hμ8); (try clear hμm); (try clear hμr); (try clear h9); (try clear hnx9); omega) | omega)) (by decide) hx hb dX10_costOf_68 (by decide) (fun c68_ => ?_) (fun c68_ => ?_)
      · refine lv_iload_n hx hb dX10_costOf_136 rfl (lv_at hl 5 rfl) ?_
        refine lv_iconst (v := iZ 5) hx hb dX10_costOf_137 rfl ?_
        refine fz_icmp_ne (tgt := 188) (by constructor <;> (first | ((try clear hμ1); (try clear hμ2); (try clear hμ3); (try clear hμ4); (try clear hμ5); (try clear hμ6); (try clear hμ7); (try clear hμ8); (try clear hμm); (try clear hμr); (try clear h9); (try clear hnx9); omega) | omega)) (by decide) hx hb dX10_costOf_138 (by decide) (fun c138_ => ?_) (fun c138_ => ?_)
        · refine lv_iload hx hb dX10_costOf_188 (lv_at hl 1 rfl) ?_
          refine lv_iconst (v := iZ (-1)) hx hb dX10_costOf_190 rfl ?_
          refine fz_icmp_eq (tgt := 200) (by decide) (by decide) hx hb dX10_costOf_191 (by decide) (fun c191_ => ?_) (fun h9 => absurd h9 (by decide))
          refine lv_ldc (v := iZ 1000000) hx hb hown (hts _ k1547) dX10_costOf_200 ?_
          exact W.iret (v := iZ (1000000)) hx hb hr (fun t9 ht9 hW9 => ⟨⟨iZ (1000000), (μ, 1000000), rfl, ⟨rfl, (by
                            dsimp only
                            refine ⟨?_, fr_rfl⟩
                            have hA : wa1 lay (rdrop i.toNat wS) (rdrop j.toNat wP) = 1000000 ∧ wa2 lay (rdrop i.toNat wS) (rdrop j.toNat wP) = 1000000 ∧ wa3 lay (rdrop i.toNat wS) (rdrop j.toNat wP) = 1000000 := by
                              first
                                | (rw [hSe]; exact ⟨rfl, rfl, rfl⟩)
                                | (rw [hPe, hes]; exact ⟨rfl, rfl, rfl⟩)
                            unfold waF
                            rw [if_neg (by (first | ((try clear hμ1); (try clear hμ2); (try clear hμ3); (try clear hμ4); (try clear hμ5); (try clear hμ6); (try clear hμ7); (try clear hμ8); (try clear hμm); (try clear hμr); (try clear h9); (try clear hnx9); omega) | omega)), if_neg (by (first | ((try clear hμ1); (try clear hμ2); (try clear hμ3); (try clear hμ4); (try clear hμ5); (try clear hμ6); (try clear hμ7); (try clear hμ8); (try clear hμm); (try clear hμr); (try clear h9); (try clear hnx9); omega) | omega))]
                            split
                            · exact hA.1.symm
                            · split
                              · exact hA.2.1.symm
                              · exact hA.2.2.symm)⟩, by rw [ht9]; exact hP, va_K.moved hW9.alike hK⟩, hS.F ht9⟩) hS.2.2 dX10_costOf_202
        · refine lv_iload hx hb dX10_costOf_141 (lv_at hl 0 rfl) ?_
          refine lv_iconst (v := iZ (-1)) hx hb dX10_costOf_143 rfl ?_
          refine fz_icmp_ne (tgt := 152) (by decide) (by decide) hx hb dX10_costOf_144 (by decide) (fun h9 => absurd h9 (by decide)) (fun c144_ => ?_)
          refine lv_ldc (v := iZ 1000000) hx hb hown (hts _ k1547) dX10_costOf_147 ?_
          refine lv_goto (tgt := 187) hx hb dX10_costOf_149 (by decide) ?_
          exact W.iret (v := iZ (1000000)) hx hb hr (fun t9 ht9 hW9 => ⟨⟨iZ (1000000), (μ, 1000000), rfl, ⟨rfl, (by
                            dsimp only
                            first
                              | (revert hPe; intro hPe
                                 rw [hPe]
                                 exact ⟨by unfold waF; rw [if_neg (by (first | ((try clear hμ1); (try clear hμ2); (try clear hμ3); (try clear hμ4); (try clear hμ5); (try clear hμ6); (try clear hμ7); (try clear hμ8); (try clear hμm); (try clear hμr); (try clear h9); (try clear hnx9); omega) | omega)), if_pos (by (first | ((try clear hμ1); (try clear hμ2); (try clear hμ3); (try clear hμ4); (try clear hμ5); (try clear hμ6); (try clear hμ7); (try clear hμ8); (try clear hμm); (try clear hμr); (try clear h9); (try clear hnx9); omega) | omega))]; cases rdrop i.toNat wS <;> rfl, fr_rfl⟩)
                              | (rw [hep, pS]
                                 refine ⟨?_, fr_rfl⟩
                                 unfold waF
                                 rw [if_neg (by (first | ((try clear hμ1); (try clear hμ2); (try clear hμ3); (try clear hμ4); (try clear hμ5); (try clear hμ6); (try clear hμ7); (try clear hμ8); (try clear hμm); (try clear hμr); (try clear h9); (try clear hnx9); omega) | omega)), if_pos (by (first | ((try clear hμ1); (try clear hμ2); (try clear hμ3); (try clear hμ4); (try clear hμ5); (try clear hμ6); (try clear hμ7); (try clear hμ8); (try clear hμm); (try clear hμr); (try clear h9); (try clear hnx9); omega) | omega)), wa5, hz]))⟩, by rw [ht9]; exact hP, va_K.moved hW9.alike hK⟩, hS.F ht9⟩) hS.2.2 dX10_costOf_187
      · refine lv_iload hx hb dX10_costOf_71 (lv_at hl 1 rfl) ?_
        refine lv_iconst (v := iZ (-1)) hx hb dX10_costOf_73 rfl ?_
        refine fz_icmp_ne (tgt := 82) (by decide) (by decide) hx hb dX10_costOf_74 (by decide) (fun h9 => absurd h9 (by decide)) (fun c74_ => ?_)
        refine lv_ldc (v := iZ 1000000) hx hb hown (hts _ k1547) dX10_costOf_77 ?_
        refine lv_goto (tgt := 135) hx hb dX10_costOf_79 (by decide) ?_
        exact W.iret (v := iZ (1000000)) hx hb hr (fun t9 ht9 hW9 => ⟨⟨iZ (1000000), (μ, 1000000), rfl, ⟨rfl, (by
                        dsimp only
                        first
                          | (revert hSe; intro hSe
                             rw [hSe]
                             exact ⟨by unfold waF; rw [if_pos (by (first | ((try clear hμ1); (try clear hμ2); (try clear hμ3); (try clear hμ4); (try clear hμ5); (try clear hμ6); (try clear hμ7); (try clear hμ8); (try clear hμm); (try clear hμr); (try clear h9); (try clear hnx9); omega) | omega)), wa4], fr_rfl⟩)
                          | (rw [hes, sS]
                             refine ⟨?_, fr_rfl⟩
                             unfold waF
                             rw [if_pos (by (first | ((try clear hμ1); (try clear hμ2); (try clear hμ3); (try clear hμ4); (try clear hμ5); (try clear hμ6); (try clear hμ7); (try clear hμ8); (try clear hμm); (try clear hμr); (try clear h9); (try clear hnx9); omega) | omega)), wa4]
                             first
                               | (rw [if_pos (by (first | ((try clear hμ1); (try clear hμ2); (try clear hμ3); (try clear hμ4); (try clear hμ5); (try clear hμ6); (try clear hμ7); (try clear hμ8); (try clear hμm); (try clear hμr); (try clear h9); (try clear hnx9); omega) | omega))])
                               | (rw [if_neg (by (first | ((try clear hμ1); (try clear hμ2); (try clear hμ3); (try clear hμ4); (try clear hμ5); (try clear hμ6); (try clear hμ7); (try clear hμ8); (try clear hμm); (try clear hμr); (try clear h9); (try clear hnx9); omega) | omega)), hz])))⟩, by rw [ht9]; exact hP, va_K.moved hW9.alike hK⟩, hS.F ht9⟩) hS.2.2 dX10_costOf_135
    · have x0 := rdrop_I j.toNat wP
      have x1 := rdrop_N j.toNat wP
      have x9 := rdrop_H j.toNat wP
      have x2 := RA_drop j.toNat wP _ v8
      have x3 := rdrop_WF j.toNat wP hwP
      obtain ⟨zp, kp, vp, lb, rb, hep⟩ := rI_pos (w := rdrop j.toNat wP) (by (first | ((try clear hμ1); (try clear hμ2); (try clear hμ3); (try clear hμ4); (try clear hμ5); (try clear hμ6); (try clear hμ7); (try clear hμ8); (try clear hμm); (try clear hμr); (try clear h9); (try clear hnx9); omega) | omega))
      rw [hep] at x0 x1 x2 x3 x9
      rw [rN_in] at x1
      rw [rI_in] at x0
      rw [rH_in] at x9
      obtain ⟨y1, y2, y3, y4, y5⟩ := x2
      have pF : iWF kp vp lb := ⟨x3.1, x3.2.1, x3.2.2.1, x3.2.2.2.1, x3.2.2.2.2.1, x3.2.2.2.2.2.1, x3.2.2.2.2.2.2.1⟩
      have pFk : kp ≤ 4 := x3.1
      clear x3
      have pro := v6 j.toNat (by (first | ((try clear hμ1); (try clear hμ2); (try clear hμ3); (try clear hμ4); (try clear hμ5); (try clear hμ6); (try clear hμ7); (try clear hμ8); (try clear hμm); (try clear hμr); (try clear h9); (try clear hnx9); omega) | omega))
      have ppo : (pq + (rO wP j.toNat : Int)).toNat = pq.toNat + rO wP j.toNat := by (first | ((try clear hμ1); (try clear hμ2); (try clear hμ3); (try clear hμ4); (try clear hμ5); (try clear hμ6); (try clear hμ7); (try clear hμ8); (try clear hμm); (try clear hμr); (try clear h9); (try clear hnx9); omega) | omega)
      have pIA : IA μ u1.toNat (pq + (rO wP j.toNat : Int)).toNat kp vp lb := by rw [ppo]; exact ⟨y1, y2, y3, y4⟩
      have pS := rdrop_S hep
      have pSI := rI_N2 lb
      have pSL : rL lb ≤ rL wP := Nat.le_trans (by rw [hep]; exact rL_l) (rdrop_L j.toNat wP)
      clear y1 y2 y3 y4 y5
      refine lv_aload_n hx hb dX10_costOf_51 rfl (lv_at hl 3 rfl) ?_
      refine fz_get (D := (dC, dI)) (ci := 10) (v := .ref (h0 + 737)) (C := RX10) (T := TX10) (N := 53) hx hb hts inG10 hown hK hP (k := 0) (by decide) (F := mF h0) mE_obj rfl 30 (by decide) (hts _ k1196) (fun _ h9 => h9) rfl dX10_costOf_52 ?_
      refine lv_iload_n hx hb dX10_costOf_55 rfl (lv_at hl 5 rfl) ?_
      refine fz_ald (k := 737) (n := 14) (k2 := (738 + (n).toNat)) hx hb hK hP 2 rfl (by decide) mE_rowP rfl ⟨by (first | ((try clear hμ1); (try clear hμ2); (try clear hμ3); (try clear hμ4); (try clear hμ5); (try clear hμ6); (try clear hμ7); (try clear hμ8); (try clear hμm); (try clear hμr); (try clear h9); (try clear hnx9); omega) | omega), by (first | ((try clear hμ1); (try clear hμ2); (try clear hμ3); (try clear hμ4); (try clear hμ5); (try clear hμ6); (try clear hμ7); (try clear hμ8); (try clear hμm); (try clear hμr); (try clear h9); (try clear hnx9); omega) | omega)⟩ (by decide) (if_pos (by (first | ((try clear hμ1); (try clear hμ2); (try clear hμ3); (try clear hμ4); (try clear hμ5); (try clear hμ6); (try clear hμ7); (try clear hμ8); (try clear hμm); (try clear hμr); (try clear h9); (try clear hnx9); omega) | omega))) dX10_costOf_56 ?_
      refine lv_iload hx hb dX10_costOf_57 (lv_at hl 7 rfl) ?_
      refine fz_ld (k := (738 + (n).toNat)) (n := 260) hx hb hK hP 0 (by (first | ((try clear hμ1); (try clear hμ2); (try clear hμ3); (try clear hμ4); (try clear hμ5); (try clear hμ6); (try clear hμ7); (try clear hμ8); (try clear hμm); (try clear hμr); (try clear h9); (try clear hnx9); omega) | omega)) (mE_rowPR (by (first | ((try clear hμ1); (try clear hμ2); (try clear hμ3); (try clear hμ4); (try clear hμ5); (try clear hμ6); (try clear hμ7); (try clear hμ8); (try clear hμm); (try clear hμr); (try clear h9); (try clear hnx9); omega) | omega))) rfl ⟨by (first | ((try clear hμ1); (try clear hμ2); (try clear hμ3); (try clear hμ4); (try clear hμ5); (try clear hμ6); (try clear hμ7); (try clear hμ8); (try clear hμm); (try clear hμr); (try clear h9); (try clear hnx9); omega) | omega), by (first | ((try clear hμ1); (try clear hμ2); (try clear hμ3); (try clear hμ4); (try clear hμ5); (try clear hμ6); (try clear hμ7); (try clear hμ8); (try clear hμm); (try clear hμr); (try clear h9); (try clear hnx9); omega) | omega)⟩ (by decide) dX10_costOf_59 ?_
      rw [show μ (738 + (n).toNat) (j).toNat = (pq + (rO wP j.toNat : Int)) from (by exact pro)]
      refine lv_goto (tgt := 64) hx hb dX10_costOf_60 (by decide) ?_
      refine lv_istore (lv' := [(8, .int (iZ ((pq + (rO wP j.toNat : Int))))), (7, .int (iZ ((-1)))), (6, .int (iZ (u1))), (5, .int (iZ (t))), (0, .ref h0), (1, .int (iZ (q))), (2, .int (iZ (n))), (3, .int (iZ (i))), (4, .int (iZ (j)))]) hx hb dX10_costOf_64 hl (by decide) rfl (fun ls hl => ?_)
      refine lv_iload_n hx hb dX10_costOf_66 rfl (lv_at hl 5 rfl) ?_
      refine lv_iconst (v := iZ 4) hx hb dX10_costOf_67 rfl ?_
      refine fz_icmp_ne (tgt := 136) (by constructor <;> (first | ((try clear hμ1); (try clear hμ2); (try clear hμ3); (try clear hμ4); (try clear hμ5); (try clear hμ6); (try clear hμ7); (try clear hμ8); (try clear hμm); (try clear hμr); (try clear h9); (try clear hnx9); omega) | omega)) (by decide) hx hb dX10_costOf_68 (by decide) (fun c68_ => ?_) (fun c68_ => ?_)
      · refine lv_iload_n hx hb dX10_costOf_136 rfl (lv_at hl 5 rfl) ?_
        refine lv_iconst (v := iZ 5) hx hb dX10_costOf_137 rfl ?_
        refine fz_icmp_ne (tgt := 188) (by constructor <;> (first | ((try clear hμ1); (try clear hμ2); (try clear hμ3); (try clear hμ4); (try clear hμ5); (try clear hμ6); (try clear hμ7); (try clear hμ8); (try clear hμm); (try clear hμr); (try clear h9); (try clear hnx9); omega) | omega)) (by decide) hx hb dX10_costOf_138 (by decide) (fun c138_ => ?_) (fun c138_ => ?_)
        · refine lv_iload hx hb dX10_costOf_188 (lv_at hl 1 rfl) ?_
          refine lv_iconst (v := iZ (-1)) hx hb dX10_costOf_190 rfl ?_
          refine fz_icmp_eq (tgt := 200) (by decide) (by decide) hx hb dX10_costOf_191 (by decide) (fun c191_ => ?_) (fun h9 => absurd h9 (by decide))
          refine lv_ldc (v := iZ 1000000) hx hb hown (hts _ k1547) dX10_costOf_200 ?_
          exact W.iret (v := iZ (1000000)) hx hb hr (fun t9 ht9 hW9 => ⟨⟨iZ (1000000), (μ, 1000000), rfl, ⟨rfl, (by
                            dsimp only
                            refine ⟨?_, fr_rfl⟩
                            have hA : wa1 lay (rdrop i.toNat wS) (rdrop j.toNat wP) = 1000000 ∧ wa2 lay (rdrop i.toNat wS) (rdrop j.toNat wP) = 1000000 ∧ wa3 lay (rdrop i.toNat wS) (rdrop j.toNat wP) = 1000000 := by
                              first
                                | (rw [hSe]; exact ⟨rfl, rfl, rfl⟩)
                                | (rw [hPe, hes]; exact ⟨rfl, rfl, rfl⟩)
                            unfold waF
                            rw [if_neg (by (first | ((try clear hμ1); (try clear hμ2); (try clear hμ3); (try clear hμ4); (try clear hμ5); (try clear hμ6); (try clear hμ7); (try clear hμ8); (try clear hμm); (try clear hμr); (try clear h9); (try clear hnx9); omega) | omega)), if_neg (by (first | ((try clear hμ1); (try clear hμ2); (try clear hμ3); (try clear hμ4); (try clear hμ5); (try clear hμ6); (try clear hμ7); (try clear hμ8); (try clear hμm); (try clear hμr); (try clear h9); (try clear hnx9); omega) | omega))]
                            split
                            · exact hA.1.symm
                            · split
                              · exact hA.2.1.symm
                              · exact hA.2.2.symm)⟩, by rw [ht9]; exact hP, va_K.moved hW9.alike hK⟩, hS.F ht9⟩) hS.2.2 dX10_costOf_202
        · refine lv_iload hx hb dX10_costOf_141 (lv_at hl 0 rfl) ?_
          refine lv_iconst (v := iZ (-1)) hx hb dX10_costOf_143 rfl ?_
          refine fz_icmp_ne (tgt := 152) (by constructor <;> (first | ((try clear hμ1); (try clear hμ2); (try clear hμ3); (try clear hμ4); (try clear hμ5); (try clear hμ6); (try clear hμ7); (try clear hμ8); (try clear hμm); (try clear hμr); (try clear h9); (try clear hnx9); omega) | omega)) (by decide) hx hb dX10_costOf_144 (by decide) (fun c144_ => ?_) (fun h9 => (by (first | ((try clear hμ1); (try clear hμ2); (try clear hμ3); (try clear hμ4); (try clear hμ5); (try clear hμ6); (try clear hμ7); (try clear hμ8); (try clear hμm); (try clear hμr); (try clear h9); (try clear hnx9); omega) | omega)))
          refine lv_aload_n hx hb dX10_costOf_152 rfl (lv_at hl 4 rfl) ?_
          refine lv_iload hx hb dX10_costOf_153 (lv_at hl 2 rfl) ?_
          refine lv_iload hx hb dX10_costOf_155 (lv_at hl 0 rfl) ?_
          refine lv_iload hx hb dX10_costOf_157 (lv_at hl 0 rfl) ?_
          refine lv_aload_n hx hb dX10_costOf_159 rfl (lv_at hl 4 rfl) ?_
          refine fz_get (D := (dC, dI)) (ci := 10) (v := .ref (h0 + 648)) (C := RX10) (T := TX10) (N := 53) hx hb hts inG10 hown hK hP (k := 0) (by decide) (F := mF h0) mE_obj rfl 20 (by decide) (hts _ k1186) (fun _ h9 => h9) rfl dX10_costOf_160 ?_
          refine lv_iload hx hb dX10_costOf_163 (lv_at hl 2 rfl) ?_
          refine fz_ald (k := 648) (n := 70) (k2 := (649 + (u1).toNat)) hx hb hK hP 2 rfl (by decide) mE_span rfl ⟨by (first | ((try clear hμ1); (try clear hμ2); (try clear hμ3); (try clear hμ4); (try clear hμ5); (try clear hμ6); (try clear hμ7); (try clear hμ8); (try clear hμm); (try clear hμr); (try clear h9); (try clear hnx9); omega) | omega), by (first | ((try clear hμ1); (try clear hμ2); (try clear hμ3); (try clear hμ4); (try clear hμ5); (try clear hμ6); (try clear hμ7); (try clear hμ8); (try clear hμm); (try clear hμr); (try clear h9); (try clear hnx9); omega) | omega)⟩ (by decide) (if_pos (by (first | ((try clear hμ1); (try clear hμ2); (try clear hμ3); (try clear hμ4); (try clear hμ5); (try clear hμ6); (try clear hμ7); (try clear hμ8); (try clear hμm); (try clear hμr); (try clear h9); (try clear hnx9); omega) | omega))) dX10_costOf_165 ?_
          refine lv_iload hx hb dX10_costOf_166 (lv_at hl 0 rfl) ?_
          refine fz_ld (k := (649 + (u1).toNat)) (n := 900) hx hb hK hP 0 (by (first | ((try clear hμ1); (try clear hμ2); (try clear hμ3); (try clear hμ4); (try clear hμ5); (try clear hμ6); (try clear hμ7); (try clear hμ8); (try clear hμm); (try clear hμr); (try clear h9); (try clear hnx9); omega) | omega)) (mE_spanR (by (first | ((try clear hμ1); (try clear hμ2); (try clear hμ3); (try clear hμ4); (try clear hμ5); (try clear hμ6); (try clear hμ7); (try clear hμ8); (try clear hμm); (try clear hμr); (try clear h9); (try clear hnx9); omega) | omega))) rfl ⟨by (first | ((try clear hμ1); (try clear hμ2); (try clear hμ3); (try clear hμ4); (try clear hμ5); (try clear hμ6); (try clear hμ7); (try clear hμ8); (try clear hμm); (try clear hμr); (try clear h9); (try clear hnx9); omega) | omega), by (first | ((try clear hμ1); (try clear hμ2); (try clear hμ3); (try clear hμ4); (try clear hμ5); (try clear hμ6); (try clear hμ7); (try clear hμ8); (try clear hμm); (try clear hμr); (try clear h9); (try clear hnx9); omega) | omega)⟩ (by decide) dX10_costOf_168 ?_
          rw [show μ (649 + (u1).toNat) ((pq + (rO wP j.toNat : Int))).toNat = 1 + (rN lb : Int) from (by exact pIA.2.2.1)]
          refine lv_iadd hx hb dX10_costOf_169 ?_
          refine lv_topi (fun x9 ex9 => ?_)
          obtain rfl : x9 = iZ (((pq + (rO wP j.toNat : Int))) + (1 + (rN lb : Int))) := ex9.trans (iZ_add _ _)
          refine va_calli (va_runV (As := [.int (iZ (u1)), .int (iZ ((pq + (rO wP j.toNat : Int)))), .int (iZ (((pq + (rO wP j.toNat : Int))) + (1 + (rN lb : Int))))]) (rest := []) ⟨hx, hb, hml, hown, hts⟩ (m_sizeOf2 l dC dI cI cZ cII cIII h0 s.heap.size μ (u1) ((pq + (rO wP j.toNat : Int))) (((pq + (rO wP j.toNat : Int))) + (1 + (rN lb : Int))) (by first | assumption | ((try clear hμ1); (try clear hμ2); (try clear hμ3); (try clear hμ4); (try clear hμ5); (try clear hμ6); (try clear hμ7); (try clear hμ8); (try clear hμm); (try clear hμr); (try clear h9); (try clear hnx9); omega) | omega | exact ⟨by (first | ((try clear hμ1); (try clear hμ2); (try clear hμ3); (try clear hμ4); (try clear hμ5); (try clear hμ6); (try clear hμ7); (try clear hμ8); (try clear hμm); (try clear hμr); (try clear h9); (try clear hnx9); omega) | omega), by (first | ((try clear hμ1); (try clear hμ2); (try clear hμ3); (try clear hμ4); (try clear hμ5); (try clear hμ6); (try clear hμ7); (try clear hμ8); (try clear hμm); (try clear hμr); (try clear h9); (try clear hnx9); omega) | omega)⟩) (by (first | ((try clear hμ1); (try clear hμ2); (try clear hμ3); (try clear hμ4); (try clear hμ5); (try clear hμ6); (try clear hμ7); (try clear hμ8); (try clear hμm); (try clear hμr); (try clear h9); (try clear hnx9); omega) | omega)) (by (first | ((try clear hμ1); (try clear hμ2); (try clear hμ3); (try clear hμ4); (try clear hμ5); (try clear hμ6); (try clear hμ7); (try clear hμ8); (try clear hμm); (try clear hμr); (try clear h9); (try clear hnx9); omega) | omega)) (by
                            intro x hx1 hx2
                            have h9 := RA_cok (.inner 0 kp vp lb .leaf) (pq + (rO wP j.toNat : Int)).toNat 900 ⟨pIA.1, pIA.2.1, pIA.2.2.1, pIA.2.2.2, trivial⟩ ⟨pF.1, pF.2.1, pF.2.2.1, pF.2.2.2.1, pF.2.2.2.2.1, pF.2.2.2.2.2.1, pF.2.2.2.2.2.2, trivial⟩ (by show _ + (1 + rN lb + 0) ≤ 900; omega) x (by (first | ((try clear hμ1); (try clear hμ2); (try clear hμ3); (try clear hμ4); (try clear hμ5); (try clear hμ6); (try clear hμ7); (try clear hμ8); (try clear hμm); (try clear hμr); (try clear h9); (try clear hnx9); omega) | omega)) (by show x < _ + (1 + rN lb + 0); omega)
                            have h8 := h9.1
                            constructor <;> (first | ((try clear hμ1); (try clear hμ2); (try clear hμ3); (try clear hμ4); (try clear hμ5); (try clear hμ6); (try clear hμ7); (try clear hμ8); (try clear hμm); (try clear hμr); (try clear h9); (try clear hnx9); omega) | omega))) (cwV 3 hts (gV_G k1488 k1490 ks_yX10_sizeOf k13 k1491) rfl rfl rfl (by decide +kernel) ⟨by show 1 + 1 ≤ 5 * d + 32 + 1 + 1; omega, by show 8 + (6 + 11) + (14) ≤ 200 * d + 900 + 40 + 40; omega⟩) ⟨fun a U g mk q => by obtain ⟨q0, q1, qP, qK⟩ := q; exact ⟨q0, q1, qP, va_K.moved (u := U) (U := U.calling g mk a) (Vm.Alike.refl U.vm) qK⟩, va_recv hK hP (ci := 10) (q0 := 0) rfl ((fw_get (by decide)).trans (by rw [mE_obj]; rfl)), fun U hU hW => ⟨rfl, by rw [hU], by rw [hU]; exact hP, va_K.moved hW.alike hK⟩⟩ rfl rfl hl.1 rfl (lv_room (Nat.le_of_ble_eq_true rfl)) dX10_costOf_170 ⟨Nat.le_of_ble_eq_true rfl, Nat.le_of_ble_eq_true rfl⟩) hS (fun q _ h => fA_le hS.1 q h) (fA_le hS.1) (fun r9 u9 t9 H1 locs ht9 hvm9 hw9 hB9 hz9 hk9 hS => ?_)
          obtain ⟨μ1, rz⟩ := u9
          obtain ⟨hP, -⟩ := hB9
          rw [ht9] at hP
          generalize H1 = H at hP hS ⊢
          obtain ⟨e9, hw9⟩ := hw9
          have e9 : r9 = iZ rz := e9
          subst e9
          simp only at hP hw9
          have hμ1 := hw9; clear hw9
          rw [hμ1.1] at hP; have hμ1 := hμ1.2
          have hz : rz = rL1 kp lb := by
            have h9 := hμ1
            rw [show (((pq + (rO wP j.toNat : Int)) + (1 + (rN lb : Int))) - (pq + (rO wP j.toNat : Int))).toNat = 1 + rN lb by (first | ((try clear hμ1); (try clear hμ2); (try clear hμ3); (try clear hμ4); (try clear hμ5); (try clear hμ6); (try clear hμ7); (try clear hμ8); (try clear hμm); (try clear hμr); (try clear h9); (try clear hnx9); omega) | omega), cS_it pIA] at h9
            exact h9
          refine lv_aload_n hx hb dX10_costOf_173 rfl (lv_at hl 4 rfl) ?_
          refine fz_get (D := (dC, dI)) (ci := 10) (v := .ref (h0 + 753)) (C := RX10) (T := TX10) (N := 53) hx hb hts inG10 hown hK hP (k := 0) (by decide) (F := mF h0) mE_obj rfl 32 (by decide) (hts _ k1198) (fun _ h9 => h9) rfl dX10_costOf_174 ?_
          refine lv_iload_n hx hb dX10_costOf_177 rfl (lv_at hl 6 rfl) ?_
          refine fz_ald (k := 753) (n := 14) (k2 := (754 + (n).toNat * 261)) hx hb hK hP 3 rfl (by decide) mE_least rfl ⟨by (first | ((try clear hμ1); (try clear hμ2); (try clear hμ3); (try clear hμ4); (try clear hμ5); (try clear hμ6); (try clear hμ7); (try clear hμ8); (try clear hμm); (try clear hμr); (try clear h9); (try clear hnx9); omega) | omega), by (first | ((try clear hμ1); (try clear hμ2); (try clear hμ3); (try clear hμ4); (try clear hμ5); (try clear hμ6); (try clear hμ7); (try clear hμ8); (try clear hμm); (try clear hμr); (try clear h9); (try clear hnx9); omega) | omega)⟩ (by decide) (if_pos (by (first | ((try clear hμ1); (try clear hμ2); (try clear hμ3); (try clear hμ4); (try clear hμ5); (try clear hμ6); (try clear hμ7); (try clear hμ8); (try clear hμm); (try clear hμr); (try clear h9); (try clear hnx9); omega) | omega))) dX10_costOf_178 ?_
          refine lv_iload_n hx hb dX10_costOf_179 rfl (lv_at hl 7 rfl) ?_
          refine fz_ald (k := (754 + (n).toNat * 261)) (n := 260) (k2 := (754 + (n).toNat * 261 + 1 + (i).toNat)) hx hb hK hP 2 rfl (by (first | ((try clear hμ1); (try clear hμ2); (try clear hμ3); (try clear hμ4); (try clear hμ5); (try clear hμ6); (try clear hμ7); (try clear hμ8); (try clear hμm); (try clear hμr); (try clear h9); (try clear hnx9); omega) | omega)) (mE_leastM (by (first | ((try clear hμ1); (try clear hμ2); (try clear hμ3); (try clear hμ4); (try clear hμ5); (try clear hμ6); (try clear hμ7); (try clear hμ8); (try clear hμm); (try clear hμr); (try clear h9); (try clear hnx9); omega) | omega))) rfl ⟨by (first | ((try clear hμ1); (try clear hμ2); (try clear hμ3); (try clear hμ4); (try clear hμ5); (try clear hμ6); (try clear hμ7); (try clear hμ8); (try clear hμm); (try clear hμr); (try clear h9); (try clear hnx9); omega) | omega), by (first | ((try clear hμ1); (try clear hμ2); (try clear hμ3); (try clear hμ4); (try clear hμ5); (try clear hμ6); (try clear hμ7); (try clear hμ8); (try clear hμm); (try clear hμr); (try clear h9); (try clear hnx9); omega) | omega)⟩ (by decide) (if_pos (by (first | ((try clear hμ1); (try clear hμ2); (try clear hμ3); (try clear hμ4); (try clear hμ5); (try clear hμ6); (try clear hμ7); (try clear hμ8); (try clear hμm); (try clear hμr); (try clear h9); (try clear hnx9); omega) | omega))) dX10_costOf_180 ?_
          refine lv_iload hx hb dX10_costOf_181 (lv_at hl 8 rfl) ?_
          refine lv_iconst (v := iZ 1) hx hb dX10_costOf_183 rfl ?_
          refine lv_iadd hx hb dX10_costOf_184 ?_
          refine lv_topi (fun x9 ex9 => ?_)
          obtain rfl : x9 = iZ (j + 1) := ex9.trans (iZ_add _ _)
          refine fz_ld (k := (754 + (n).toNat * 261 + 1 + (i).toNat)) (n := 62) hx hb hK hP 0 (by (first | ((try clear hμ1); (try clear hμ2); (try clear hμ3); (try clear hμ4); (try clear hμ5); (try clear hμ6); (try clear hμ7); (try clear hμ8); (try clear hμm); (try clear hμr); (try clear h9); (try clear hnx9); omega) | omega)) (mE_leastR (by (first | ((try clear hμ1); (try clear hμ2); (try clear hμ3); (try clear hμ4); (try clear hμ5); (try clear hμ6); (try clear hμ7); (try clear hμ8); (try clear hμm); (try clear hμr); (try clear h9); (try clear hnx9); omega) | omega)) (by (first | ((try clear hμ1); (try clear hμ2); (try clear hμ3); (try clear hμ4); (try clear hμ5); (try clear hμ6); (try clear hμ7); (try clear hμ8); (try clear hμm); (try clear hμr); (try clear h9); (try clear hnx9); omega) | omega))) rfl ⟨by (first | ((try clear hμ1); (try clear hμ2); (try clear hμ3); (try clear hμ4); (try clear hμ5); (try clear hμ6); (try clear hμ7); (try clear hμ8); (try clear hμm); (try clear hμr); (try clear h9); (try clear hnx9); omega) | omega), by (first | ((try clear hμ1); (try clear hμ2); (try clear hμ3); (try clear hμ4); (try clear hμ5); (try clear hμ6); (try clear hμ7); (try clear hμ8); (try clear hμm); (try clear hμr); (try clear h9); (try clear hnx9); omega) | omega)⟩ (by decide) dX10_costOf_185 ?_
          rw [show μ (754 + (n).toNat * 261 + 1 + (i).toNat) (j + 1).toNat = (lay (rdrop (i.toNat) wS) (rdrop (j.toNat + 1) wP)).1 from (by rw [ej1]; exact hle (i.toNat) (j.toNat + 1) (by (first | ((try clear hμ1); (try clear hμ2); (try clear hμ3); (try clear hμ4); (try clear hμ5); (try clear hμ6); (try clear hμ7); (try clear hμ8); (try clear hμm); (try clear hμr); (try clear h9); (try clear hnx9); omega) | omega)) (by (first | ((try clear hμ1); (try clear hμ2); (try clear hμ3); (try clear hμ4); (try clear hμ5); (try clear hμ6); (try clear hμ7); (try clear hμ8); (try clear hμm); (try clear hμr); (try clear h9); (try clear hnx9); omega) | omega)) (by (first | ((try clear hμ1); (try clear hμ2); (try clear hμ3); (try clear hμ4); (try clear hμ5); (try clear hμ6); (try clear hμ7); (try clear hμ8); (try clear hμm); (try clear hμr); (try clear h9); (try clear hnx9); omega) | omega)) (by (first | ((try clear hμ1); (try clear hμ2); (try clear hμ3); (try clear hμ4); (try clear hμ5); (try clear hμ6); (try clear hμ7); (try clear hμ8); (try clear hμm); (try clear hμr); (try clear h9); (try clear hnx9); omega) | omega)) (by (first | ((try clear hμ1); (try clear hμ2); (try clear hμ3); (try clear hμ4); (try clear hμ5); (try clear hμ6); (try clear hμ7); (try clear hμ8); (try clear hμm); (try clear hμr); (try clear h9); (try clear hnx9); omega) | omega)))]
          refine lv_iadd hx hb dX10_costOf_186 ?_
          refine lv_topi (fun x9 ex9 => ?_)
          obtain rfl : x9 = iZ (rz + ((lay (rdrop (i.toNat) wS) (rdrop (j.toNat + 1) wP)).1)) := ex9.trans (iZ_add _ _)
          exact W.iret (v := iZ (rz + ((lay (rdrop (i.toNat) wS) (rdrop (j.toNat + 1) wP)).1))) hx hb hr (fun t9 ht9 hW9 => ⟨⟨iZ (rz + ((lay (rdrop (i.toNat) wS) (rdrop (j.toNat + 1) wP)).1)), (μ, rz + ((lay (rdrop (i.toNat) wS) (rdrop (j.toNat + 1) wP)).1)), rfl, ⟨rfl, (by
                            dsimp only
                            first
                              | (revert hPe; intro hPe
                                 rw [hPe]
                                 exact ⟨by unfold waF; rw [if_neg (by (first | ((try clear hμ1); (try clear hμ2); (try clear hμ3); (try clear hμ4); (try clear hμ5); (try clear hμ6); (try clear hμ7); (try clear hμ8); (try clear hμm); (try clear hμr); (try clear h9); (try clear hnx9); omega) | omega)), if_pos (by (first | ((try clear hμ1); (try clear hμ2); (try clear hμ3); (try clear hμ4); (try clear hμ5); (try clear hμ6); (try clear hμ7); (try clear hμ8); (try clear hμm); (try clear hμr); (try clear h9); (try clear hnx9); omega) | omega))]; cases rdrop i.toNat wS <;> rfl, fr_rfl⟩)
                              | (rw [hep, pS]
                                 refine ⟨?_, fr_rfl⟩
                                 unfold waF
                                 rw [if_neg (by (first | ((try clear hμ1); (try clear hμ2); (try clear hμ3); (try clear hμ4); (try clear hμ5); (try clear hμ6); (try clear hμ7); (try clear hμ8); (try clear hμm); (try clear hμr); (try clear h9); (try clear hnx9); omega) | omega)), if_pos (by (first | ((try clear hμ1); (try clear hμ2); (try clear hμ3); (try clear hμ4); (try clear hμ5); (try clear hμ6); (try clear hμ7); (try clear hμ8); (try clear hμm); (try clear hμr); (try clear h9); (try clear hnx9); omega) | omega)), wa5, hz]))⟩, by rw [ht9]; exact hP, va_K.moved hW9.alike hK⟩, hS.F ht9⟩) hS.2.2 dX10_costOf_187
      · refine lv_iload hx hb dX10_costOf_71 (lv_at hl 1 rfl) ?_
        refine lv_iconst (v := iZ (-1)) hx hb dX10_costOf_73 rfl ?_
        refine fz_icmp_ne (tgt := 82) (by decide) (by decide) hx hb dX10_costOf_74 (by decide) (fun h9 => absurd h9 (by decide)) (fun c74_ => ?_)
        refine lv_ldc (v := iZ 1000000) hx hb hown (hts _ k1547) dX10_costOf_77 ?_
        refine lv_goto (tgt := 135) hx hb dX10_costOf_79 (by decide) ?_
        exact W.iret (v := iZ (1000000)) hx hb hr (fun t9 ht9 hW9 => ⟨⟨iZ (1000000), (μ, 1000000), rfl, ⟨rfl, (by
                        dsimp only
                        first
                          | (revert hSe; intro hSe
                             rw [hSe]
                             exact ⟨by unfold waF; rw [if_pos (by (first | ((try clear hμ1); (try clear hμ2); (try clear hμ3); (try clear hμ4); (try clear hμ5); (try clear hμ6); (try clear hμ7); (try clear hμ8); (try clear hμm); (try clear hμr); (try clear h9); (try clear hnx9); omega) | omega)), wa4], fr_rfl⟩)
                          | (rw [hes, sS]
                             refine ⟨?_, fr_rfl⟩
                             unfold waF
                             rw [if_pos (by (first | ((try clear hμ1); (try clear hμ2); (try clear hμ3); (try clear hμ4); (try clear hμ5); (try clear hμ6); (try clear hμ7); (try clear hμ8); (try clear hμm); (try clear hμr); (try clear h9); (try clear hnx9); omega) | omega)), wa4]
                             first
                               | (rw [if_pos (by (first | ((try clear hμ1); (try clear hμ2); (try clear hμ3); (try clear hμ4); (try clear hμ5); (try clear hμ6); (try clear hμ7); (try clear hμ8); (try clear hμm); (try clear hμr); (try clear h9); (try clear hnx9); omega) | omega))])
                               | (rw [if_neg (by (first | ((try clear hμ1); (try clear hμ2); (try clear hμ3); (try clear hμ4); (try clear hμ5); (try clear hμ6); (try clear hμ7); (try clear hμ8); (try clear hμm); (try clear hμr); (try clear h9); (try clear hnx9); omega) | omega)), hz])))⟩, by rw [ht9]; exact hP, va_K.moved hW9.alike hK⟩, hS.F ht9⟩) hS.2.2 dX10_costOf_135
  · have s0 := rdrop_I i.toNat wS
    have s1 := rdrop_N i.toNat wS
    have s9 := rdrop_H i.toNat wS
    have s2 := RA_drop i.toNat wS _ v7
    have s3 := rdrop_WF i.toNat wS hwS
    obtain ⟨zs, ks, vs, la, ra, hes⟩ := rI_pos (w := rdrop i.toNat wS) (by (first | ((try clear hμ1); (try clear hμ2); (try clear hμ3); (try clear hμ4); (try clear hμ5); (try clear hμ6); (try clear hμ7); (try clear hμ8); (try clear hμm); (try clear hμr); (try clear h9); (try clear hnx9); omega) | omega))
    rw [hes] at s0 s1 s2 s3 s9
    rw [rN_in] at s1
    rw [rI_in] at s0
    rw [rH_in] at s9
    obtain ⟨g1, g2, g3, g4, g5⟩ := s2
    have sF : iWF ks vs la := ⟨s3.1, s3.2.1, s3.2.2.1, s3.2.2.2.1, s3.2.2.2.2.1, s3.2.2.2.2.2.1, s3.2.2.2.2.2.2.1⟩
    have sFk : ks ≤ 4 := s3.1
    clear s3
    have sro := v5 i.toNat (by (first | ((try clear hμ1); (try clear hμ2); (try clear hμ3); (try clear hμ4); (try clear hμ5); (try clear hμ6); (try clear hμ7); (try clear hμ8); (try clear hμm); (try clear hμr); (try clear h9); (try clear hnx9); omega) | omega))
    have spo : (ps + (rO wS i.toNat : Int)).toNat = ps.toNat + rO wS i.toNat := by (first | ((try clear hμ1); (try clear hμ2); (try clear hμ3); (try clear hμ4); (try clear hμ5); (try clear hμ6); (try clear hμ7); (try clear hμ8); (try clear hμm); (try clear hμr); (try clear h9); (try clear hnx9); omega) | omega)
    have sIA : IA μ t.toNat (ps + (rO wS i.toNat : Int)).toNat ks vs la := by rw [spo]; exact ⟨g1, g2, g3, g4⟩
    have sS := rdrop_S hes
    have sSI := rI_N2 la
    have sSL : rL la ≤ rL wS := Nat.le_trans (by rw [hes]; exact rL_l) (rdrop_L i.toNat wS)
    clear g1 g2 g3 g4 g5
    refine lv_aload_n hx hb dX10_costOf_26 rfl (lv_at hl 2 rfl) ?_
    refine fz_get (D := (dC, dI)) (ci := 10) (v := .ref (h0 + 722)) (C := RX10) (T := TX10) (N := 53) hx hb hts inG10 hown hK hP (k := 0) (by decide) (F := mF h0) mE_obj rfl 29 (by decide) (hts _ k1195) (fun _ h9 => h9) rfl dX10_costOf_27 ?_
    refine lv_iload_n hx hb dX10_costOf_30 rfl (lv_at hl 4 rfl) ?_
    refine fz_ald (k := 722) (n := 14) (k2 := (723 + (n).toNat)) hx hb hK hP 2 rfl (by decide) mE_rowS rfl ⟨by (first | ((try clear hμ1); (try clear hμ2); (try clear hμ3); (try clear hμ4); (try clear hμ5); (try clear hμ6); (try clear hμ7); (try clear hμ8); (try clear hμm); (try clear hμr); (try clear h9); (try clear hnx9); omega) | omega), by (first | ((try clear hμ1); (try clear hμ2); (try clear hμ3); (try clear hμ4); (try clear hμ5); (try clear hμ6); (try clear hμ7); (try clear hμ8); (try clear hμm); (try clear hμr); (try clear h9); (try clear hnx9); omega) | omega)⟩ (by decide) (if_pos (by (first | ((try clear hμ1); (try clear hμ2); (try clear hμ3); (try clear hμ4); (try clear hμ5); (try clear hμ6); (try clear hμ7); (try clear hμ8); (try clear hμm); (try clear hμr); (try clear h9); (try clear hnx9); omega) | omega))) dX10_costOf_31 ?_
    refine lv_iload_n hx hb dX10_costOf_32 rfl (lv_at hl 5 rfl) ?_
    refine fz_ld (k := (723 + (n).toNat)) (n := 260) hx hb hK hP 0 (by (first | ((try clear hμ1); (try clear hμ2); (try clear hμ3); (try clear hμ4); (try clear hμ5); (try clear hμ6); (try clear hμ7); (try clear hμ8); (try clear hμm); (try clear hμr); (try clear h9); (try clear hnx9); omega) | omega)) (mE_rowSR (by (first | ((try clear hμ1); (try clear hμ2); (try clear hμ3); (try clear hμ4); (try clear hμ5); (try clear hμ6); (try clear hμ7); (try clear hμ8); (try clear hμm); (try clear hμr); (try clear h9); (try clear hnx9); omega) | omega))) rfl ⟨by (first | ((try clear hμ1); (try clear hμ2); (try clear hμ3); (try clear hμ4); (try clear hμ5); (try clear hμ6); (try clear hμ7); (try clear hμ8); (try clear hμm); (try clear hμr); (try clear h9); (try clear hnx9); omega) | omega), by (first | ((try clear hμ1); (try clear hμ2); (try clear hμ3); (try clear hμ4); (try clear hμ5); (try clear hμ6); (try clear hμ7); (try clear hμ8); (try clear hμm); (try clear hμr); (try clear h9); (try clear hnx9); omega) | omega)⟩ (by decide) dX10_costOf_33 ?_
    rw [show μ (723 + (n).toNat) (i).toNat = (ps + (rO wS i.toNat : Int)) from (by exact sro)]
    refine lv_goto (tgt := 38) hx hb dX10_costOf_34 (by decide) ?_
    refine lv_istore (lv' := [(7, .int (iZ ((ps + (rO wS i.toNat : Int))))), (6, .int (iZ (u1))), (5, .int (iZ (t))), (0, .ref h0), (1, .int (iZ (q))), (2, .int (iZ (n))), (3, .int (iZ (i))), (4, .int (iZ (j)))]) hx hb dX10_costOf_38 hl (by decide) rfl (fun ls hl => ?_)
    refine lv_iload hx hb dX10_costOf_40 (lv_at hl 7 rfl) ?_
    refine lv_aload_n hx hb dX10_costOf_42 rfl (lv_at hl 3 rfl) ?_
    refine fz_get (D := (dC, dI)) (ci := 10) (v := .ref (h0 + 4411)) (C := RX10) (T := TX10) (N := 53) hx hb hts inG10 hown hK hP (k := 0) (by decide) (F := mF h0) mE_obj rfl 37 (by decide) (hts _ k1203) (fun _ h9 => h9) rfl dX10_costOf_43 ?_
    refine lv_iload_n hx hb dX10_costOf_46 rfl (lv_at hl 5 rfl) ?_
    refine fz_ld (k := 4411) (n := 14) hx hb hK hP 0 (by decide) mE_manyP rfl ⟨by (first | ((try clear hμ1); (try clear hμ2); (try clear hμ3); (try clear hμ4); (try clear hμ5); (try clear hμ6); (try clear hμ7); (try clear hμ8); (try clear hμm); (try clear hμr); (try clear h9); (try clear hnx9); omega) | omega), by (first | ((try clear hμ1); (try clear hμ2); (try clear hμ3); (try clear hμ4); (try clear hμ5); (try clear hμ6); (try clear hμ7); (try clear hμ8); (try clear hμm); (try clear hμr); (try clear h9); (try clear hnx9); omega) | omega)⟩ (by decide) dX10_costOf_47 ?_
    rw [show μ 4411 (n).toNat = (rI wP : Int) from (by exact v4)]
    refine fz_icmp_ge (tgt := 63) (by constructor <;> (first | ((try clear hμ1); (try clear hμ2); (try clear hμ3); (try clear hμ4); (try clear hμ5); (try clear hμ6); (try clear hμ7); (try clear hμ8); (try clear hμm); (try clear hμr); (try clear h9); (try clear hnx9); omega) | omega)) (by constructor <;> (first | ((try clear hμ1); (try clear hμ2); (try clear hμ3); (try clear hμ4); (try clear hμ5); (try clear hμ6); (try clear hμ7); (try clear hμ8); (try clear hμm); (try clear hμr); (try clear h9); (try clear hnx9); omega) | omega)) hx hb dX10_costOf_48 (by decide) (fun c48_ => ?_) (fun c48_ => ?_)
    · have hPe : rdrop j.toNat wP = .leaf := rdrop_0 (by (first | ((try clear hμ1); (try clear hμ2); (try clear hμ3); (try clear hμ4); (try clear hμ5); (try clear hμ6); (try clear hμ7); (try clear hμ8); (try clear hμm); (try clear hμr); (try clear h9); (try clear hnx9); omega) | omega))
      refine lv_iconst (v := iZ (-1)) hx hb dX10_costOf_63 rfl ?_
      refine lv_istore (lv' := [(8, .int (iZ ((-1)))), (7, .int (iZ ((ps + (rO wS i.toNat : Int))))), (6, .int (iZ (u1))), (5, .int (iZ (t))), (0, .ref h0), (1, .int (iZ (q))), (2, .int (iZ (n))), (3, .int (iZ (i))), (4, .int (iZ (j)))]) hx hb dX10_costOf_64 hl (by decide) rfl (fun ls hl => ?_)
      refine lv_iload_n hx hb dX10_costOf_66 rfl (lv_at hl 5 rfl) ?_
      refine lv_iconst (v := iZ 4) hx hb dX10_costOf_67 rfl ?_
      refine fz_icmp_ne (tgt := 136) (by constructor <;> (first | ((try clear hμ1); (try clear hμ2); (try clear hμ3); (try clear hμ4); (try clear hμ5); (try clear hμ6); (try clear hμ7); (try clear hμ8); (try clear hμm); (try clear hμr); (try clear h9); (try clear hnx9); omega) | omega)) (by decide) hx hb dX10_costOf_68 (by decide) (fun c68_ => ?_) (fun c68_ => ?_)
      · refine lv_iload_n hx hb dX10_costOf_136 rfl (lv_at hl 5 rfl) ?_
        refine lv_iconst (v := iZ 5) hx hb dX10_costOf_137 rfl ?_
        refine fz_icmp_ne (tgt := 188) (by constructor <;> (first | ((try clear hμ1); (try clear hμ2); (try clear hμ3); (try clear hμ4); (try clear hμ5); (try clear hμ6); (try clear hμ7); (try clear hμ8); (try clear hμm); (try clear hμr); (try clear h9); (try clear hnx9); omega) | omega)) (by decide) hx hb dX10_costOf_138 (by decide) (fun c138_ => ?_) (fun c138_ => ?_)
        · refine lv_iload hx hb dX10_costOf_188 (lv_at hl 1 rfl) ?_
          refine lv_iconst (v := iZ (-1)) hx hb dX10_costOf_190 rfl ?_
          refine fz_icmp_eq (tgt := 200) (by constructor <;> (first | ((try clear hμ1); (try clear hμ2); (try clear hμ3); (try clear hμ4); (try clear hμ5); (try clear hμ6); (try clear hμ7); (try clear hμ8); (try clear hμm); (try clear hμr); (try clear h9); (try clear hnx9); omega) | omega)) (by decide) hx hb dX10_costOf_191 (by decide) (fun h9 => (by (first | ((try clear hμ1); (try clear hμ2); (try clear hμ3); (try clear hμ4); (try clear hμ5); (try clear hμ6); (try clear hμ7); (try clear hμ8); (try clear hμm); (try clear hμr); (try clear h9); (try clear hnx9); omega) | omega))) (fun c191_ => ?_)
          refine lv_iload hx hb dX10_costOf_194 (lv_at hl 0 rfl) ?_
          refine lv_iconst (v := iZ (-1)) hx hb dX10_costOf_196 rfl ?_
          refine fz_icmp_ne (tgt := 203) (by decide) (by decide) hx hb dX10_costOf_197 (by decide) (fun h9 => absurd h9 (by decide)) (fun c197_ => ?_)
          refine lv_ldc (v := iZ 1000000) hx hb hown (hts _ k1547) dX10_costOf_200 ?_
          exact W.iret (v := iZ (1000000)) hx hb hr (fun t9 ht9 hW9 => ⟨⟨iZ (1000000), (μ, 1000000), rfl, ⟨rfl, (by
                            dsimp only
                            refine ⟨?_, fr_rfl⟩
                            have hA : wa1 lay (rdrop i.toNat wS) (rdrop j.toNat wP) = 1000000 ∧ wa2 lay (rdrop i.toNat wS) (rdrop j.toNat wP) = 1000000 ∧ wa3 lay (rdrop i.toNat wS) (rdrop j.toNat wP) = 1000000 := by
                              first
                                | (rw [hSe]; exact ⟨rfl, rfl, rfl⟩)
                                | (rw [hPe, hes]; exact ⟨rfl, rfl, rfl⟩)
                            unfold waF
                            rw [if_neg (by (first | ((try clear hμ1); (try clear hμ2); (try clear hμ3); (try clear hμ4); (try clear hμ5); (try clear hμ6); (try clear hμ7); (try clear hμ8); (try clear hμm); (try clear hμr); (try clear h9); (try clear hnx9); omega) | omega)), if_neg (by (first | ((try clear hμ1); (try clear hμ2); (try clear hμ3); (try clear hμ4); (try clear hμ5); (try clear hμ6); (try clear hμ7); (try clear hμ8); (try clear hμm); (try clear hμr); (try clear h9); (try clear hnx9); omega) | omega))]
                            split
                            · exact hA.1.symm
                            · split
                              · exact hA.2.1.symm
                              · exact hA.2.2.symm)⟩, by rw [ht9]; exact hP, va_K.moved hW9.alike hK⟩, hS.F ht9⟩) hS.2.2 dX10_costOf_202
        · refine lv_iload hx hb dX10_costOf_141 (lv_at hl 0 rfl) ?_
          refine lv_iconst (v := iZ (-1)) hx hb dX10_costOf_143 rfl ?_
          refine fz_icmp_ne (tgt := 152) (by decide) (by decide) hx hb dX10_costOf_144 (by decide) (fun h9 => absurd h9 (by decide)) (fun c144_ => ?_)
          refine lv_ldc (v := iZ 1000000) hx hb hown (hts _ k1547) dX10_costOf_147 ?_
          refine lv_goto (tgt := 187) hx hb dX10_costOf_149 (by decide) ?_
          exact W.iret (v := iZ (1000000)) hx hb hr (fun t9 ht9 hW9 => ⟨⟨iZ (1000000), (μ, 1000000), rfl, ⟨rfl, (by
                            dsimp only
                            first
                              | (revert hPe; intro hPe
                                 rw [hPe]
                                 exact ⟨by unfold waF; rw [if_neg (by (first | ((try clear hμ1); (try clear hμ2); (try clear hμ3); (try clear hμ4); (try clear hμ5); (try clear hμ6); (try clear hμ7); (try clear hμ8); (try clear hμm); (try clear hμr); (try clear h9); (try clear hnx9); omega) | omega)), if_pos (by (first | ((try clear hμ1); (try clear hμ2); (try clear hμ3); (try clear hμ4); (try clear hμ5); (try clear hμ6); (try clear hμ7); (try clear hμ8); (try clear hμm); (try clear hμr); (try clear h9); (try clear hnx9); omega) | omega))]; cases rdrop i.toNat wS <;> rfl, fr_rfl⟩)
                              | (rw [hep, pS]
                                 refine ⟨?_, fr_rfl⟩
                                 unfold waF
                                 rw [if_neg (by (first | ((try clear hμ1); (try clear hμ2); (try clear hμ3); (try clear hμ4); (try clear hμ5); (try clear hμ6); (try clear hμ7); (try clear hμ8); (try clear hμm); (try clear hμr); (try clear h9); (try clear hnx9); omega) | omega)), if_pos (by (first | ((try clear hμ1); (try clear hμ2); (try clear hμ3); (try clear hμ4); (try clear hμ5); (try clear hμ6); (try clear hμ7); (try clear hμ8); (try clear hμm); (try clear hμr); (try clear h9); (try clear hnx9); omega) | omega)), wa5, hz]))⟩, by rw [ht9]; exact hP, va_K.moved hW9.alike hK⟩, hS.F ht9⟩) hS.2.2 dX10_costOf_187
      · refine lv_iload hx hb dX10_costOf_71 (lv_at hl 1 rfl) ?_
        refine lv_iconst (v := iZ (-1)) hx hb dX10_costOf_73 rfl ?_
        refine fz_icmp_ne (tgt := 82) (by constructor <;> (first | ((try clear hμ1); (try clear hμ2); (try clear hμ3); (try clear hμ4); (try clear hμ5); (try clear hμ6); (try clear hμ7); (try clear hμ8); (try clear hμm); (try clear hμr); (try clear h9); (try clear hnx9); omega) | omega)) (by decide) hx hb dX10_costOf_74 (by decide) (fun c74_ => ?_) (fun h9 => (by (first | ((try clear hμ1); (try clear hμ2); (try clear hμ3); (try clear hμ4); (try clear hμ5); (try clear hμ6); (try clear hμ7); (try clear hμ8); (try clear hμm); (try clear hμr); (try clear h9); (try clear hnx9); omega) | omega)))
        refine lv_aload_n hx hb dX10_costOf_82 rfl (lv_at hl 4 rfl) ?_
        refine fz_get (D := (dC, dI)) (ci := 10) (v := .ref (h0 + 506)) (C := RX10) (T := TX10) (N := 53) hx hb hts inG10 hown hK hP (k := 0) (by decide) (F := mF h0) mE_obj rfl 18 (by decide) (hts _ k1184) (fun _ h9 => h9) rfl dX10_costOf_83 ?_
        refine lv_iload hx hb dX10_costOf_86 (lv_at hl 3 rfl) ?_
        refine fz_ald (k := 506) (n := 70) (k2 := (507 + (t).toNat)) hx hb hK hP 2 rfl (by decide) mE_sort rfl ⟨by (first | ((try clear hμ1); (try clear hμ2); (try clear hμ3); (try clear hμ4); (try clear hμ5); (try clear hμ6); (try clear hμ7); (try clear hμ8); (try clear hμm); (try clear hμr); (try clear h9); (try clear hnx9); omega) | omega), by (first | ((try clear hμ1); (try clear hμ2); (try clear hμ3); (try clear hμ4); (try clear hμ5); (try clear hμ6); (try clear hμ7); (try clear hμ8); (try clear hμm); (try clear hμr); (try clear h9); (try clear hnx9); omega) | omega)⟩ (by decide) (if_pos (by (first | ((try clear hμ1); (try clear hμ2); (try clear hμ3); (try clear hμ4); (try clear hμ5); (try clear hμ6); (try clear hμ7); (try clear hμ8); (try clear hμm); (try clear hμr); (try clear h9); (try clear hnx9); omega) | omega))) dX10_costOf_88 ?_
        refine lv_iload hx hb dX10_costOf_89 (lv_at hl 1 rfl) ?_
        refine fz_ld (k := (507 + (t).toNat)) (n := 900) hx hb hK hP 0 (by (first | ((try clear hμ1); (try clear hμ2); (try clear hμ3); (try clear hμ4); (try clear hμ5); (try clear hμ6); (try clear hμ7); (try clear hμ8); (try clear hμm); (try clear hμr); (try clear h9); (try clear hnx9); omega) | omega)) (mE_sortR (by (first | ((try clear hμ1); (try clear hμ2); (try clear hμ3); (try clear hμ4); (try clear hμ5); (try clear hμ6); (try clear hμ7); (try clear hμ8); (try clear hμm); (try clear hμr); (try clear h9); (try clear hnx9); omega) | omega))) rfl ⟨by (first | ((try clear hμ1); (try clear hμ2); (try clear hμ3); (try clear hμ4); (try clear hμ5); (try clear hμ6); (try clear hμ7); (try clear hμ8); (try clear hμm); (try clear hμr); (try clear h9); (try clear hnx9); omega) | omega), by (first | ((try clear hμ1); (try clear hμ2); (try clear hμ3); (try clear hμ4); (try clear hμ5); (try clear hμ6); (try clear hμ7); (try clear hμ8); (try clear hμm); (try clear hμr); (try clear h9); (try clear hnx9); omega) | omega)⟩ (by decide) dX10_costOf_91 ?_
        rw [show μ (507 + (t).toNat) ((ps + (rO wS i.toNat : Int))).toNat = (ks : Int) from (by exact sIA.1)]
        refine lv_iconst (v := iZ 3) hx hb dX10_costOf_92 rfl ?_
        refine fz_icmp_ne (tgt := 100) (by constructor <;> (first | ((try clear hμ1); (try clear hμ2); (try clear hμ3); (try clear hμ4); (try clear hμ5); (try clear hμ6); (try clear hμ7); (try clear hμ8); (try clear hμm); (try clear hμr); (try clear h9); (try clear hnx9); omega) | omega)) (by decide) hx hb dX10_costOf_93 (by decide) (fun c93_ => ?_) (fun c93_ => ?_)
        · refine lv_aload_n hx hb dX10_costOf_100 rfl (lv_at hl 4 rfl) ?_
          refine lv_iload hx hb dX10_costOf_101 (lv_at hl 3 rfl) ?_
          refine lv_iload hx hb dX10_costOf_103 (lv_at hl 1 rfl) ?_
          refine lv_iload hx hb dX10_costOf_105 (lv_at hl 1 rfl) ?_
          refine lv_aload_n hx hb dX10_costOf_107 rfl (lv_at hl 4 rfl) ?_
          refine fz_get (D := (dC, dI)) (ci := 10) (v := .ref (h0 + 648)) (C := RX10) (T := TX10) (N := 53) hx hb hts inG10 hown hK hP (k := 0) (by decide) (F := mF h0) mE_obj rfl 20 (by decide) (hts _ k1186) (fun _ h9 => h9) rfl dX10_costOf_108 ?_
          refine lv_iload hx hb dX10_costOf_111 (lv_at hl 3 rfl) ?_
          refine fz_ald (k := 648) (n := 70) (k2 := (649 + (t).toNat)) hx hb hK hP 2 rfl (by decide) mE_span rfl ⟨by (first | ((try clear hμ1); (try clear hμ2); (try clear hμ3); (try clear hμ4); (try clear hμ5); (try clear hμ6); (try clear hμ7); (try clear hμ8); (try clear hμm); (try clear hμr); (try clear h9); (try clear hnx9); omega) | omega), by (first | ((try clear hμ1); (try clear hμ2); (try clear hμ3); (try clear hμ4); (try clear hμ5); (try clear hμ6); (try clear hμ7); (try clear hμ8); (try clear hμm); (try clear hμr); (try clear h9); (try clear hnx9); omega) | omega)⟩ (by decide) (if_pos (by (first | ((try clear hμ1); (try clear hμ2); (try clear hμ3); (try clear hμ4); (try clear hμ5); (try clear hμ6); (try clear hμ7); (try clear hμ8); (try clear hμm); (try clear hμr); (try clear h9); (try clear hnx9); omega) | omega))) dX10_costOf_113 ?_
          refine lv_iload hx hb dX10_costOf_114 (lv_at hl 1 rfl) ?_
          refine fz_ld (k := (649 + (t).toNat)) (n := 900) hx hb hK hP 0 (by (first | ((try clear hμ1); (try clear hμ2); (try clear hμ3); (try clear hμ4); (try clear hμ5); (try clear hμ6); (try clear hμ7); (try clear hμ8); (try clear hμm); (try clear hμr); (try clear h9); (try clear hnx9); omega) | omega)) (mE_spanR (by (first | ((try clear hμ1); (try clear hμ2); (try clear hμ3); (try clear hμ4); (try clear hμ5); (try clear hμ6); (try clear hμ7); (try clear hμ8); (try clear hμm); (try clear hμr); (try clear h9); (try clear hnx9); omega) | omega))) rfl ⟨by (first | ((try clear hμ1); (try clear hμ2); (try clear hμ3); (try clear hμ4); (try clear hμ5); (try clear hμ6); (try clear hμ7); (try clear hμ8); (try clear hμm); (try clear hμr); (try clear h9); (try clear hnx9); omega) | omega), by (first | ((try clear hμ1); (try clear hμ2); (try clear hμ3); (try clear hμ4); (try clear hμ5); (try clear hμ6); (try clear hμ7); (try clear hμ8); (try clear hμm); (try clear hμr); (try clear h9); (try clear hnx9); omega) | omega)⟩ (by decide) dX10_costOf_116 ?_
          rw [show μ (649 + (t).toNat) ((ps + (rO wS i.toNat : Int))).toNat = 1 + (rN la : Int) from (by exact sIA.2.2.1)]
          refine lv_iadd hx hb dX10_costOf_117 ?_
          refine lv_topi (fun x9 ex9 => ?_)
          obtain rfl : x9 = iZ (((ps + (rO wS i.toNat : Int))) + (1 + (rN la : Int))) := ex9.trans (iZ_add _ _)
          refine va_calli (va_runV (As := [.int (iZ (t)), .int (iZ ((ps + (rO wS i.toNat : Int)))), .int (iZ (((ps + (rO wS i.toNat : Int))) + (1 + (rN la : Int))))]) (rest := []) ⟨hx, hb, hml, hown, hts⟩ (m_sizeOf2 l dC dI cI cZ cII cIII h0 s.heap.size μ (t) ((ps + (rO wS i.toNat : Int))) (((ps + (rO wS i.toNat : Int))) + (1 + (rN la : Int))) (by first | assumption | ((try clear hμ1); (try clear hμ2); (try clear hμ3); (try clear hμ4); (try clear hμ5); (try clear hμ6); (try clear hμ7); (try clear hμ8); (try clear hμm); (try clear hμr); (try clear h9); (try clear hnx9); omega) | omega | exact ⟨by (first | ((try clear hμ1); (try clear hμ2); (try clear hμ3); (try clear hμ4); (try clear hμ5); (try clear hμ6); (try clear hμ7); (try clear hμ8); (try clear hμm); (try clear hμr); (try clear h9); (try clear hnx9); omega) | omega), by (first | ((try clear hμ1); (try clear hμ2); (try clear hμ3); (try clear hμ4); (try clear hμ5); (try clear hμ6); (try clear hμ7); (try clear hμ8); (try clear hμm); (try clear hμr); (try clear h9); (try clear hnx9); omega) | omega)⟩) (by (first | ((try clear hμ1); (try clear hμ2); (try clear hμ3); (try clear hμ4); (try clear hμ5); (try clear hμ6); (try clear hμ7); (try clear hμ8); (try clear hμm); (try clear hμr); (try clear h9); (try clear hnx9); omega) | omega)) (by (first | ((try clear hμ1); (try clear hμ2); (try clear hμ3); (try clear hμ4); (try clear hμ5); (try clear hμ6); (try clear hμ7); (try clear hμ8); (try clear hμm); (try clear hμr); (try clear h9); (try clear hnx9); omega) | omega)) (by
                            intro x hx1 hx2
                            have h9 := RA_cok (.inner 0 ks vs la .leaf) (ps + (rO wS i.toNat : Int)).toNat 900 ⟨sIA.1, sIA.2.1, sIA.2.2.1, sIA.2.2.2, trivial⟩ ⟨sF.1, sF.2.1, sF.2.2.1, sF.2.2.2.1, sF.2.2.2.2.1, sF.2.2.2.2.2.1, sF.2.2.2.2.2.2, trivial⟩ (by show _ + (1 + rN la + 0) ≤ 900; omega) x (by (first | ((try clear hμ1); (try clear hμ2); (try clear hμ3); (try clear hμ4); (try clear hμ5); (try clear hμ6); (try clear hμ7); (try clear hμ8); (try clear hμm); (try clear hμr); (try clear h9); (try clear hnx9); omega) | omega)) (by show x < _ + (1 + rN la + 0); omega)
                            have h8 := h9.1
                            constructor <;> (first | ((try clear hμ1); (try clear hμ2); (try clear hμ3); (try clear hμ4); (try clear hμ5); (try clear hμ6); (try clear hμ7); (try clear hμ8); (try clear hμm); (try clear hμr); (try clear h9); (try clear hnx9); omega) | omega))) (cwV 3 hts (gV_G k1488 k1490 ks_yX10_sizeOf k13 k1491) rfl rfl rfl (by decide +kernel) ⟨by show 1 + 1 ≤ 5 * d + 32 + 1 + 1; omega, by show 8 + (6 + 11) + (14) ≤ 200 * d + 900 + 40 + 40; omega⟩) ⟨fun a U g mk q => by obtain ⟨q0, q1, qP, qK⟩ := q; exact ⟨q0, q1, qP, va_K.moved (u := U) (U := U.calling g mk a) (Vm.Alike.refl U.vm) qK⟩, va_recv hK hP (ci := 10) (q0 := 0) rfl ((fw_get (by decide)).trans (by rw [mE_obj]; rfl)), fun U hU hW => ⟨rfl, by rw [hU], by rw [hU]; exact hP, va_K.moved hW.alike hK⟩⟩ rfl rfl hl.1 rfl (lv_room (Nat.le_of_ble_eq_true rfl)) dX10_costOf_118 ⟨Nat.le_of_ble_eq_true rfl, Nat.le_of_ble_eq_true rfl⟩) hS (fun q _ h => fA_le hS.1 q h) (fA_le hS.1) (fun r9 u9 t9 H1 locs ht9 hvm9 hw9 hB9 hz9 hk9 hS => ?_)
          obtain ⟨μ2, rz⟩ := u9
          obtain ⟨hP, -⟩ := hB9
          rw [ht9] at hP
          generalize H1 = H at hP hS ⊢
          obtain ⟨e9, hw9⟩ := hw9
          have e9 : r9 = iZ rz := e9
          subst e9
          simp only at hP hw9
          have hμ2 := hw9; clear hw9
          rw [hμ2.1] at hP; have hμ2 := hμ2.2
          have hz : rz = rL1 ks la := by
            have h9 := hμ2
            rw [show (((ps + (rO wS i.toNat : Int)) + (1 + (rN la : Int))) - (ps + (rO wS i.toNat : Int))).toNat = 1 + rN la by (first | ((try clear hμ1); (try clear hμ2); (try clear hμ3); (try clear hμ4); (try clear hμ5); (try clear hμ6); (try clear hμ7); (try clear hμ8); (try clear hμm); (try clear hμr); (try clear h9); (try clear hnx9); omega) | omega), cS_it sIA] at h9
            exact h9
          refine lv_aload_n hx hb dX10_costOf_121 rfl (lv_at hl 4 rfl) ?_
          refine fz_get (D := (dC, dI)) (ci := 10) (v := .ref (h0 + 753)) (C := RX10) (T := TX10) (N := 53) hx hb hts inG10 hown hK hP (k := 0) (by decide) (F := mF h0) mE_obj rfl 32 (by decide) (hts _ k1198) (fun _ h9 => h9) rfl dX10_costOf_122 ?_
          refine lv_iload_n hx hb dX10_costOf_125 rfl (lv_at hl 6 rfl) ?_
          refine fz_ald (k := 753) (n := 14) (k2 := (754 + (n).toNat * 261)) hx hb hK hP 3 rfl (by decide) mE_least rfl ⟨by (first | ((try clear hμ1); (try clear hμ2); (try clear hμ3); (try clear hμ4); (try clear hμ5); (try clear hμ6); (try clear hμ7); (try clear hμ8); (try clear hμm); (try clear hμr); (try clear h9); (try clear hnx9); omega) | omega), by (first | ((try clear hμ1); (try clear hμ2); (try clear hμ3); (try clear hμ4); (try clear hμ5); (try clear hμ6); (try clear hμ7); (try clear hμ8); (try clear hμm); (try clear hμr); (try clear h9); (try clear hnx9); omega) | omega)⟩ (by decide) (if_pos (by (first | ((try clear hμ1); (try clear hμ2); (try clear hμ3); (try clear hμ4); (try clear hμ5); (try clear hμ6); (try clear hμ7); (try clear hμ8); (try clear hμm); (try clear hμr); (try clear h9); (try clear hnx9); omega) | omega))) dX10_costOf_126 ?_
          refine lv_iload_n hx hb dX10_costOf_127 rfl (lv_at hl 7 rfl) ?_
          refine lv_iconst (v := iZ 1) hx hb dX10_costOf_128 rfl ?_
          refine lv_iadd hx hb dX10_costOf_129 ?_
          refine lv_topi (fun x9 ex9 => ?_)
          obtain rfl : x9 = iZ (i + 1) := ex9.trans (iZ_add _ _)
          refine fz_ald (k := (754 + (n).toNat * 261)) (n := 260) (k2 := (754 + (n).toNat * 261 + 1 + (i + 1).toNat)) hx hb hK hP 2 rfl (by (first | ((try clear hμ1); (try clear hμ2); (try clear hμ3); (try clear hμ4); (try clear hμ5); (try clear hμ6); (try clear hμ7); (try clear hμ8); (try clear hμm); (try clear hμr); (try clear h9); (try clear hnx9); omega) | omega)) (mE_leastM (by (first | ((try clear hμ1); (try clear hμ2); (try clear hμ3); (try clear hμ4); (try clear hμ5); (try clear hμ6); (try clear hμ7); (try clear hμ8); (try clear hμm); (try clear hμr); (try clear h9); (try clear hnx9); omega) | omega))) rfl ⟨by (first | ((try clear hμ1); (try clear hμ2); (try clear hμ3); (try clear hμ4); (try clear hμ5); (try clear hμ6); (try clear hμ7); (try clear hμ8); (try clear hμm); (try clear hμr); (try clear h9); (try clear hnx9); omega) | omega), by (first | ((try clear hμ1); (try clear hμ2); (try clear hμ3); (try clear hμ4); (try clear hμ5); (try clear hμ6); (try clear hμ7); (try clear hμ8); (try clear hμm); (try clear hμr); (try clear h9); (try clear hnx9); omega) | omega)⟩ (by decide) (if_pos (by (first | ((try clear hμ1); (try clear hμ2); (try clear hμ3); (try clear hμ4); (try clear hμ5); (try clear hμ6); (try clear hμ7); (try clear hμ8); (try clear hμm); (try clear hμr); (try clear h9); (try clear hnx9); omega) | omega))) dX10_costOf_130 ?_
          refine lv_iload hx hb dX10_costOf_131 (lv_at hl 8 rfl) ?_
          refine fz_ld (k := (754 + (n).toNat * 261 + 1 + (i + 1).toNat)) (n := 62) hx hb hK hP 0 (by (first | ((try clear hμ1); (try clear hμ2); (try clear hμ3); (try clear hμ4); (try clear hμ5); (try clear hμ6); (try clear hμ7); (try clear hμ8); (try clear hμm); (try clear hμr); (try clear h9); (try clear hnx9); omega) | omega)) (mE_leastR (by (first | ((try clear hμ1); (try clear hμ2); (try clear hμ3); (try clear hμ4); (try clear hμ5); (try clear hμ6); (try clear hμ7); (try clear hμ8); (try clear hμm); (try clear hμr); (try clear h9); (try clear hnx9); omega) | omega)) (by (first | ((try clear hμ1); (try clear hμ2); (try clear hμ3); (try clear hμ4); (try clear hμ5); (try clear hμ6); (try clear hμ7); (try clear hμ8); (try clear hμm); (try clear hμr); (try clear h9); (try clear hnx9); omega) | omega))) rfl ⟨by (first | ((try clear hμ1); (try clear hμ2); (try clear hμ3); (try clear hμ4); (try clear hμ5); (try clear hμ6); (try clear hμ7); (try clear hμ8); (try clear hμm); (try clear hμr); (try clear h9); (try clear hnx9); omega) | omega), by (first | ((try clear hμ1); (try clear hμ2); (try clear hμ3); (try clear hμ4); (try clear hμ5); (try clear hμ6); (try clear hμ7); (try clear hμ8); (try clear hμm); (try clear hμr); (try clear h9); (try clear hnx9); omega) | omega)⟩ (by decide) dX10_costOf_133 ?_
          rw [show μ (754 + (n).toNat * 261 + 1 + (i + 1).toNat) (j).toNat = (lay (rdrop (i.toNat + 1) wS) (rdrop (j.toNat) wP)).1 from (by rw [ei1]; exact hle (i.toNat + 1) (j.toNat) (by (first | ((try clear hμ1); (try clear hμ2); (try clear hμ3); (try clear hμ4); (try clear hμ5); (try clear hμ6); (try clear hμ7); (try clear hμ8); (try clear hμm); (try clear hμr); (try clear h9); (try clear hnx9); omega) | omega)) (by (first | ((try clear hμ1); (try clear hμ2); (try clear hμ3); (try clear hμ4); (try clear hμ5); (try clear hμ6); (try clear hμ7); (try clear hμ8); (try clear hμm); (try clear hμr); (try clear h9); (try clear hnx9); omega) | omega)) (by (first | ((try clear hμ1); (try clear hμ2); (try clear hμ3); (try clear hμ4); (try clear hμ5); (try clear hμ6); (try clear hμ7); (try clear hμ8); (try clear hμm); (try clear hμr); (try clear h9); (try clear hnx9); omega) | omega)) (by (first | ((try clear hμ1); (try clear hμ2); (try clear hμ3); (try clear hμ4); (try clear hμ5); (try clear hμ6); (try clear hμ7); (try clear hμ8); (try clear hμm); (try clear hμr); (try clear h9); (try clear hnx9); omega) | omega)) (by (first | ((try clear hμ1); (try clear hμ2); (try clear hμ3); (try clear hμ4); (try clear hμ5); (try clear hμ6); (try clear hμ7); (try clear hμ8); (try clear hμm); (try clear hμr); (try clear h9); (try clear hnx9); omega) | omega)))]
          refine lv_iadd hx hb dX10_costOf_134 ?_
          refine lv_topi (fun x9 ex9 => ?_)
          obtain rfl : x9 = iZ (rz + ((lay (rdrop (i.toNat + 1) wS) (rdrop (j.toNat) wP)).1)) := ex9.trans (iZ_add _ _)
          exact W.iret (v := iZ (rz + ((lay (rdrop (i.toNat + 1) wS) (rdrop (j.toNat) wP)).1))) hx hb hr (fun t9 ht9 hW9 => ⟨⟨iZ (rz + ((lay (rdrop (i.toNat + 1) wS) (rdrop (j.toNat) wP)).1)), (μ, rz + ((lay (rdrop (i.toNat + 1) wS) (rdrop (j.toNat) wP)).1)), rfl, ⟨rfl, (by
                            dsimp only
                            first
                              | (revert hSe; intro hSe
                                 rw [hSe]
                                 exact ⟨by unfold waF; rw [if_pos (by (first | ((try clear hμ1); (try clear hμ2); (try clear hμ3); (try clear hμ4); (try clear hμ5); (try clear hμ6); (try clear hμ7); (try clear hμ8); (try clear hμm); (try clear hμr); (try clear h9); (try clear hnx9); omega) | omega)), wa4], fr_rfl⟩)
                              | (rw [hes, sS]
                                 refine ⟨?_, fr_rfl⟩
                                 unfold waF
                                 rw [if_pos (by (first | ((try clear hμ1); (try clear hμ2); (try clear hμ3); (try clear hμ4); (try clear hμ5); (try clear hμ6); (try clear hμ7); (try clear hμ8); (try clear hμm); (try clear hμr); (try clear h9); (try clear hnx9); omega) | omega)), wa4]
                                 first
                                   | (rw [if_pos (by (first | ((try clear hμ1); (try clear hμ2); (try clear hμ3); (try clear hμ4); (try clear hμ5); (try clear hμ6); (try clear hμ7); (try clear hμ8); (try clear hμm); (try clear hμr); (try clear h9); (try clear hnx9); omega) | omega))])
                                   | (rw [if_neg (by (first | ((try clear hμ1); (try clear hμ2); (try clear hμ3); (try clear hμ4); (try clear hμ5); (try clear hμ6); (try clear hμ7); (try clear hμ8); (try clear hμm); (try clear hμr); (try clear h9); (try clear hnx9); omega) | omega)), hz])))⟩, by rw [ht9]; exact hP, va_K.moved hW9.alike hK⟩, hS.F ht9⟩) hS.2.2 dX10_costOf_135
        · refine lv_iconst (v := iZ 0) hx hb dX10_costOf_96 rfl ?_
          refine lv_goto (tgt := 121) hx hb dX10_costOf_97 (by decide) ?_
          refine lv_aload_n hx hb dX10_costOf_121 rfl (lv_at hl 4 rfl) ?_
          refine fz_get (D := (dC, dI)) (ci := 10) (v := .ref (h0 + 753)) (C := RX10) (T := TX10) (N := 53) hx hb hts inG10 hown hK hP (k := 0) (by decide) (F := mF h0) mE_obj rfl 32 (by decide) (hts _ k1198) (fun _ h9 => h9) rfl dX10_costOf_122 ?_
          refine lv_iload_n hx hb dX10_costOf_125 rfl (lv_at hl 6 rfl) ?_
          refine fz_ald (k := 753) (n := 14) (k2 := (754 + (n).toNat * 261)) hx hb hK hP 3 rfl (by decide) mE_least rfl ⟨by (first | ((try clear hμ1); (try clear hμ2); (try clear hμ3); (try clear hμ4); (try clear hμ5); (try clear hμ6); (try clear hμ7); (try clear hμ8); (try clear hμm); (try clear hμr); (try clear h9); (try clear hnx9); omega) | omega), by (first | ((try clear hμ1); (try clear hμ2); (try clear hμ3); (try clear hμ4); (try clear hμ5); (try clear hμ6); (try clear hμ7); (try clear hμ8); (try clear hμm); (try clear hμr); (try clear h9); (try clear hnx9); omega) | omega)⟩ (by decide) (if_pos (by (first | ((try clear hμ1); (try clear hμ2); (try clear hμ3); (try clear hμ4); (try clear hμ5); (try clear hμ6); (try clear hμ7); (try clear hμ8); (try clear hμm); (try clear hμr); (try clear h9); (try clear hnx9); omega) | omega))) dX10_costOf_126 ?_
          refine lv_iload_n hx hb dX10_costOf_127 rfl (lv_at hl 7 rfl) ?_
          refine lv_iconst (v := iZ 1) hx hb dX10_costOf_128 rfl ?_
          refine lv_iadd hx hb dX10_costOf_129 ?_
          refine lv_topi (fun x9 ex9 => ?_)
          obtain rfl : x9 = iZ (i + 1) := ex9.trans (iZ_add _ _)
          refine fz_ald (k := (754 + (n).toNat * 261)) (n := 260) (k2 := (754 + (n).toNat * 261 + 1 + (i + 1).toNat)) hx hb hK hP 2 rfl (by (first | ((try clear hμ1); (try clear hμ2); (try clear hμ3); (try clear hμ4); (try clear hμ5); (try clear hμ6); (try clear hμ7); (try clear hμ8); (try clear hμm); (try clear hμr); (try clear h9); (try clear hnx9); omega) | omega)) (mE_leastM (by (first | ((try clear hμ1); (try clear hμ2); (try clear hμ3); (try clear hμ4); (try clear hμ5); (try clear hμ6); (try clear hμ7); (try clear hμ8); (try clear hμm); (try clear hμr); (try clear h9); (try clear hnx9); omega) | omega))) rfl ⟨by (first | ((try clear hμ1); (try clear hμ2); (try clear hμ3); (try clear hμ4); (try clear hμ5); (try clear hμ6); (try clear hμ7); (try clear hμ8); (try clear hμm); (try clear hμr); (try clear h9); (try clear hnx9); omega) | omega), by (first | ((try clear hμ1); (try clear hμ2); (try clear hμ3); (try clear hμ4); (try clear hμ5); (try clear hμ6); (try clear hμ7); (try clear hμ8); (try clear hμm); (try clear hμr); (try clear h9); (try clear hnx9); omega) | omega)⟩ (by decide) (if_pos (by (first | ((try clear hμ1); (try clear hμ2); (try clear hμ3); (try clear hμ4); (try clear hμ5); (try clear hμ6); (try clear hμ7); (try clear hμ8); (try clear hμm); (try clear hμr); (try clear h9); (try clear hnx9); omega) | omega))) dX10_costOf_130 ?_
          refine lv_iload hx hb dX10_costOf_131 (lv_at hl 8 rfl) ?_
          refine fz_ld (k := (754 + (n).toNat * 261 + 1 + (i + 1).toNat)) (n := 62) hx hb hK hP 0 (by (first | ((try clear hμ1); (try clear hμ2); (try clear hμ3); (try clear hμ4); (try clear hμ5); (try clear hμ6); (try clear hμ7); (try clear hμ8); (try clear hμm); (try clear hμr); (try clear h9); (try clear hnx9); omega) | omega)) (mE_leastR (by (first | ((try clear hμ1); (try clear hμ2); (try clear hμ3); (try clear hμ4); (try clear hμ5); (try clear hμ6); (try clear hμ7); (try clear hμ8); (try clear hμm); (try clear hμr); (try clear h9); (try clear hnx9); omega) | omega)) (by (first | ((try clear hμ1); (try clear hμ2); (try clear hμ3); (try clear hμ4); (try clear hμ5); (try clear hμ6); (try clear hμ7); (try clear hμ8); (try clear hμm); (try clear hμr); (try clear h9); (try clear hnx9); omega) | omega))) rfl ⟨by (first | ((try clear hμ1); (try clear hμ2); (try clear hμ3); (try clear hμ4); (try clear hμ5); (try clear hμ6); (try clear hμ7); (try clear hμ8); (try clear hμm); (try clear hμr); (try clear h9); (try clear hnx9); omega) | omega), by (first | ((try clear hμ1); (try clear hμ2); (try clear hμ3); (try clear hμ4); (try clear hμ5); (try clear hμ6); (try clear hμ7); (try clear hμ8); (try clear hμm); (try clear hμr); (try clear h9); (try clear hnx9); omega) | omega)⟩ (by decide) dX10_costOf_133 ?_
          rw [show μ (754 + (n).toNat * 261 + 1 + (i + 1).toNat) (j).toNat = (lay (rdrop (i.toNat + 1) wS) (rdrop (j.toNat) wP)).1 from (by rw [ei1]; exact hle (i.toNat + 1) (j.toNat) (by (first | ((try clear hμ1); (try clear hμ2); (try clear hμ3); (try clear hμ4); (try clear hμ5); (try clear hμ6); (try clear hμ7); (try clear hμ8); (try clear hμm); (try clear hμr); (try clear h9); (try clear hnx9); omega) | omega)) (by (first | ((try clear hμ1); (try clear hμ2); (try clear hμ3); (try clear hμ4); (try clear hμ5); (try clear hμ6); (try clear hμ7); (try clear hμ8); (try clear hμm); (try clear hμr); (try clear h9); (try clear hnx9); omega) | omega)) (by (first | ((try clear hμ1); (try clear hμ2); (try clear hμ3); (try clear hμ4); (try clear hμ5); (try clear hμ6); (try clear hμ7); (try clear hμ8); (try clear hμm); (try clear hμr); (try clear h9); (try clear hnx9); omega) | omega)) (by (first | ((try clear hμ1); (try clear hμ2); (try clear hμ3); (try clear hμ4); (try clear hμ5); (try clear hμ6); (try clear hμ7); (try clear hμ8); (try clear hμm); (try clear hμr); (try clear h9); (try clear hnx9); omega) | omega)) (by (first | ((try clear hμ1); (try clear hμ2); (try clear hμ3); (try clear hμ4); (try clear hμ5); (try clear hμ6); (try clear hμ7); (try clear hμ8); (try clear hμm); (try clear hμr); (try clear h9); (try clear hnx9); omega) | omega)))]
          refine lv_iadd hx hb dX10_costOf_134 ?_
          refine lv_topi (fun x9 ex9 => ?_)
          obtain rfl : x9 = iZ (0 + ((lay (rdrop (i.toNat + 1) wS) (rdrop (j.toNat) wP)).1)) := ex9.trans (iZ_add _ _)
          exact W.iret (v := iZ (0 + ((lay (rdrop (i.toNat + 1) wS) (rdrop (j.toNat) wP)).1))) hx hb hr (fun t9 ht9 hW9 => ⟨⟨iZ (0 + ((lay (rdrop (i.toNat + 1) wS) (rdrop (j.toNat) wP)).1)), (μ, 0 + ((lay (rdrop (i.toNat + 1) wS) (rdrop (j.toNat) wP)).1)), rfl, ⟨rfl, (by
                            dsimp only
                            first
                              | (revert hSe; intro hSe
                                 rw [hSe]
                                 exact ⟨by unfold waF; rw [if_pos (by (first | ((try clear hμ1); (try clear hμ2); (try clear hμ3); (try clear hμ4); (try clear hμ5); (try clear hμ6); (try clear hμ7); (try clear hμ8); (try clear hμm); (try clear hμr); (try clear h9); (try clear hnx9); omega) | omega)), wa4], fr_rfl⟩)
                              | (rw [hes, sS]
                                 refine ⟨?_, fr_rfl⟩
                                 unfold waF
                                 rw [if_pos (by (first | ((try clear hμ1); (try clear hμ2); (try clear hμ3); (try clear hμ4); (try clear hμ5); (try clear hμ6); (try clear hμ7); (try clear hμ8); (try clear hμm); (try clear hμr); (try clear h9); (try clear hnx9); omega) | omega)), wa4]
                                 first
                                   | (rw [if_pos (by (first | ((try clear hμ1); (try clear hμ2); (try clear hμ3); (try clear hμ4); (try clear hμ5); (try clear hμ6); (try clear hμ7); (try clear hμ8); (try clear hμm); (try clear hμr); (try clear h9); (try clear hnx9); omega) | omega))])
                                   | (rw [if_neg (by (first | ((try clear hμ1); (try clear hμ2); (try clear hμ3); (try clear hμ4); (try clear hμ5); (try clear hμ6); (try clear hμ7); (try clear hμ8); (try clear hμm); (try clear hμr); (try clear h9); (try clear hnx9); omega) | omega)), hz])))⟩, by rw [ht9]; exact hP, va_K.moved hW9.alike hK⟩, hS.F ht9⟩) hS.2.2 dX10_costOf_135
    · have x0 := rdrop_I j.toNat wP
      have x1 := rdrop_N j.toNat wP
      have x9 := rdrop_H j.toNat wP
      have x2 := RA_drop j.toNat wP _ v8
      have x3 := rdrop_WF j.toNat wP hwP
      obtain ⟨zp, kp, vp, lb, rb, hep⟩ := rI_pos (w := rdrop j.toNat wP) (by (first | ((try clear hμ1); (try clear hμ2); (try clear hμ3); (try clear hμ4); (try clear hμ5); (try clear hμ6); (try clear hμ7); (try clear hμ8); (try clear hμm); (try clear hμr); (try clear h9); (try clear hnx9); omega) | omega))
      rw [hep] at x0 x1 x2 x3 x9
      rw [rN_in] at x1
      rw [rI_in] at x0
      rw [rH_in] at x9
      obtain ⟨y1, y2, y3, y4, y5⟩ := x2
      have pF : iWF kp vp lb := ⟨x3.1, x3.2.1, x3.2.2.1, x3.2.2.2.1, x3.2.2.2.2.1, x3.2.2.2.2.2.1, x3.2.2.2.2.2.2.1⟩
      have pFk : kp ≤ 4 := x3.1
      clear x3
      have pro := v6 j.toNat (by (first | ((try clear hμ1); (try clear hμ2); (try clear hμ3); (try clear hμ4); (try clear hμ5); (try clear hμ6); (try clear hμ7); (try clear hμ8); (try clear hμm); (try clear hμr); (try clear h9); (try clear hnx9); omega) | omega))
      have ppo : (pq + (rO wP j.toNat : Int)).toNat = pq.toNat + rO wP j.toNat := by (first | ((try clear hμ1); (try clear hμ2); (try clear hμ3); (try clear hμ4); (try clear hμ5); (try clear hμ6); (try clear hμ7); (try clear hμ8); (try clear hμm); (try clear hμr); (try clear h9); (try clear hnx9); omega) | omega)
      have pIA : IA μ u1.toNat (pq + (rO wP j.toNat : Int)).toNat kp vp lb := by rw [ppo]; exact ⟨y1, y2, y3, y4⟩
      have pS := rdrop_S hep
      have pSI := rI_N2 lb
      have pSL : rL lb ≤ rL wP := Nat.le_trans (by rw [hep]; exact rL_l) (rdrop_L j.toNat wP)
      clear y1 y2 y3 y4 y5
      refine lv_aload_n hx hb dX10_costOf_51 rfl (lv_at hl 3 rfl) ?_
      refine fz_get (D := (dC, dI)) (ci := 10) (v := .ref (h0 + 737)) (C := RX10) (T := TX10) (N := 53) hx hb hts inG10 hown hK hP (k := 0) (by decide) (F := mF h0) mE_obj rfl 30 (by decide) (hts _ k1196) (fun _ h9 => h9) rfl dX10_costOf_52 ?_
      refine lv_iload_n hx hb dX10_costOf_55 rfl (lv_at hl 5 rfl) ?_
      refine fz_ald (k := 737) (n := 14) (k2 := (738 + (n).toNat)) hx hb hK hP 2 rfl (by decide) mE_rowP rfl ⟨by (first | ((try clear hμ1); (try clear hμ2); (try clear hμ3); (try clear hμ4); (try clear hμ5); (try clear hμ6); (try clear hμ7); (try clear hμ8); (try clear hμm); (try clear hμr); (try clear h9); (try clear hnx9); omega) | omega), by (first | ((try clear hμ1); (try clear hμ2); (try clear hμ3); (try clear hμ4); (try clear hμ5); (try clear hμ6); (try clear hμ7); (try clear hμ8); (try clear hμm); (try clear hμr); (try clear h9); (try clear hnx9); omega) | omega)⟩ (by decide) (if_pos (by (first | ((try clear hμ1); (try clear hμ2); (try clear hμ3); (try clear hμ4); (try clear hμ5); (try clear hμ6); (try clear hμ7); (try clear hμ8); (try clear hμm); (try clear hμr); (try clear h9); (try clear hnx9); omega) | omega))) dX10_costOf_56 ?_
      refine lv_iload hx hb dX10_costOf_57 (lv_at hl 7 rfl) ?_
      refine fz_ld (k := (738 + (n).toNat)) (n := 260) hx hb hK hP 0 (by (first | ((try clear hμ1); (try clear hμ2); (try clear hμ3); (try clear hμ4); (try clear hμ5); (try clear hμ6); (try clear hμ7); (try clear hμ8); (try clear hμm); (try clear hμr); (try clear h9); (try clear hnx9); omega) | omega)) (mE_rowPR (by (first | ((try clear hμ1); (try clear hμ2); (try clear hμ3); (try clear hμ4); (try clear hμ5); (try clear hμ6); (try clear hμ7); (try clear hμ8); (try clear hμm); (try clear hμr); (try clear h9); (try clear hnx9); omega) | omega))) rfl ⟨by (first | ((try clear hμ1); (try clear hμ2); (try clear hμ3); (try clear hμ4); (try clear hμ5); (try clear hμ6); (try clear hμ7); (try clear hμ8); (try clear hμm); (try clear hμr); (try clear h9); (try clear hnx9); omega) | omega), by (first | ((try clear hμ1); (try clear hμ2); (try clear hμ3); (try clear hμ4); (try clear hμ5); (try clear hμ6); (try clear hμ7); (try clear hμ8); (try clear hμm); (try clear hμr); (try clear h9); (try clear hnx9); omega) | omega)⟩ (by decide) dX10_costOf_59 ?_
      rw [show μ (738 + (n).toNat) (j).toNat = (pq + (rO wP j.toNat : Int)) from (by exact pro)]
      refine lv_goto (tgt := 64) hx hb dX10_costOf_60 (by decide) ?_
      refine lv_istore (lv' := [(8, .int (iZ ((pq + (rO wP j.toNat : Int))))), (7, .int (iZ ((ps + (rO wS i.toNat : Int))))), (6, .int (iZ (u1))), (5, .int (iZ (t))), (0, .ref h0), (1, .int (iZ (q))), (2, .int (iZ (n))), (3, .int (iZ (i))), (4, .int (iZ (j)))]) hx hb dX10_costOf_64 hl (by decide) rfl (fun ls hl => ?_)
      refine lv_iload_n hx hb dX10_costOf_66 rfl (lv_at hl 5 rfl) ?_
      refine lv_iconst (v := iZ 4) hx hb dX10_costOf_67 rfl ?_
      refine fz_icmp_ne (tgt := 136) (by constructor <;> (first | ((try clear hμ1); (try clear hμ2); (try clear hμ3); (try clear hμ4); (try clear hμ5); (try clear hμ6); (try clear hμ7); (try clear hμ8); (try clear hμm); (try clear hμr); (try clear h9); (try clear hnx9); omega) | omega)) (by decide) hx hb dX10_costOf_68 (by decide) (fun c68_ => ?_) (fun c68_ => ?_)
      · refine lv_iload_n hx hb dX10_costOf_136 rfl (lv_at hl 5 rfl) ?_
        refine lv_iconst (v := iZ 5) hx hb dX10_costOf_137 rfl ?_
        refine fz_icmp_ne (tgt := 188) (by constructor <;> (first | ((try clear hμ1); (try clear hμ2); (try clear hμ3); (try clear hμ4); (try clear hμ5); (try clear hμ6); (try clear hμ7); (try clear hμ8); (try clear hμm); (try clear hμr); (try clear h9); (try clear hnx9); omega) | omega)) (by decide) hx hb dX10_costOf_138 (by decide) (fun c138_ => ?_) (fun c138_ => ?_)
        · refine lv_iload hx hb dX10_costOf_188 (lv_at hl 1 rfl) ?_
          refine lv_iconst (v := iZ (-1)) hx hb dX10_costOf_190 rfl ?_
          refine fz_icmp_eq (tgt := 200) (by constructor <;> (first | ((try clear hμ1); (try clear hμ2); (try clear hμ3); (try clear hμ4); (try clear hμ5); (try clear hμ6); (try clear hμ7); (try clear hμ8); (try clear hμm); (try clear hμr); (try clear h9); (try clear hnx9); omega) | omega)) (by decide) hx hb dX10_costOf_191 (by decide) (fun h9 => (by (first | ((try clear hμ1); (try clear hμ2); (try clear hμ3); (try clear hμ4); (try clear hμ5); (try clear hμ6); (try clear hμ7); (try clear hμ8); (try clear hμm); (try clear hμr); (try clear h9); (try clear hnx9); omega) | omega))) (fun c191_ => ?_)
          refine lv_iload hx hb dX10_costOf_194 (lv_at hl 0 rfl) ?_
          refine lv_iconst (v := iZ (-1)) hx hb dX10_costOf_196 rfl ?_
          refine fz_icmp_ne (tgt := 203) (by constructor <;> (first | ((try clear hμ1); (try clear hμ2); (try clear hμ3); (try clear hμ4); (try clear hμ5); (try clear hμ6); (try clear hμ7); (try clear hμ8); (try clear hμm); (try clear hμr); (try clear h9); (try clear hnx9); omega) | omega)) (by decide) hx hb dX10_costOf_197 (by decide) (fun c197_ => ?_) (fun h9 => (by (first | ((try clear hμ1); (try clear hμ2); (try clear hμ3); (try clear hμ4); (try clear hμ5); (try clear hμ6); (try clear hμ7); (try clear hμ8); (try clear hμm); (try clear hμr); (try clear h9); (try clear hnx9); omega) | omega)))
          refine lv_iload_n hx hb dX10_costOf_203 rfl (lv_at hl 5 rfl) ?_
          refine lv_iconst (v := iZ 1) hx hb dX10_costOf_204 rfl ?_
          refine fz_icmp_ne (tgt := 235) (by constructor <;> (first | ((try clear hμ1); (try clear hμ2); (try clear hμ3); (try clear hμ4); (try clear hμ5); (try clear hμ6); (try clear hμ7); (try clear hμ8); (try clear hμm); (try clear hμr); (try clear h9); (try clear hnx9); omega) | omega)) (by decide) hx hb dX10_costOf_205 (by decide) (fun c205_ => ?_) (fun c205_ => ?_)
          · refine lv_iload_n hx hb dX10_costOf_235 rfl (lv_at hl 5 rfl) ?_
            refine lv_iconst (v := iZ 2) hx hb dX10_costOf_236 rfl ?_
            refine fz_icmp_ne (tgt := 327) (by constructor <;> (first | ((try clear hμ1); (try clear hμ2); (try clear hμ3); (try clear hμ4); (try clear hμ5); (try clear hμ6); (try clear hμ7); (try clear hμ8); (try clear hμm); (try clear hμr); (try clear h9); (try clear hnx9); omega) | omega)) (by decide) hx hb dX10_costOf_237 (by decide) (fun c237_ => ?_) (fun c237_ => ?_)
            · refine lv_aload_n hx hb dX10_costOf_327 rfl (lv_at hl 4 rfl) ?_
              refine fz_get (D := (dC, dI)) (ci := 10) (v := .ref (h0 + 506)) (C := RX10) (T := TX10) (N := 53) hx hb hts inG10 hown hK hP (k := 0) (by decide) (F := mF h0) mE_obj rfl 18 (by decide) (hts _ k1184) (fun _ h9 => h9) rfl dX10_costOf_328 ?_
              refine lv_iload hx hb dX10_costOf_331 (lv_at hl 2 rfl) ?_
              refine fz_ald (k := 506) (n := 70) (k2 := (507 + (u1).toNat)) hx hb hK hP 2 rfl (by decide) mE_sort rfl ⟨by (first | ((try clear hμ1); (try clear hμ2); (try clear hμ3); (try clear hμ4); (try clear hμ5); (try clear hμ6); (try clear hμ7); (try clear hμ8); (try clear hμm); (try clear hμr); (try clear h9); (try clear hnx9); omega) | omega), by (first | ((try clear hμ1); (try clear hμ2); (try clear hμ3); (try clear hμ4); (try clear hμ5); (try clear hμ6); (try clear hμ7); (try clear hμ8); (try clear hμm); (try clear hμr); (try clear h9); (try clear hnx9); omega) | omega)⟩ (by decide) (if_pos (by (first | ((try clear hμ1); (try clear hμ2); (try clear hμ3); (try clear hμ4); (try clear hμ5); (try clear hμ6); (try clear hμ7); (try clear hμ8); (try clear hμm); (try clear hμr); (try clear h9); (try clear hnx9); omega) | omega))) dX10_costOf_333 ?_
              refine lv_iload hx hb dX10_costOf_334 (lv_at hl 0 rfl) ?_
              refine fz_ld (k := (507 + (u1).toNat)) (n := 900) hx hb hK hP 0 (by (first | ((try clear hμ1); (try clear hμ2); (try clear hμ3); (try clear hμ4); (try clear hμ5); (try clear hμ6); (try clear hμ7); (try clear hμ8); (try clear hμm); (try clear hμr); (try clear h9); (try clear hnx9); omega) | omega)) (mE_sortR (by (first | ((try clear hμ1); (try clear hμ2); (try clear hμ3); (try clear hμ4); (try clear hμ5); (try clear hμ6); (try clear hμ7); (try clear hμ8); (try clear hμm); (try clear hμr); (try clear h9); (try clear hnx9); omega) | omega))) rfl ⟨by (first | ((try clear hμ1); (try clear hμ2); (try clear hμ3); (try clear hμ4); (try clear hμ5); (try clear hμ6); (try clear hμ7); (try clear hμ8); (try clear hμm); (try clear hμr); (try clear h9); (try clear hnx9); omega) | omega), by (first | ((try clear hμ1); (try clear hμ2); (try clear hμ3); (try clear hμ4); (try clear hμ5); (try clear hμ6); (try clear hμ7); (try clear hμ8); (try clear hμm); (try clear hμr); (try clear h9); (try clear hnx9); omega) | omega)⟩ (by decide) dX10_costOf_336 ?_
              rw [show μ (507 + (u1).toNat) ((pq + (rO wP j.toNat : Int))).toNat = (kp : Int) from (by exact pIA.1)]
              refine lv_iconst (v := iZ 4) hx hb dX10_costOf_337 rfl ?_
              refine fz_icmp_ne (tgt := 367) (by constructor <;> (first | ((try clear hμ1); (try clear hμ2); (try clear hμ3); (try clear hμ4); (try clear hμ5); (try clear hμ6); (try clear hμ7); (try clear hμ8); (try clear hμm); (try clear hμr); (try clear h9); (try clear hnx9); omega) | omega)) (by decide) hx hb dX10_costOf_338 (by decide) (fun c338_ => ?_) (fun c338_ => ?_)
              · refine lv_ldc (v := iZ 1000000) hx hb hown (hts _ k1547) dX10_costOf_367 ?_
                exact W.iret (v := iZ (1000000)) hx hb hr (fun t9 ht9 hW9 => ⟨⟨iZ (1000000), (μ, 1000000), rfl, ⟨rfl, (by
                                        dsimp only
                                        refine ⟨?_, fr_rfl⟩
                                        rw [hep]
                                        unfold waF
                                        rw [if_neg (by (first | ((try clear hμ1); (try clear hμ2); (try clear hμ3); (try clear hμ4); (try clear hμ5); (try clear hμ6); (try clear hμ7); (try clear hμ8); (try clear hμm); (try clear hμr); (try clear h9); (try clear hnx9); omega) | omega)), if_neg (by (first | ((try clear hμ1); (try clear hμ2); (try clear hμ3); (try clear hμ4); (try clear hμ5); (try clear hμ6); (try clear hμ7); (try clear hμ8); (try clear hμm); (try clear hμr); (try clear h9); (try clear hnx9); omega) | omega)), if_neg (by (first | ((try clear hμ1); (try clear hμ2); (try clear hμ3); (try clear hμ4); (try clear hμ5); (try clear hμ6); (try clear hμ7); (try clear hμ8); (try clear hμm); (try clear hμr); (try clear h9); (try clear hnx9); omega) | omega)), if_neg (by (first | ((try clear hμ1); (try clear hμ2); (try clear hμ3); (try clear hμ4); (try clear hμ5); (try clear hμ6); (try clear hμ7); (try clear hμ8); (try clear hμm); (try clear hμr); (try clear h9); (try clear hnx9); omega) | omega))]
                                        first
                                          | (revert hnn; intro hnn
                                             rw [hes] at hnn ⊢
                                             rw [wa3, if_pos (Or.inr (by
                                               cases hB : nxtB lb (.inner zs ks vs la ra) with
                                               | false => rfl
                                               | true => exact absurd ((nxtB_is _ _).mp hB) hnn))])
                                          | (rw [hes, wa3, if_pos (Or.inl (by (first | ((try clear hμ1); (try clear hμ2); (try clear hμ3); (try clear hμ4); (try clear hμ5); (try clear hμ6); (try clear hμ7); (try clear hμ8); (try clear hμm); (try clear hμr); (try clear h9); (try clear hnx9); omega) | omega)))]))⟩, by rw [ht9]; exact hP, va_K.moved hW9.alike hK⟩, hS.F ht9⟩) hS.2.2 dX10_costOf_369
              · refine lv_aload_n hx hb dX10_costOf_341 rfl (lv_at hl 4 rfl) ?_
                refine lv_iload hx hb dX10_costOf_342 (lv_at hl 2 rfl) ?_
                refine lv_iload hx hb dX10_costOf_344 (lv_at hl 0 rfl) ?_
                refine lv_iload hx hb dX10_costOf_346 (lv_at hl 3 rfl) ?_
                refine lv_aload_n hx hb dX10_costOf_348 rfl (lv_at hl 4 rfl) ?_
                refine fz_get (D := (dC, dI)) (ci := 10) (v := .ref (h0 + 722)) (C := RX10) (T := TX10) (N := 53) hx hb hts inG10 hown hK hP (k := 0) (by decide) (F := mF h0) mE_obj rfl 29 (by decide) (hts _ k1195) (fun _ h9 => h9) rfl dX10_costOf_349 ?_
                refine lv_iload_n hx hb dX10_costOf_352 rfl (lv_at hl 6 rfl) ?_
                refine fz_ald (k := 722) (n := 14) (k2 := (723 + (n).toNat)) hx hb hK hP 2 rfl (by decide) mE_rowS rfl ⟨by (first | ((try clear hμ1); (try clear hμ2); (try clear hμ3); (try clear hμ4); (try clear hμ5); (try clear hμ6); (try clear hμ7); (try clear hμ8); (try clear hμm); (try clear hμr); (try clear h9); (try clear hnx9); omega) | omega), by (first | ((try clear hμ1); (try clear hμ2); (try clear hμ3); (try clear hμ4); (try clear hμ5); (try clear hμ6); (try clear hμ7); (try clear hμ8); (try clear hμm); (try clear hμr); (try clear h9); (try clear hnx9); omega) | omega)⟩ (by decide) (if_pos (by (first | ((try clear hμ1); (try clear hμ2); (try clear hμ3); (try clear hμ4); (try clear hμ5); (try clear hμ6); (try clear hμ7); (try clear hμ8); (try clear hμm); (try clear hμr); (try clear h9); (try clear hnx9); omega) | omega))) dX10_costOf_353 ?_
                refine lv_iload_n hx hb dX10_costOf_354 rfl (lv_at hl 7 rfl) ?_
                refine lv_aload_n hx hb dX10_costOf_355 rfl (lv_at hl 4 rfl) ?_
                refine fz_get (D := (dC, dI)) (ci := 10) (v := .ref (h0 + 4410)) (C := RX10) (T := TX10) (N := 53) hx hb hts inG10 hown hK hP (k := 0) (by decide) (F := mF h0) mE_obj rfl 36 (by decide) (hts _ k1202) (fun _ h9 => h9) rfl dX10_costOf_356 ?_
                refine lv_iload_n hx hb dX10_costOf_359 rfl (lv_at hl 6 rfl) ?_
                refine fz_ld (k := 4410) (n := 14) hx hb hK hP 0 (by decide) mE_manyS rfl ⟨by (first | ((try clear hμ1); (try clear hμ2); (try clear hμ3); (try clear hμ4); (try clear hμ5); (try clear hμ6); (try clear hμ7); (try clear hμ8); (try clear hμm); (try clear hμr); (try clear h9); (try clear hnx9); omega) | omega), by (first | ((try clear hμ1); (try clear hμ2); (try clear hμ3); (try clear hμ4); (try clear hμ5); (try clear hμ6); (try clear hμ7); (try clear hμ8); (try clear hμm); (try clear hμr); (try clear h9); (try clear hnx9); omega) | omega)⟩ (by decide) dX10_costOf_360 ?_
                rw [show μ 4410 (n).toNat = (rI wS : Int) from (by exact v3)]
                refine va_calli (va_runV (As := [.int (iZ (u1)), .int (iZ ((pq + (rO wP j.toNat : Int)))), .int (iZ (t)), .ref (h0 + (723 + (n).toNat)), .int (iZ (i)), .int (iZ ((rI wS : Int)))]) (rest := []) ⟨hx, hb, hml, hown, hts⟩ (m_areNext l dC dI cI cZ cII cIII h0 s.heap.size μ (u1) ((pq + (rO wP j.toNat : Int))) (t) ((723 + n.toNat)) (i) ((rI wS : Int)) (kp) (vp) (lb) (wS) (ps) (by first | assumption | ((try clear hμ1); (try clear hμ2); (try clear hμ3); (try clear hμ4); (try clear hμ5); (try clear hμ6); (try clear hμ7); (try clear hμ8); (try clear hμm); (try clear hμr); (try clear h9); (try clear hnx9); omega) | omega | exact ⟨by (first | ((try clear hμ1); (try clear hμ2); (try clear hμ3); (try clear hμ4); (try clear hμ5); (try clear hμ6); (try clear hμ7); (try clear hμ8); (try clear hμm); (try clear hμr); (try clear h9); (try clear hnx9); omega) | omega), by (first | ((try clear hμ1); (try clear hμ2); (try clear hμ3); (try clear hμ4); (try clear hμ5); (try clear hμ6); (try clear hμ7); (try clear hμ8); (try clear hμm); (try clear hμr); (try clear h9); (try clear hnx9); omega) | omega)⟩) (by first | assumption | ((try clear hμ1); (try clear hμ2); (try clear hμ3); (try clear hμ4); (try clear hμ5); (try clear hμ6); (try clear hμ7); (try clear hμ8); (try clear hμm); (try clear hμr); (try clear h9); (try clear hnx9); omega) | omega | exact ⟨by (first | ((try clear hμ1); (try clear hμ2); (try clear hμ3); (try clear hμ4); (try clear hμ5); (try clear hμ6); (try clear hμ7); (try clear hμ8); (try clear hμm); (try clear hμr); (try clear h9); (try clear hnx9); omega) | omega), by (first | ((try clear hμ1); (try clear hμ2); (try clear hμ3); (try clear hμ4); (try clear hμ5); (try clear hμ6); (try clear hμ7); (try clear hμ8); (try clear hμm); (try clear hμr); (try clear h9); (try clear hnx9); omega) | omega)⟩) (by (first | ((try clear hμ1); (try clear hμ2); (try clear hμ3); (try clear hμ4); (try clear hμ5); (try clear hμ6); (try clear hμ7); (try clear hμ8); (try clear hμm); (try clear hμr); (try clear h9); (try clear hnx9); omega) | omega)) (by exact pIA) (by exact pF) (by exact Or.inl ⟨by (first | ((try clear hμ1); (try clear hμ2); (try clear hμ3); (try clear hμ4); (try clear hμ5); (try clear hμ6); (try clear hμ7); (try clear hμ8); (try clear hμm); (try clear hμr); (try clear h9); (try clear hnx9); omega) | omega), by (first | ((try clear hμ1); (try clear hμ2); (try clear hμ3); (try clear hμ4); (try clear hμ5); (try clear hμ6); (try clear hμ7); (try clear hμ8); (try clear hμm); (try clear hμr); (try clear h9); (try clear hnx9); omega) | omega)⟩) (by exact v5) (by exact v7) (by exact hps) (by exact hwS) (by (first | ((try clear hμ1); (try clear hμ2); (try clear hμ3); (try clear hμ4); (try clear hμ5); (try clear hμ6); (try clear hμ7); (try clear hμ8); (try clear hμm); (try clear hμr); (try clear h9); (try clear hnx9); omega) | omega)) (by rfl) (by exact hi) (by (first | ((try clear hμ1); (try clear hμ2); (try clear hμ3); (try clear hμ4); (try clear hμ5); (try clear hμ6); (try clear hμ7); (try clear hμ8); (try clear hμm); (try clear hμr); (try clear h9); (try clear hnx9); omega) | omega))) (cwV 6 hts (gV_G k1460 k1462 ks_yX10_areNext k13 k1463) rfl rfl rfl (by decide +kernel) ⟨by show 24 + 1 ≤ 5 * d + 32 + 1 + 1; omega, by show 8 + (10 + 11) + (740) ≤ 200 * d + 900 + 40 + 40; omega⟩) ⟨fun a U g mk q => by obtain ⟨q0, q1, qP, qK⟩ := q; exact ⟨q0, q1, qP, va_K.moved (u := U) (U := U.calling g mk a) (Vm.Alike.refl U.vm) qK⟩, va_recv hK hP (ci := 10) (q0 := 0) rfl ((fw_get (by decide)).trans (by rw [mE_obj]; rfl)), fun U hU hW => ⟨rfl, by rw [hU], by rw [hU]; exact hP, va_K.moved hW.alike hK⟩⟩ rfl rfl hl.1 rfl (lv_room (Nat.le_of_ble_eq_true rfl)) dX10_costOf_361 ⟨Nat.le_of_ble_eq_true rfl, Nat.le_of_ble_eq_true rfl⟩) hS (fun q _ h => fA_le hS.1 q h) (fA_le hS.1) (fun r9 u9 t9 H1 locs ht9 hvm9 hw9 hB9 hz9 hk9 hS => ?_)
                obtain ⟨μ3, ry⟩ := u9
                obtain ⟨hP, -⟩ := hB9
                rw [ht9] at hP
                generalize H1 = H at hP hS ⊢
                obtain ⟨e9, hw9⟩ := hw9
                have e9 : r9 = iZ ry := e9
                subst e9
                simp only at hP hw9
                have hμ3 := hw9; clear hw9
                rw [hμ3.1] at hP; have hμ3 := hμ3.2
                have hnx9 := hμ3
                refine fz_if_ne (tgt := 370) (by constructor <;> (first | ((try clear hμ1); (try clear hμ2); (try clear hμ3); (try clear hμ4); (try clear hμ5); (try clear hμ6); (try clear hμ7); (try clear hμ8); (try clear hμm); (try clear hμr); (try clear h9); (try clear hnx9); omega) | omega)) hx hb dX10_costOf_364 (by decide) (fun c364_ => ?_) (fun c364_ => ?_)
                · have hnx : nxt lb (rdrop i.toNat wS) := by
                    rcases hnx9 with ⟨_, h⟩ | ⟨h, _⟩
                    · exact h
                    · omega
                  have hnI := nxt_I _ _ hnx
                  rw [hes, rI_in] at hnI
                  refine lv_aload_n hx hb dX10_costOf_370 rfl (lv_at hl 4 rfl) ?_
                  refine lv_iload hx hb dX10_costOf_371 (lv_at hl 2 rfl) ?_
                  refine lv_iload hx hb dX10_costOf_373 (lv_at hl 0 rfl) ?_
                  refine lv_iload hx hb dX10_costOf_375 (lv_at hl 3 rfl) ?_
                  refine lv_aload_n hx hb dX10_costOf_377 rfl (lv_at hl 4 rfl) ?_
                  refine fz_get (D := (dC, dI)) (ci := 10) (v := .ref (h0 + 722)) (C := RX10) (T := TX10) (N := 53) hx hb hts inG10 hown hK hP (k := 0) (by decide) (F := mF h0) mE_obj rfl 29 (by decide) (hts _ k1195) (fun _ h9 => h9) rfl dX10_costOf_378 ?_
                  refine lv_iload_n hx hb dX10_costOf_381 rfl (lv_at hl 6 rfl) ?_
                  refine fz_ald (k := 722) (n := 14) (k2 := (723 + (n).toNat)) hx hb hK hP 2 rfl (by decide) mE_rowS rfl ⟨by (first | ((try clear hμ1); (try clear hμ2); (try clear hμ3); (try clear hμ4); (try clear hμ5); (try clear hμ6); (try clear hμ7); (try clear hμ8); (try clear hμm); (try clear hμr); (try clear h9); (try clear hnx9); omega) | omega), by (first | ((try clear hμ1); (try clear hμ2); (try clear hμ3); (try clear hμ4); (try clear hμ5); (try clear hμ6); (try clear hμ7); (try clear hμ8); (try clear hμm); (try clear hμr); (try clear h9); (try clear hnx9); omega) | omega)⟩ (by decide) (if_pos (by (first | ((try clear hμ1); (try clear hμ2); (try clear hμ3); (try clear hμ4); (try clear hμ5); (try clear hμ6); (try clear hμ7); (try clear hμ8); (try clear hμm); (try clear hμr); (try clear h9); (try clear hnx9); omega) | omega))) dX10_costOf_382 ?_
                  refine lv_iload_n hx hb dX10_costOf_383 rfl (lv_at hl 7 rfl) ?_
                  refine lv_iconst (v := iZ (-1)) hx hb dX10_costOf_384 rfl ?_
                  refine va_calli (va_runV (As := [.int (iZ (u1)), .int (iZ ((pq + (rO wP j.toNat : Int)))), .int (iZ (t)), .ref (h0 + (723 + (n).toNat)), .int (iZ (i)), .int (iZ ((-1)))]) (rest := []) ⟨hx, hb, hml, hown, hts⟩ (m_fusesRow l dC dI cI cZ cII cIII h0 H.size μ (u1) ((pq + (rO wP j.toNat : Int))) (t) ((723 + n.toNat)) (i) ((-1)) (kp) (vp) (lb) (wS) (ps) (by first | assumption | ((try clear hμ1); (try clear hμ2); (try clear hμ3); (try clear hμ4); (try clear hμ5); (try clear hμ6); (try clear hμ7); (try clear hμ8); (try clear hμm); (try clear hμr); (try clear h9); (try clear hnx9); omega) | omega | exact ⟨by (first | ((try clear hμ1); (try clear hμ2); (try clear hμ3); (try clear hμ4); (try clear hμ5); (try clear hμ6); (try clear hμ7); (try clear hμ8); (try clear hμm); (try clear hμr); (try clear h9); (try clear hnx9); omega) | omega), by (first | ((try clear hμ1); (try clear hμ2); (try clear hμ3); (try clear hμ4); (try clear hμ5); (try clear hμ6); (try clear hμ7); (try clear hμ8); (try clear hμm); (try clear hμr); (try clear h9); (try clear hnx9); omega) | omega)⟩) (by first | assumption | ((try clear hμ1); (try clear hμ2); (try clear hμ3); (try clear hμ4); (try clear hμ5); (try clear hμ6); (try clear hμ7); (try clear hμ8); (try clear hμm); (try clear hμr); (try clear h9); (try clear hnx9); omega) | omega | exact ⟨by (first | ((try clear hμ1); (try clear hμ2); (try clear hμ3); (try clear hμ4); (try clear hμ5); (try clear hμ6); (try clear hμ7); (try clear hμ8); (try clear hμm); (try clear hμr); (try clear h9); (try clear hnx9); omega) | omega), by (first | ((try clear hμ1); (try clear hμ2); (try clear hμ3); (try clear hμ4); (try clear hμ5); (try clear hμ6); (try clear hμ7); (try clear hμ8); (try clear hμm); (try clear hμr); (try clear h9); (try clear hnx9); omega) | omega)⟩) (by (first | ((try clear hμ1); (try clear hμ2); (try clear hμ3); (try clear hμ4); (try clear hμ5); (try clear hμ6); (try clear hμ7); (try clear hμ8); (try clear hμm); (try clear hμr); (try clear h9); (try clear hnx9); omega) | omega)) (by exact pIA) (by exact pF) (by exact Or.inl ⟨by (first | ((try clear hμ1); (try clear hμ2); (try clear hμ3); (try clear hμ4); (try clear hμ5); (try clear hμ6); (try clear hμ7); (try clear hμ8); (try clear hμm); (try clear hμr); (try clear h9); (try clear hnx9); omega) | omega), by (first | ((try clear hμ1); (try clear hμ2); (try clear hμ3); (try clear hμ4); (try clear hμ5); (try clear hμ6); (try clear hμ7); (try clear hμ8); (try clear hμm); (try clear hμr); (try clear h9); (try clear hnx9); omega) | omega)⟩) (by exact v5) (by exact v7) (by exact hps) (by exact hwS) (by (first | ((try clear hμ1); (try clear hμ2); (try clear hμ3); (try clear hμ4); (try clear hμ5); (try clear hμ6); (try clear hμ7); (try clear hμ8); (try clear hμm); (try clear hμr); (try clear h9); (try clear hnx9); omega) | omega)) (by exact hi) (by (first | ((try clear hμ1); (try clear hμ2); (try clear hμ3); (try clear hμ4); (try clear hμ5); (try clear hμ6); (try clear hμ7); (try clear hμ8); (try clear hμm); (try clear hμr); (try clear h9); (try clear hnx9); omega) | omega)) (by (first | ((try clear hμ1); (try clear hμ2); (try clear hμ3); (try clear hμ4); (try clear hμ5); (try clear hμ6); (try clear hμ7); (try clear hμ8); (try clear hμm); (try clear hμr); (try clear h9); (try clear hnx9); omega) | omega)) (by exact hnx) (by intro h; omega)) (cwV 6 hts (gV_G k1468 k1470 ks_yX10_fusesRow k13 k1471) rfl rfl rfl (by decide +kernel) ⟨by show 24 + 1 ≤ 5 * d + 32 + 1 + 1; omega, by show 8 + (11 + 11) + (740) ≤ 200 * d + 900 + 40 + 40; omega⟩) ⟨fun a U g mk q => by obtain ⟨q0, q1, qP, qK⟩ := q; exact ⟨q0, q1, qP, va_K.moved (u := U) (U := U.calling g mk a) (Vm.Alike.refl U.vm) qK⟩, va_recv hK hP (ci := 10) (q0 := 0) rfl ((fw_get (by decide)).trans (by rw [mE_obj]; rfl)), fun U hU hW => ⟨rfl, by rw [hU], by rw [hU]; exact hP, va_K.moved hW.alike hK⟩⟩ rfl rfl hl.1 rfl (lv_room (Nat.le_of_ble_eq_true rfl)) dX10_costOf_385 ⟨Nat.le_of_ble_eq_true rfl, Nat.le_of_ble_eq_true rfl⟩) hS (fun q _ h => fA_le hS.1 q h) (fA_le hS.1) (fun r9 u9 t9 H1 locs ht9 hvm9 hw9 hB9 hz9 hk9 hS => ?_)
                  obtain ⟨μr, rr9⟩ := u9
                  obtain ⟨hP, -⟩ := hB9
                  rw [ht9] at hP
                  generalize H1 = H at hP hS ⊢
                  obtain ⟨e9, hw9⟩ := hw9
                  have e9 : r9 = iZ rr9 := e9
                  subst e9
                  simp only at hP hw9
                  have hμr := hw9; clear hw9
                  obtain ⟨y1, _, y3⟩ := hμr
                  have ey : μr = μ := y1 trivial
                  refine lv_aload_n hx hb dX10_costOf_388 rfl (lv_at hl 4 rfl) ?_
                  refine fz_get (D := (dC, dI)) (ci := 10) (v := .ref (h0 + 753)) (C := RX10) (T := TX10) (N := 53) hx hb hts inG10 hown hK hP (k := 0) (by decide) (F := mF h0) mE_obj rfl 32 (by decide) (hts _ k1198) (fun _ h9 => h9) rfl dX10_costOf_389 ?_
                  refine lv_iload_n hx hb dX10_costOf_392 rfl (lv_at hl 6 rfl) ?_
                  refine fz_ald (k := 753) (n := 14) (k2 := (754 + (n).toNat * 261)) hx hb hK hP 3 rfl (by decide) mE_least rfl ⟨by (first | ((try clear hμ1); (try clear hμ2); (try clear hμ3); (try clear hμ4); (try clear hμ5); (try clear hμ6); (try clear hμ7); (try clear hμ8); (try clear hμm); (try clear hμr); (try clear h9); (try clear hnx9); omega) | omega), by (first | ((try clear hμ1); (try clear hμ2); (try clear hμ3); (try clear hμ4); (try clear hμ5); (try clear hμ6); (try clear hμ7); (try clear hμ8); (try clear hμm); (try clear hμr); (try clear h9); (try clear hnx9); omega) | omega)⟩ (by decide) (if_pos (by (first | ((try clear hμ1); (try clear hμ2); (try clear hμ3); (try clear hμ4); (try clear hμ5); (try clear hμ6); (try clear hμ7); (try clear hμ8); (try clear hμm); (try clear hμr); (try clear h9); (try clear hnx9); omega) | omega))) dX10_costOf_393 ?_
                  refine lv_iload_n hx hb dX10_costOf_394 rfl (lv_at hl 7 rfl) ?_
                  refine lv_aload_n hx hb dX10_costOf_395 rfl (lv_at hl 4 rfl) ?_
                  refine lv_iload hx hb dX10_costOf_396 (lv_at hl 2 rfl) ?_
                  refine lv_iload hx hb dX10_costOf_398 (lv_at hl 0 rfl) ?_
                  refine va_calli (va_runV (As := [.int (iZ (u1)), .int (iZ ((pq + (rO wP j.toNat : Int))))]) (rest := [.int (iZ (i)), .ref (h0 + (754 + (n).toNat * 261)), .int (iZ (rr9))]) ⟨hx, hb, hml, hown, hts⟩ (m_itemsIn l dC dI cI cZ cII cIII h0 H.size μr (u1) ((pq + (rO wP j.toNat : Int))) (lb) (by first | assumption | ((try clear hμ1); (try clear hμ2); (try clear hμ3); (try clear hμ4); (try clear hμ5); (try clear hμ6); (try clear hμ7); (try clear hμ8); (try clear hμm); (try clear hμr); (try clear h9); (try clear hnx9); omega) | omega | exact ⟨by (first | ((try clear hμ1); (try clear hμ2); (try clear hμ3); (try clear hμ4); (try clear hμ5); (try clear hμ6); (try clear hμ7); (try clear hμ8); (try clear hμm); (try clear hμr); (try clear h9); (try clear hnx9); omega) | omega), by (first | ((try clear hμ1); (try clear hμ2); (try clear hμ3); (try clear hμ4); (try clear hμ5); (try clear hμ6); (try clear hμ7); (try clear hμ8); (try clear hμm); (try clear hμr); (try clear h9); (try clear hnx9); omega) | omega)⟩) (by (first | ((try clear hμ1); (try clear hμ2); (try clear hμ3); (try clear hμ4); (try clear hμ5); (try clear hμ6); (try clear hμ7); (try clear hμ8); (try clear hμm); (try clear hμr); (try clear h9); (try clear hnx9); omega) | omega)) (by rw [ey]; exact pIA.2.2.1) (by rw [ey]; exact pIA.2.2.2)) (cwV 2 hts (gV_G k1400 k1402 ks_yX10_itemsIn k13 k1403) rfl rfl rfl (by decide +kernel) ⟨by show 1 + 1 ≤ 5 * d + 32 + 1 + 1; omega, by show 8 + (5 + 11) + (14) ≤ 200 * d + 900 + 40 + 40; omega⟩) ⟨fun a U g mk q => by obtain ⟨q0, q1, qP, qK⟩ := q; exact ⟨q0, q1, qP, va_K.moved (u := U) (U := U.calling g mk a) (Vm.Alike.refl U.vm) qK⟩, va_recv hK hP (ci := 10) (q0 := 0) rfl ((fw_get (by decide)).trans (by rw [mE_obj]; rfl)), fun U hU hW => ⟨rfl, by rw [hU], by rw [hU]; exact hP, va_K.moved hW.alike hK⟩⟩ rfl rfl hl.1 rfl (lv_room (Nat.le_of_ble_eq_true rfl)) dX10_costOf_400 ⟨Nat.le_of_ble_eq_true rfl, Nat.le_of_ble_eq_true rfl⟩) hS (fun q _ h => fA_le hS.1 q h) (fA_le hS.1) (fun r9 u9 t9 H1 locs ht9 hvm9 hw9 hB9 hz9 hk9 hS => ?_)
                  obtain ⟨μ4, ri⟩ := u9
                  obtain ⟨hP, -⟩ := hB9
                  rw [ht9] at hP
                  generalize H1 = H at hP hS ⊢
                  obtain ⟨e9, hw9⟩ := hw9
                  have e9 : r9 = iZ ri := e9
                  subst e9
                  simp only at hP hw9
                  have hμ4 := hw9; clear hw9
                  rw [hμ4.1] at hP; have hμ4 := hμ4.2
                  have hri : ri = rI lb := hμ4
                  have eji : (i + ri).toNat = i.toNat + rI lb := by (first | ((try clear hμ1); (try clear hμ2); (try clear hμ3); (try clear hμ4); (try clear hμ5); (try clear hμ6); (try clear hμ7); (try clear hμ8); (try clear hμm); (try clear hμr); (try clear h9); (try clear hnx9); omega) | omega)
                  refine lv_iadd hx hb dX10_costOf_403 ?_
                  refine lv_topi (fun x9 ex9 => ?_)
                  obtain rfl : x9 = iZ (i + ri) := ex9.trans (iZ_add _ _)
                  refine fz_ald (k := (754 + (n).toNat * 261)) (n := 260) (k2 := (754 + (n).toNat * 261 + 1 + (i + ri).toNat)) hx hb hK hP 2 rfl (by (first | ((try clear hμ1); (try clear hμ2); (try clear hμ3); (try clear hμ4); (try clear hμ5); (try clear hμ6); (try clear hμ7); (try clear hμ8); (try clear hμm); (try clear hμr); (try clear h9); (try clear hnx9); omega) | omega)) (mE_leastM (by (first | ((try clear hμ1); (try clear hμ2); (try clear hμ3); (try clear hμ4); (try clear hμ5); (try clear hμ6); (try clear hμ7); (try clear hμ8); (try clear hμm); (try clear hμr); (try clear h9); (try clear hnx9); omega) | omega))) rfl ⟨by (first | ((try clear hμ1); (try clear hμ2); (try clear hμ3); (try clear hμ4); (try clear hμ5); (try clear hμ6); (try clear hμ7); (try clear hμ8); (try clear hμm); (try clear hμr); (try clear h9); (try clear hnx9); omega) | omega), by (first | ((try clear hμ1); (try clear hμ2); (try clear hμ3); (try clear hμ4); (try clear hμ5); (try clear hμ6); (try clear hμ7); (try clear hμ8); (try clear hμm); (try clear hμr); (try clear h9); (try clear hnx9); omega) | omega)⟩ (by decide) (if_pos (by (first | ((try clear hμ1); (try clear hμ2); (try clear hμ3); (try clear hμ4); (try clear hμ5); (try clear hμ6); (try clear hμ7); (try clear hμ8); (try clear hμm); (try clear hμr); (try clear h9); (try clear hnx9); omega) | omega))) dX10_costOf_404 ?_
                  refine lv_iload hx hb dX10_costOf_405 (lv_at hl 8 rfl) ?_
                  refine lv_iconst (v := iZ 1) hx hb dX10_costOf_407 rfl ?_
                  refine lv_iadd hx hb dX10_costOf_408 ?_
                  refine lv_topi (fun x9 ex9 => ?_)
                  obtain rfl : x9 = iZ (j + 1) := ex9.trans (iZ_add _ _)
                  refine fz_ld (k := (754 + (n).toNat * 261 + 1 + (i + ri).toNat)) (n := 62) hx hb hK hP 0 (by (first | ((try clear hμ1); (try clear hμ2); (try clear hμ3); (try clear hμ4); (try clear hμ5); (try clear hμ6); (try clear hμ7); (try clear hμ8); (try clear hμm); (try clear hμr); (try clear h9); (try clear hnx9); omega) | omega)) (mE_leastR (by (first | ((try clear hμ1); (try clear hμ2); (try clear hμ3); (try clear hμ4); (try clear hμ5); (try clear hμ6); (try clear hμ7); (try clear hμ8); (try clear hμm); (try clear hμr); (try clear h9); (try clear hnx9); omega) | omega)) (by (first | ((try clear hμ1); (try clear hμ2); (try clear hμ3); (try clear hμ4); (try clear hμ5); (try clear hμ6); (try clear hμ7); (try clear hμ8); (try clear hμm); (try clear hμr); (try clear h9); (try clear hnx9); omega) | omega))) rfl ⟨by (first | ((try clear hμ1); (try clear hμ2); (try clear hμ3); (try clear hμ4); (try clear hμ5); (try clear hμ6); (try clear hμ7); (try clear hμ8); (try clear hμm); (try clear hμr); (try clear h9); (try clear hnx9); omega) | omega), by (first | ((try clear hμ1); (try clear hμ2); (try clear hμ3); (try clear hμ4); (try clear hμ5); (try clear hμ6); (try clear hμ7); (try clear hμ8); (try clear hμm); (try clear hμr); (try clear h9); (try clear hnx9); omega) | omega)⟩ (by decide) dX10_costOf_409 ?_
                  rw [show μr (754 + (n).toNat * 261 + 1 + (i + ri).toNat) (j + 1).toNat = (lay (rdrop (i.toNat + rI lb) wS) (rdrop (j.toNat + 1) wP)).1 from (by rw [eji, ej1, ey]; exact hle (i.toNat + rI lb) (j.toNat + 1) (by (first | ((try clear hμ1); (try clear hμ2); (try clear hμ3); (try clear hμ4); (try clear hμ5); (try clear hμ6); (try clear hμ7); (try clear hμ8); (try clear hμm); (try clear hμr); (try clear h9); (try clear hnx9); omega) | omega)) (by (first | ((try clear hμ1); (try clear hμ2); (try clear hμ3); (try clear hμ4); (try clear hμ5); (try clear hμ6); (try clear hμ7); (try clear hμ8); (try clear hμm); (try clear hμr); (try clear h9); (try clear hnx9); omega) | omega)) (by (first | ((try clear hμ1); (try clear hμ2); (try clear hμ3); (try clear hμ4); (try clear hμ5); (try clear hμ6); (try clear hμ7); (try clear hμ8); (try clear hμm); (try clear hμr); (try clear h9); (try clear hnx9); omega) | omega)) (by (first | ((try clear hμ1); (try clear hμ2); (try clear hμ3); (try clear hμ4); (try clear hμ5); (try clear hμ6); (try clear hμ7); (try clear hμ8); (try clear hμm); (try clear hμr); (try clear h9); (try clear hnx9); omega) | omega)) (by (first | ((try clear hμ1); (try clear hμ2); (try clear hμ3); (try clear hμ4); (try clear hμ5); (try clear hμ6); (try clear hμ7); (try clear hμ8); (try clear hμm); (try clear hμr); (try clear h9); (try clear hnx9); omega) | omega)))]
                  refine lv_iadd hx hb dX10_costOf_410 ?_
                  refine lv_topi (fun x9 ex9 => ?_)
                  obtain rfl : x9 = iZ (rr9 + ((lay (rdrop (i.toNat + rI lb) wS) (rdrop (j.toNat + 1) wP)).1)) := ex9.trans (iZ_add _ _)
                  exact W.iret (v := iZ (rr9 + ((lay (rdrop (i.toNat + rI lb) wS) (rdrop (j.toNat + 1) wP)).1))) hx hb hr (fun t9 ht9 hW9 => ⟨⟨iZ (rr9 + ((lay (rdrop (i.toNat + rI lb) wS) (rdrop (j.toNat + 1) wP)).1)), (μr, rr9 + ((lay (rdrop (i.toNat + rI lb) wS) (rdrop (j.toNat + 1) wP)).1)), rfl, ⟨rfl, (by
                                            dsimp only
                                            rw [ey, y3, rdrop_add i.toNat (rI lb) wS, pS]
                                            refine ⟨?_, fr_rfl⟩
                                            rw [hep]
                                            unfold waF
                                            rw [if_neg (by (first | ((try clear hμ1); (try clear hμ2); (try clear hμ3); (try clear hμ4); (try clear hμ5); (try clear hμ6); (try clear hμ7); (try clear hμ8); (try clear hμm); (try clear hμr); (try clear h9); (try clear hnx9); omega) | omega)), if_neg (by (first | ((try clear hμ1); (try clear hμ2); (try clear hμ3); (try clear hμ4); (try clear hμ5); (try clear hμ6); (try clear hμ7); (try clear hμ8); (try clear hμm); (try clear hμr); (try clear h9); (try clear hnx9); omega) | omega)), if_neg (by (first | ((try clear hμ1); (try clear hμ2); (try clear hμ3); (try clear hμ4); (try clear hμ5); (try clear hμ6); (try clear hμ7); (try clear hμ8); (try clear hμm); (try clear hμr); (try clear h9); (try clear hnx9); omega) | omega)), if_neg (by (first | ((try clear hμ1); (try clear hμ2); (try clear hμ3); (try clear hμ4); (try clear hμ5); (try clear hμ6); (try clear hμ7); (try clear hμ8); (try clear hμm); (try clear hμr); (try clear h9); (try clear hnx9); omega) | omega))]
                                            have hnb := (nxtB_is _ _).mpr hnx
                                            rw [hes] at hnb ⊢
                                            rw [wa3, if_neg (fun h9 => by
                                              rcases h9 with h9 | h9
                                              · omega
                                              · rw [hnb] at h9; cases h9)])⟩, by rw [ht9]; exact hP, va_K.moved hW9.alike hK⟩, hS.F ht9⟩) hS.2.2 dX10_costOf_411
                · have hnn : ¬ nxt lb (rdrop i.toNat wS) := by
                    rcases hnx9 with ⟨h, _⟩ | ⟨_, h⟩
                    · omega
                    · exact h
                  refine lv_ldc (v := iZ 1000000) hx hb hown (hts _ k1547) dX10_costOf_367 ?_
                  exact W.iret (v := iZ (1000000)) hx hb hr (fun t9 ht9 hW9 => ⟨⟨iZ (1000000), (μ, 1000000), rfl, ⟨rfl, (by
                                            dsimp only
                                            refine ⟨?_, fr_rfl⟩
                                            rw [hep]
                                            unfold waF
                                            rw [if_neg (by (first | ((try clear hμ1); (try clear hμ2); (try clear hμ3); (try clear hμ4); (try clear hμ5); (try clear hμ6); (try clear hμ7); (try clear hμ8); (try clear hμm); (try clear hμr); (try clear h9); (try clear hnx9); omega) | omega)), if_neg (by (first | ((try clear hμ1); (try clear hμ2); (try clear hμ3); (try clear hμ4); (try clear hμ5); (try clear hμ6); (try clear hμ7); (try clear hμ8); (try clear hμm); (try clear hμr); (try clear h9); (try clear hnx9); omega) | omega)), if_neg (by (first | ((try clear hμ1); (try clear hμ2); (try clear hμ3); (try clear hμ4); (try clear hμ5); (try clear hμ6); (try clear hμ7); (try clear hμ8); (try clear hμm); (try clear hμr); (try clear h9); (try clear hnx9); omega) | omega)), if_neg (by (first | ((try clear hμ1); (try clear hμ2); (try clear hμ3); (try clear hμ4); (try clear hμ5); (try clear hμ6); (try clear hμ7); (try clear hμ8); (try clear hμm); (try clear hμr); (try clear h9); (try clear hnx9); omega) | omega))]
                                            first
                                              | (revert hnn; intro hnn
                                                 rw [hes] at hnn ⊢
                                                 rw [wa3, if_pos (Or.inr (by
                                                   cases hB : nxtB lb (.inner zs ks vs la ra) with
                                                   | false => rfl
                                                   | true => exact absurd ((nxtB_is _ _).mp hB) hnn))])
                                              | (rw [hes, wa3, if_pos (Or.inl (by (first | ((try clear hμ1); (try clear hμ2); (try clear hμ3); (try clear hμ4); (try clear hμ5); (try clear hμ6); (try clear hμ7); (try clear hμ8); (try clear hμm); (try clear hμr); (try clear h9); (try clear hnx9); omega) | omega)))]))⟩, by rw [ht9]; exact hP, va_K.moved hW9.alike hK⟩, hS.F ht9⟩) hS.2.2 dX10_costOf_369
            · refine lv_aload_n hx hb dX10_costOf_240 rfl (lv_at hl 4 rfl) ?_
              refine fz_get (D := (dC, dI)) (ci := 10) (v := .ref (h0 + 506)) (C := RX10) (T := TX10) (N := 53) hx hb hts inG10 hown hK hP (k := 0) (by decide) (F := mF h0) mE_obj rfl 18 (by decide) (hts _ k1184) (fun _ h9 => h9) rfl dX10_costOf_241 ?_
              refine lv_iload hx hb dX10_costOf_244 (lv_at hl 3 rfl) ?_
              refine fz_ald (k := 506) (n := 70) (k2 := (507 + (t).toNat)) hx hb hK hP 2 rfl (by decide) mE_sort rfl ⟨by (first | ((try clear hμ1); (try clear hμ2); (try clear hμ3); (try clear hμ4); (try clear hμ5); (try clear hμ6); (try clear hμ7); (try clear hμ8); (try clear hμm); (try clear hμr); (try clear h9); (try clear hnx9); omega) | omega), by (first | ((try clear hμ1); (try clear hμ2); (try clear hμ3); (try clear hμ4); (try clear hμ5); (try clear hμ6); (try clear hμ7); (try clear hμ8); (try clear hμm); (try clear hμr); (try clear h9); (try clear hnx9); omega) | omega)⟩ (by decide) (if_pos (by (first | ((try clear hμ1); (try clear hμ2); (try clear hμ3); (try clear hμ4); (try clear hμ5); (try clear hμ6); (try clear hμ7); (try clear hμ8); (try clear hμm); (try clear hμr); (try clear h9); (try clear hnx9); omega) | omega))) dX10_costOf_246 ?_
              refine lv_iload hx hb dX10_costOf_247 (lv_at hl 1 rfl) ?_
              refine fz_ld (k := (507 + (t).toNat)) (n := 900) hx hb hK hP 0 (by (first | ((try clear hμ1); (try clear hμ2); (try clear hμ3); (try clear hμ4); (try clear hμ5); (try clear hμ6); (try clear hμ7); (try clear hμ8); (try clear hμm); (try clear hμr); (try clear h9); (try clear hnx9); omega) | omega)) (mE_sortR (by (first | ((try clear hμ1); (try clear hμ2); (try clear hμ3); (try clear hμ4); (try clear hμ5); (try clear hμ6); (try clear hμ7); (try clear hμ8); (try clear hμm); (try clear hμr); (try clear h9); (try clear hnx9); omega) | omega))) rfl ⟨by (first | ((try clear hμ1); (try clear hμ2); (try clear hμ3); (try clear hμ4); (try clear hμ5); (try clear hμ6); (try clear hμ7); (try clear hμ8); (try clear hμm); (try clear hμr); (try clear h9); (try clear hnx9); omega) | omega), by (first | ((try clear hμ1); (try clear hμ2); (try clear hμ3); (try clear hμ4); (try clear hμ5); (try clear hμ6); (try clear hμ7); (try clear hμ8); (try clear hμm); (try clear hμr); (try clear h9); (try clear hnx9); omega) | omega)⟩ (by decide) dX10_costOf_249 ?_
              rw [show μ (507 + (t).toNat) ((ps + (rO wS i.toNat : Int))).toNat = (ks : Int) from (by exact sIA.1)]
              refine lv_iconst (v := iZ 3) hx hb dX10_costOf_250 rfl ?_
              refine fz_icmp_lt (tgt := 281) (by constructor <;> (first | ((try clear hμ1); (try clear hμ2); (try clear hμ3); (try clear hμ4); (try clear hμ5); (try clear hμ6); (try clear hμ7); (try clear hμ8); (try clear hμm); (try clear hμr); (try clear h9); (try clear hnx9); omega) | omega)) (by decide) hx hb dX10_costOf_251 (by decide) (fun c251_ => ?_) (fun c251_ => ?_)
              · refine lv_ldc (v := iZ 1000000) hx hb hown (hts _ k1547) dX10_costOf_281 ?_
                exact W.iret (v := iZ (1000000)) hx hb hr (fun t9 ht9 hW9 => ⟨⟨iZ (1000000), (μ, 1000000), rfl, ⟨rfl, (by
                                        dsimp only
                                        refine ⟨?_, fr_rfl⟩
                                        rw [hes]
                                        unfold waF
                                        rw [if_neg (by (first | ((try clear hμ1); (try clear hμ2); (try clear hμ3); (try clear hμ4); (try clear hμ5); (try clear hμ6); (try clear hμ7); (try clear hμ8); (try clear hμm); (try clear hμr); (try clear h9); (try clear hnx9); omega) | omega)), if_neg (by (first | ((try clear hμ1); (try clear hμ2); (try clear hμ3); (try clear hμ4); (try clear hμ5); (try clear hμ6); (try clear hμ7); (try clear hμ8); (try clear hμm); (try clear hμr); (try clear h9); (try clear hnx9); omega) | omega)), if_neg (by (first | ((try clear hμ1); (try clear hμ2); (try clear hμ3); (try clear hμ4); (try clear hμ5); (try clear hμ6); (try clear hμ7); (try clear hμ8); (try clear hμm); (try clear hμr); (try clear h9); (try clear hnx9); omega) | omega)), if_pos (by (first | ((try clear hμ1); (try clear hμ2); (try clear hμ3); (try clear hμ4); (try clear hμ5); (try clear hμ6); (try clear hμ7); (try clear hμ8); (try clear hμm); (try clear hμr); (try clear h9); (try clear hnx9); omega) | omega))]
                                        first
                                          | (revert hnn; intro hnn
                                             rw [hep] at hnn ⊢
                                             rw [wa2, if_pos (Or.inr (by
                                               cases hB : nxtB la (.inner zp kp vp lb rb) with
                                               | false => rfl
                                               | true => exact absurd ((nxtB_is _ _).mp hB) hnn))])
                                          | (rw [hep, wa2, if_pos (Or.inl (by (first | ((try clear hμ1); (try clear hμ2); (try clear hμ3); (try clear hμ4); (try clear hμ5); (try clear hμ6); (try clear hμ7); (try clear hμ8); (try clear hμm); (try clear hμr); (try clear h9); (try clear hnx9); omega) | omega)))]))⟩, by rw [ht9]; exact hP, va_K.moved hW9.alike hK⟩, hS.F ht9⟩) hS.2.2 dX10_costOf_283
              · refine lv_aload_n hx hb dX10_costOf_254 rfl (lv_at hl 4 rfl) ?_
                refine lv_iload hx hb dX10_costOf_255 (lv_at hl 3 rfl) ?_
                refine lv_iload hx hb dX10_costOf_257 (lv_at hl 1 rfl) ?_
                refine lv_iload hx hb dX10_costOf_259 (lv_at hl 2 rfl) ?_
                refine lv_aload_n hx hb dX10_costOf_261 rfl (lv_at hl 4 rfl) ?_
                refine fz_get (D := (dC, dI)) (ci := 10) (v := .ref (h0 + 737)) (C := RX10) (T := TX10) (N := 53) hx hb hts inG10 hown hK hP (k := 0) (by decide) (F := mF h0) mE_obj rfl 30 (by decide) (hts _ k1196) (fun _ h9 => h9) rfl dX10_costOf_262 ?_
                refine lv_iload_n hx hb dX10_costOf_265 rfl (lv_at hl 6 rfl) ?_
                refine fz_ald (k := 737) (n := 14) (k2 := (738 + (n).toNat)) hx hb hK hP 2 rfl (by decide) mE_rowP rfl ⟨by (first | ((try clear hμ1); (try clear hμ2); (try clear hμ3); (try clear hμ4); (try clear hμ5); (try clear hμ6); (try clear hμ7); (try clear hμ8); (try clear hμm); (try clear hμr); (try clear h9); (try clear hnx9); omega) | omega), by (first | ((try clear hμ1); (try clear hμ2); (try clear hμ3); (try clear hμ4); (try clear hμ5); (try clear hμ6); (try clear hμ7); (try clear hμ8); (try clear hμm); (try clear hμr); (try clear h9); (try clear hnx9); omega) | omega)⟩ (by decide) (if_pos (by (first | ((try clear hμ1); (try clear hμ2); (try clear hμ3); (try clear hμ4); (try clear hμ5); (try clear hμ6); (try clear hμ7); (try clear hμ8); (try clear hμm); (try clear hμr); (try clear h9); (try clear hnx9); omega) | omega))) dX10_costOf_266 ?_
                refine lv_iload hx hb dX10_costOf_267 (lv_at hl 8 rfl) ?_
                refine lv_aload_n hx hb dX10_costOf_269 rfl (lv_at hl 4 rfl) ?_
                refine fz_get (D := (dC, dI)) (ci := 10) (v := .ref (h0 + 4411)) (C := RX10) (T := TX10) (N := 53) hx hb hts inG10 hown hK hP (k := 0) (by decide) (F := mF h0) mE_obj rfl 37 (by decide) (hts _ k1203) (fun _ h9 => h9) rfl dX10_costOf_270 ?_
                refine lv_iload_n hx hb dX10_costOf_273 rfl (lv_at hl 6 rfl) ?_
                refine fz_ld (k := 4411) (n := 14) hx hb hK hP 0 (by decide) mE_manyP rfl ⟨by (first | ((try clear hμ1); (try clear hμ2); (try clear hμ3); (try clear hμ4); (try clear hμ5); (try clear hμ6); (try clear hμ7); (try clear hμ8); (try clear hμm); (try clear hμr); (try clear h9); (try clear hnx9); omega) | omega), by (first | ((try clear hμ1); (try clear hμ2); (try clear hμ3); (try clear hμ4); (try clear hμ5); (try clear hμ6); (try clear hμ7); (try clear hμ8); (try clear hμm); (try clear hμr); (try clear h9); (try clear hnx9); omega) | omega)⟩ (by decide) dX10_costOf_274 ?_
                rw [show μ 4411 (n).toNat = (rI wP : Int) from (by exact v4)]
                refine va_calli (va_runV (As := [.int (iZ (t)), .int (iZ ((ps + (rO wS i.toNat : Int)))), .int (iZ (u1)), .ref (h0 + (738 + (n).toNat)), .int (iZ (j)), .int (iZ ((rI wP : Int)))]) (rest := []) ⟨hx, hb, hml, hown, hts⟩ (m_areNext l dC dI cI cZ cII cIII h0 s.heap.size μ (t) ((ps + (rO wS i.toNat : Int))) (u1) ((738 + n.toNat)) (j) ((rI wP : Int)) (ks) (vs) (la) (wP) (pq) (by first | assumption | ((try clear hμ1); (try clear hμ2); (try clear hμ3); (try clear hμ4); (try clear hμ5); (try clear hμ6); (try clear hμ7); (try clear hμ8); (try clear hμm); (try clear hμr); (try clear h9); (try clear hnx9); omega) | omega | exact ⟨by (first | ((try clear hμ1); (try clear hμ2); (try clear hμ3); (try clear hμ4); (try clear hμ5); (try clear hμ6); (try clear hμ7); (try clear hμ8); (try clear hμm); (try clear hμr); (try clear h9); (try clear hnx9); omega) | omega), by (first | ((try clear hμ1); (try clear hμ2); (try clear hμ3); (try clear hμ4); (try clear hμ5); (try clear hμ6); (try clear hμ7); (try clear hμ8); (try clear hμm); (try clear hμr); (try clear h9); (try clear hnx9); omega) | omega)⟩) (by first | assumption | ((try clear hμ1); (try clear hμ2); (try clear hμ3); (try clear hμ4); (try clear hμ5); (try clear hμ6); (try clear hμ7); (try clear hμ8); (try clear hμm); (try clear hμr); (try clear h9); (try clear hnx9); omega) | omega | exact ⟨by (first | ((try clear hμ1); (try clear hμ2); (try clear hμ3); (try clear hμ4); (try clear hμ5); (try clear hμ6); (try clear hμ7); (try clear hμ8); (try clear hμm); (try clear hμr); (try clear h9); (try clear hnx9); omega) | omega), by (first | ((try clear hμ1); (try clear hμ2); (try clear hμ3); (try clear hμ4); (try clear hμ5); (try clear hμ6); (try clear hμ7); (try clear hμ8); (try clear hμm); (try clear hμr); (try clear h9); (try clear hnx9); omega) | omega)⟩) (by (first | ((try clear hμ1); (try clear hμ2); (try clear hμ3); (try clear hμ4); (try clear hμ5); (try clear hμ6); (try clear hμ7); (try clear hμ8); (try clear hμm); (try clear hμr); (try clear h9); (try clear hnx9); omega) | omega)) (by exact sIA) (by exact sF) (by exact Or.inr ⟨by (first | ((try clear hμ1); (try clear hμ2); (try clear hμ3); (try clear hμ4); (try clear hμ5); (try clear hμ6); (try clear hμ7); (try clear hμ8); (try clear hμm); (try clear hμr); (try clear h9); (try clear hnx9); omega) | omega), by (first | ((try clear hμ1); (try clear hμ2); (try clear hμ3); (try clear hμ4); (try clear hμ5); (try clear hμ6); (try clear hμ7); (try clear hμ8); (try clear hμm); (try clear hμr); (try clear h9); (try clear hnx9); omega) | omega)⟩) (by exact v6) (by exact v8) (by exact hpq) (by exact hwP) (by (first | ((try clear hμ1); (try clear hμ2); (try clear hμ3); (try clear hμ4); (try clear hμ5); (try clear hμ6); (try clear hμ7); (try clear hμ8); (try clear hμm); (try clear hμr); (try clear h9); (try clear hnx9); omega) | omega)) (by rfl) (by exact hj) (by (first | ((try clear hμ1); (try clear hμ2); (try clear hμ3); (try clear hμ4); (try clear hμ5); (try clear hμ6); (try clear hμ7); (try clear hμ8); (try clear hμm); (try clear hμr); (try clear h9); (try clear hnx9); omega) | omega))) (cwV 6 hts (gV_G k1460 k1462 ks_yX10_areNext k13 k1463) rfl rfl rfl (by decide +kernel) ⟨by show 24 + 1 ≤ 5 * d + 32 + 1 + 1; omega, by show 8 + (10 + 11) + (740) ≤ 200 * d + 900 + 40 + 40; omega⟩) ⟨fun a U g mk q => by obtain ⟨q0, q1, qP, qK⟩ := q; exact ⟨q0, q1, qP, va_K.moved (u := U) (U := U.calling g mk a) (Vm.Alike.refl U.vm) qK⟩, va_recv hK hP (ci := 10) (q0 := 0) rfl ((fw_get (by decide)).trans (by rw [mE_obj]; rfl)), fun U hU hW => ⟨rfl, by rw [hU], by rw [hU]; exact hP, va_K.moved hW.alike hK⟩⟩ rfl rfl hl.1 rfl (lv_room (Nat.le_of_ble_eq_true rfl)) dX10_costOf_275 ⟨Nat.le_of_ble_eq_true rfl, Nat.le_of_ble_eq_true rfl⟩) hS (fun q _ h => fA_le hS.1 q h) (fA_le hS.1) (fun r9 u9 t9 H1 locs ht9 hvm9 hw9 hB9 hz9 hk9 hS => ?_)
                obtain ⟨μ5, ry⟩ := u9
                obtain ⟨hP, -⟩ := hB9
                rw [ht9] at hP
                generalize H1 = H at hP hS ⊢
                obtain ⟨e9, hw9⟩ := hw9
                have e9 : r9 = iZ ry := e9
                subst e9
                simp only at hP hw9
                have hμ5 := hw9; clear hw9
                rw [hμ5.1] at hP; have hμ5 := hμ5.2
                have hnx9 := hμ5
                refine fz_if_ne (tgt := 284) (by constructor <;> (first | ((try clear hμ1); (try clear hμ2); (try clear hμ3); (try clear hμ4); (try clear hμ5); (try clear hμ6); (try clear hμ7); (try clear hμ8); (try clear hμm); (try clear hμr); (try clear h9); (try clear hnx9); omega) | omega)) hx hb dX10_costOf_278 (by decide) (fun c278_ => ?_) (fun c278_ => ?_)
                · have hnx : nxt la (rdrop j.toNat wP) := by
                    rcases hnx9 with ⟨_, h⟩ | ⟨h, _⟩
                    · exact h
                    · omega
                  have hnI := nxt_I _ _ hnx
                  rw [hep, rI_in] at hnI
                  refine lv_aload_n hx hb dX10_costOf_284 rfl (lv_at hl 4 rfl) ?_
                  refine lv_iload hx hb dX10_costOf_285 (lv_at hl 3 rfl) ?_
                  refine lv_iload hx hb dX10_costOf_287 (lv_at hl 1 rfl) ?_
                  refine lv_iload hx hb dX10_costOf_289 (lv_at hl 2 rfl) ?_
                  refine lv_aload_n hx hb dX10_costOf_291 rfl (lv_at hl 4 rfl) ?_
                  refine fz_get (D := (dC, dI)) (ci := 10) (v := .ref (h0 + 737)) (C := RX10) (T := TX10) (N := 53) hx hb hts inG10 hown hK hP (k := 0) (by decide) (F := mF h0) mE_obj rfl 30 (by decide) (hts _ k1196) (fun _ h9 => h9) rfl dX10_costOf_292 ?_
                  refine lv_iload_n hx hb dX10_costOf_295 rfl (lv_at hl 6 rfl) ?_
                  refine fz_ald (k := 737) (n := 14) (k2 := (738 + (n).toNat)) hx hb hK hP 2 rfl (by decide) mE_rowP rfl ⟨by (first | ((try clear hμ1); (try clear hμ2); (try clear hμ3); (try clear hμ4); (try clear hμ5); (try clear hμ6); (try clear hμ7); (try clear hμ8); (try clear hμm); (try clear hμr); (try clear h9); (try clear hnx9); omega) | omega), by (first | ((try clear hμ1); (try clear hμ2); (try clear hμ3); (try clear hμ4); (try clear hμ5); (try clear hμ6); (try clear hμ7); (try clear hμ8); (try clear hμm); (try clear hμr); (try clear h9); (try clear hnx9); omega) | omega)⟩ (by decide) (if_pos (by (first | ((try clear hμ1); (try clear hμ2); (try clear hμ3); (try clear hμ4); (try clear hμ5); (try clear hμ6); (try clear hμ7); (try clear hμ8); (try clear hμm); (try clear hμr); (try clear h9); (try clear hnx9); omega) | omega))) dX10_costOf_296 ?_
                  refine lv_iload hx hb dX10_costOf_297 (lv_at hl 8 rfl) ?_
                  refine lv_iconst (v := iZ (-1)) hx hb dX10_costOf_299 rfl ?_
                  refine va_calli (va_runV (As := [.int (iZ (t)), .int (iZ ((ps + (rO wS i.toNat : Int)))), .int (iZ (u1)), .ref (h0 + (738 + (n).toNat)), .int (iZ (j)), .int (iZ ((-1)))]) (rest := []) ⟨hx, hb, hml, hown, hts⟩ (m_fusesRow l dC dI cI cZ cII cIII h0 H.size μ (t) ((ps + (rO wS i.toNat : Int))) (u1) ((738 + n.toNat)) (j) ((-1)) (ks) (vs) (la) (wP) (pq) (by first | assumption | ((try clear hμ1); (try clear hμ2); (try clear hμ3); (try clear hμ4); (try clear hμ5); (try clear hμ6); (try clear hμ7); (try clear hμ8); (try clear hμm); (try clear hμr); (try clear h9); (try clear hnx9); omega) | omega | exact ⟨by (first | ((try clear hμ1); (try clear hμ2); (try clear hμ3); (try clear hμ4); (try clear hμ5); (try clear hμ6); (try clear hμ7); (try clear hμ8); (try clear hμm); (try clear hμr); (try clear h9); (try clear hnx9); omega) | omega), by (first | ((try clear hμ1); (try clear hμ2); (try clear hμ3); (try clear hμ4); (try clear hμ5); (try clear hμ6); (try clear hμ7); (try clear hμ8); (try clear hμm); (try clear hμr); (try clear h9); (try clear hnx9); omega) | omega)⟩) (by first | assumption | ((try clear hμ1); (try clear hμ2); (try clear hμ3); (try clear hμ4); (try clear hμ5); (try clear hμ6); (try clear hμ7); (try clear hμ8); (try clear hμm); (try clear hμr); (try clear h9); (try clear hnx9); omega) | omega | exact ⟨by (first | ((try clear hμ1); (try clear hμ2); (try clear hμ3); (try clear hμ4); (try clear hμ5); (try clear hμ6); (try clear hμ7); (try clear hμ8); (try clear hμm); (try clear hμr); (try clear h9); (try clear hnx9); omega) | omega), by (first | ((try clear hμ1); (try clear hμ2); (try clear hμ3); (try clear hμ4); (try clear hμ5); (try clear hμ6); (try clear hμ7); (try clear hμ8); (try clear hμm); (try clear hμr); (try clear h9); (try clear hnx9); omega) | omega)⟩) (by (first | ((try clear hμ1); (try clear hμ2); (try clear hμ3); (try clear hμ4); (try clear hμ5); (try clear hμ6); (try clear hμ7); (try clear hμ8); (try clear hμm); (try clear hμr); (try clear h9); (try clear hnx9); omega) | omega)) (by exact sIA) (by exact sF) (by exact Or.inr ⟨by (first | ((try clear hμ1); (try clear hμ2); (try clear hμ3); (try clear hμ4); (try clear hμ5); (try clear hμ6); (try clear hμ7); (try clear hμ8); (try clear hμm); (try clear hμr); (try clear h9); (try clear hnx9); omega) | omega), by (first | ((try clear hμ1); (try clear hμ2); (try clear hμ3); (try clear hμ4); (try clear hμ5); (try clear hμ6); (try clear hμ7); (try clear hμ8); (try clear hμm); (try clear hμr); (try clear h9); (try clear hnx9); omega) | omega)⟩) (by exact v6) (by exact v8) (by exact hpq) (by exact hwP) (by (first | ((try clear hμ1); (try clear hμ2); (try clear hμ3); (try clear hμ4); (try clear hμ5); (try clear hμ6); (try clear hμ7); (try clear hμ8); (try clear hμm); (try clear hμr); (try clear h9); (try clear hnx9); omega) | omega)) (by exact hj) (by (first | ((try clear hμ1); (try clear hμ2); (try clear hμ3); (try clear hμ4); (try clear hμ5); (try clear hμ6); (try clear hμ7); (try clear hμ8); (try clear hμm); (try clear hμr); (try clear h9); (try clear hnx9); omega) | omega)) (by (first | ((try clear hμ1); (try clear hμ2); (try clear hμ3); (try clear hμ4); (try clear hμ5); (try clear hμ6); (try clear hμ7); (try clear hμ8); (try clear hμm); (try clear hμr); (try clear h9); (try clear hnx9); omega) | omega)) (by exact hnx) (by intro h; omega)) (cwV 6 hts (gV_G k1468 k1470 ks_yX10_fusesRow k13 k1471) rfl rfl rfl (by decide +kernel) ⟨by show 24 + 1 ≤ 5 * d + 32 + 1 + 1; omega, by show 8 + (11 + 11) + (740) ≤ 200 * d + 900 + 40 + 40; omega⟩) ⟨fun a U g mk q => by obtain ⟨q0, q1, qP, qK⟩ := q; exact ⟨q0, q1, qP, va_K.moved (u := U) (U := U.calling g mk a) (Vm.Alike.refl U.vm) qK⟩, va_recv hK hP (ci := 10) (q0 := 0) rfl ((fw_get (by decide)).trans (by rw [mE_obj]; rfl)), fun U hU hW => ⟨rfl, by rw [hU], by rw [hU]; exact hP, va_K.moved hW.alike hK⟩⟩ rfl rfl hl.1 rfl (lv_room (Nat.le_of_ble_eq_true rfl)) dX10_costOf_300 ⟨Nat.le_of_ble_eq_true rfl, Nat.le_of_ble_eq_true rfl⟩) hS (fun q _ h => fA_le hS.1 q h) (fA_le hS.1) (fun r9 u9 t9 H1 locs ht9 hvm9 hw9 hB9 hz9 hk9 hS => ?_)
                  obtain ⟨μr, rr9⟩ := u9
                  obtain ⟨hP, -⟩ := hB9
                  rw [ht9] at hP
                  generalize H1 = H at hP hS ⊢
                  obtain ⟨e9, hw9⟩ := hw9
                  have e9 : r9 = iZ rr9 := e9
                  subst e9
                  simp only at hP hw9
                  have hμr := hw9; clear hw9
                  obtain ⟨y1, _, y3⟩ := hμr
                  have ey : μr = μ := y1 trivial
                  refine lv_aload_n hx hb dX10_costOf_303 rfl (lv_at hl 4 rfl) ?_
                  refine fz_get (D := (dC, dI)) (ci := 10) (v := .ref (h0 + 753)) (C := RX10) (T := TX10) (N := 53) hx hb hts inG10 hown hK hP (k := 0) (by decide) (F := mF h0) mE_obj rfl 32 (by decide) (hts _ k1198) (fun _ h9 => h9) rfl dX10_costOf_304 ?_
                  refine lv_iload_n hx hb dX10_costOf_307 rfl (lv_at hl 6 rfl) ?_
                  refine fz_ald (k := 753) (n := 14) (k2 := (754 + (n).toNat * 261)) hx hb hK hP 3 rfl (by decide) mE_least rfl ⟨by (first | ((try clear hμ1); (try clear hμ2); (try clear hμ3); (try clear hμ4); (try clear hμ5); (try clear hμ6); (try clear hμ7); (try clear hμ8); (try clear hμm); (try clear hμr); (try clear h9); (try clear hnx9); omega) | omega), by (first | ((try clear hμ1); (try clear hμ2); (try clear hμ3); (try clear hμ4); (try clear hμ5); (try clear hμ6); (try clear hμ7); (try clear hμ8); (try clear hμm); (try clear hμr); (try clear h9); (try clear hnx9); omega) | omega)⟩ (by decide) (if_pos (by (first | ((try clear hμ1); (try clear hμ2); (try clear hμ3); (try clear hμ4); (try clear hμ5); (try clear hμ6); (try clear hμ7); (try clear hμ8); (try clear hμm); (try clear hμr); (try clear h9); (try clear hnx9); omega) | omega))) dX10_costOf_308 ?_
                  refine lv_iload_n hx hb dX10_costOf_309 rfl (lv_at hl 7 rfl) ?_
                  refine lv_iconst (v := iZ 1) hx hb dX10_costOf_310 rfl ?_
                  refine lv_iadd hx hb dX10_costOf_311 ?_
                  refine lv_topi (fun x9 ex9 => ?_)
                  obtain rfl : x9 = iZ (i + 1) := ex9.trans (iZ_add _ _)
                  refine fz_ald (k := (754 + (n).toNat * 261)) (n := 260) (k2 := (754 + (n).toNat * 261 + 1 + (i + 1).toNat)) hx hb hK hP 2 rfl (by (first | ((try clear hμ1); (try clear hμ2); (try clear hμ3); (try clear hμ4); (try clear hμ5); (try clear hμ6); (try clear hμ7); (try clear hμ8); (try clear hμm); (try clear hμr); (try clear h9); (try clear hnx9); omega) | omega)) (mE_leastM (by (first | ((try clear hμ1); (try clear hμ2); (try clear hμ3); (try clear hμ4); (try clear hμ5); (try clear hμ6); (try clear hμ7); (try clear hμ8); (try clear hμm); (try clear hμr); (try clear h9); (try clear hnx9); omega) | omega))) rfl ⟨by (first | ((try clear hμ1); (try clear hμ2); (try clear hμ3); (try clear hμ4); (try clear hμ5); (try clear hμ6); (try clear hμ7); (try clear hμ8); (try clear hμm); (try clear hμr); (try clear h9); (try clear hnx9); omega) | omega), by (first | ((try clear hμ1); (try clear hμ2); (try clear hμ3); (try clear hμ4); (try clear hμ5); (try clear hμ6); (try clear hμ7); (try clear hμ8); (try clear hμm); (try clear hμr); (try clear h9); (try clear hnx9); omega) | omega)⟩ (by decide) (if_pos (by (first | ((try clear hμ1); (try clear hμ2); (try clear hμ3); (try clear hμ4); (try clear hμ5); (try clear hμ6); (try clear hμ7); (try clear hμ8); (try clear hμm); (try clear hμr); (try clear h9); (try clear hnx9); omega) | omega))) dX10_costOf_312 ?_
                  refine lv_iload hx hb dX10_costOf_313 (lv_at hl 8 rfl) ?_
                  refine lv_aload_n hx hb dX10_costOf_315 rfl (lv_at hl 4 rfl) ?_
                  refine lv_iload hx hb dX10_costOf_316 (lv_at hl 3 rfl) ?_
                  refine lv_iload hx hb dX10_costOf_318 (lv_at hl 1 rfl) ?_
                  refine va_calli (va_runV (As := [.int (iZ (t)), .int (iZ ((ps + (rO wS i.toNat : Int))))]) (rest := [.int (iZ (j)), .ref (h0 + (754 + (n).toNat * 261 + 1 + (i + 1).toNat)), .int (iZ (rr9))]) ⟨hx, hb, hml, hown, hts⟩ (m_itemsIn l dC dI cI cZ cII cIII h0 H.size μr (t) ((ps + (rO wS i.toNat : Int))) (la) (by first | assumption | ((try clear hμ1); (try clear hμ2); (try clear hμ3); (try clear hμ4); (try clear hμ5); (try clear hμ6); (try clear hμ7); (try clear hμ8); (try clear hμm); (try clear hμr); (try clear h9); (try clear hnx9); omega) | omega | exact ⟨by (first | ((try clear hμ1); (try clear hμ2); (try clear hμ3); (try clear hμ4); (try clear hμ5); (try clear hμ6); (try clear hμ7); (try clear hμ8); (try clear hμm); (try clear hμr); (try clear h9); (try clear hnx9); omega) | omega), by (first | ((try clear hμ1); (try clear hμ2); (try clear hμ3); (try clear hμ4); (try clear hμ5); (try clear hμ6); (try clear hμ7); (try clear hμ8); (try clear hμm); (try clear hμr); (try clear h9); (try clear hnx9); omega) | omega)⟩) (by (first | ((try clear hμ1); (try clear hμ2); (try clear hμ3); (try clear hμ4); (try clear hμ5); (try clear hμ6); (try clear hμ7); (try clear hμ8); (try clear hμm); (try clear hμr); (try clear h9); (try clear hnx9); omega) | omega)) (by rw [ey]; exact sIA.2.2.1) (by rw [ey]; exact sIA.2.2.2)) (cwV 2 hts (gV_G k1400 k1402 ks_yX10_itemsIn k13 k1403) rfl rfl rfl (by decide +kernel) ⟨by show 1 + 1 ≤ 5 * d + 32 + 1 + 1; omega, by show 8 + (5 + 11) + (14) ≤ 200 * d + 900 + 40 + 40; omega⟩) ⟨fun a U g mk q => by obtain ⟨q0, q1, qP, qK⟩ := q; exact ⟨q0, q1, qP, va_K.moved (u := U) (U := U.calling g mk a) (Vm.Alike.refl U.vm) qK⟩, va_recv hK hP (ci := 10) (q0 := 0) rfl ((fw_get (by decide)).trans (by rw [mE_obj]; rfl)), fun U hU hW => ⟨rfl, by rw [hU], by rw [hU]; exact hP, va_K.moved hW.alike hK⟩⟩ rfl rfl hl.1 rfl (lv_room (Nat.le_of_ble_eq_true rfl)) dX10_costOf_320 ⟨Nat.le_of_ble_eq_true rfl, Nat.le_of_ble_eq_true rfl⟩) hS (fun q _ h => fA_le hS.1 q h) (fA_le hS.1) (fun r9 u9 t9 H1 locs ht9 hvm9 hw9 hB9 hz9 hk9 hS => ?_)
                  obtain ⟨μ6, ri⟩ := u9
                  obtain ⟨hP, -⟩ := hB9
                  rw [ht9] at hP
                  generalize H1 = H at hP hS ⊢
                  obtain ⟨e9, hw9⟩ := hw9
                  have e9 : r9 = iZ ri := e9
                  subst e9
                  simp only at hP hw9
                  have hμ6 := hw9; clear hw9
                  rw [hμ6.1] at hP; have hμ6 := hμ6.2
                  have hri : ri = rI la := hμ6
                  have eji : (j + ri).toNat = j.toNat + rI la := by (first | ((try clear hμ1); (try clear hμ2); (try clear hμ3); (try clear hμ4); (try clear hμ5); (try clear hμ6); (try clear hμ7); (try clear hμ8); (try clear hμm); (try clear hμr); (try clear h9); (try clear hnx9); omega) | omega)
                  refine lv_iadd hx hb dX10_costOf_323 ?_
                  refine lv_topi (fun x9 ex9 => ?_)
                  obtain rfl : x9 = iZ (j + ri) := ex9.trans (iZ_add _ _)
                  refine fz_ld (k := (754 + (n).toNat * 261 + 1 + (i + 1).toNat)) (n := 62) hx hb hK hP 0 (by (first | ((try clear hμ1); (try clear hμ2); (try clear hμ3); (try clear hμ4); (try clear hμ5); (try clear hμ6); (try clear hμ7); (try clear hμ8); (try clear hμm); (try clear hμr); (try clear h9); (try clear hnx9); omega) | omega)) (mE_leastR (by (first | ((try clear hμ1); (try clear hμ2); (try clear hμ3); (try clear hμ4); (try clear hμ5); (try clear hμ6); (try clear hμ7); (try clear hμ8); (try clear hμm); (try clear hμr); (try clear h9); (try clear hnx9); omega) | omega)) (by (first | ((try clear hμ1); (try clear hμ2); (try clear hμ3); (try clear hμ4); (try clear hμ5); (try clear hμ6); (try clear hμ7); (try clear hμ8); (try clear hμm); (try clear hμr); (try clear h9); (try clear hnx9); omega) | omega))) rfl ⟨by (first | ((try clear hμ1); (try clear hμ2); (try clear hμ3); (try clear hμ4); (try clear hμ5); (try clear hμ6); (try clear hμ7); (try clear hμ8); (try clear hμm); (try clear hμr); (try clear h9); (try clear hnx9); omega) | omega), by (first | ((try clear hμ1); (try clear hμ2); (try clear hμ3); (try clear hμ4); (try clear hμ5); (try clear hμ6); (try clear hμ7); (try clear hμ8); (try clear hμm); (try clear hμr); (try clear h9); (try clear hnx9); omega) | omega)⟩ (by decide) dX10_costOf_324 ?_
                  rw [show μr (754 + (n).toNat * 261 + 1 + (i + 1).toNat) (j + ri).toNat = (lay (rdrop (i.toNat + 1) wS) (rdrop (j.toNat + rI la) wP)).1 from (by rw [ei1, eji, ey]; exact hle (i.toNat + 1) (j.toNat + rI la) (by (first | ((try clear hμ1); (try clear hμ2); (try clear hμ3); (try clear hμ4); (try clear hμ5); (try clear hμ6); (try clear hμ7); (try clear hμ8); (try clear hμm); (try clear hμr); (try clear h9); (try clear hnx9); omega) | omega)) (by (first | ((try clear hμ1); (try clear hμ2); (try clear hμ3); (try clear hμ4); (try clear hμ5); (try clear hμ6); (try clear hμ7); (try clear hμ8); (try clear hμm); (try clear hμr); (try clear h9); (try clear hnx9); omega) | omega)) (by (first | ((try clear hμ1); (try clear hμ2); (try clear hμ3); (try clear hμ4); (try clear hμ5); (try clear hμ6); (try clear hμ7); (try clear hμ8); (try clear hμm); (try clear hμr); (try clear h9); (try clear hnx9); omega) | omega)) (by (first | ((try clear hμ1); (try clear hμ2); (try clear hμ3); (try clear hμ4); (try clear hμ5); (try clear hμ6); (try clear hμ7); (try clear hμ8); (try clear hμm); (try clear hμr); (try clear h9); (try clear hnx9); omega) | omega)) (by (first | ((try clear hμ1); (try clear hμ2); (try clear hμ3); (try clear hμ4); (try clear hμ5); (try clear hμ6); (try clear hμ7); (try clear hμ8); (try clear hμm); (try clear hμr); (try clear h9); (try clear hnx9); omega) | omega)))]
                  refine lv_iadd hx hb dX10_costOf_325 ?_
                  refine lv_topi (fun x9 ex9 => ?_)
                  obtain rfl : x9 = iZ (rr9 + ((lay (rdrop (i.toNat + 1) wS) (rdrop (j.toNat + rI la) wP)).1)) := ex9.trans (iZ_add _ _)
                  exact W.iret (v := iZ (rr9 + ((lay (rdrop (i.toNat + 1) wS) (rdrop (j.toNat + rI la) wP)).1))) hx hb hr (fun t9 ht9 hW9 => ⟨⟨iZ (rr9 + ((lay (rdrop (i.toNat + 1) wS) (rdrop (j.toNat + rI la) wP)).1)), (μr, rr9 + ((lay (rdrop (i.toNat + 1) wS) (rdrop (j.toNat + rI la) wP)).1)), rfl, ⟨rfl, (by
                                            dsimp only
                                            rw [ey, y3, rdrop_add j.toNat (rI la) wP, sS]
                                            refine ⟨?_, fr_rfl⟩
                                            rw [hes]
                                            unfold waF
                                            rw [if_neg (by (first | ((try clear hμ1); (try clear hμ2); (try clear hμ3); (try clear hμ4); (try clear hμ5); (try clear hμ6); (try clear hμ7); (try clear hμ8); (try clear hμm); (try clear hμr); (try clear h9); (try clear hnx9); omega) | omega)), if_neg (by (first | ((try clear hμ1); (try clear hμ2); (try clear hμ3); (try clear hμ4); (try clear hμ5); (try clear hμ6); (try clear hμ7); (try clear hμ8); (try clear hμm); (try clear hμr); (try clear h9); (try clear hnx9); omega) | omega)), if_neg (by (first | ((try clear hμ1); (try clear hμ2); (try clear hμ3); (try clear hμ4); (try clear hμ5); (try clear hμ6); (try clear hμ7); (try clear hμ8); (try clear hμm); (try clear hμr); (try clear h9); (try clear hnx9); omega) | omega)), if_pos (by (first | ((try clear hμ1); (try clear hμ2); (try clear hμ3); (try clear hμ4); (try clear hμ5); (try clear hμ6); (try clear hμ7); (try clear hμ8); (try clear hμm); (try clear hμr); (try clear h9); (try clear hnx9); omega) | omega))]
                                            have hnb := (nxtB_is _ _).mpr hnx
                                            rw [hep] at hnb ⊢
                                            rw [wa2, if_neg (fun h9 => by
                                              rcases h9 with h9 | h9
                                              · omega
                                              · rw [hnb] at h9; cases h9)])⟩, by rw [ht9]; exact hP, va_K.moved hW9.alike hK⟩, hS.F ht9⟩) hS.2.2 dX10_costOf_326
                · have hnn : ¬ nxt la (rdrop j.toNat wP) := by
                    rcases hnx9 with ⟨h, _⟩ | ⟨_, h⟩
                    · omega
                    · exact h
                  refine lv_ldc (v := iZ 1000000) hx hb hown (hts _ k1547) dX10_costOf_281 ?_
                  exact W.iret (v := iZ (1000000)) hx hb hr (fun t9 ht9 hW9 => ⟨⟨iZ (1000000), (μ, 1000000), rfl, ⟨rfl, (by
                                            dsimp only
                                            refine ⟨?_, fr_rfl⟩
                                            rw [hes]
                                            unfold waF
                                            rw [if_neg (by (first | ((try clear hμ1); (try clear hμ2); (try clear hμ3); (try clear hμ4); (try clear hμ5); (try clear hμ6); (try clear hμ7); (try clear hμ8); (try clear hμm); (try clear hμr); (try clear h9); (try clear hnx9); omega) | omega)), if_neg (by (first | ((try clear hμ1); (try clear hμ2); (try clear hμ3); (try clear hμ4); (try clear hμ5); (try clear hμ6); (try clear hμ7); (try clear hμ8); (try clear hμm); (try clear hμr); (try clear h9); (try clear hnx9); omega) | omega)), if_neg (by (first | ((try clear hμ1); (try clear hμ2); (try clear hμ3); (try clear hμ4); (try clear hμ5); (try clear hμ6); (try clear hμ7); (try clear hμ8); (try clear hμm); (try clear hμr); (try clear h9); (try clear hnx9); omega) | omega)), if_pos (by (first | ((try clear hμ1); (try clear hμ2); (try clear hμ3); (try clear hμ4); (try clear hμ5); (try clear hμ6); (try clear hμ7); (try clear hμ8); (try clear hμm); (try clear hμr); (try clear h9); (try clear hnx9); omega) | omega))]
                                            first
                                              | (revert hnn; intro hnn
                                                 rw [hep] at hnn ⊢
                                                 rw [wa2, if_pos (Or.inr (by
                                                   cases hB : nxtB la (.inner zp kp vp lb rb) with
                                                   | false => rfl
                                                   | true => exact absurd ((nxtB_is _ _).mp hB) hnn))])
                                              | (rw [hep, wa2, if_pos (Or.inl (by (first | ((try clear hμ1); (try clear hμ2); (try clear hμ3); (try clear hμ4); (try clear hμ5); (try clear hμ6); (try clear hμ7); (try clear hμ8); (try clear hμm); (try clear hμr); (try clear h9); (try clear hnx9); omega) | omega)))]))⟩, by rw [ht9]; exact hP, va_K.moved hW9.alike hK⟩, hS.F ht9⟩) hS.2.2 dX10_costOf_283
          · refine lv_aload_n hx hb dX10_costOf_208 rfl (lv_at hl 4 rfl) ?_
            refine lv_iload_n hx hb dX10_costOf_209 rfl (lv_at hl 6 rfl) ?_
            refine lv_iload hx hb dX10_costOf_210 (lv_at hl 1 rfl) ?_
            refine lv_iload hx hb dX10_costOf_212 (lv_at hl 0 rfl) ?_
            refine lv_iconst (v := iZ (-1)) hx hb dX10_costOf_214 rfl ?_
            refine va_calli (va_runV (As := [.int (iZ (n)), .int (iZ ((ps + (rO wS i.toNat : Int)))), .int (iZ ((pq + (rO wP j.toNat : Int)))), .int (iZ ((-1)))]) (rest := []) ⟨hx, hb, hml, hown, hts⟩ (m_meets l dC dI cI cZ cII cIII h0 (d) s.heap.size μ (n) ((ps + (rO wS i.toNat : Int))) ((pq + (rO wP j.toNat : Int))) ((-1)) (t) (u1) (ks) (vs) (la) (kp) (vp) (lb) (by exact hLR) (by (first | ((try clear hμ1); (try clear hμ2); (try clear hμ3); (try clear hμ4); (try clear hμ5); (try clear hμ6); (try clear hμ7); (try clear hμ8); (try clear hμm); (try clear hμr); (try clear h9); (try clear hnx9); omega) | omega)) (by exact ⟨v1, v2⟩) (by first | assumption | ((try clear hμ1); (try clear hμ2); (try clear hμ3); (try clear hμ4); (try clear hμ5); (try clear hμ6); (try clear hμ7); (try clear hμ8); (try clear hμm); (try clear hμr); (try clear h9); (try clear hnx9); omega) | omega | exact ⟨by (first | ((try clear hμ1); (try clear hμ2); (try clear hμ3); (try clear hμ4); (try clear hμ5); (try clear hμ6); (try clear hμ7); (try clear hμ8); (try clear hμm); (try clear hμr); (try clear h9); (try clear hnx9); omega) | omega), by (first | ((try clear hμ1); (try clear hμ2); (try clear hμ3); (try clear hμ4); (try clear hμ5); (try clear hμ6); (try clear hμ7); (try clear hμ8); (try clear hμm); (try clear hμr); (try clear h9); (try clear hnx9); omega) | omega)⟩) (by first | assumption | ((try clear hμ1); (try clear hμ2); (try clear hμ3); (try clear hμ4); (try clear hμ5); (try clear hμ6); (try clear hμ7); (try clear hμ8); (try clear hμm); (try clear hμr); (try clear h9); (try clear hnx9); omega) | omega | exact ⟨by (first | ((try clear hμ1); (try clear hμ2); (try clear hμ3); (try clear hμ4); (try clear hμ5); (try clear hμ6); (try clear hμ7); (try clear hμ8); (try clear hμm); (try clear hμr); (try clear h9); (try clear hnx9); omega) | omega), by (first | ((try clear hμ1); (try clear hμ2); (try clear hμ3); (try clear hμ4); (try clear hμ5); (try clear hμ6); (try clear hμ7); (try clear hμ8); (try clear hμm); (try clear hμr); (try clear h9); (try clear hnx9); omega) | omega)⟩) (by (first | ((try clear hμ1); (try clear hμ2); (try clear hμ3); (try clear hμ4); (try clear hμ5); (try clear hμ6); (try clear hμ7); (try clear hμ8); (try clear hμm); (try clear hμr); (try clear h9); (try clear hnx9); omega) | omega)) (by (first | ((try clear hμ1); (try clear hμ2); (try clear hμ3); (try clear hμ4); (try clear hμ5); (try clear hμ6); (try clear hμ7); (try clear hμ8); (try clear hμm); (try clear hμr); (try clear h9); (try clear hnx9); omega) | omega)) (by exact sIA) (by exact pIA) (by exact sF) (by exact pF) (by (first | ((try clear hμ1); (try clear hμ2); (try clear hμ3); (try clear hμ4); (try clear hμ5); (try clear hμ6); (try clear hμ7); (try clear hμ8); (try clear hμm); (try clear hμr); (try clear h9); (try clear hnx9); omega) | omega)) (by (first | ((try clear hμ1); (try clear hμ2); (try clear hμ3); (try clear hμ4); (try clear hμ5); (try clear hμ6); (try clear hμ7); (try clear hμ8); (try clear hμm); (try clear hμr); (try clear h9); (try clear hnx9); omega) | omega)) (by intro h; omega) (by intro h; omega) (by (first | ((try clear hμ1); (try clear hμ2); (try clear hμ3); (try clear hμ4); (try clear hμ5); (try clear hμ6); (try clear hμ7); (try clear hμ8); (try clear hμm); (try clear hμr); (try clear h9); (try clear hnx9); omega) | omega))) (cwV 4 hts (gV_G k1552 k1554 ks_yX10_meets k13 k1555) rfl rfl rfl (by decide +kernel) ⟨by show 5 * d + 32 + 1 + 1 ≤ 5 * d + 32 + 1 + 1; omega, by show 8 + (10 + 11) + (200 * d + 900 + 40) ≤ 200 * d + 900 + 40 + 40; omega⟩) ⟨fun a U g mk q => by obtain ⟨q0, q1, qP, qK⟩ := q; exact ⟨q0, q1, qP, va_K.moved (u := U) (U := U.calling g mk a) (Vm.Alike.refl U.vm) qK⟩, va_recv hK hP (ci := 10) (q0 := 0) rfl ((fw_get (by decide)).trans (by rw [mE_obj]; rfl)), fun U hU hW => ⟨rfl, by rw [hU], by rw [hU]; exact hP, va_K.moved hW.alike hK⟩⟩ rfl rfl hl.1 rfl (lv_room (Nat.le_of_ble_eq_true rfl)) dX10_costOf_215 ⟨Nat.le_of_ble_eq_true rfl, Nat.le_of_ble_eq_true rfl⟩) hS (fun q _ h => fA_le hS.1 q h) (fA_le hS.1) (fun r9 u9 t9 H1 locs ht9 hvm9 hw9 hB9 hz9 hk9 hS => ?_)
            obtain ⟨μm, rm⟩ := u9
            obtain ⟨hP, -⟩ := hB9
            rw [ht9] at hP
            generalize H1 = H at hP hS ⊢
            obtain ⟨e9, hw9⟩ := hw9
            have e9 : r9 = iZ rm := e9
            subst e9
            simp only at hP hw9
            have hμm := hw9; clear hw9
            obtain ⟨z1, z2⟩ := hμm
            have hfm : fr (LD (n.toNat + 1)) μ μm := z2.1 rfl
            refine lv_aload_n hx hb dX10_costOf_218 rfl (lv_at hl 4 rfl) ?_
            refine fz_get (D := (dC, dI)) (ci := 10) (v := .ref (h0 + 753)) (C := RX10) (T := TX10) (N := 53) hx hb hts inG10 hown hK hP (k := 0) (by decide) (F := mF h0) mE_obj rfl 32 (by decide) (hts _ k1198) (fun _ h9 => h9) rfl dX10_costOf_219 ?_
            refine lv_iload_n hx hb dX10_costOf_222 rfl (lv_at hl 6 rfl) ?_
            refine fz_ald (k := 753) (n := 14) (k2 := (754 + (n).toNat * 261)) hx hb hK hP 3 rfl (by decide) mE_least rfl ⟨by (first | ((try clear hμ1); (try clear hμ2); (try clear hμ3); (try clear hμ4); (try clear hμ5); (try clear hμ6); (try clear hμ7); (try clear hμ8); (try clear hμm); (try clear hμr); (try clear h9); (try clear hnx9); omega) | omega), by (first | ((try clear hμ1); (try clear hμ2); (try clear hμ3); (try clear hμ4); (try clear hμ5); (try clear hμ6); (try clear hμ7); (try clear hμ8); (try clear hμm); (try clear hμr); (try clear h9); (try clear hnx9); omega) | omega)⟩ (by decide) (if_pos (by (first | ((try clear hμ1); (try clear hμ2); (try clear hμ3); (try clear hμ4); (try clear hμ5); (try clear hμ6); (try clear hμ7); (try clear hμ8); (try clear hμm); (try clear hμr); (try clear h9); (try clear hnx9); omega) | omega))) dX10_costOf_223 ?_
            refine lv_iload_n hx hb dX10_costOf_224 rfl (lv_at hl 7 rfl) ?_
            refine lv_iconst (v := iZ 1) hx hb dX10_costOf_225 rfl ?_
            refine lv_iadd hx hb dX10_costOf_226 ?_
            refine lv_topi (fun x9 ex9 => ?_)
            obtain rfl : x9 = iZ (i + 1) := ex9.trans (iZ_add _ _)
            refine fz_ald (k := (754 + (n).toNat * 261)) (n := 260) (k2 := (754 + (n).toNat * 261 + 1 + (i + 1).toNat)) hx hb hK hP 2 rfl (by (first | ((try clear hμ1); (try clear hμ2); (try clear hμ3); (try clear hμ4); (try clear hμ5); (try clear hμ6); (try clear hμ7); (try clear hμ8); (try clear hμm); (try clear hμr); (try clear h9); (try clear hnx9); omega) | omega)) (mE_leastM (by (first | ((try clear hμ1); (try clear hμ2); (try clear hμ3); (try clear hμ4); (try clear hμ5); (try clear hμ6); (try clear hμ7); (try clear hμ8); (try clear hμm); (try clear hμr); (try clear h9); (try clear hnx9); omega) | omega))) rfl ⟨by (first | ((try clear hμ1); (try clear hμ2); (try clear hμ3); (try clear hμ4); (try clear hμ5); (try clear hμ6); (try clear hμ7); (try clear hμ8); (try clear hμm); (try clear hμr); (try clear h9); (try clear hnx9); omega) | omega), by (first | ((try clear hμ1); (try clear hμ2); (try clear hμ3); (try clear hμ4); (try clear hμ5); (try clear hμ6); (try clear hμ7); (try clear hμ8); (try clear hμm); (try clear hμr); (try clear h9); (try clear hnx9); omega) | omega)⟩ (by decide) (if_pos (by (first | ((try clear hμ1); (try clear hμ2); (try clear hμ3); (try clear hμ4); (try clear hμ5); (try clear hμ6); (try clear hμ7); (try clear hμ8); (try clear hμm); (try clear hμr); (try clear h9); (try clear hnx9); omega) | omega))) dX10_costOf_227 ?_
            refine lv_iload hx hb dX10_costOf_228 (lv_at hl 8 rfl) ?_
            refine lv_iconst (v := iZ 1) hx hb dX10_costOf_230 rfl ?_
            refine lv_iadd hx hb dX10_costOf_231 ?_
            refine lv_topi (fun x9 ex9 => ?_)
            obtain rfl : x9 = iZ (j + 1) := ex9.trans (iZ_add _ _)
            refine fz_ld (k := (754 + (n).toNat * 261 + 1 + (i + 1).toNat)) (n := 62) hx hb hK hP 0 (by (first | ((try clear hμ1); (try clear hμ2); (try clear hμ3); (try clear hμ4); (try clear hμ5); (try clear hμ6); (try clear hμ7); (try clear hμ8); (try clear hμm); (try clear hμr); (try clear h9); (try clear hnx9); omega) | omega)) (mE_leastR (by (first | ((try clear hμ1); (try clear hμ2); (try clear hμ3); (try clear hμ4); (try clear hμ5); (try clear hμ6); (try clear hμ7); (try clear hμ8); (try clear hμm); (try clear hμr); (try clear h9); (try clear hnx9); omega) | omega)) (by (first | ((try clear hμ1); (try clear hμ2); (try clear hμ3); (try clear hμ4); (try clear hμ5); (try clear hμ6); (try clear hμ7); (try clear hμ8); (try clear hμm); (try clear hμr); (try clear h9); (try clear hnx9); omega) | omega))) rfl ⟨by (first | ((try clear hμ1); (try clear hμ2); (try clear hμ3); (try clear hμ4); (try clear hμ5); (try clear hμ6); (try clear hμ7); (try clear hμ8); (try clear hμm); (try clear hμr); (try clear h9); (try clear hnx9); omega) | omega), by (first | ((try clear hμ1); (try clear hμ2); (try clear hμ3); (try clear hμ4); (try clear hμ5); (try clear hμ6); (try clear hμ7); (try clear hμ8); (try clear hμm); (try clear hμr); (try clear h9); (try clear hnx9); omega) | omega)⟩ (by decide) dX10_costOf_232 ?_
            rw [show μm (754 + (n).toNat * 261 + 1 + (i + 1).toNat) (j + 1).toNat = (lay (rdrop (i.toNat + 1) wS) (rdrop (j.toNat + 1) wP)).1 from (by rw [ei1, ej1, hfm _ _ (by unfold LD; omega)]; exact hle (i.toNat + 1) (j.toNat + 1) (by (first | ((try clear hμ1); (try clear hμ2); (try clear hμ3); (try clear hμ4); (try clear hμ5); (try clear hμ6); (try clear hμ7); (try clear hμ8); (try clear hμm); (try clear hμr); (try clear h9); (try clear hnx9); omega) | omega)) (by (first | ((try clear hμ1); (try clear hμ2); (try clear hμ3); (try clear hμ4); (try clear hμ5); (try clear hμ6); (try clear hμ7); (try clear hμ8); (try clear hμm); (try clear hμr); (try clear h9); (try clear hnx9); omega) | omega)) (by (first | ((try clear hμ1); (try clear hμ2); (try clear hμ3); (try clear hμ4); (try clear hμ5); (try clear hμ6); (try clear hμ7); (try clear hμ8); (try clear hμm); (try clear hμr); (try clear h9); (try clear hnx9); omega) | omega)) (by (first | ((try clear hμ1); (try clear hμ2); (try clear hμ3); (try clear hμ4); (try clear hμ5); (try clear hμ6); (try clear hμ7); (try clear hμ8); (try clear hμm); (try clear hμr); (try clear h9); (try clear hnx9); omega) | omega)) (by (first | ((try clear hμ1); (try clear hμ2); (try clear hμ3); (try clear hμ4); (try clear hμ5); (try clear hμ6); (try clear hμ7); (try clear hμ8); (try clear hμm); (try clear hμr); (try clear h9); (try clear hnx9); omega) | omega)))]
            refine lv_iadd hx hb dX10_costOf_233 ?_
            refine lv_topi (fun x9 ex9 => ?_)
            obtain rfl : x9 = iZ (rm + ((lay (rdrop (i.toNat + 1) wS) (rdrop (j.toNat + 1) wP)).1)) := ex9.trans (iZ_add _ _)
            exact W.iret (v := iZ (rm + ((lay (rdrop (i.toNat + 1) wS) (rdrop (j.toNat + 1) wP)).1))) hx hb hr (fun t9 ht9 hW9 => ⟨⟨iZ (rm + ((lay (rdrop (i.toNat + 1) wS) (rdrop (j.toNat + 1) wP)).1)), (μm, rm + ((lay (rdrop (i.toNat + 1) wS) (rdrop (j.toNat + 1) wP)).1)), rfl, ⟨rfl, (by
                                dsimp only
                                rw [hes, hep]
                                refine ⟨?_, hfm⟩
                                unfold waF
                                rw [if_neg (by (first | ((try clear hμ1); (try clear hμ2); (try clear hμ3); (try clear hμ4); (try clear hμ5); (try clear hμ6); (try clear hμ7); (try clear hμ8); (try clear hμm); (try clear hμr); (try clear h9); (try clear hnx9); omega) | omega)), if_neg (by (first | ((try clear hμ1); (try clear hμ2); (try clear hμ3); (try clear hμ4); (try clear hμ5); (try clear hμ6); (try clear hμ7); (try clear hμ8); (try clear hμm); (try clear hμr); (try clear h9); (try clear hnx9); omega) | omega)), if_pos (by (first | ((try clear hμ1); (try clear hμ2); (try clear hμ3); (try clear hμ4); (try clear hμ5); (try clear hμ6); (try clear hμ7); (try clear hμ8); (try clear hμm); (try clear hμr); (try clear h9); (try clear hnx9); omega) | omega)), wa1, z1, sS, pS]
                                rfl)⟩, by rw [ht9]; exact hP, va_K.moved hW9.alike hK⟩, hS.F ht9⟩) hS.2.2 dX10_costOf_234
        · refine lv_iload hx hb dX10_costOf_141 (lv_at hl 0 rfl) ?_
          refine lv_iconst (v := iZ (-1)) hx hb dX10_costOf_143 rfl ?_
          refine fz_icmp_ne (tgt := 152) (by constructor <;> (first | ((try clear hμ1); (try clear hμ2); (try clear hμ3); (try clear hμ4); (try clear hμ5); (try clear hμ6); (try clear hμ7); (try clear hμ8); (try clear hμm); (try clear hμr); (try clear h9); (try clear hnx9); omega) | omega)) (by decide) hx hb dX10_costOf_144 (by decide) (fun c144_ => ?_) (fun h9 => (by (first | ((try clear hμ1); (try clear hμ2); (try clear hμ3); (try clear hμ4); (try clear hμ5); (try clear hμ6); (try clear hμ7); (try clear hμ8); (try clear hμm); (try clear hμr); (try clear h9); (try clear hnx9); omega) | omega)))
          refine lv_aload_n hx hb dX10_costOf_152 rfl (lv_at hl 4 rfl) ?_
          refine lv_iload hx hb dX10_costOf_153 (lv_at hl 2 rfl) ?_
          refine lv_iload hx hb dX10_costOf_155 (lv_at hl 0 rfl) ?_
          refine lv_iload hx hb dX10_costOf_157 (lv_at hl 0 rfl) ?_
          refine lv_aload_n hx hb dX10_costOf_159 rfl (lv_at hl 4 rfl) ?_
          refine fz_get (D := (dC, dI)) (ci := 10) (v := .ref (h0 + 648)) (C := RX10) (T := TX10) (N := 53) hx hb hts inG10 hown hK hP (k := 0) (by decide) (F := mF h0) mE_obj rfl 20 (by decide) (hts _ k1186) (fun _ h9 => h9) rfl dX10_costOf_160 ?_
          refine lv_iload hx hb dX10_costOf_163 (lv_at hl 2 rfl) ?_
          refine fz_ald (k := 648) (n := 70) (k2 := (649 + (u1).toNat)) hx hb hK hP 2 rfl (by decide) mE_span rfl ⟨by (first | ((try clear hμ1); (try clear hμ2); (try clear hμ3); (try clear hμ4); (try clear hμ5); (try clear hμ6); (try clear hμ7); (try clear hμ8); (try clear hμm); (try clear hμr); (try clear h9); (try clear hnx9); omega) | omega), by (first | ((try clear hμ1); (try clear hμ2); (try clear hμ3); (try clear hμ4); (try clear hμ5); (try clear hμ6); (try clear hμ7); (try clear hμ8); (try clear hμm); (try clear hμr); (try clear h9); (try clear hnx9); omega) | omega)⟩ (by decide) (if_pos (by (first | ((try clear hμ1); (try clear hμ2); (try clear hμ3); (try clear hμ4); (try clear hμ5); (try clear hμ6); (try clear hμ7); (try clear hμ8); (try clear hμm); (try clear hμr); (try clear h9); (try clear hnx9); omega) | omega))) dX10_costOf_165 ?_
          refine lv_iload hx hb dX10_costOf_166 (lv_at hl 0 rfl) ?_
          refine fz_ld (k := (649 + (u1).toNat)) (n := 900) hx hb hK hP 0 (by (first | ((try clear hμ1); (try clear hμ2); (try clear hμ3); (try clear hμ4); (try clear hμ5); (try clear hμ6); (try clear hμ7); (try clear hμ8); (try clear hμm); (try clear hμr); (try clear h9); (try clear hnx9); omega) | omega)) (mE_spanR (by (first | ((try clear hμ1); (try clear hμ2); (try clear hμ3); (try clear hμ4); (try clear hμ5); (try clear hμ6); (try clear hμ7); (try clear hμ8); (try clear hμm); (try clear hμr); (try clear h9); (try clear hnx9); omega) | omega))) rfl ⟨by (first | ((try clear hμ1); (try clear hμ2); (try clear hμ3); (try clear hμ4); (try clear hμ5); (try clear hμ6); (try clear hμ7); (try clear hμ8); (try clear hμm); (try clear hμr); (try clear h9); (try clear hnx9); omega) | omega), by (first | ((try clear hμ1); (try clear hμ2); (try clear hμ3); (try clear hμ4); (try clear hμ5); (try clear hμ6); (try clear hμ7); (try clear hμ8); (try clear hμm); (try clear hμr); (try clear h9); (try clear hnx9); omega) | omega)⟩ (by decide) dX10_costOf_168 ?_
          rw [show μ (649 + (u1).toNat) ((pq + (rO wP j.toNat : Int))).toNat = 1 + (rN lb : Int) from (by exact pIA.2.2.1)]
          refine lv_iadd hx hb dX10_costOf_169 ?_
          refine lv_topi (fun x9 ex9 => ?_)
          obtain rfl : x9 = iZ (((pq + (rO wP j.toNat : Int))) + (1 + (rN lb : Int))) := ex9.trans (iZ_add _ _)
          refine va_calli (va_runV (As := [.int (iZ (u1)), .int (iZ ((pq + (rO wP j.toNat : Int)))), .int (iZ (((pq + (rO wP j.toNat : Int))) + (1 + (rN lb : Int))))]) (rest := []) ⟨hx, hb, hml, hown, hts⟩ (m_sizeOf2 l dC dI cI cZ cII cIII h0 s.heap.size μ (u1) ((pq + (rO wP j.toNat : Int))) (((pq + (rO wP j.toNat : Int))) + (1 + (rN lb : Int))) (by first | assumption | ((try clear hμ1); (try clear hμ2); (try clear hμ3); (try clear hμ4); (try clear hμ5); (try clear hμ6); (try clear hμ7); (try clear hμ8); (try clear hμm); (try clear hμr); (try clear h9); (try clear hnx9); omega) | omega | exact ⟨by (first | ((try clear hμ1); (try clear hμ2); (try clear hμ3); (try clear hμ4); (try clear hμ5); (try clear hμ6); (try clear hμ7); (try clear hμ8); (try clear hμm); (try clear hμr); (try clear h9); (try clear hnx9); omega) | omega), by (first | ((try clear hμ1); (try clear hμ2); (try clear hμ3); (try clear hμ4); (try clear hμ5); (try clear hμ6); (try clear hμ7); (try clear hμ8); (try clear hμm); (try clear hμr); (try clear h9); (try clear hnx9); omega) | omega)⟩) (by (first | ((try clear hμ1); (try clear hμ2); (try clear hμ3); (try clear hμ4); (try clear hμ5); (try clear hμ6); (try clear hμ7); (try clear hμ8); (try clear hμm); (try clear hμr); (try clear h9); (try clear hnx9); omega) | omega)) (by (first | ((try clear hμ1); (try clear hμ2); (try clear hμ3); (try clear hμ4); (try clear hμ5); (try clear hμ6); (try clear hμ7); (try clear hμ8); (try clear hμm); (try clear hμr); (try clear h9); (try clear hnx9); omega) | omega)) (by
                            intro x hx1 hx2
                            have h9 := RA_cok (.inner 0 kp vp lb .leaf) (pq + (rO wP j.toNat : Int)).toNat 900 ⟨pIA.1, pIA.2.1, pIA.2.2.1, pIA.2.2.2, trivial⟩ ⟨pF.1, pF.2.1, pF.2.2.1, pF.2.2.2.1, pF.2.2.2.2.1, pF.2.2.2.2.2.1, pF.2.2.2.2.2.2, trivial⟩ (by show _ + (1 + rN lb + 0) ≤ 900; omega) x (by (first | ((try clear hμ1); (try clear hμ2); (try clear hμ3); (try clear hμ4); (try clear hμ5); (try clear hμ6); (try clear hμ7); (try clear hμ8); (try clear hμm); (try clear hμr); (try clear h9); (try clear hnx9); omega) | omega)) (by show x < _ + (1 + rN lb + 0); omega)
                            have h8 := h9.1
                            constructor <;> (first | ((try clear hμ1); (try clear hμ2); (try clear hμ3); (try clear hμ4); (try clear hμ5); (try clear hμ6); (try clear hμ7); (try clear hμ8); (try clear hμm); (try clear hμr); (try clear h9); (try clear hnx9); omega) | omega))) (cwV 3 hts (gV_G k1488 k1490 ks_yX10_sizeOf k13 k1491) rfl rfl rfl (by decide +kernel) ⟨by show 1 + 1 ≤ 5 * d + 32 + 1 + 1; omega, by show 8 + (6 + 11) + (14) ≤ 200 * d + 900 + 40 + 40; omega⟩) ⟨fun a U g mk q => by obtain ⟨q0, q1, qP, qK⟩ := q; exact ⟨q0, q1, qP, va_K.moved (u := U) (U := U.calling g mk a) (Vm.Alike.refl U.vm) qK⟩, va_recv hK hP (ci := 10) (q0 := 0) rfl ((fw_get (by decide)).trans (by rw [mE_obj]; rfl)), fun U hU hW => ⟨rfl, by rw [hU], by rw [hU]; exact hP, va_K.moved hW.alike hK⟩⟩ rfl rfl hl.1 rfl (lv_room (Nat.le_of_ble_eq_true rfl)) dX10_costOf_170 ⟨Nat.le_of_ble_eq_true rfl, Nat.le_of_ble_eq_true rfl⟩) hS (fun q _ h => fA_le hS.1 q h) (fA_le hS.1) (fun r9 u9 t9 H1 locs ht9 hvm9 hw9 hB9 hz9 hk9 hS => ?_)
          obtain ⟨μ7, rz⟩ := u9
          obtain ⟨hP, -⟩ := hB9
          rw [ht9] at hP
          generalize H1 = H at hP hS ⊢
          obtain ⟨e9, hw9⟩ := hw9
          have e9 : r9 = iZ rz := e9
          subst e9
          simp only at hP hw9
          have hμ7 := hw9; clear hw9
          rw [hμ7.1] at hP; have hμ7 := hμ7.2
          have hz : rz = rL1 kp lb := by
            have h9 := hμ7
            rw [show (((pq + (rO wP j.toNat : Int)) + (1 + (rN lb : Int))) - (pq + (rO wP j.toNat : Int))).toNat = 1 + rN lb by (first | ((try clear hμ1); (try clear hμ2); (try clear hμ3); (try clear hμ4); (try clear hμ5); (try clear hμ6); (try clear hμ7); (try clear hμ8); (try clear hμm); (try clear hμr); (try clear h9); (try clear hnx9); omega) | omega), cS_it pIA] at h9
            exact h9
          refine lv_aload_n hx hb dX10_costOf_173 rfl (lv_at hl 4 rfl) ?_
          refine fz_get (D := (dC, dI)) (ci := 10) (v := .ref (h0 + 753)) (C := RX10) (T := TX10) (N := 53) hx hb hts inG10 hown hK hP (k := 0) (by decide) (F := mF h0) mE_obj rfl 32 (by decide) (hts _ k1198) (fun _ h9 => h9) rfl dX10_costOf_174 ?_
          refine lv_iload_n hx hb dX10_costOf_177 rfl (lv_at hl 6 rfl) ?_
          refine fz_ald (k := 753) (n := 14) (k2 := (754 + (n).toNat * 261)) hx hb hK hP 3 rfl (by decide) mE_least rfl ⟨by (first | ((try clear hμ1); (try clear hμ2); (try clear hμ3); (try clear hμ4); (try clear hμ5); (try clear hμ6); (try clear hμ7); (try clear hμ8); (try clear hμm); (try clear hμr); (try clear h9); (try clear hnx9); omega) | omega), by (first | ((try clear hμ1); (try clear hμ2); (try clear hμ3); (try clear hμ4); (try clear hμ5); (try clear hμ6); (try clear hμ7); (try clear hμ8); (try clear hμm); (try clear hμr); (try clear h9); (try clear hnx9); omega) | omega)⟩ (by decide) (if_pos (by (first | ((try clear hμ1); (try clear hμ2); (try clear hμ3); (try clear hμ4); (try clear hμ5); (try clear hμ6); (try clear hμ7); (try clear hμ8); (try clear hμm); (try clear hμr); (try clear h9); (try clear hnx9); omega) | omega))) dX10_costOf_178 ?_
          refine lv_iload_n hx hb dX10_costOf_179 rfl (lv_at hl 7 rfl) ?_
          refine fz_ald (k := (754 + (n).toNat * 261)) (n := 260) (k2 := (754 + (n).toNat * 261 + 1 + (i).toNat)) hx hb hK hP 2 rfl (by (first | ((try clear hμ1); (try clear hμ2); (try clear hμ3); (try clear hμ4); (try clear hμ5); (try clear hμ6); (try clear hμ7); (try clear hμ8); (try clear hμm); (try clear hμr); (try clear h9); (try clear hnx9); omega) | omega)) (mE_leastM (by (first | ((try clear hμ1); (try clear hμ2); (try clear hμ3); (try clear hμ4); (try clear hμ5); (try clear hμ6); (try clear hμ7); (try clear hμ8); (try clear hμm); (try clear hμr); (try clear h9); (try clear hnx9); omega) | omega))) rfl ⟨by (first | ((try clear hμ1); (try clear hμ2); (try clear hμ3); (try clear hμ4); (try clear hμ5); (try clear hμ6); (try clear hμ7); (try clear hμ8); (try clear hμm); (try clear hμr); (try clear h9); (try clear hnx9); omega) | omega), by (first | ((try clear hμ1); (try clear hμ2); (try clear hμ3); (try clear hμ4); (try clear hμ5); (try clear hμ6); (try clear hμ7); (try clear hμ8); (try clear hμm); (try clear hμr); (try clear h9); (try clear hnx9); omega) | omega)⟩ (by decide) (if_pos (by (first | ((try clear hμ1); (try clear hμ2); (try clear hμ3); (try clear hμ4); (try clear hμ5); (try clear hμ6); (try clear hμ7); (try clear hμ8); (try clear hμm); (try clear hμr); (try clear h9); (try clear hnx9); omega) | omega))) dX10_costOf_180 ?_
          refine lv_iload hx hb dX10_costOf_181 (lv_at hl 8 rfl) ?_
          refine lv_iconst (v := iZ 1) hx hb dX10_costOf_183 rfl ?_
          refine lv_iadd hx hb dX10_costOf_184 ?_
          refine lv_topi (fun x9 ex9 => ?_)
          obtain rfl : x9 = iZ (j + 1) := ex9.trans (iZ_add _ _)
          refine fz_ld (k := (754 + (n).toNat * 261 + 1 + (i).toNat)) (n := 62) hx hb hK hP 0 (by (first | ((try clear hμ1); (try clear hμ2); (try clear hμ3); (try clear hμ4); (try clear hμ5); (try clear hμ6); (try clear hμ7); (try clear hμ8); (try clear hμm); (try clear hμr); (try clear h9); (try clear hnx9); omega) | omega)) (mE_leastR (by (first | ((try clear hμ1); (try clear hμ2); (try clear hμ3); (try clear hμ4); (try clear hμ5); (try clear hμ6); (try clear hμ7); (try clear hμ8); (try clear hμm); (try clear hμr); (try clear h9); (try clear hnx9); omega) | omega)) (by (first | ((try clear hμ1); (try clear hμ2); (try clear hμ3); (try clear hμ4); (try clear hμ5); (try clear hμ6); (try clear hμ7); (try clear hμ8); (try clear hμm); (try clear hμr); (try clear h9); (try clear hnx9); omega) | omega))) rfl ⟨by (first | ((try clear hμ1); (try clear hμ2); (try clear hμ3); (try clear hμ4); (try clear hμ5); (try clear hμ6); (try clear hμ7); (try clear hμ8); (try clear hμm); (try clear hμr); (try clear h9); (try clear hnx9); omega) | omega), by (first | ((try clear hμ1); (try clear hμ2); (try clear hμ3); (try clear hμ4); (try clear hμ5); (try clear hμ6); (try clear hμ7); (try clear hμ8); (try clear hμm); (try clear hμr); (try clear h9); (try clear hnx9); omega) | omega)⟩ (by decide) dX10_costOf_185 ?_
          rw [show μ (754 + (n).toNat * 261 + 1 + (i).toNat) (j + 1).toNat = (lay (rdrop (i.toNat) wS) (rdrop (j.toNat + 1) wP)).1 from (by rw [ej1]; exact hle (i.toNat) (j.toNat + 1) (by (first | ((try clear hμ1); (try clear hμ2); (try clear hμ3); (try clear hμ4); (try clear hμ5); (try clear hμ6); (try clear hμ7); (try clear hμ8); (try clear hμm); (try clear hμr); (try clear h9); (try clear hnx9); omega) | omega)) (by (first | ((try clear hμ1); (try clear hμ2); (try clear hμ3); (try clear hμ4); (try clear hμ5); (try clear hμ6); (try clear hμ7); (try clear hμ8); (try clear hμm); (try clear hμr); (try clear h9); (try clear hnx9); omega) | omega)) (by (first | ((try clear hμ1); (try clear hμ2); (try clear hμ3); (try clear hμ4); (try clear hμ5); (try clear hμ6); (try clear hμ7); (try clear hμ8); (try clear hμm); (try clear hμr); (try clear h9); (try clear hnx9); omega) | omega)) (by (first | ((try clear hμ1); (try clear hμ2); (try clear hμ3); (try clear hμ4); (try clear hμ5); (try clear hμ6); (try clear hμ7); (try clear hμ8); (try clear hμm); (try clear hμr); (try clear h9); (try clear hnx9); omega) | omega)) (by (first | ((try clear hμ1); (try clear hμ2); (try clear hμ3); (try clear hμ4); (try clear hμ5); (try clear hμ6); (try clear hμ7); (try clear hμ8); (try clear hμm); (try clear hμr); (try clear h9); (try clear hnx9); omega) | omega)))]
          refine lv_iadd hx hb dX10_costOf_186 ?_
          refine lv_topi (fun x9 ex9 => ?_)
          obtain rfl : x9 = iZ (rz + ((lay (rdrop (i.toNat) wS) (rdrop (j.toNat + 1) wP)).1)) := ex9.trans (iZ_add _ _)
          exact W.iret (v := iZ (rz + ((lay (rdrop (i.toNat) wS) (rdrop (j.toNat + 1) wP)).1))) hx hb hr (fun t9 ht9 hW9 => ⟨⟨iZ (rz + ((lay (rdrop (i.toNat) wS) (rdrop (j.toNat + 1) wP)).1)), (μ, rz + ((lay (rdrop (i.toNat) wS) (rdrop (j.toNat + 1) wP)).1)), rfl, ⟨rfl, (by
                            dsimp only
                            first
                              | (revert hPe; intro hPe
                                 rw [hPe]
                                 exact ⟨by unfold waF; rw [if_neg (by (first | ((try clear hμ1); (try clear hμ2); (try clear hμ3); (try clear hμ4); (try clear hμ5); (try clear hμ6); (try clear hμ7); (try clear hμ8); (try clear hμm); (try clear hμr); (try clear h9); (try clear hnx9); omega) | omega)), if_pos (by (first | ((try clear hμ1); (try clear hμ2); (try clear hμ3); (try clear hμ4); (try clear hμ5); (try clear hμ6); (try clear hμ7); (try clear hμ8); (try clear hμm); (try clear hμr); (try clear h9); (try clear hnx9); omega) | omega))]; cases rdrop i.toNat wS <;> rfl, fr_rfl⟩)
                              | (rw [hep, pS]
                                 refine ⟨?_, fr_rfl⟩
                                 unfold waF
                                 rw [if_neg (by (first | ((try clear hμ1); (try clear hμ2); (try clear hμ3); (try clear hμ4); (try clear hμ5); (try clear hμ6); (try clear hμ7); (try clear hμ8); (try clear hμm); (try clear hμr); (try clear h9); (try clear hnx9); omega) | omega)), if_pos (by (first | ((try clear hμ1); (try clear hμ2); (try clear hμ3); (try clear hμ4); (try clear hμ5); (try clear hμ6); (try clear hμ7); (try clear hμ8); (try clear hμm); (try clear hμr); (try clear h9); (try clear hnx9); omega) | omega)), wa5, hz]))⟩, by rw [ht9]; exact hP, va_K.moved hW9.alike hK⟩, hS.F ht9⟩) hS.2.2 dX10_costOf_187
      · refine lv_iload hx hb dX10_costOf_71 (lv_at hl 1 rfl) ?_
        refine lv_iconst (v := iZ (-1)) hx hb dX10_costOf_73 rfl ?_
        refine fz_icmp_ne (tgt := 82) (by constructor <;> (first | ((try clear hμ1); (try clear hμ2); (try clear hμ3); (try clear hμ4); (try clear hμ5); (try clear hμ6); (try clear hμ7); (try clear hμ8); (try clear hμm); (try clear hμr); (try clear h9); (try clear hnx9); omega) | omega)) (by decide) hx hb dX10_costOf_74 (by decide) (fun c74_ => ?_) (fun h9 => (by (first | ((try clear hμ1); (try clear hμ2); (try clear hμ3); (try clear hμ4); (try clear hμ5); (try clear hμ6); (try clear hμ7); (try clear hμ8); (try clear hμm); (try clear hμr); (try clear h9); (try clear hnx9); omega) | omega)))
        refine lv_aload_n hx hb dX10_costOf_82 rfl (lv_at hl 4 rfl) ?_
        refine fz_get (D := (dC, dI)) (ci := 10) (v := .ref (h0 + 506)) (C := RX10) (T := TX10) (N := 53) hx hb hts inG10 hown hK hP (k := 0) (by decide) (F := mF h0) mE_obj rfl 18 (by decide) (hts _ k1184) (fun _ h9 => h9) rfl dX10_costOf_83 ?_
        refine lv_iload hx hb dX10_costOf_86 (lv_at hl 3 rfl) ?_
        refine fz_ald (k := 506) (n := 70) (k2 := (507 + (t).toNat)) hx hb hK hP 2 rfl (by decide) mE_sort rfl ⟨by (first | ((try clear hμ1); (try clear hμ2); (try clear hμ3); (try clear hμ4); (try clear hμ5); (try clear hμ6); (try clear hμ7); (try clear hμ8); (try clear hμm); (try clear hμr); (try clear h9); (try clear hnx9); omega) | omega), by (first | ((try clear hμ1); (try clear hμ2); (try clear hμ3); (try clear hμ4); (try clear hμ5); (try clear hμ6); (try clear hμ7); (try clear hμ8); (try clear hμm); (try clear hμr); (try clear h9); (try clear hnx9); omega) | omega)⟩ (by decide) (if_pos (by (first | ((try clear hμ1); (try clear hμ2); (try clear hμ3); (try clear hμ4); (try clear hμ5); (try clear hμ6); (try clear hμ7); (try clear hμ8); (try clear hμm); (try clear hμr); (try clear h9); (try clear hnx9); omega) | omega))) dX10_costOf_88 ?_
        refine lv_iload hx hb dX10_costOf_89 (lv_at hl 1 rfl) ?_
        refine fz_ld (k := (507 + (t).toNat)) (n := 900) hx hb hK hP 0 (by (first | ((try clear hμ1); (try clear hμ2); (try clear hμ3); (try clear hμ4); (try clear hμ5); (try clear hμ6); (try clear hμ7); (try clear hμ8); (try clear hμm); (try clear hμr); (try clear h9); (try clear hnx9); omega) | omega)) (mE_sortR (by (first | ((try clear hμ1); (try clear hμ2); (try clear hμ3); (try clear hμ4); (try clear hμ5); (try clear hμ6); (try clear hμ7); (try clear hμ8); (try clear hμm); (try clear hμr); (try clear h9); (try clear hnx9); omega) | omega))) rfl ⟨by (first | ((try clear hμ1); (try clear hμ2); (try clear hμ3); (try clear hμ4); (try clear hμ5); (try clear hμ6); (try clear hμ7); (try clear hμ8); (try clear hμm); (try clear hμr); (try clear h9); (try clear hnx9); omega) | omega), by (first | ((try clear hμ1); (try clear hμ2); (try clear hμ3); (try clear hμ4); (try clear hμ5); (try clear hμ6); (try clear hμ7); (try clear hμ8); (try clear hμm); (try clear hμr); (try clear h9); (try clear hnx9); omega) | omega)⟩ (by decide) dX10_costOf_91 ?_
        rw [show μ (507 + (t).toNat) ((ps + (rO wS i.toNat : Int))).toNat = (ks : Int) from (by exact sIA.1)]
        refine lv_iconst (v := iZ 3) hx hb dX10_costOf_92 rfl ?_
        refine fz_icmp_ne (tgt := 100) (by constructor <;> (first | ((try clear hμ1); (try clear hμ2); (try clear hμ3); (try clear hμ4); (try clear hμ5); (try clear hμ6); (try clear hμ7); (try clear hμ8); (try clear hμm); (try clear hμr); (try clear h9); (try clear hnx9); omega) | omega)) (by decide) hx hb dX10_costOf_93 (by decide) (fun c93_ => ?_) (fun c93_ => ?_)
        · refine lv_aload_n hx hb dX10_costOf_100 rfl (lv_at hl 4 rfl) ?_
          refine lv_iload hx hb dX10_costOf_101 (lv_at hl 3 rfl) ?_
          refine lv_iload hx hb dX10_costOf_103 (lv_at hl 1 rfl) ?_
          refine lv_iload hx hb dX10_costOf_105 (lv_at hl 1 rfl) ?_
          refine lv_aload_n hx hb dX10_costOf_107 rfl (lv_at hl 4 rfl) ?_
          refine fz_get (D := (dC, dI)) (ci := 10) (v := .ref (h0 + 648)) (C := RX10) (T := TX10) (N := 53) hx hb hts inG10 hown hK hP (k := 0) (by decide) (F := mF h0) mE_obj rfl 20 (by decide) (hts _ k1186) (fun _ h9 => h9) rfl dX10_costOf_108 ?_
          refine lv_iload hx hb dX10_costOf_111 (lv_at hl 3 rfl) ?_
          refine fz_ald (k := 648) (n := 70) (k2 := (649 + (t).toNat)) hx hb hK hP 2 rfl (by decide) mE_span rfl ⟨by (first | ((try clear hμ1); (try clear hμ2); (try clear hμ3); (try clear hμ4); (try clear hμ5); (try clear hμ6); (try clear hμ7); (try clear hμ8); (try clear hμm); (try clear hμr); (try clear h9); (try clear hnx9); omega) | omega), by (first | ((try clear hμ1); (try clear hμ2); (try clear hμ3); (try clear hμ4); (try clear hμ5); (try clear hμ6); (try clear hμ7); (try clear hμ8); (try clear hμm); (try clear hμr); (try clear h9); (try clear hnx9); omega) | omega)⟩ (by decide) (if_pos (by (first | ((try clear hμ1); (try clear hμ2); (try clear hμ3); (try clear hμ4); (try clear hμ5); (try clear hμ6); (try clear hμ7); (try clear hμ8); (try clear hμm); (try clear hμr); (try clear h9); (try clear hnx9); omega) | omega))) dX10_costOf_113 ?_
          refine lv_iload hx hb dX10_costOf_114 (lv_at hl 1 rfl) ?_
          refine fz_ld (k := (649 + (t).toNat)) (n := 900) hx hb hK hP 0 (by (first | ((try clear hμ1); (try clear hμ2); (try clear hμ3); (try clear hμ4); (try clear hμ5); (try clear hμ6); (try clear hμ7); (try clear hμ8); (try clear hμm); (try clear hμr); (try clear h9); (try clear hnx9); omega) | omega)) (mE_spanR (by (first | ((try clear hμ1); (try clear hμ2); (try clear hμ3); (try clear hμ4); (try clear hμ5); (try clear hμ6); (try clear hμ7); (try clear hμ8); (try clear hμm); (try clear hμr); (try clear h9); (try clear hnx9); omega) | omega))) rfl ⟨by (first | ((try clear hμ1); (try clear hμ2); (try clear hμ3); (try clear hμ4); (try clear hμ5); (try clear hμ6); (try clear hμ7); (try clear hμ8); (try clear hμm); (try clear hμr); (try clear h9); (try clear hnx9); omega) | omega), by (first | ((try clear hμ1); (try clear hμ2); (try clear hμ3); (try clear hμ4); (try clear hμ5); (try clear hμ6); (try clear hμ7); (try clear hμ8); (try clear hμm); (try clear hμr); (try clear h9); (try clear hnx9); omega) | omega)⟩ (by decide) dX10_costOf_116 ?_
          rw [show μ (649 + (t).toNat) ((ps + (rO wS i.toNat : Int))).toNat = 1 + (rN la : Int) from (by exact sIA.2.2.1)]
          refine lv_iadd hx hb dX10_costOf_117 ?_
          refine lv_topi (fun x9 ex9 => ?_)
          obtain rfl : x9 = iZ (((ps + (rO wS i.toNat : Int))) + (1 + (rN la : Int))) := ex9.trans (iZ_add _ _)
          refine va_calli (va_runV (As := [.int (iZ (t)), .int (iZ ((ps + (rO wS i.toNat : Int)))), .int (iZ (((ps + (rO wS i.toNat : Int))) + (1 + (rN la : Int))))]) (rest := []) ⟨hx, hb, hml, hown, hts⟩ (m_sizeOf2 l dC dI cI cZ cII cIII h0 s.heap.size μ (t) ((ps + (rO wS i.toNat : Int))) (((ps + (rO wS i.toNat : Int))) + (1 + (rN la : Int))) (by first | assumption | ((try clear hμ1); (try clear hμ2); (try clear hμ3); (try clear hμ4); (try clear hμ5); (try clear hμ6); (try clear hμ7); (try clear hμ8); (try clear hμm); (try clear hμr); (try clear h9); (try clear hnx9); omega) | omega | exact ⟨by (first | ((try clear hμ1); (try clear hμ2); (try clear hμ3); (try clear hμ4); (try clear hμ5); (try clear hμ6); (try clear hμ7); (try clear hμ8); (try clear hμm); (try clear hμr); (try clear h9); (try clear hnx9); omega) | omega), by (first | ((try clear hμ1); (try clear hμ2); (try clear hμ3); (try clear hμ4); (try clear hμ5); (try clear hμ6); (try clear hμ7); (try clear hμ8); (try clear hμm); (try clear hμr); (try clear h9); (try clear hnx9); omega) | omega)⟩) (by (first | ((try clear hμ1); (try clear hμ2); (try clear hμ3); (try clear hμ4); (try clear hμ5); (try clear hμ6); (try clear hμ7); (try clear hμ8); (try clear hμm); (try clear hμr); (try clear h9); (try clear hnx9); omega) | omega)) (by (first | ((try clear hμ1); (try clear hμ2); (try clear hμ3); (try clear hμ4); (try clear hμ5); (try clear hμ6); (try clear hμ7); (try clear hμ8); (try clear hμm); (try clear hμr); (try clear h9); (try clear hnx9); omega) | omega)) (by
                            intro x hx1 hx2
                            have h9 := RA_cok (.inner 0 ks vs la .leaf) (ps + (rO wS i.toNat : Int)).toNat 900 ⟨sIA.1, sIA.2.1, sIA.2.2.1, sIA.2.2.2, trivial⟩ ⟨sF.1, sF.2.1, sF.2.2.1, sF.2.2.2.1, sF.2.2.2.2.1, sF.2.2.2.2.2.1, sF.2.2.2.2.2.2, trivial⟩ (by show _ + (1 + rN la + 0) ≤ 900; omega) x (by (first | ((try clear hμ1); (try clear hμ2); (try clear hμ3); (try clear hμ4); (try clear hμ5); (try clear hμ6); (try clear hμ7); (try clear hμ8); (try clear hμm); (try clear hμr); (try clear h9); (try clear hnx9); omega) | omega)) (by show x < _ + (1 + rN la + 0); omega)
                            have h8 := h9.1
                            constructor <;> (first | ((try clear hμ1); (try clear hμ2); (try clear hμ3); (try clear hμ4); (try clear hμ5); (try clear hμ6); (try clear hμ7); (try clear hμ8); (try clear hμm); (try clear hμr); (try clear h9); (try clear hnx9); omega) | omega))) (cwV 3 hts (gV_G k1488 k1490 ks_yX10_sizeOf k13 k1491) rfl rfl rfl (by decide +kernel) ⟨by show 1 + 1 ≤ 5 * d + 32 + 1 + 1; omega, by show 8 + (6 + 11) + (14) ≤ 200 * d + 900 + 40 + 40; omega⟩) ⟨fun a U g mk q => by obtain ⟨q0, q1, qP, qK⟩ := q; exact ⟨q0, q1, qP, va_K.moved (u := U) (U := U.calling g mk a) (Vm.Alike.refl U.vm) qK⟩, va_recv hK hP (ci := 10) (q0 := 0) rfl ((fw_get (by decide)).trans (by rw [mE_obj]; rfl)), fun U hU hW => ⟨rfl, by rw [hU], by rw [hU]; exact hP, va_K.moved hW.alike hK⟩⟩ rfl rfl hl.1 rfl (lv_room (Nat.le_of_ble_eq_true rfl)) dX10_costOf_118 ⟨Nat.le_of_ble_eq_true rfl, Nat.le_of_ble_eq_true rfl⟩) hS (fun q _ h => fA_le hS.1 q h) (fA_le hS.1) (fun r9 u9 t9 H1 locs ht9 hvm9 hw9 hB9 hz9 hk9 hS => ?_)
          obtain ⟨μ8, rz⟩ := u9
          obtain ⟨hP, -⟩ := hB9
          rw [ht9] at hP
          generalize H1 = H at hP hS ⊢
          obtain ⟨e9, hw9⟩ := hw9
          have e9 : r9 = iZ rz := e9
          subst e9
          simp only at hP hw9
          have hμ8 := hw9; clear hw9
          rw [hμ8.1] at hP; have hμ8 := hμ8.2
          have hz : rz = rL1 ks la := by
            have h9 := hμ8
            rw [show (((ps + (rO wS i.toNat : Int)) + (1 + (rN la : Int))) - (ps + (rO wS i.toNat : Int))).toNat = 1 + rN la by (first | ((try clear hμ1); (try clear hμ2); (try clear hμ3); (try clear hμ4); (try clear hμ5); (try clear hμ6); (try clear hμ7); (try clear hμ8); (try clear hμm); (try clear hμr); (try clear h9); (try clear hnx9); omega) | omega), cS_it sIA] at h9
            exact h9
          refine lv_aload_n hx hb dX10_costOf_121 rfl (lv_at hl 4 rfl) ?_
          refine fz_get (D := (dC, dI)) (ci := 10) (v := .ref (h0 + 753)) (C := RX10) (T := TX10) (N := 53) hx hb hts inG10 hown hK hP (k := 0) (by decide) (F := mF h0) mE_obj rfl 32 (by decide) (hts _ k1198) (fun _ h9 => h9) rfl dX10_costOf_122 ?_
          refine lv_iload_n hx hb dX10_costOf_125 rfl (lv_at hl 6 rfl) ?_
          refine fz_ald (k := 753) (n := 14) (k2 := (754 + (n).toNat * 261)) hx hb hK hP 3 rfl (by decide) mE_least rfl ⟨by (first | ((try clear hμ1); (try clear hμ2); (try clear hμ3); (try clear hμ4); (try clear hμ5); (try clear hμ6); (try clear hμ7); (try clear hμ8); (try clear hμm); (try clear hμr); (try clear h9); (try clear hnx9); omega) | omega), by (first | ((try clear hμ1); (try clear hμ2); (try clear hμ3); (try clear hμ4); (try clear hμ5); (try clear hμ6); (try clear hμ7); (try clear hμ8); (try clear hμm); (try clear hμr); (try clear h9); (try clear hnx9); omega) | omega)⟩ (by decide) (if_pos (by (first | ((try clear hμ1); (try clear hμ2); (try clear hμ3); (try clear hμ4); (try clear hμ5); (try clear hμ6); (try clear hμ7); (try clear hμ8); (try clear hμm); (try clear hμr); (try clear h9); (try clear hnx9); omega) | omega))) dX10_costOf_126 ?_
          refine lv_iload_n hx hb dX10_costOf_127 rfl (lv_at hl 7 rfl) ?_
          refine lv_iconst (v := iZ 1) hx hb dX10_costOf_128 rfl ?_
          refine lv_iadd hx hb dX10_costOf_129 ?_
          refine lv_topi (fun x9 ex9 => ?_)
          obtain rfl : x9 = iZ (i + 1) := ex9.trans (iZ_add _ _)
          refine fz_ald (k := (754 + (n).toNat * 261)) (n := 260) (k2 := (754 + (n).toNat * 261 + 1 + (i + 1).toNat)) hx hb hK hP 2 rfl (by (first | ((try clear hμ1); (try clear hμ2); (try clear hμ3); (try clear hμ4); (try clear hμ5); (try clear hμ6); (try clear hμ7); (try clear hμ8); (try clear hμm); (try clear hμr); (try clear h9); (try clear hnx9); omega) | omega)) (mE_leastM (by (first | ((try clear hμ1); (try clear hμ2); (try clear hμ3); (try clear hμ4); (try clear hμ5); (try clear hμ6); (try clear hμ7); (try clear hμ8); (try clear hμm); (try clear hμr); (try clear h9); (try clear hnx9); omega) | omega))) rfl ⟨by (first | ((try clear hμ1); (try clear hμ2); (try clear hμ3); (try clear hμ4); (try clear hμ5); (try clear hμ6); (try clear hμ7); (try clear hμ8); (try clear hμm); (try clear hμr); (try clear h9); (try clear hnx9); omega) | omega), by (first | ((try clear hμ1); (try clear hμ2); (try clear hμ3); (try clear hμ4); (try clear hμ5); (try clear hμ6); (try clear hμ7); (try clear hμ8); (try clear hμm); (try clear hμr); (try clear h9); (try clear hnx9); omega) | omega)⟩ (by decide) (if_pos (by (first | ((try clear hμ1); (try clear hμ2); (try clear hμ3); (try clear hμ4); (try clear hμ5); (try clear hμ6); (try clear hμ7); (try clear hμ8); (try clear hμm); (try clear hμr); (try clear h9); (try clear hnx9); omega) | omega))) dX10_costOf_130 ?_
          refine lv_iload hx hb dX10_costOf_131 (lv_at hl 8 rfl) ?_
          refine fz_ld (k := (754 + (n).toNat * 261 + 1 + (i + 1).toNat)) (n := 62) hx hb hK hP 0 (by (first | ((try clear hμ1); (try clear hμ2); (try clear hμ3); (try clear hμ4); (try clear hμ5); (try clear hμ6); (try clear hμ7); (try clear hμ8); (try clear hμm); (try clear hμr); (try clear h9); (try clear hnx9); omega) | omega)) (mE_leastR (by (first | ((try clear hμ1); (try clear hμ2); (try clear hμ3); (try clear hμ4); (try clear hμ5); (try clear hμ6); (try clear hμ7); (try clear hμ8); (try clear hμm); (try clear hμr); (try clear h9); (try clear hnx9); omega) | omega)) (by (first | ((try clear hμ1); (try clear hμ2); (try clear hμ3); (try clear hμ4); (try clear hμ5); (try clear hμ6); (try clear hμ7); (try clear hμ8); (try clear hμm); (try clear hμr); (try clear h9); (try clear hnx9); omega) | omega))) rfl ⟨by (first | ((try clear hμ1); (try clear hμ2); (try clear hμ3); (try clear hμ4); (try clear hμ5); (try clear hμ6); (try clear hμ7); (try clear hμ8); (try clear hμm); (try clear hμr); (try clear h9); (try clear hnx9); omega) | omega), by (first | ((try clear hμ1); (try clear hμ2); (try clear hμ3); (try clear hμ4); (try clear hμ5); (try clear hμ6); (try clear hμ7); (try clear hμ8); (try clear hμm); (try clear hμr); (try clear h9); (try clear hnx9); omega) | omega)⟩ (by decide) dX10_costOf_133 ?_
          rw [show μ (754 + (n).toNat * 261 + 1 + (i + 1).toNat) (j).toNat = (lay (rdrop (i.toNat + 1) wS) (rdrop (j.toNat) wP)).1 from (by rw [ei1]; exact hle (i.toNat + 1) (j.toNat) (by (first | ((try clear hμ1); (try clear hμ2); (try clear hμ3); (try clear hμ4); (try clear hμ5); (try clear hμ6); (try clear hμ7); (try clear hμ8); (try clear hμm); (try clear hμr); (try clear h9); (try clear hnx9); omega) | omega)) (by (first | ((try clear hμ1); (try clear hμ2); (try clear hμ3); (try clear hμ4); (try clear hμ5); (try clear hμ6); (try clear hμ7); (try clear hμ8); (try clear hμm); (try clear hμr); (try clear h9); (try clear hnx9); omega) | omega)) (by (first | ((try clear hμ1); (try clear hμ2); (try clear hμ3); (try clear hμ4); (try clear hμ5); (try clear hμ6); (try clear hμ7); (try clear hμ8); (try clear hμm); (try clear hμr); (try clear h9); (try clear hnx9); omega) | omega)) (by (first | ((try clear hμ1); (try clear hμ2); (try clear hμ3); (try clear hμ4); (try clear hμ5); (try clear hμ6); (try clear hμ7); (try clear hμ8); (try clear hμm); (try clear hμr); (try clear h9); (try clear hnx9); omega) | omega)) (by (first | ((try clear hμ1); (try clear hμ2); (try clear hμ3); (try clear hμ4); (try clear hμ5); (try clear hμ6); (try clear hμ7); (try clear hμ8); (try clear hμm); (try clear hμr); (try clear h9); (try clear hnx9); omega) | omega)))]
          refine lv_iadd hx hb dX10_costOf_134 ?_
          refine lv_topi (fun x9 ex9 => ?_)
          obtain rfl : x9 = iZ (rz + ((lay (rdrop (i.toNat + 1) wS) (rdrop (j.toNat) wP)).1)) := ex9.trans (iZ_add _ _)
          exact W.iret (v := iZ (rz + ((lay (rdrop (i.toNat + 1) wS) (rdrop (j.toNat) wP)).1))) hx hb hr (fun t9 ht9 hW9 => ⟨⟨iZ (rz + ((lay (rdrop (i.toNat + 1) wS) (rdrop (j.toNat) wP)).1)), (μ, rz + ((lay (rdrop (i.toNat + 1) wS) (rdrop (j.toNat) wP)).1)), rfl, ⟨rfl, (by
                            dsimp only
                            first
                              | (revert hSe; intro hSe
                                 rw [hSe]
                                 exact ⟨by unfold waF; rw [if_pos (by (first | ((try clear hμ1); (try clear hμ2); (try clear hμ3); (try clear hμ4); (try clear hμ5); (try clear hμ6); (try clear hμ7); (try clear hμ8); (try clear hμm); (try clear hμr); (try clear h9); (try clear hnx9); omega) | omega)), wa4], fr_rfl⟩)
                              | (rw [hes, sS]
                                 refine ⟨?_, fr_rfl⟩
                                 unfold waF
                                 rw [if_pos (by (first | ((try clear hμ1); (try clear hμ2); (try clear hμ3); (try clear hμ4); (try clear hμ5); (try clear hμ6); (try clear hμ7); (try clear hμ8); (try clear hμm); (try clear hμr); (try clear h9); (try clear hnx9); omega) | omega)), wa4]
                                 first
                                   | (rw [if_pos (by (first | ((try clear hμ1); (try clear hμ2); (try clear hμ3); (try clear hμ4); (try clear hμ5); (try clear hμ6); (try clear hμ7); (try clear hμ8); (try clear hμm); (try clear hμr); (try clear h9); (try clear hnx9); omega) | omega))])
                                   | (rw [if_neg (by (first | ((try clear hμ1); (try clear hμ2); (try clear hμ3); (try clear hμ4); (try clear hμ5); (try clear hμ6); (try clear hμ7); (try clear hμ8); (try clear hμm); (try clear hμr); (try clear h9); (try clear hnx9); omega) | omega)), hz])))⟩, by rw [ht9]; exact hP, va_K.moved hW9.alike hK⟩, hS.F ht9⟩) hS.2.2 dX10_costOf_135
        · refine lv_iconst (v := iZ 0) hx hb dX10_costOf_96 rfl ?_
          refine lv_goto (tgt := 121) hx hb dX10_costOf_97 (by decide) ?_
          refine lv_aload_n hx hb dX10_costOf_121 rfl (lv_at hl 4 rfl) ?_
          refine fz_get (D := (dC, dI)) (ci := 10) (v := .ref (h0 + 753)) (C := RX10) (T := TX10) (N := 53) hx hb hts inG10 hown hK hP (k := 0) (by decide) (F := mF h0) mE_obj rfl 32 (by decide) (hts _ k1198) (fun _ h9 => h9) rfl dX10_costOf_122 ?_
          refine lv_iload_n hx hb dX10_costOf_125 rfl (lv_at hl 6 rfl) ?_
          refine fz_ald (k := 753) (n := 14) (k2 := (754 + (n).toNat * 261)) hx hb hK hP 3 rfl (by decide) mE_least rfl ⟨by (first | ((try clear hμ1); (try clear hμ2); (try clear hμ3); (try clear hμ4); (try clear hμ5); (try clear hμ6); (try clear hμ7); (try clear hμ8); (try clear hμm); (try clear hμr); (try clear h9); (try clear hnx9); omega) | omega), by (first | ((try clear hμ1); (try clear hμ2); (try clear hμ3); (try clear hμ4); (try clear hμ5); (try clear hμ6); (try clear hμ7); (try clear hμ8); (try clear hμm); (try clear hμr); (try clear h9); (try clear hnx9); omega) | omega)⟩ (by decide) (if_pos (by (first | ((try clear hμ1); (try clear hμ2); (try clear hμ3); (try clear hμ4); (try clear hμ5); (try clear hμ6); (try clear hμ7); (try clear hμ8); (try clear hμm); (try clear hμr); (try clear h9); (try clear hnx9); omega) | omega))) dX10_costOf_126 ?_
          refine lv_iload_n hx hb dX10_costOf_127 rfl (lv_at hl 7 rfl) ?_
          refine lv_iconst (v := iZ 1) hx hb dX10_costOf_128 rfl ?_
          refine lv_iadd hx hb dX10_costOf_129 ?_
          refine lv_topi (fun x9 ex9 => ?_)
          obtain rfl : x9 = iZ (i + 1) := ex9.trans (iZ_add _ _)
          refine fz_ald (k := (754 + (n).toNat * 261)) (n := 260) (k2 := (754 + (n).toNat * 261 + 1 + (i + 1).toNat)) hx hb hK hP 2 rfl (by (first | ((try clear hμ1); (try clear hμ2); (try clear hμ3); (try clear hμ4); (try clear hμ5); (try clear hμ6); (try clear hμ7); (try clear hμ8); (try clear hμm); (try clear hμr); (try clear h9); (try clear hnx9); omega) | omega)) (mE_leastM (by (first | ((try clear hμ1); (try clear hμ2); (try clear hμ3); (try clear hμ4); (try clear hμ5); (try clear hμ6); (try clear hμ7); (try clear hμ8); (try clear hμm); (try clear hμr); (try clear h9); (try clear hnx9); omega) | omega))) rfl ⟨by (first | ((try clear hμ1); (try clear hμ2); (try clear hμ3); (try clear hμ4); (try clear hμ5); (try clear hμ6); (try clear hμ7); (try clear hμ8); (try clear hμm); (try clear hμr); (try clear h9); (try clear hnx9); omega) | omega), by (first | ((try clear hμ1); (try clear hμ2); (try clear hμ3); (try clear hμ4); (try clear hμ5); (try clear hμ6); (try clear hμ7); (try clear hμ8); (try clear hμm); (try clear hμr); (try clear h9); (try clear hnx9); omega) | omega)⟩ (by decide) (if_pos (by (first | ((try clear hμ1); (try clear hμ2); (try clear hμ3); (try clear hμ4); (try clear hμ5); (try clear hμ6); (try clear hμ7); (try clear hμ8); (try clear hμm); (try clear hμr); (try clear h9); (try clear hnx9); omega) | omega))) dX10_costOf_130 ?_
          refine lv_iload hx hb dX10_costOf_131 (lv_at hl 8 rfl) ?_
          refine fz_ld (k := (754 + (n).toNat * 261 + 1 + (i + 1).toNat)) (n := 62) hx hb hK hP 0 (by (first | ((try clear hμ1); (try clear hμ2); (try clear hμ3); (try clear hμ4); (try clear hμ5); (try clear hμ6); (try clear hμ7); (try clear hμ8); (try clear hμm); (try clear hμr); (try clear h9); (try clear hnx9); omega) | omega)) (mE_leastR (by (first | ((try clear hμ1); (try clear hμ2); (try clear hμ3); (try clear hμ4); (try clear hμ5); (try clear hμ6); (try clear hμ7); (try clear hμ8); (try clear hμm); (try clear hμr); (try clear h9); (try clear hnx9); omega) | omega)) (by (first | ((try clear hμ1); (try clear hμ2); (try clear hμ3); (try clear hμ4); (try clear hμ5); (try clear hμ6); (try clear hμ7); (try clear hμ8); (try clear hμm); (try clear hμr); (try clear h9); (try clear hnx9); omega) | omega))) rfl ⟨by (first | ((try clear hμ1); (try clear hμ2); (try clear hμ3); (try clear hμ4); (try clear hμ5); (try clear hμ6); (try clear hμ7); (try clear hμ8); (try clear hμm); (try clear hμr); (try clear h9); (try clear hnx9); omega) | omega), by (first | ((try clear hμ1); (try clear hμ2); (try clear hμ3); (try clear hμ4); (try clear hμ5); (try clear hμ6); (try clear hμ7); (try clear hμ8); (try clear hμm); (try clear hμr); (try clear h9); (try clear hnx9); omega) | omega)⟩ (by decide) dX10_costOf_133 ?_
          rw [show μ (754 + (n).toNat * 261 + 1 + (i + 1).toNat) (j).toNat = (lay (rdrop (i.toNat + 1) wS) (rdrop (j.toNat) wP)).1 from (by rw [ei1]; exact hle (i.toNat + 1) (j.toNat) (by (first | ((try clear hμ1); (try clear hμ2); (try clear hμ3); (try clear hμ4); (try clear hμ5); (try clear hμ6); (try clear hμ7); (try clear hμ8); (try clear hμm); (try clear hμr); (try clear h9); (try clear hnx9); omega) | omega)) (by (first | ((try clear hμ1); (try clear hμ2); (try clear hμ3); (try clear hμ4); (try clear hμ5); (try clear hμ6); (try clear hμ7); (try clear hμ8); (try clear hμm); (try clear hμr); (try clear h9); (try clear hnx9); omega) | omega)) (by (first | ((try clear hμ1); (try clear hμ2); (try clear hμ3); (try clear hμ4); (try clear hμ5); (try clear hμ6); (try clear hμ7); (try clear hμ8); (try clear hμm); (try clear hμr); (try clear h9); (try clear hnx9); omega) | omega)) (by (first | ((try clear hμ1); (try clear hμ2); (try clear hμ3); (try clear hμ4); (try clear hμ5); (try clear hμ6); (try clear hμ7); (try clear hμ8); (try clear hμm); (try clear hμr); (try clear h9); (try clear hnx9); omega) | omega)) (by (first | ((try clear hμ1); (try clear hμ2); (try clear hμ3); (try clear hμ4); (try clear hμ5); (try clear hμ6); (try clear hμ7); (try clear hμ8); (try clear hμm); (try clear hμr); (try clear h9); (try clear hnx9); omega) | omega)))]
          refine lv_iadd hx hb dX10_costOf_134 ?_
          refine lv_topi (fun x9 ex9 => ?_)
          obtain rfl : x9 = iZ (0 + ((lay (rdrop (i.toNat + 1) wS) (rdrop (j.toNat) wP)).1)) := ex9.trans (iZ_add _ _)
          exact W.iret (v := iZ (0 + ((lay (rdrop (i.toNat + 1) wS) (rdrop (j.toNat) wP)).1))) hx hb hr (fun t9 ht9 hW9 => ⟨⟨iZ (0 + ((lay (rdrop (i.toNat + 1) wS) (rdrop (j.toNat) wP)).1)), (μ, 0 + ((lay (rdrop (i.toNat + 1) wS) (rdrop (j.toNat) wP)).1)), rfl, ⟨rfl, (by
                            dsimp only
                            first
                              | (revert hSe; intro hSe
                                 rw [hSe]
                                 exact ⟨by unfold waF; rw [if_pos (by (first | ((try clear hμ1); (try clear hμ2); (try clear hμ3); (try clear hμ4); (try clear hμ5); (try clear hμ6); (try clear hμ7); (try clear hμ8); (try clear hμm); (try clear hμr); (try clear h9); (try clear hnx9); omega) | omega)), wa4], fr_rfl⟩)
                              | (rw [hes, sS]
                                 refine ⟨?_, fr_rfl⟩
                                 unfold waF
                                 rw [if_pos (by (first | ((try clear hμ1); (try clear hμ2); (try clear hμ3); (try clear hμ4); (try clear hμ5); (try clear hμ6); (try clear hμ7); (try clear hμ8); (try clear hμm); (try clear hμr); (try clear h9); (try clear hnx9); omega) | omega)), wa4]
                                 first
                                   | (rw [if_pos (by (first | ((try clear hμ1); (try clear hμ2); (try clear hμ3); (try clear hμ4); (try clear hμ5); (try clear hμ6); (try clear hμ7); (try clear hμ8); (try clear hμm); (try clear hμr); (try clear h9); (try clear hnx9); omega) | omega))])
                                   | (rw [if_neg (by (first | ((try clear hμ1); (try clear hμ2); (try clear hμ3); (try clear hμ4); (try clear hμ5); (try clear hμ6); (try clear hμ7); (try clear hμ8); (try clear hμm); (try clear hμr); (try clear h9); (try clear hnx9); omega) | omega)), hz])))⟩, by rw [ht9]; exact hP, va_K.moved hW9.alike hK⟩, hS.F ht9⟩) hS.2.2 dX10_costOf_135

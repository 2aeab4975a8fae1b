set_option maxRecDepth 100000 in
theorem k1551 : (Cond.constant "PageSkeletonModel" (247 : Nat) (1000000 : Int32)) ∈ wsG := wsG_a7 111 rfl rfl
set_option maxRecDepth 100000 in
theorem k1743 : (Cond.methodLink "PageSkeletonModel" (414 : Nat) ({ cls := "PageSkeletonModel", name := "cutsFrom", desc := "(III)I" } : MethodName)) ∈ wsG := wsG_a8 63 rfl rfl
set_option maxRecDepth 100000 in
theorem k1745 : (Cond.instanceMethod ({ cls := "PageSkeletonModel", name := "cutsFrom", desc := "(III)I" } : MethodName)) ∈ wsG := wsG_a8 65 rfl rfl
set_option maxRecDepth 100000 in
theorem k1746 : (Cond.code ({ cls := "PageSkeletonModel", name := "cutsFrom", desc := "(III)I" } : MethodName) prog_12_method_106_code (4 : Nat) (Option.some FieldType.int)) ∈ wsG := wsG_a8 66 rfl rfl
set_option maxRecDepth 100000 in
theorem ks_yX10_cutsFrom : Cond.selects RX10 yX10_cutsFrom yX10_cutsFrom ∈ wsG := wsG_p 113 rfl rfl
theorem dX10_cuts_0 : decode cX10_cuts 0 = .ok (.aload_n 0, 1) := by decide +kernel
theorem dX10_cuts_1 : decode cX10_cuts 1 = .ok (.iconst 0, 1) := by decide +kernel
theorem dX10_cuts_2 : decode cX10_cuts 2 = .ok (.putfield 127, 3) := by decide +kernel
theorem dX10_cuts_5 : decode cX10_cuts 5 = .ok (.aload_n 0, 1) := by decide +kernel
theorem dX10_cuts_6 : decode cX10_cuts 6 = .ok (.aload_n 0, 1) := by decide +kernel
theorem dX10_cuts_7 : decode cX10_cuts 7 = .ok (.iload_n 1, 1) := by decide +kernel
theorem dX10_cuts_8 : decode cX10_cuts 8 = .ok (.invokevirtual 346, 3) := by decide +kernel
theorem dX10_cuts_11 : decode cX10_cuts 11 = .ok (.ifCond .ne 7, 3) := by decide +kernel
theorem dX10_cuts_14 : decode cX10_cuts 14 = .ok (.iconst 1, 1) := by decide +kernel
theorem dX10_cuts_15 : decode cX10_cuts 15 = .ok (.goto 4, 3) := by decide +kernel
theorem dX10_cuts_18 : decode cX10_cuts 18 = .ok (.iconst 0, 1) := by decide +kernel
theorem dX10_cuts_19 : decode cX10_cuts 19 = .ok (.iconst 1, 1) := by decide +kernel
theorem dX10_cuts_20 : decode cX10_cuts 20 = .ok (.iconst 0, 1) := by decide +kernel
theorem dX10_cuts_21 : decode cX10_cuts 21 = .ok (.invokevirtual 177, 3) := by decide +kernel
theorem dX10_cuts_24 : decode cX10_cuts 24 = .ok (.ifCond .eq 5, 3) := by decide +kernel
theorem dX10_cuts_27 : decode cX10_cuts 27 = .ok (.iconst 0, 1) := by decide +kernel
theorem dX10_cuts_28 : decode cX10_cuts 28 = .ok (.ireturn, 1) := by decide +kernel
theorem dX10_cuts_29 : decode cX10_cuts 29 = .ok (.aload_n 0, 1) := by decide +kernel
theorem dX10_cuts_30 : decode cX10_cuts 30 = .ok (.invokevirtual 380, 3) := by decide +kernel
theorem dX10_cuts_33 : decode cX10_cuts 33 = .ok (.aload_n 0, 1) := by decide +kernel
theorem dX10_cuts_34 : decode cX10_cuts 34 = .ok (.getfield 34, 3) := by decide +kernel
theorem dX10_cuts_37 : decode cX10_cuts 37 = .ok (.iload_n 1, 1) := by decide +kernel
theorem dX10_cuts_38 : decode cX10_cuts 38 = .ok (.iaload, 1) := by decide +kernel
theorem dX10_cuts_39 : decode cX10_cuts 39 = .ok (.istore_n 2, 1) := by decide +kernel
theorem dX10_cuts_40 : decode cX10_cuts 40 = .ok (.iload_n 2, 1) := by decide +kernel
theorem dX10_cuts_41 : decode cX10_cuts 41 = .ok (.istore_n 3, 1) := by decide +kernel
theorem dX10_cuts_42 : decode cX10_cuts 42 = .ok (.iload_n 3, 1) := by decide +kernel
theorem dX10_cuts_43 : decode cX10_cuts 43 = .ok (.ifCond .lt 212, 3) := by decide +kernel
theorem dX10_cuts_46 : decode cX10_cuts 46 = .ok (.iconst 0, 1) := by decide +kernel
theorem dX10_cuts_47 : decode cX10_cuts 47 = .ok (.istore 4, 2) := by decide +kernel
theorem dX10_cuts_49 : decode cX10_cuts 49 = .ok (.iload 4, 2) := by decide +kernel
theorem dX10_cuts_51 : decode cX10_cuts 51 = .ok (.aload_n 0, 1) := by decide +kernel
theorem dX10_cuts_52 : decode cX10_cuts 52 = .ok (.getfield 367, 3) := by decide +kernel
theorem dX10_cuts_55 : decode cX10_cuts 55 = .ok (.if_icmp .gt 20, 3) := by decide +kernel
theorem dX10_cuts_58 : decode cX10_cuts 58 = .ok (.aload_n 0, 1) := by decide +kernel
theorem dX10_cuts_59 : decode cX10_cuts 59 = .ok (.getfield 97, 3) := by decide +kernel
theorem dX10_cuts_62 : decode cX10_cuts 62 = .ok (.iload 4, 2) := by decide +kernel
theorem dX10_cuts_64 : decode cX10_cuts 64 = .ok (.aaload, 1) := by decide +kernel
theorem dX10_cuts_65 : decode cX10_cuts 65 = .ok (.iload_n 3, 1) := by decide +kernel
theorem dX10_cuts_66 : decode cX10_cuts 66 = .ok (.ldc 247, 2) := by decide +kernel
theorem dX10_cuts_68 : decode cX10_cuts 68 = .ok (.iastore, 1) := by decide +kernel
theorem dX10_cuts_69 : decode cX10_cuts 69 = .ok (.iinc 4 1, 3) := by decide +kernel
theorem dX10_cuts_72 : decode cX10_cuts 72 = .ok (.goto (-23), 3) := by decide +kernel
theorem dX10_cuts_75 : decode cX10_cuts 75 = .ok (.aload_n 0, 1) := by decide +kernel
theorem dX10_cuts_76 : decode cX10_cuts 76 = .ok (.getfield 97, 3) := by decide +kernel
theorem dX10_cuts_79 : decode cX10_cuts 79 = .ok (.aload_n 0, 1) := by decide +kernel
theorem dX10_cuts_80 : decode cX10_cuts 80 = .ok (.getfield 367, 3) := by decide +kernel
theorem dX10_cuts_83 : decode cX10_cuts 83 = .ok (.aaload, 1) := by decide +kernel
theorem dX10_cuts_84 : decode cX10_cuts 84 = .ok (.iload_n 3, 1) := by decide +kernel
theorem dX10_cuts_85 : decode cX10_cuts 85 = .ok (.iload_n 2, 1) := by decide +kernel
theorem dX10_cuts_86 : decode cX10_cuts 86 = .ok (.iload_n 3, 1) := by decide +kernel
theorem dX10_cuts_87 : decode cX10_cuts 87 = .ok (.isub, 1) := by decide +kernel
theorem dX10_cuts_88 : decode cX10_cuts 88 = .ok (.iastore, 1) := by decide +kernel
theorem dX10_cuts_89 : decode cX10_cuts 89 = .ok (.iconst 1, 1) := by decide +kernel
theorem dX10_cuts_90 : decode cX10_cuts 90 = .ok (.istore 4, 2) := by decide +kernel
theorem dX10_cuts_92 : decode cX10_cuts 92 = .ok (.iload 4, 2) := by decide +kernel
theorem dX10_cuts_94 : decode cX10_cuts 94 = .ok (.ifCond .eq 155, 3) := by decide +kernel
theorem dX10_cuts_97 : decode cX10_cuts 97 = .ok (.iconst 0, 1) := by decide +kernel
theorem dX10_cuts_98 : decode cX10_cuts 98 = .ok (.istore 4, 2) := by decide +kernel
theorem dX10_cuts_100 : decode cX10_cuts 100 = .ok (.aload_n 0, 1) := by decide +kernel
theorem dX10_cuts_101 : decode cX10_cuts 101 = .ok (.getfield 367, 3) := by decide +kernel
theorem dX10_cuts_104 : decode cX10_cuts 104 = .ok (.iconst 1, 1) := by decide +kernel
theorem dX10_cuts_105 : decode cX10_cuts 105 = .ok (.isub, 1) := by decide +kernel
theorem dX10_cuts_106 : decode cX10_cuts 106 = .ok (.istore 5, 2) := by decide +kernel
theorem dX10_cuts_108 : decode cX10_cuts 108 = .ok (.iload 5, 2) := by decide +kernel
theorem dX10_cuts_110 : decode cX10_cuts 110 = .ok (.ifCond .lt 136, 3) := by decide +kernel
theorem dX10_cuts_113 : decode cX10_cuts 113 = .ok (.iload_n 3, 1) := by decide +kernel
theorem dX10_cuts_114 : decode cX10_cuts 114 = .ok (.iload_n 2, 1) := by decide +kernel
theorem dX10_cuts_115 : decode cX10_cuts 115 = .ok (.if_icmp .ne 8, 3) := by decide +kernel
theorem dX10_cuts_118 : decode cX10_cuts 118 = .ok (.ldc 247, 2) := by decide +kernel
theorem dX10_cuts_120 : decode cX10_cuts 120 = .ok (.goto 21, 3) := by decide +kernel
theorem dX10_cuts_123 : decode cX10_cuts 123 = .ok (.ldc 247, 2) := by decide +kernel
theorem dX10_cuts_125 : decode cX10_cuts 125 = .ok (.iconst 1, 1) := by decide +kernel
theorem dX10_cuts_126 : decode cX10_cuts 126 = .ok (.aload_n 0, 1) := by decide +kernel
theorem dX10_cuts_127 : decode cX10_cuts 127 = .ok (.getfield 97, 3) := by decide +kernel
theorem dX10_cuts_130 : decode cX10_cuts 130 = .ok (.iload 5, 2) := by decide +kernel
theorem dX10_cuts_132 : decode cX10_cuts 132 = .ok (.aaload, 1) := by decide +kernel
theorem dX10_cuts_133 : decode cX10_cuts 133 = .ok (.iload_n 3, 1) := by decide +kernel
theorem dX10_cuts_134 : decode cX10_cuts 134 = .ok (.iconst 1, 1) := by decide +kernel
theorem dX10_cuts_135 : decode cX10_cuts 135 = .ok (.iadd, 1) := by decide +kernel
theorem dX10_cuts_136 : decode cX10_cuts 136 = .ok (.iaload, 1) := by decide +kernel
theorem dX10_cuts_137 : decode cX10_cuts 137 = .ok (.iadd, 1) := by decide +kernel
theorem dX10_cuts_138 : decode cX10_cuts 138 = .ok (.invokestatic 271, 3) := by decide +kernel
theorem dX10_cuts_141 : decode cX10_cuts 141 = .ok (.istore 6, 2) := by decide +kernel
theorem dX10_cuts_143 : decode cX10_cuts 143 = .ok (.iload_n 3, 1) := by decide +kernel
theorem dX10_cuts_144 : decode cX10_cuts 144 = .ok (.iload_n 2, 1) := by decide +kernel
theorem dX10_cuts_145 : decode cX10_cuts 145 = .ok (.if_icmp .ge 49, 3) := by decide +kernel
theorem dX10_cuts_148 : decode cX10_cuts 148 = .ok (.aload_n 0, 1) := by decide +kernel
theorem dX10_cuts_149 : decode cX10_cuts 149 = .ok (.iload 5, 2) := by decide +kernel
theorem dX10_cuts_151 : decode cX10_cuts 151 = .ok (.invokevirtual 371, 3) := by decide +kernel
theorem dX10_cuts_154 : decode cX10_cuts 154 = .ok (.ifCond .eq 40, 3) := by decide +kernel
theorem dX10_cuts_157 : decode cX10_cuts 157 = .ok (.aload_n 0, 1) := by decide +kernel
theorem dX10_cuts_158 : decode cX10_cuts 158 = .ok (.iload 5, 2) := by decide +kernel
theorem dX10_cuts_160 : decode cX10_cuts 160 = .ok (.aload_n 0, 1) := by decide +kernel
theorem dX10_cuts_161 : decode cX10_cuts 161 = .ok (.getfield 31, 3) := by decide +kernel
theorem dX10_cuts_164 : decode cX10_cuts 164 = .ok (.iload_n 1, 1) := by decide +kernel
theorem dX10_cuts_165 : decode cX10_cuts 165 = .ok (.aaload, 1) := by decide +kernel
theorem dX10_cuts_166 : decode cX10_cuts 166 = .ok (.iload_n 3, 1) := by decide +kernel
theorem dX10_cuts_167 : decode cX10_cuts 167 = .ok (.iaload, 1) := by decide +kernel
theorem dX10_cuts_168 : decode cX10_cuts 168 = .ok (.invokevirtual 383, 3) := by decide +kernel
theorem dX10_cuts_171 : decode cX10_cuts 171 = .ok (.ifCond .eq 23, 3) := by decide +kernel
theorem dX10_cuts_174 : decode cX10_cuts 174 = .ok (.iload 6, 2) := by decide +kernel
theorem dX10_cuts_176 : decode cX10_cuts 176 = .ok (.aload_n 0, 1) := by decide +kernel
theorem dX10_cuts_177 : decode cX10_cuts 177 = .ok (.getfield 97, 3) := by decide +kernel
theorem dX10_cuts_180 : decode cX10_cuts 180 = .ok (.iload 5, 2) := by decide +kernel
theorem dX10_cuts_182 : decode cX10_cuts 182 = .ok (.iconst 1, 1) := by decide +kernel
theorem dX10_cuts_183 : decode cX10_cuts 183 = .ok (.iadd, 1) := by decide +kernel
theorem dX10_cuts_184 : decode cX10_cuts 184 = .ok (.aaload, 1) := by decide +kernel
theorem dX10_cuts_185 : decode cX10_cuts 185 = .ok (.iload_n 3, 1) := by decide +kernel
theorem dX10_cuts_186 : decode cX10_cuts 186 = .ok (.iconst 1, 1) := by decide +kernel
theorem dX10_cuts_187 : decode cX10_cuts 187 = .ok (.iadd, 1) := by decide +kernel
theorem dX10_cuts_188 : decode cX10_cuts 188 = .ok (.iaload, 1) := by decide +kernel
theorem dX10_cuts_189 : decode cX10_cuts 189 = .ok (.invokestatic 271, 3) := by decide +kernel
theorem dX10_cuts_192 : decode cX10_cuts 192 = .ok (.istore 6, 2) := by decide +kernel
theorem dX10_cuts_194 : decode cX10_cuts 194 = .ok (.aload_n 0, 1) := by decide +kernel
theorem dX10_cuts_195 : decode cX10_cuts 195 = .ok (.iload 5, 2) := by decide +kernel
theorem dX10_cuts_197 : decode cX10_cuts 197 = .ok (.iload_n 3, 1) := by decide +kernel
theorem dX10_cuts_198 : decode cX10_cuts 198 = .ok (.iload 6, 2) := by decide +kernel
theorem dX10_cuts_200 : decode cX10_cuts 200 = .ok (.invokevirtual 414, 3) := by decide +kernel
theorem dX10_cuts_203 : decode cX10_cuts 203 = .ok (.istore 7, 2) := by decide +kernel
theorem dX10_cuts_205 : decode cX10_cuts 205 = .ok (.iload 4, 2) := by decide +kernel
theorem dX10_cuts_207 : decode cX10_cuts 207 = .ok (.iload 7, 2) := by decide +kernel
theorem dX10_cuts_209 : decode cX10_cuts 209 = .ok (.aload_n 0, 1) := by decide +kernel
theorem dX10_cuts_210 : decode cX10_cuts 210 = .ok (.getfield 97, 3) := by decide +kernel
theorem dX10_cuts_213 : decode cX10_cuts 213 = .ok (.iload 5, 2) := by decide +kernel
theorem dX10_cuts_215 : decode cX10_cuts 215 = .ok (.aaload, 1) := by decide +kernel
theorem dX10_cuts_216 : decode cX10_cuts 216 = .ok (.iload_n 3, 1) := by decide +kernel
theorem dX10_cuts_217 : decode cX10_cuts 217 = .ok (.iaload, 1) := by decide +kernel
theorem dX10_cuts_218 : decode cX10_cuts 218 = .ok (.if_icmp .eq 7, 3) := by decide +kernel
theorem dX10_cuts_221 : decode cX10_cuts 221 = .ok (.iconst 1, 1) := by decide +kernel
theorem dX10_cuts_222 : decode cX10_cuts 222 = .ok (.goto 4, 3) := by decide +kernel
theorem dX10_cuts_225 : decode cX10_cuts 225 = .ok (.iconst 0, 1) := by decide +kernel
theorem dX10_cuts_226 : decode cX10_cuts 226 = .ok (.ior, 1) := by decide +kernel
theorem dX10_cuts_227 : decode cX10_cuts 227 = .ok (.istore 4, 2) := by decide +kernel
theorem dX10_cuts_229 : decode cX10_cuts 229 = .ok (.aload_n 0, 1) := by decide +kernel
theorem dX10_cuts_230 : decode cX10_cuts 230 = .ok (.getfield 97, 3) := by decide +kernel
theorem dX10_cuts_233 : decode cX10_cuts 233 = .ok (.iload 5, 2) := by decide +kernel
theorem dX10_cuts_235 : decode cX10_cuts 235 = .ok (.aaload, 1) := by decide +kernel
theorem dX10_cuts_236 : decode cX10_cuts 236 = .ok (.iload_n 3, 1) := by decide +kernel
theorem dX10_cuts_237 : decode cX10_cuts 237 = .ok (.iload 7, 2) := by decide +kernel
theorem dX10_cuts_239 : decode cX10_cuts 239 = .ok (.iastore, 1) := by decide +kernel
theorem dX10_cuts_240 : decode cX10_cuts 240 = .ok (.iinc 5 (-1), 3) := by decide +kernel
theorem dX10_cuts_243 : decode cX10_cuts 243 = .ok (.goto (-135), 3) := by decide +kernel
theorem dX10_cuts_246 : decode cX10_cuts 246 = .ok (.goto (-154), 3) := by decide +kernel
theorem dX10_cuts_249 : decode cX10_cuts 249 = .ok (.iinc 3 (-1), 3) := by decide +kernel
theorem dX10_cuts_252 : decode cX10_cuts 252 = .ok (.goto (-210), 3) := by decide +kernel
theorem dX10_cuts_255 : decode cX10_cuts 255 = .ok (.aload_n 0, 1) := by decide +kernel
theorem dX10_cuts_256 : decode cX10_cuts 256 = .ok (.getfield 97, 3) := by decide +kernel
theorem dX10_cuts_259 : decode cX10_cuts 259 = .ok (.iconst 0, 1) := by decide +kernel
theorem dX10_cuts_260 : decode cX10_cuts 260 = .ok (.aaload, 1) := by decide +kernel
theorem dX10_cuts_261 : decode cX10_cuts 261 = .ok (.iconst 0, 1) := by decide +kernel
theorem dX10_cuts_262 : decode cX10_cuts 262 = .ok (.iaload, 1) := by decide +kernel
theorem dX10_cuts_263 : decode cX10_cuts 263 = .ok (.ldc 247, 2) := by decide +kernel
theorem dX10_cuts_265 : decode cX10_cuts 265 = .ok (.if_icmp .lt 7, 3) := by decide +kernel
theorem dX10_cuts_268 : decode cX10_cuts 268 = .ok (.iconst (-1), 1) := by decide +kernel
theorem dX10_cuts_269 : decode cX10_cuts 269 = .ok (.goto 11, 3) := by decide +kernel
theorem dX10_cuts_272 : decode cX10_cuts 272 = .ok (.aload_n 0, 1) := by decide +kernel
theorem dX10_cuts_273 : decode cX10_cuts 273 = .ok (.getfield 97, 3) := by decide +kernel
theorem dX10_cuts_276 : decode cX10_cuts 276 = .ok (.iconst 0, 1) := by decide +kernel
theorem dX10_cuts_277 : decode cX10_cuts 277 = .ok (.aaload, 1) := by decide +kernel
theorem dX10_cuts_278 : decode cX10_cuts 278 = .ok (.iconst 0, 1) := by decide +kernel
theorem dX10_cuts_279 : decode cX10_cuts 279 = .ok (.iaload, 1) := by decide +kernel
theorem dX10_cuts_280 : decode cX10_cuts 280 = .ok (.ireturn, 1) := by decide +kernel
/-! the fewest left out: columns that fall until they stand -/
def cOC (μ : va_M) (col : Nat) : Prop := ∀ x : Nat, (x : Int) ≤ μ 0 39 → 0 ≤ μ (4416 + x) col ∧ μ (4416 + x) col ≤ 1000000
theorem cOC_fr {P : Nat → Nat → Prop} {μ u : va_M} {col : Nat} (h : cOC μ col) (hf : fr P μ u) (h0 : ¬ P 0 39) (hp : ∀ x, ¬ P (4416 + x) col) : cOC u col := by
  intro x hx
  rw [hf 0 39 h0] at hx
  rw [hf _ _ (hp x)]
  exact h x hx
theorem cF_rng {μ : va_M} {q col : Nat} {tk : Int} (hO : stOK μ) (hq : (q : Int) < μ 0 39) (hc : cOC μ col) (ht : 0 ≤ tk ∧ tk ≤ 1000000) : 0 ≤ cF μ q col tk ∧ cF μ q col tk ≤ 1000000 := by
  obtain ⟨_, _, h3⟩ := hO.2.2.2 q hq
  have d1 := hc (q + 1) (by (first | ((try clear d1); (try clear h3); (try clear ht); omega) | omega))
  unfold cF
  by_cases h : nod μ q < 3
  · rw [if_pos h]; exact ht
  · rw [if_neg h]
    have d2 := hc (μ 4413 q + 1).toNat (by have h9 := h3 (show 3 ≤ nod μ q by (first | ((try clear h9); (try clear d2); (try clear d1); (try clear h3); (try clear ht); (try clear hq); omega) | omega)); (first | ((try clear d2); (try clear h); (try clear d1); (try clear h3); (try clear ht); (try clear hq); omega) | omega))
    split <;> split <;> (first | ((try clear h); (try clear h3); (try clear ht); (try clear hq); omega) | omega)
theorem cF_mono {μ u : va_M} {q col : Nat} {tk : Int} (hO : stOK μ) (hq : (q : Int) < μ 0 39) (h1 : u 507 = μ 507) (h2 : u 4412 = μ 4412) (h3 : u 4413 = μ 4413) (h4 : u 4414 = μ 4414) (hle : ∀ x : Nat, (x : Int) ≤ μ 0 39 → u (4416 + x) col ≤ μ (4416 + x) col) : cF u q col tk ≤ cF μ q col tk := by
  obtain ⟨_, _, g3⟩ := hO.2.2.2 q hq
  have d1 := hle (q + 1) (by (first | ((try clear d1); (try clear g3); (try clear hle); (try clear h4); (try clear h3); (try clear h2); (try clear h1); omega) | omega))
  have e1 : nod u q = nod μ q := by unfold nod; rw [h1, h2]
  unfold cF
  rw [e1, h3, h4]
  by_cases h : nod μ q < 3
  · rw [if_pos h, if_pos h]; exact Int.le_refl _
  · rw [if_neg h, if_neg h]
    have d2 := hle (μ 4413 q + 1).toNat (by have h9 := g3 (show 3 ≤ nod μ q by (first | ((try clear h9); (try clear d2); (try clear e1); (try clear d1); (try clear g3); (try clear hle); (try clear h4); (try clear h3); (try clear h2); (try clear h1); (try clear hq); omega) | omega)); (first | ((try clear d2); (try clear h); (try clear e1); (try clear d1); (try clear g3); (try clear hle); (try clear h4); (try clear h3); (try clear h2); (try clear h1); (try clear hq); omega) | omega))
    split <;> split <;> (first | ((try clear h); (try clear e1); (try clear g3); (try clear hle); (try clear h4); (try clear h3); (try clear h2); (try clear h1); (try clear hq); omega) | omega)
def fxD (μ : va_M) (col : Nat) (tk : Nat → Int) : Prop := ∀ x : Nat, (x : Int) < μ 0 39 → cF μ x col (tk x) ≤ μ (4416 + x) col
def mD (μ : va_M) (col : Nat) : Nat → Nat
  | 0 => 0
  | n + 1 => mD μ col n + (μ (4416 + n) col).toNat
theorem mD_n {μ : va_M} {q col : Nat} {v : Int} : ∀ n : Nat, n ≤ q → mD (uz μ (4416 + q) col v) col n = mD μ col n
  | 0, _ => rfl
  | n + 1, h => by rw [mD, mD, mD_n n (by omega), uz_n (by omega)]
theorem mD_dn {μ : va_M} {q col : Nat} {v : Int} : ∀ n : Nat, q < n → v ≤ μ (4416 + q) col → 0 ≤ v → mD (uz μ (4416 + q) col v) col n ≤ mD μ col n ∧ (v < μ (4416 + q) col → mD (uz μ (4416 + q) col v) col n < mD μ col n)
  | 0, h, _, _ => absurd h (by omega)
  | n + 1, h, h1, h2 => by
    rw [mD, mD]
    by_cases hq : q = n
    · subst hq
      rw [mD_n q (Nat.le_refl q), uz_s]
      constructor
      · omega
      · intro h3; omega
    · rw [uz_n (by omega)]
      obtain ⟨g1, g2⟩ := mD_dn (μ := μ) (q := q) (col := col) (v := v) n (by omega) h1 h2
      exact ⟨by omega, fun h3 => by have := g2 h3; omega⟩
def wayK (μ0 μ : va_M) (pos : Nat) (T : Nat → Int) : Prop := fr (colF pos) μ0 μ ∧ fxD μ pos T ∧ cOC μ pos
theorem wayK_O {μ0 μ : va_M} {pos : Nat} {T : Nat → Int} (h : wayK μ0 μ pos T) (hO : stOK μ0) : stOK μ := stOK_fr hO h.1 (fun x y hh => by unfold colF CF at hh; omega)
theorem wayK_up {μ0 μ : va_M} {pos q : Nat} {T : Nat → Int} (h : wayK μ0 μ pos T) (hO : stOK μ0) (hq : (q : Int) < μ 0 39) (hT : 0 ≤ T q ∧ T q ≤ 1000000) : wayK μ0 (uz μ (4416 + q) pos (cF μ q pos (T q))) pos T ∧ mD (uz μ (4416 + q) pos (cF μ q pos (T q))) pos (μ 0 39).toNat ≤ mD μ pos (μ 0 39).toNat ∧ (cF μ q pos (T q) ≠ μ (4416 + q) pos → mD (uz μ (4416 + q) pos (cF μ q pos (T q))) pos (μ 0 39).toNat < mD μ pos (μ 0 39).toNat) := by
  have hO1 := wayK_O h hO
  obtain ⟨h1, h2, h3⟩ := h
  have hr := cF_rng hO1 hq h3 hT
  have hle := h2 q hq
  have hb := hO1.2.1
  have hu := mD_dn (μ := μ) (q := q) (col := pos) (v := cF μ q pos (T q)) (μ 0 39).toNat (by (first | ((try clear hu); (try clear hle); (try clear h3); (try clear h2); (try clear h1); (try clear hO1); (try clear hT); omega) | omega)) hle hr.1
  refine ⟨⟨fr_uz h1 ⟨by unfold CF; (first | ((try clear hu); (try clear hle); (try clear h3); (try clear h2); (try clear h1); (try clear hO1); (try clear hT); omega) | omega), rfl⟩, ?_, ?_⟩, hu.1, fun hne => hu.2 (by (first | ((try clear hu); (try clear h3); (try clear h2); (try clear h1); (try clear hO1); (try clear hT); (try clear hq); omega) | omega))⟩
  · intro x hx
    rw [uz_n (by (first | ((try clear hu); (try clear hle); (try clear h3); (try clear h2); (try clear h1); (try clear hO1); (try clear hT); (try clear hq); omega) | omega))] at hx
    have hm := cF_mono (u := uz μ (4416 + q) pos (cF μ q pos (T q))) (tk := T x) hO1 hx (uz_row (by (first | ((try clear hm); (try clear hu); (try clear hle); (try clear h3); (try clear h2); (try clear h1); (try clear hO1); (try clear hT); (try clear hq); omega) | omega))) (uz_row (by (first | ((try clear hm); (try clear hu); (try clear hle); (try clear h3); (try clear h2); (try clear h1); (try clear hO1); (try clear hT); (try clear hq); omega) | omega))) (uz_row (by (first | ((try clear hm); (try clear hu); (try clear hle); (try clear h3); (try clear h2); (try clear h1); (try clear hO1); (try clear hT); (try clear hq); omega) | omega))) (uz_row (by (first | ((try clear hm); (try clear hu); (try clear hle); (try clear h3); (try clear h2); (try clear h1); (try clear hO1); (try clear hT); (try clear hq); omega) | omega))) (fun y _ => by
      by_cases hy : y = q
      · subst hy; rw [uz_s]; exact hle
      · rw [uz_n (by (first | ((try clear hm); (try clear hu); (try clear hle); (try clear h3); (try clear h2); (try clear h1); (try clear hO1); (try clear hT); (try clear hq); omega) | omega))]; exact Int.le_refl _)
    by_cases hxq : x = q
    · subst hxq; rw [uz_s]; exact hm
    · rw [uz_n (show ¬ (4416 + x = 4416 + q ∧ pos = pos) by (first | ((try clear hm); (try clear hu); (try clear hle); (try clear h3); (try clear h2); (try clear h1); (try clear hO1); (try clear hT); (try clear hq); omega) | omega))]
      exact Int.le_trans hm (h2 x hx)
  · intro x hx
    rw [uz_n (by (first | ((try clear hu); (try clear hle); (try clear h3); (try clear h2); (try clear h1); (try clear hO1); (try clear hT); (try clear hq); omega) | omega))] at hx
    by_cases hxq : x = q
    · subst hxq; rw [uz_s]; exact hr
    · rw [uz_n (by (first | ((try clear hu); (try clear hle); (try clear h3); (try clear h2); (try clear h1); (try clear hO1); (try clear hT); (try clear hq); omega) | omega))]; exact h3 x hx
/-- what a leaf costs, of the column behind -/
def tkc (μ : va_M) (P : Int) (pp col x : Nat) : Int := if (col : Int) < P ∧ nod μ x < 3 ∧ tkD μ x (μ (7 + pp) col) = 1 then min (min 1000000 (1 + μ (4416 + x) (col + 1))) (μ (4416 + (x + 1)) (col + 1)) else (if (col : Int) = P then 1000000 else min 1000000 (1 + μ (4416 + x) (col + 1)))
theorem tkc_rng {μ : va_M} {P : Int} {pp pos x : Nat} (hx : (x : Int) < μ 0 39) (hp : (pos : Int) ≤ P) (h : (pos : Int) < P → cOC μ (pos + 1)) : 0 ≤ tkc μ P pp pos x ∧ tkc μ P pp pos x ≤ 1000000 := by
  unfold tkc
  split
  · next h1 =>
    have a := h h1.1 x (by (first | ((try clear h); (try clear hp); omega) | omega))
    have b := h h1.1 (x + 1) (by (first | ((try clear b); (try clear h); (try clear hp); omega) | omega))
    (first | ((try clear h); (try clear hp); omega) | omega)
  · split
    · (first | ((try clear h); (try clear hp); omega) | omega)
    · have a := h (by (first | ((try clear h); omega) | omega)) x (by (first | ((try clear h); (try clear hp); omega) | omega))
      (first | ((try clear h); (try clear hp); omega) | omega)
theorem tkc_e {μ0 μ : va_M} {P : Int} {pp pos x : Nat} (hf : fr (colF pos) μ0 μ) (hp : pp < 8) : tkc μ0 P pp pos x = tkc μ P pp pos x := by
  have gr : ∀ a : Nat, ¬ CF a → μ a = μ0 a := fun a hn => funext fun y => hf a y (fun hh => hn hh.1)
  have n1 : nod μ x = nod μ0 x := by unfold nod; rw [gr 507 (by unfold CF; (first | ((try clear n1); (try clear gr); (try clear hp); omega) | omega)), gr 4412 (by unfold CF; (first | ((try clear n1); (try clear gr); (try clear hp); omega) | omega))]
  have n2 : ∀ k, tkD μ x k = tkD μ0 x k := fun k => by unfold tkD; rw [n1, gr 3 (by unfold CF; (first | ((try clear k); (try clear n2); (try clear n1); (try clear gr); (try clear hp); omega) | omega)), gr 578 (by unfold CF; (first | ((try clear k); (try clear n2); (try clear n1); (try clear gr); (try clear hp); omega) | omega)), gr 4412 (by unfold CF; (first | ((try clear k); (try clear n2); (try clear n1); (try clear gr); (try clear hp); omega) | omega))]
  unfold tkc
  rw [n1, gr (7 + pp) (by unfold CF; (first | ((try clear n2); (try clear n1); (try clear gr); omega) | omega)), n2, hf (4416 + (x + 1)) (pos + 1) (colF_n (by (first | ((try clear n2); (try clear n1); (try clear gr); (try clear hp); omega) | omega))), hf (4416 + x) (pos + 1) (colF_n (by (first | ((try clear n2); (try clear n1); (try clear gr); (try clear hp); omega) | omega)))]

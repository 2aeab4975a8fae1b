theorem k1416 : (Cond.methodLink "PageSkeletonModel" (215 : Nat) ({ cls := "PageSkeletonModel", name := "fuses", desc := "(IIIII)I" } : MethodName)) ∈ wsG := wsG_at 1416 (by decide +kernel) (by decide +kernel)
theorem k1418 : (Cond.instanceMethod ({ cls := "PageSkeletonModel", name := "fuses", desc := "(IIIII)I" } : MethodName)) ∈ wsG := wsG_at 1418 (by decide +kernel) (by decide +kernel)
theorem k1419 : (Cond.code ({ cls := "PageSkeletonModel", name := "fuses", desc := "(IIIII)I" } : MethodName) prog_12_method_25_code (11 : Nat) (Option.some FieldType.int)) ∈ wsG := wsG_at 1419 (by decide +kernel) (by decide +kernel)
theorem k1420 : (Cond.methodLink "PageSkeletonModel" (219 : Nat) ({ cls := "PageSkeletonModel", name := "closes", desc := "(II)V" } : MethodName)) ∈ wsG := wsG_at 1420 (by decide +kernel) (by decide +kernel)
theorem k1422 : (Cond.instanceMethod ({ cls := "PageSkeletonModel", name := "closes", desc := "(II)V" } : MethodName)) ∈ wsG := wsG_at 1422 (by decide +kernel) (by decide +kernel)
theorem k1423 : (Cond.code ({ cls := "PageSkeletonModel", name := "closes", desc := "(II)V" } : MethodName) prog_12_method_19_code (3 : Nat) (Option.none : Option Jvm.ClassFile.FieldType)) ∈ wsG := wsG_at 1423 (by decide +kernel) (by decide +kernel)
theorem ks_yX10_fuses : Cond.selects RX10 yX10_fuses yX10_fuses ∈ wsG := wsG_mem (by decide +kernel) (by decide +kernel)
theorem ks_yX10_closes : Cond.selects RX10 yX10_closes yX10_closes ∈ wsG := wsG_mem (by decide +kernel) (by decide +kernel)
theorem dX10_fuses_0 : decode cX10_fuses 0 = .ok (.aload_n 0, 1) := by decide +kernel
theorem dX10_fuses_1 : decode cX10_fuses 1 = .ok (.getfield 45, 3) := by decide +kernel
theorem dX10_fuses_4 : decode cX10_fuses 4 = .ok (.iload_n 1, 1) := by decide +kernel
theorem dX10_fuses_5 : decode cX10_fuses 5 = .ok (.aaload, 1) := by decide +kernel
theorem dX10_fuses_6 : decode cX10_fuses 6 = .ok (.iload_n 2, 1) := by decide +kernel
theorem dX10_fuses_7 : decode cX10_fuses 7 = .ok (.iaload, 1) := by decide +kernel
theorem dX10_fuses_8 : decode cX10_fuses 8 = .ok (.istore 6, 2) := by decide +kernel
theorem dX10_fuses_10 : decode cX10_fuses 10 = .ok (.iload 6, 2) := by decide +kernel
theorem dX10_fuses_12 : decode cX10_fuses 12 = .ok (.ifCond .ne 21, 3) := by decide +kernel
theorem dX10_fuses_15 : decode cX10_fuses 15 = .ok (.aload_n 0, 1) := by decide +kernel
theorem dX10_fuses_16 : decode cX10_fuses 16 = .ok (.iload 5, 2) := by decide +kernel
theorem dX10_fuses_18 : decode cX10_fuses 18 = .ok (.iconst 0, 1) := by decide +kernel
theorem dX10_fuses_19 : decode cX10_fuses 19 = .ok (.aload_n 0, 1) := by decide +kernel
theorem dX10_fuses_20 : decode cX10_fuses 20 = .ok (.getfield 48, 3) := by decide +kernel
theorem dX10_fuses_23 : decode cX10_fuses 23 = .ok (.iload_n 1, 1) := by decide +kernel
theorem dX10_fuses_24 : decode cX10_fuses 24 = .ok (.aaload, 1) := by decide +kernel
theorem dX10_fuses_25 : decode cX10_fuses 25 = .ok (.iload_n 2, 1) := by decide +kernel
theorem dX10_fuses_26 : decode cX10_fuses 26 = .ok (.iaload, 1) := by decide +kernel
theorem dX10_fuses_27 : decode cX10_fuses 27 = .ok (.invokevirtual 193, 3) := by decide +kernel
theorem dX10_fuses_30 : decode cX10_fuses 30 = .ok (.pop, 1) := by decide +kernel
theorem dX10_fuses_31 : decode cX10_fuses 31 = .ok (.iconst 0, 1) := by decide +kernel
theorem dX10_fuses_32 : decode cX10_fuses 32 = .ok (.ireturn, 1) := by decide +kernel
theorem dX10_fuses_33 : decode cX10_fuses 33 = .ok (.iload 6, 2) := by decide +kernel
theorem dX10_fuses_35 : decode cX10_fuses 35 = .ok (.invokestatic 204, 3) := by decide +kernel
theorem dX10_fuses_38 : decode cX10_fuses 38 = .ok (.ifCond .eq 113, 3) := by decide +kernel
theorem dX10_fuses_41 : decode cX10_fuses 41 = .ok (.iload 6, 2) := by decide +kernel
theorem dX10_fuses_43 : decode cX10_fuses 43 = .ok (.iconst 1, 1) := by decide +kernel
theorem dX10_fuses_44 : decode cX10_fuses 44 = .ok (.if_icmp .ne 40, 3) := by decide +kernel
theorem dX10_fuses_47 : decode cX10_fuses 47 = .ok (.aload_n 0, 1) := by decide +kernel
theorem dX10_fuses_48 : decode cX10_fuses 48 = .ok (.getfield 45, 3) := by decide +kernel
theorem dX10_fuses_51 : decode cX10_fuses 51 = .ok (.iload_n 3, 1) := by decide +kernel
theorem dX10_fuses_52 : decode cX10_fuses 52 = .ok (.aaload, 1) := by decide +kernel
theorem dX10_fuses_53 : decode cX10_fuses 53 = .ok (.iload 4, 2) := by decide +kernel
theorem dX10_fuses_55 : decode cX10_fuses 55 = .ok (.iaload, 1) := by decide +kernel
theorem dX10_fuses_56 : decode cX10_fuses 56 = .ok (.iconst 1, 1) := by decide +kernel
theorem dX10_fuses_57 : decode cX10_fuses 57 = .ok (.if_icmp .ne 27, 3) := by decide +kernel
theorem dX10_fuses_60 : decode cX10_fuses 60 = .ok (.aload_n 0, 1) := by decide +kernel
theorem dX10_fuses_61 : decode cX10_fuses 61 = .ok (.getfield 48, 3) := by decide +kernel
theorem dX10_fuses_64 : decode cX10_fuses 64 = .ok (.iload_n 1, 1) := by decide +kernel
theorem dX10_fuses_65 : decode cX10_fuses 65 = .ok (.aaload, 1) := by decide +kernel
theorem dX10_fuses_66 : decode cX10_fuses 66 = .ok (.iload_n 2, 1) := by decide +kernel
theorem dX10_fuses_67 : decode cX10_fuses 67 = .ok (.iaload, 1) := by decide +kernel
theorem dX10_fuses_68 : decode cX10_fuses 68 = .ok (.aload_n 0, 1) := by decide +kernel
theorem dX10_fuses_69 : decode cX10_fuses 69 = .ok (.getfield 48, 3) := by decide +kernel
theorem dX10_fuses_72 : decode cX10_fuses 72 = .ok (.iload_n 3, 1) := by decide +kernel
theorem dX10_fuses_73 : decode cX10_fuses 73 = .ok (.aaload, 1) := by decide +kernel
theorem dX10_fuses_74 : decode cX10_fuses 74 = .ok (.iload 4, 2) := by decide +kernel
theorem dX10_fuses_76 : decode cX10_fuses 76 = .ok (.iaload, 1) := by decide +kernel
theorem dX10_fuses_77 : decode cX10_fuses 77 = .ok (.if_icmp .ne 7, 3) := by decide +kernel
theorem dX10_fuses_80 : decode cX10_fuses 80 = .ok (.iconst 1, 1) := by decide +kernel
theorem dX10_fuses_81 : decode cX10_fuses 81 = .ok (.goto 4, 3) := by decide +kernel
theorem dX10_fuses_84 : decode cX10_fuses 84 = .ok (.iconst 0, 1) := by decide +kernel
theorem dX10_fuses_85 : decode cX10_fuses 85 = .ok (.istore 7, 2) := by decide +kernel
theorem dX10_fuses_87 : decode cX10_fuses 87 = .ok (.aload_n 0, 1) := by decide +kernel
theorem dX10_fuses_88 : decode cX10_fuses 88 = .ok (.iload 5, 2) := by decide +kernel
theorem dX10_fuses_90 : decode cX10_fuses 90 = .ok (.iload 7, 2) := by decide +kernel
theorem dX10_fuses_92 : decode cX10_fuses 92 = .ok (.ifCond .eq 7, 3) := by decide +kernel
theorem dX10_fuses_95 : decode cX10_fuses 95 = .ok (.iconst 1, 1) := by decide +kernel
theorem dX10_fuses_96 : decode cX10_fuses 96 = .ok (.goto 4, 3) := by decide +kernel
theorem dX10_fuses_99 : decode cX10_fuses 99 = .ok (.iconst 2, 1) := by decide +kernel
theorem dX10_fuses_100 : decode cX10_fuses 100 = .ok (.iload 7, 2) := by decide +kernel
theorem dX10_fuses_102 : decode cX10_fuses 102 = .ok (.ifCond .eq 14, 3) := by decide +kernel
theorem dX10_fuses_105 : decode cX10_fuses 105 = .ok (.aload_n 0, 1) := by decide +kernel
theorem dX10_fuses_106 : decode cX10_fuses 106 = .ok (.getfield 48, 3) := by decide +kernel
theorem dX10_fuses_109 : decode cX10_fuses 109 = .ok (.iload_n 1, 1) := by decide +kernel
theorem dX10_fuses_110 : decode cX10_fuses 110 = .ok (.aaload, 1) := by decide +kernel
theorem dX10_fuses_111 : decode cX10_fuses 111 = .ok (.iload_n 2, 1) := by decide +kernel
theorem dX10_fuses_112 : decode cX10_fuses 112 = .ok (.iaload, 1) := by decide +kernel
theorem dX10_fuses_113 : decode cX10_fuses 113 = .ok (.goto 4, 3) := by decide +kernel
theorem dX10_fuses_116 : decode cX10_fuses 116 = .ok (.iconst (-1), 1) := by decide +kernel
theorem dX10_fuses_117 : decode cX10_fuses 117 = .ok (.invokevirtual 193, 3) := by decide +kernel
theorem dX10_fuses_120 : decode cX10_fuses 120 = .ok (.pop, 1) := by decide +kernel
theorem dX10_fuses_121 : decode cX10_fuses 121 = .ok (.iload 7, 2) := by decide +kernel
theorem dX10_fuses_123 : decode cX10_fuses 123 = .ok (.ifCond .ne 26, 3) := by decide +kernel
theorem dX10_fuses_126 : decode cX10_fuses 126 = .ok (.iload 6, 2) := by decide +kernel
theorem dX10_fuses_128 : decode cX10_fuses 128 = .ok (.iconst 1, 1) := by decide +kernel
theorem dX10_fuses_129 : decode cX10_fuses 129 = .ok (.if_icmp .ne 20, 3) := by decide +kernel
theorem dX10_fuses_132 : decode cX10_fuses 132 = .ok (.aload_n 0, 1) := by decide +kernel
theorem dX10_fuses_133 : decode cX10_fuses 133 = .ok (.getfield 45, 3) := by decide +kernel
theorem dX10_fuses_136 : decode cX10_fuses 136 = .ok (.iload_n 3, 1) := by decide +kernel
theorem dX10_fuses_137 : decode cX10_fuses 137 = .ok (.aaload, 1) := by decide +kernel
theorem dX10_fuses_138 : decode cX10_fuses 138 = .ok (.iload 4, 2) := by decide +kernel
theorem dX10_fuses_140 : decode cX10_fuses 140 = .ok (.iaload, 1) := by decide +kernel
theorem dX10_fuses_141 : decode cX10_fuses 141 = .ok (.iconst 1, 1) := by decide +kernel
theorem dX10_fuses_142 : decode cX10_fuses 142 = .ok (.if_icmp .ne 7, 3) := by decide +kernel
theorem dX10_fuses_145 : decode cX10_fuses 145 = .ok (.iconst 1, 1) := by decide +kernel
theorem dX10_fuses_146 : decode cX10_fuses 146 = .ok (.goto 4, 3) := by decide +kernel
theorem dX10_fuses_149 : decode cX10_fuses 149 = .ok (.iconst 0, 1) := by decide +kernel
theorem dX10_fuses_150 : decode cX10_fuses 150 = .ok (.ireturn, 1) := by decide +kernel
theorem dX10_fuses_151 : decode cX10_fuses 151 = .ok (.aload_n 0, 1) := by decide +kernel
theorem dX10_fuses_152 : decode cX10_fuses 152 = .ok (.iload 5, 2) := by decide +kernel
theorem dX10_fuses_154 : decode cX10_fuses 154 = .ok (.iload 6, 2) := by decide +kernel
theorem dX10_fuses_156 : decode cX10_fuses 156 = .ok (.iconst (-1), 1) := by decide +kernel
theorem dX10_fuses_157 : decode cX10_fuses 157 = .ok (.invokevirtual 193, 3) := by decide +kernel
theorem dX10_fuses_160 : decode cX10_fuses 160 = .ok (.istore 7, 2) := by decide +kernel
theorem dX10_fuses_162 : decode cX10_fuses 162 = .ok (.iconst 0, 1) := by decide +kernel
theorem dX10_fuses_163 : decode cX10_fuses 163 = .ok (.istore 8, 2) := by decide +kernel
theorem dX10_fuses_165 : decode cX10_fuses 165 = .ok (.iload 4, 2) := by decide +kernel
theorem dX10_fuses_167 : decode cX10_fuses 167 = .ok (.iconst 1, 1) := by decide +kernel
theorem dX10_fuses_168 : decode cX10_fuses 168 = .ok (.iadd, 1) := by decide +kernel
theorem dX10_fuses_169 : decode cX10_fuses 169 = .ok (.istore 9, 2) := by decide +kernel
theorem dX10_fuses_171 : decode cX10_fuses 171 = .ok (.iload_n 2, 1) := by decide +kernel
theorem dX10_fuses_172 : decode cX10_fuses 172 = .ok (.iconst 1, 1) := by decide +kernel
theorem dX10_fuses_173 : decode cX10_fuses 173 = .ok (.iadd, 1) := by decide +kernel
theorem dX10_fuses_174 : decode cX10_fuses 174 = .ok (.istore 10, 2) := by decide +kernel
theorem dX10_fuses_176 : decode cX10_fuses 176 = .ok (.iload 10, 2) := by decide +kernel
theorem dX10_fuses_178 : decode cX10_fuses 178 = .ok (.iload_n 2, 1) := by decide +kernel
theorem dX10_fuses_179 : decode cX10_fuses 179 = .ok (.aload_n 0, 1) := by decide +kernel
theorem dX10_fuses_180 : decode cX10_fuses 180 = .ok (.getfield 51, 3) := by decide +kernel
theorem dX10_fuses_183 : decode cX10_fuses 183 = .ok (.iload_n 1, 1) := by decide +kernel
theorem dX10_fuses_184 : decode cX10_fuses 184 = .ok (.aaload, 1) := by decide +kernel
theorem dX10_fuses_185 : decode cX10_fuses 185 = .ok (.iload_n 2, 1) := by decide +kernel
theorem dX10_fuses_186 : decode cX10_fuses 186 = .ok (.iaload, 1) := by decide +kernel
theorem dX10_fuses_187 : decode cX10_fuses 187 = .ok (.iadd, 1) := by decide +kernel
theorem dX10_fuses_188 : decode cX10_fuses 188 = .ok (.if_icmp .ge 51, 3) := by decide +kernel
theorem dX10_fuses_191 : decode cX10_fuses 191 = .ok (.iload 8, 2) := by decide +kernel
theorem dX10_fuses_193 : decode cX10_fuses 193 = .ok (.aload_n 0, 1) := by decide +kernel
theorem dX10_fuses_194 : decode cX10_fuses 194 = .ok (.iload_n 1, 1) := by decide +kernel
theorem dX10_fuses_195 : decode cX10_fuses 195 = .ok (.iload 10, 2) := by decide +kernel
theorem dX10_fuses_197 : decode cX10_fuses 197 = .ok (.iload_n 3, 1) := by decide +kernel
theorem dX10_fuses_198 : decode cX10_fuses 198 = .ok (.iload 9, 2) := by decide +kernel
theorem dX10_fuses_200 : decode cX10_fuses 200 = .ok (.iload 5, 2) := by decide +kernel
theorem dX10_fuses_202 : decode cX10_fuses 202 = .ok (.invokevirtual 215, 3) := by decide +kernel
theorem dX10_fuses_205 : decode cX10_fuses 205 = .ok (.iadd, 1) := by decide +kernel
theorem dX10_fuses_206 : decode cX10_fuses 206 = .ok (.istore 8, 2) := by decide +kernel
theorem dX10_fuses_208 : decode cX10_fuses 208 = .ok (.iload 9, 2) := by decide +kernel
theorem dX10_fuses_210 : decode cX10_fuses 210 = .ok (.aload_n 0, 1) := by decide +kernel
theorem dX10_fuses_211 : decode cX10_fuses 211 = .ok (.getfield 51, 3) := by decide +kernel
theorem dX10_fuses_214 : decode cX10_fuses 214 = .ok (.iload_n 3, 1) := by decide +kernel
theorem dX10_fuses_215 : decode cX10_fuses 215 = .ok (.aaload, 1) := by decide +kernel
theorem dX10_fuses_216 : decode cX10_fuses 216 = .ok (.iload 9, 2) := by decide +kernel
theorem dX10_fuses_218 : decode cX10_fuses 218 = .ok (.iaload, 1) := by decide +kernel
theorem dX10_fuses_219 : decode cX10_fuses 219 = .ok (.iadd, 1) := by decide +kernel
theorem dX10_fuses_220 : decode cX10_fuses 220 = .ok (.istore 9, 2) := by decide +kernel
theorem dX10_fuses_222 : decode cX10_fuses 222 = .ok (.iload 10, 2) := by decide +kernel
theorem dX10_fuses_224 : decode cX10_fuses 224 = .ok (.aload_n 0, 1) := by decide +kernel
theorem dX10_fuses_225 : decode cX10_fuses 225 = .ok (.getfield 51, 3) := by decide +kernel
theorem dX10_fuses_228 : decode cX10_fuses 228 = .ok (.iload_n 1, 1) := by decide +kernel
theorem dX10_fuses_229 : decode cX10_fuses 229 = .ok (.aaload, 1) := by decide +kernel
theorem dX10_fuses_230 : decode cX10_fuses 230 = .ok (.iload 10, 2) := by decide +kernel
theorem dX10_fuses_232 : decode cX10_fuses 232 = .ok (.iaload, 1) := by decide +kernel
theorem dX10_fuses_233 : decode cX10_fuses 233 = .ok (.iadd, 1) := by decide +kernel
theorem dX10_fuses_234 : decode cX10_fuses 234 = .ok (.istore 10, 2) := by decide +kernel
theorem dX10_fuses_236 : decode cX10_fuses 236 = .ok (.goto (-60), 3) := by decide +kernel
theorem dX10_fuses_239 : decode cX10_fuses 239 = .ok (.aload_n 0, 1) := by decide +kernel
theorem dX10_fuses_240 : decode cX10_fuses 240 = .ok (.iload 5, 2) := by decide +kernel
theorem dX10_fuses_242 : decode cX10_fuses 242 = .ok (.iload 7, 2) := by decide +kernel
theorem dX10_fuses_244 : decode cX10_fuses 244 = .ok (.invokevirtual 219, 3) := by decide +kernel
theorem dX10_fuses_247 : decode cX10_fuses 247 = .ok (.iload 8, 2) := by decide +kernel
theorem dX10_fuses_249 : decode cX10_fuses 249 = .ok (.ireturn, 1) := by decide +kernel
/-- two alike items become one: its sort, its token, what that costs -/
def fK (k : Nat) (v : Int) (k2 : Nat) (v2 : Int) : Nat := if k = 1 ∨ k = 2 then (if k = 1 ∧ k2 = 1 ∧ v = v2 then 1 else 2) else k
def fV (k : Nat) (v : Int) (k2 : Nat) (v2 : Int) : Int := if k = 0 ∨ (k = 1 ∧ k2 = 1 ∧ v = v2) then v else -1
def fC (k : Nat) (v : Int) (k2 : Nat) (v2 : Int) (c : Int) : Int := if k = 1 ∨ k = 2 then (if k = 1 ∧ k2 = 1 ∧ ¬ v = v2 then 1 else 0) else c
def rfus : Rw → Rw → Rw
  | .inner _ k v l r, .inner _ k2 v2 l2 r2 => .inner 0 (fK k v k2 v2) (fV k v k2 v2) (rfus l l2) (rfus r r2)
  | .leaf, _ => .leaf
  | .inner _ _ _ _ _, .leaf => .leaf
def rfC : Rw → Rw → Int
  | .inner _ k v l r, .inner _ k2 v2 l2 r2 => fC k v k2 v2 (rfC l l2) + rfC r r2
  | .leaf, _ => 0
  | .inner _ _ _ _ _, .leaf => 0
theorem fC_rng {k : Nat} {v : Int} {k2 : Nat} {v2 c : Int} {n : Nat} (h : 0 ≤ c ∧ c ≤ n) : 0 ≤ fC k v k2 v2 c ∧ fC k v k2 v2 c ≤ 1 + n := by
  unfold fC
  split
  · split <;> omega
  · omega
theorem rfC_rng : ∀ (w b : Rw), 0 ≤ rfC w b ∧ rfC w b ≤ rN w
  | .inner _ k v l r, .inner _ k2 v2 l2 r2 => by
    have h1 := fC_rng (k := k) (v := v) (k2 := k2) (v2 := v2) (rfC_rng l l2)
    have h2 := rfC_rng r r2
    rw [rfC, rN_in]
    omega
  | .leaf, b => by cases b <;> simp [rfC, rN]
  | .inner _ _ _ _ _, .leaf => by simp only [rfC]; omega
theorem rfus_N : ∀ (w b : Rw), rWF w → rWF b → ralk w b → rN (rfus w b) = rN w
  | .leaf, b, _, _, _ => by cases b <;> rfl
  | .inner _ k v l r, .inner _ k2 v2 l2 r2, h1, h2, ⟨h3, h4⟩ => by
    obtain ⟨f1, f2, f3, f4, f5, f6, f7, f8⟩ := h1
    obtain ⟨e1, e2, e3, e4, e5, e6, e7, e8⟩ := h2
    rw [rfus, rN_in, rN_in, rfus_N r r2 f8 e8 h4]
    rcases h3 with ⟨g1, g2⟩ | ⟨_, _, _, g⟩
    · unfold isTx at g1
      obtain rfl := f2 (by omega)
      cases l2 <;> rfl
    · rw [rfus_N l l2 f7 e7 g]
  | .inner _ _ _ _ _, .leaf, _, _, h => h.elim
/-- a tree's cells between two places are the same -/
def agr (μ u : va_M) (t a b : Nat) : Prop := ∀ x : Nat, a ≤ x → x < b → u (507 + t) x = μ (507 + t) x ∧ u (578 + t) x = μ (578 + t) x ∧ u (649 + t) x = μ (649 + t) x
theorem RA_fr {P : Nat → Nat → Prop} {μ u : va_M} {t : Nat} {w : Rw} {p : Nat} (h : RA μ t w p) (hf : fr P μ u) (hp : ∀ x, ¬ P (507 + t) x ∧ ¬ P (578 + t) x ∧ ¬ P (649 + t) x) : RA u t w p := RA_kept h (fun x _ _ => ⟨hf _ _ (hp x).1, hf _ _ (hp x).2.1, hf _ _ (hp x).2.2⟩)
set_option maxHeartbeats 4000000 in
set_option maxRecDepth 100000 in
theorem LX10_fuses_176 {p : Program} {l : Launch} {e : Env} {R : Room} {s : State} {m : MethodId} {args : Array Value} {below : List Frame} {meth : Method} {c : Code} {cells slots : Nat} {Q : State → Prop} {dC : Nat → ClassId} {dI : Nat → Nat → Nat} {h0 : Nat} {cI cZ cII cIII : ClassId} {d9 : Nat} (hx : p.tables.exec = Jvm.exec) (hb : c.code = cX10_fuses) (hml : c.maxLocals = 11) (hown : s.vm.findClass RX10 = some m.cls) (hts : ∀ w ∈ wsG, w.before args s = true) (hK : va_K (dC, dI) vwCl (mT cI cZ cII cIII) s) (hRf : d9 + 3 + 1 ≤ R.frames) (hRl : 8 + (11 + 11) + (30 * d9 + 100) ≤ R.locals) (hRc : cells ≤ R.cells) (hRs : slots ≤ R.slots) (hrec : ∀ (sz : Nat) (μ : va_M) (t : Int) (i : Int) (u1 : Int) (j : Int) (o1 : Int) (k : Nat) (v : Int) (w1 : Rw) (k2 : Nat) (v2 : Int) (b1 : Rw), (0 ≤ t ∧ t < 70) → (0 ≤ u1 ∧ u1 < 70) → (-1 ≤ o1 ∧ o1 < 70 ∧ o1 ≠ t ∧ o1 ≠ u1) → (0 ≤ o1 → 0 ≤ μ 719 o1.toNat ∧ μ 719 o1.toNat + 1 + rN w1 ≤ 900) → (0 ≤ i ∧ i + 1 + rN w1 ≤ 900) → (0 ≤ j ∧ j + 1 + rN b1 ≤ 900) → (IA μ t.toNat i.toNat k v w1) → (IA μ u1.toNat j.toNat k2 v2 b1) → (iWF k v w1) → (iWF k2 v2 b1) → (ialk k v w1 k2 v2 b1) → (rH w1 ≤ d9) → Met l yX10_fuses (Cond.code yX10_fuses cX10_fuses 11 (some .int) :: wsG) ({ frames := d9 + 3, cells := 0, slots := 0, locals := 30 * d9 + 100 } : Room) (va_Pc [.ref h0, .int (iZ (t)), .int (iZ (i)), .int (iZ (u1)), .int (iZ (j)), .int (iZ (o1))] (fun U => U.heap.size = sz ∧ va_P (dC, dI) vwCl (fw (mE cI cZ cII cIII h0) h0 6325 μ) U.heap ∧ va_K (dC, dI) vwCl (mT cI cZ cII cIII) U)) (va_Qi (fun (r9 : Int32) (u : va_M × Int) => r9 = iZ u.2 ∧ (fun (u : va_M) (r : Int) => (o1 = -1 → u = μ) ∧ (0 ≤ o1 → fr (PG o1.toNat (μ 719 o1.toNat).toNat) μ u ∧ u 719 o1.toNat = μ 719 o1.toNat + 1 + rN w1 ∧ IA u o1.toNat (μ 719 o1.toNat).toNat (fK k v k2 v2) (fV k v k2 v2) (rfus w1 b1)) ∧ r = fC k v k2 v2 (rfC w1 b1)) u.1 u.2) (fun u t => va_P (dC, dI) vwCl (fw (mE cI cZ cII cIII h0) h0 6325 u.1) t.heap ∧ va_K (dC, dI) vwCl (mT cI cZ cII cIII) t) (fA h0 6325 sz)) 0 0 (fA h0 6325 sz)) (μ0 : va_M) (t : Int) (i : Int) (u1 : Int) (j : Int) (o1 : Int) (y1 : Int) (n1 : Int) (w1 : Rw) (b1 : Rw) (ht : 0 ≤ t ∧ t < 70) (hu : 0 ≤ u1 ∧ u1 < 70) (ho : -1 ≤ o1 ∧ o1 < 70 ∧ o1 ≠ t ∧ o1 ≠ u1) (hi : 0 ≤ i ∧ i + 1 + rN w1 ≤ 900) (hj : 0 ≤ j ∧ j + 1 + rN b1 ≤ 900) (hs : μ0 (649 + t.toNat) i.toNat = 1 + rN w1) (hn1 : 0 ≤ o1 → 0 ≤ n1 ∧ n1 + rN w1 ≤ 900) (hexit239 : ∀ (a : Int) (b : Int) (x : Int) (w : Rw) (w2 : Rw) (μ : va_M) (H : Heap) (locs : List Loc) (ls : Array Slot), ((o1 = -1 → μ = μ0) ∧ (0 ≤ o1 → fr (PG o1.toNat n1.toNat) μ0 μ ∧ μ 719 o1.toNat = n1 + rN w1 ∧ RA μ o1.toNat (rfus w1 b1) n1.toNat)) → (x = rfC w1 b1) → va_P (dC, dI) vwCl (fw (mE cI cZ cII cIII h0) h0 6325 μ) H → va_S (fA h0 6325 s.heap.size) s.heap H locs → lv_has ls 11 [(8, .int (iZ (x))), (7, .int (iZ (y1))), (0, .ref h0), (5, .int (iZ (o1)))] → W p l e R s m args below meth c H locs cells slots Q (F0 m 239 ls [])) :
    ∀ (n9 : Nat) (a : Int) (b : Int) (x : Int) (w : Rw) (w2 : Rw) (μ : va_M) (H : Heap) (locs : List Loc) (ls : Array Slot), ((o1 = -1 → μ = μ0) ∧ (0 ≤ o1 → fr (PG o1.toNat n1.toNat) μ0 μ ∧ μ 719 o1.toNat = n1 + rN w1 - rN w ∧ ∀ u8 : va_M, agr μ u8 o1.toNat n1.toNat (μ 719 o1.toNat).toNat → RA u8 o1.toNat (rfus w w2) (μ 719 o1.toNat).toNat → RA u8 o1.toNat (rfus w1 b1) n1.toNat)) → (RA μ0 t.toNat w a.toNat) → (RA μ0 u1.toNat w2 b.toNat) → (i < a ∧ a + rN w = i + 1 + rN w1) → (j < b ∧ b + rN w2 = j + 1 + rN b1) → (ralk w w2) → (x + rfC w w2 = rfC w1 b1 ∧ 0 ≤ x) → (rH w ≤ d9 + 1) → (rWF w) → (rWF w2) → rN w < n9 → va_P (dC, dI) vwCl (fw (mE cI cZ cII cIII h0) h0 6325 μ) H → va_S (fA h0 6325 s.heap.size) s.heap H locs → lv_has ls 11 [(10, .int (iZ (a))), (9, .int (iZ (b))), (8, .int (iZ (x))), (7, .int (iZ (y1))), (0, .ref h0), (1, .int (iZ (t))), (2, .int (iZ (i))), (3, .int (iZ (u1))), (5, .int (iZ (o1)))] → W p l e R s m args below meth c H locs cells slots Q (F0 m 176 ls []) := by
  intro n9
  induction n9 with
  | zero => intro a b x w w2 μ H locs ls hm hw hw2 ha hb0 hal hx0 hh hf hf2 hm9 hP hS hl; exact absurd hm9 (Nat.not_lt_zero _)
  | succ n9 ih =>
    intro a b x w w2 μ H locs ls hm hw hw2 ha hb0 hal hx0 hh hf hf2 hm9 hP hS hl
    have hs_t : ∀ x, μ (507 + t.toNat) x = μ0 (507 + t.toNat) x ∧ μ (578 + t.toNat) x = μ0 (578 + t.toNat) x ∧ μ (649 + t.toNat) x = μ0 (649 + t.toNat) x := fun x => by
      by_cases h9 : o1 = -1
      · rw [hm.1 h9]; exact ⟨rfl, rfl, rfl⟩
      · have h8 := (hm.2 (by (first | ((try clear hn1); (try clear hm); (try clear c1); (try clear c2); (try clear f2); (try clear f3); (try clear f6); (try clear e2); (try clear e3); (try clear e6); omega) | omega))).1
        exact ⟨h8 _ _ (by (first | ((try clear ho); (try clear hn1); (try clear hm); (try clear c1); (try clear c2); (try clear f2); (try clear f3); (try clear f6); (try clear e2); (try clear e3); (try clear e6); unfold PG; omega) | (unfold PG; omega))), h8 _ _ (by (first | ((try clear ho); (try clear hn1); (try clear hm); (try clear c1); (try clear c2); (try clear f2); (try clear f3); (try clear f6); (try clear e2); (try clear e3); (try clear e6); unfold PG; omega) | (unfold PG; omega))), h8 _ _ (by (first | ((try clear ho); (try clear hn1); (try clear hm); (try clear c1); (try clear c2); (try clear f2); (try clear f3); (try clear f6); (try clear e2); (try clear e3); (try clear e6); unfold PG; omega) | (unfold PG; omega)))⟩
    have hs_u1 : ∀ x, μ (507 + u1.toNat) x = μ0 (507 + u1.toNat) x ∧ μ (578 + u1.toNat) x = μ0 (578 + u1.toNat) x ∧ μ (649 + u1.toNat) x = μ0 (649 + u1.toNat) x := fun x => by
      by_cases h9 : o1 = -1
      · rw [hm.1 h9]; exact ⟨rfl, rfl, rfl⟩
      · have h8 := (hm.2 (by (first | ((try clear hn1); (try clear hm); (try clear c1); (try clear c2); (try clear f2); (try clear f3); (try clear f6); (try clear e2); (try clear e3); (try clear e6); omega) | omega))).1
        exact ⟨h8 _ _ (by (first | ((try clear ho); (try clear hn1); (try clear hm); (try clear c1); (try clear c2); (try clear f2); (try clear f3); (try clear f6); (try clear e2); (try clear e3); (try clear e6); unfold PG; omega) | (unfold PG; omega))), h8 _ _ (by (first | ((try clear ho); (try clear hn1); (try clear hm); (try clear c1); (try clear c2); (try clear f2); (try clear f3); (try clear f6); (try clear e2); (try clear e3); (try clear e6); unfold PG; omega) | (unfold PG; omega))), h8 _ _ (by (first | ((try clear ho); (try clear hn1); (try clear hm); (try clear c1); (try clear c2); (try clear f2); (try clear f3); (try clear f6); (try clear e2); (try clear e3); (try clear e6); unfold PG; omega) | (unfold PG; omega)))⟩
    refine lv_iload hx hb dX10_fuses_176 (lv_at hl 0 rfl) ?_
    refine lv_iload_n hx hb dX10_fuses_178 rfl (lv_at hl 6 rfl) ?_
    refine lv_aload_n hx hb dX10_fuses_179 rfl (lv_at hl 4 rfl) ?_
    refine fz_get (D := (dC, dI)) (ci := 10) (v := .ref (h0 + 648)) (C := RX10) (T := TX10) (N := 53) hx hb hts inG10 hown hK hP (k := 0) (by decide) (F := mF h0) mE_obj rfl 20 (by decide) (hts _ k1186) (fun _ h9 => h9) rfl dX10_fuses_180 ?_
    refine lv_iload_n hx hb dX10_fuses_183 rfl (lv_at hl 5 rfl) ?_
    refine fz_ald (k := 648) (n := 70) (k2 := (649 + (t).toNat)) hx hb hK hP 2 rfl (by decide) mE_span rfl ⟨by (first | ((try clear hn1); (try clear hm); (try clear c1); (try clear c2); (try clear f2); (try clear f3); (try clear f6); (try clear e2); (try clear e3); (try clear e6); omega) | omega), by (first | ((try clear hn1); (try clear hm); (try clear c1); (try clear c2); (try clear f2); (try clear f3); (try clear f6); (try clear e2); (try clear e3); (try clear e6); omega) | omega)⟩ (by decide) (if_pos (by (first | ((try clear hn1); (try clear hm); (try clear c1); (try clear c2); (try clear f2); (try clear f3); (try clear f6); (try clear e2); (try clear e3); (try clear e6); omega) | omega))) dX10_fuses_184 ?_
    refine lv_iload_n hx hb dX10_fuses_185 rfl (lv_at hl 6 rfl) ?_
    refine fz_ld (k := (649 + (t).toNat)) (n := 900) hx hb hK hP 0 (by (first | ((try clear hn1); (try clear hm); (try clear c1); (try clear c2); (try clear f2); (try clear f3); (try clear f6); (try clear e2); (try clear e3); (try clear e6); omega) | omega)) (mE_spanR (by (first | ((try clear hn1); (try clear hm); (try clear c1); (try clear c2); (try clear f2); (try clear f3); (try clear f6); (try clear e2); (try clear e3); (try clear e6); omega) | omega))) rfl ⟨by (first | ((try clear hn1); (try clear hm); (try clear c1); (try clear c2); (try clear f2); (try clear f3); (try clear f6); (try clear e2); (try clear e3); (try clear e6); omega) | omega), by (first | ((try clear hn1); (try clear hm); (try clear c1); (try clear c2); (try clear f2); (try clear f3); (try clear f6); (try clear e2); (try clear e3); (try clear e6); omega) | omega)⟩ (by decide) dX10_fuses_186 ?_
    rw [show μ (649 + (t).toNat) (i).toNat = 1 + (rN w1 : Int) from (by rw [(hs_t _).2.2]; exact hs)]
    refine lv_iadd hx hb dX10_fuses_187 ?_
    refine lv_topi (fun x9 ex9 => ?_)
    obtain rfl : x9 = iZ (i + (1 + (rN w1 : Int))) := ex9.trans (iZ_add _ _)
    refine fz_icmp_ge (tgt := 239) (by constructor <;> (first | ((try clear hn1); (try clear hm); (try clear c1); (try clear c2); (try clear f2); (try clear f3); (try clear f6); (try clear e2); (try clear e3); (try clear e6); omega) | omega)) (by constructor <;> (first | ((try clear hn1); (try clear hm); (try clear c1); (try clear c2); (try clear f2); (try clear f3); (try clear f6); (try clear e2); (try clear e3); (try clear e6); omega) | omega)) hx hb dX10_fuses_188 (by decide) (fun c188_ => ?_) (fun c188_ => ?_)
    · exact hexit239 (a) (b) (x) (w) (w2) μ H locs ls (by
                    obtain rfl := rw_0 (w := w) (by (first | ((try clear hn1); (try clear hm); (try clear c1); (try clear c2); (try clear f2); (try clear f3); (try clear f6); (try clear e2); (try clear e3); (try clear e6); omega) | omega))
                    have hN0 : rN (Std.DTreeMap.Internal.Impl.leaf : Rw) = 0 := rfl
                    refine ⟨hm.1, fun h => ?_⟩
                    obtain ⟨m1, m2, m3⟩ := hm.2 h
                    exact ⟨m1, by (first | ((try clear hn1); (try clear hm); (try clear c1); (try clear c2); (try clear f2); (try clear f3); (try clear f6); (try clear e2); (try clear e3); (try clear e6); omega) | omega), m3 μ (fun _ _ _ => ⟨rfl, rfl, rfl⟩) (by cases w2 <;> exact trivial)⟩) (by
                    obtain rfl := rw_0 (w := w) (by (first | ((try clear hn1); (try clear hm); (try clear c1); (try clear c2); (try clear f2); (try clear f3); (try clear f6); (try clear e2); (try clear e3); (try clear e6); omega) | omega))
                    have h9 : rfC Std.DTreeMap.Internal.Impl.leaf w2 = 0 := by cases w2 <;> rfl
                    omega) hP hS (lv_sub hl [2, 3, 4, 8] rfl)
    · obtain ⟨z9, k9, v9, l9, w9, rfl⟩ := rw_ne (w := w) (by (first | ((try clear hn1); (try clear hm); (try clear c1); (try clear c2); (try clear f2); (try clear f3); (try clear f6); (try clear e2); (try clear e3); (try clear e6); omega) | omega))
      have hn9 := rN_in (z := z9) (k := k9) (v := v9) (l := l9) (r := w9)
      have hi9 := rI_in (z := z9) (k := k9) (v := v9) (l := l9) (r := w9)
      have hh9 := rH_in (z := z9) (k := k9) (v := v9) (l := l9) (r := w9)
      obtain ⟨y9, m9, x9_, b9, u9_, rfl⟩ := rw_ne (w := w2) (by have h7 := ralk_rI _ _ hal; have := rI_le w2; omega)
      have gn9 := rN_in (z := y9) (k := m9) (v := x9_) (l := b9) (r := u9_)
      have gi9 := rI_in (z := y9) (k := m9) (v := x9_) (l := b9) (r := u9_)
      obtain ⟨g1, g2, g3, g4, g5⟩ := hw
      obtain ⟨p1, p2, p3, p4, p5⟩ := hw2
      obtain ⟨f1, f2, f3, f4, f5, f6, f7, f8⟩ := hf
      obtain ⟨e1, e2, e3, e4, e5, e6, e7, e8⟩ := hf2
      have hfn := rfus_N _ _ f7 e7
      refine lv_iload hx hb dX10_fuses_191 (lv_at hl 2 rfl) ?_
      refine lv_aload_n hx hb dX10_fuses_193 rfl (lv_at hl 4 rfl) ?_
      refine lv_iload_n hx hb dX10_fuses_194 rfl (lv_at hl 5 rfl) ?_
      refine lv_iload hx hb dX10_fuses_195 (lv_at hl 0 rfl) ?_
      refine lv_iload_n hx hb dX10_fuses_197 rfl (lv_at hl 7 rfl) ?_
      refine lv_iload hx hb dX10_fuses_198 (lv_at hl 1 rfl) ?_
      refine lv_iload hx hb dX10_fuses_200 (lv_at hl 8 rfl) ?_
      refine va_calli (va_runV (As := [.int (iZ (t)), .int (iZ (a)), .int (iZ (u1)), .int (iZ (b)), .int (iZ (o1))]) (rest := [.int (iZ (x))]) ⟨hx, hb, hml, hown, hts⟩ (hrec H.size μ (t) (a) (u1) (b) (o1) (k9) (v9) (l9) (m9) (x9_) (b9) (by first | assumption | ((try clear hn1); (try clear hm); (try clear c1); (try clear c2); (try clear f2); (try clear f3); (try clear f6); (try clear e2); (try clear e3); (try clear e6); omega) | omega | exact ⟨by (first | ((try clear hn1); (try clear hm); (try clear c1); (try clear c2); (try clear f2); (try clear f3); (try clear f6); (try clear e2); (try clear e3); (try clear e6); omega) | omega), by (first | ((try clear hn1); (try clear hm); (try clear c1); (try clear c2); (try clear f2); (try clear f3); (try clear f6); (try clear e2); (try clear e3); (try clear e6); omega) | omega)⟩) (by first | assumption | ((try clear hn1); (try clear hm); (try clear c1); (try clear c2); (try clear f2); (try clear f3); (try clear f6); (try clear e2); (try clear e3); (try clear e6); omega) | omega | exact ⟨by (first | ((try clear hn1); (try clear hm); (try clear c1); (try clear c2); (try clear f2); (try clear f3); (try clear f6); (try clear e2); (try clear e3); (try clear e6); omega) | omega), by (first | ((try clear hn1); (try clear hm); (try clear c1); (try clear c2); (try clear f2); (try clear f3); (try clear f6); (try clear e2); (try clear e3); (try clear e6); omega) | omega)⟩) (by first | assumption | ((try clear hn1); (try clear hm); (try clear c1); (try clear c2); (try clear f2); (try clear f3); (try clear f6); (try clear e2); (try clear e3); (try clear e6); omega) | omega | exact ⟨by (first | ((try clear hn1); (try clear hm); (try clear c1); (try clear c2); (try clear f2); (try clear f3); (try clear f6); (try clear e2); (try clear e3); (try clear e6); omega) | omega), by (first | ((try clear hn1); (try clear hm); (try clear c1); (try clear c2); (try clear f2); (try clear f3); (try clear f6); (try clear e2); (try clear e3); (try clear e6); omega) | omega)⟩) (by intro h; have h7 := hn1 h; have h8 := (hm.2 h).2.1; omega) (by first | assumption | ((try clear hn1); (try clear hm); (try clear c1); (try clear c2); (try clear f2); (try clear f3); (try clear f6); (try clear e2); (try clear e3); (try clear e6); omega) | omega | exact ⟨by (first | ((try clear hn1); (try clear hm); (try clear c1); (try clear c2); (try clear f2); (try clear f3); (try clear f6); (try clear e2); (try clear e3); (try clear e6); omega) | omega), by (first | ((try clear hn1); (try clear hm); (try clear c1); (try clear c2); (try clear f2); (try clear f3); (try clear f6); (try clear e2); (try clear e3); (try clear e6); omega) | omega)⟩) (by first | assumption | ((try clear hn1); (try clear hm); (try clear c1); (try clear c2); (try clear f2); (try clear f3); (try clear f6); (try clear e2); (try clear e3); (try clear e6); omega) | omega | exact ⟨by (first | ((try clear hn1); (try clear hm); (try clear c1); (try clear c2); (try clear f2); (try clear f3); (try clear f6); (try clear e2); (try clear e3); (try clear e6); omega) | omega), by (first | ((try clear hn1); (try clear hm); (try clear c1); (try clear c2); (try clear f2); (try clear f3); (try clear f6); (try clear e2); (try clear e3); (try clear e6); omega) | omega)⟩) (by exact ⟨(hs_t _).1.trans g1, (hs_t _).2.1.trans g2, (hs_t _).2.2.trans g3, RA_kept g4 (fun x _ _ => hs_t x)⟩) (by exact ⟨(hs_u1 _).1.trans p1, (hs_u1 _).2.1.trans p2, (hs_u1 _).2.2.trans p3, RA_kept p4 (fun x _ _ => hs_u1 x)⟩) (by exact ⟨f1, f2, f3, f4, f5, f6, f7⟩) (by exact ⟨e1, e2, e3, e4, e5, e6, e7⟩) (by exact hal.1) (by first | assumption | ((try clear hn1); (try clear hm); (try clear c1); (try clear c2); (try clear f2); (try clear f3); (try clear f6); (try clear e2); (try clear e3); (try clear e6); omega) | omega | exact ⟨by (first | ((try clear hn1); (try clear hm); (try clear c1); (try clear c2); (try clear f2); (try clear f3); (try clear f6); (try clear e2); (try clear e3); (try clear e6); omega) | omega), by (first | ((try clear hn1); (try clear hm); (try clear c1); (try clear c2); (try clear f2); (try clear f3); (try clear f6); (try clear e2); (try clear e3); (try clear e6); omega) | omega)⟩)) (cwV 5 hts (gV_G k1416 k1418 ks_yX10_fuses k13 k1419) rfl rfl rfl (by decide +kernel) ⟨by show d9 + 3 + 1 ≤ _; omega, by show 8 + (11 + 11) + (30 * d9 + 100) ≤ _; omega⟩) ⟨fun a U g mk q => by obtain ⟨q0, q1, qP, qK⟩ := q; exact ⟨q0, q1, qP, va_K.moved (u := U) (U := U.calling g mk a) (Vm.Alike.refl U.vm) qK⟩, va_recv hK hP (ci := 10) (q0 := 0) rfl ((fw_get (by decide)).trans (by rw [mE_obj]; rfl)), fun U hU hW => ⟨rfl, by rw [hU], by rw [hU]; exact hP, va_K.moved hW.alike hK⟩⟩ rfl rfl hl.1 rfl (lv_room (Nat.le_of_ble_eq_true rfl)) dX10_fuses_202 ⟨hRc, hRs⟩) hS (fun q _ h => fA_le hS.1 q h) (fA_le hS.1) (fun r9 u9 t9 H1 locs ht9 hvm9 hw9 hB9 hz9 hk9 hS => ?_)
      obtain ⟨μd, rd⟩ := u9
      obtain ⟨hP, -⟩ := hB9
      rw [ht9] at hP
      generalize H1 = H at hP hS ⊢
      obtain ⟨e9, hw9⟩ := hw9
      have e9 : r9 = iZ rd := e9
      subst e9
      simp only at hP hw9
      have hμd := hw9; clear hw9
      obtain ⟨c1, c2, c3⟩ := hμd
      have hfc := rfC_rng (Std.DTreeMap.Internal.Impl.inner z9 k9 v9 l9 w9) (Std.DTreeMap.Internal.Impl.inner y9 m9 x9_ b9 u9_)
      have ks_t : ∀ x, μd (507 + t.toNat) x = μ (507 + t.toNat) x ∧ μd (649 + t.toNat) x = μ (649 + t.toNat) x := fun x => by
        by_cases h9 : o1 = -1
        · rw [c1 h9]; exact ⟨rfl, rfl⟩
        · have h8 := (c2 (by (first | ((try clear hn1); (try clear hm); (try clear c1); (try clear c2); (try clear f2); (try clear f3); (try clear f6); (try clear e2); (try clear e3); (try clear e6); omega) | omega))).1
          exact ⟨h8 _ _ (by (first | ((try clear ho); (try clear hn1); (try clear hm); (try clear c1); (try clear c2); (try clear f2); (try clear f3); (try clear f6); (try clear e2); (try clear e3); (try clear e6); unfold PG; omega) | (unfold PG; omega))), h8 _ _ (by (first | ((try clear ho); (try clear hn1); (try clear hm); (try clear c1); (try clear c2); (try clear f2); (try clear f3); (try clear f6); (try clear e2); (try clear e3); (try clear e6); unfold PG; omega) | (unfold PG; omega)))⟩
      have ks_u : ∀ x, μd (649 + u1.toNat) x = μ (649 + u1.toNat) x := fun x => by
        by_cases h9 : o1 = -1
        · rw [c1 h9]
        · exact (c2 (by (first | ((try clear hn1); (try clear hm); (try clear c1); (try clear c2); (try clear f2); (try clear f3); (try clear f6); (try clear e2); (try clear e3); (try clear e6); omega) | omega))).1 _ _ (by (first | ((try clear ho); (try clear hn1); (try clear hm); (try clear c1); (try clear c2); (try clear f2); (try clear f3); (try clear f6); (try clear e2); (try clear e3); (try clear e6); unfold PG; omega) | (unfold PG; omega)))
      refine lv_iadd hx hb dX10_fuses_205 ?_
      refine lv_topi (fun x9 ex9 => ?_)
      obtain rfl : x9 = iZ (x + rd) := ex9.trans (iZ_add _ _)
      refine lv_istore (lv' := [(8, .int (iZ (x + rd))), (10, .int (iZ (a))), (9, .int (iZ (b))), (7, .int (iZ (y1))), (0, .ref h0), (1, .int (iZ (t))), (2, .int (iZ (i))), (3, .int (iZ (u1))), (5, .int (iZ (o1)))]) hx hb dX10_fuses_206 hl (by decide) rfl (fun ls hl => ?_)
      refine lv_iload hx hb dX10_fuses_208 (lv_at hl 2 rfl) ?_
      refine lv_aload_n hx hb dX10_fuses_210 rfl (lv_at hl 4 rfl) ?_
      refine fz_get (D := (dC, dI)) (ci := 10) (v := .ref (h0 + 648)) (C := RX10) (T := TX10) (N := 53) hx hb hts inG10 hown hK hP (k := 0) (by decide) (F := mF h0) mE_obj rfl 20 (by decide) (hts _ k1186) (fun _ h9 => h9) rfl dX10_fuses_211 ?_
      refine lv_iload_n hx hb dX10_fuses_214 rfl (lv_at hl 7 rfl) ?_
      refine fz_ald (k := 648) (n := 70) (k2 := (649 + (u1).toNat)) hx hb hK hP 2 rfl (by decide) mE_span rfl ⟨by (first | ((try clear hn1); (try clear hm); (try clear c1); (try clear c2); (try clear f2); (try clear f3); (try clear f6); (try clear e2); (try clear e3); (try clear e6); omega) | omega), by (first | ((try clear hn1); (try clear hm); (try clear c1); (try clear c2); (try clear f2); (try clear f3); (try clear f6); (try clear e2); (try clear e3); (try clear e6); omega) | omega)⟩ (by decide) (if_pos (by (first | ((try clear hn1); (try clear hm); (try clear c1); (try clear c2); (try clear f2); (try clear f3); (try clear f6); (try clear e2); (try clear e3); (try clear e6); omega) | omega))) dX10_fuses_215 ?_
      refine lv_iload hx hb dX10_fuses_216 (lv_at hl 2 rfl) ?_
      refine fz_ld (k := (649 + (u1).toNat)) (n := 900) hx hb hK hP 0 (by (first | ((try clear hn1); (try clear hm); (try clear c1); (try clear c2); (try clear f2); (try clear f3); (try clear f6); (try clear e2); (try clear e3); (try clear e6); omega) | omega)) (mE_spanR (by (first | ((try clear hn1); (try clear hm); (try clear c1); (try clear c2); (try clear f2); (try clear f3); (try clear f6); (try clear e2); (try clear e3); (try clear e6); omega) | omega))) rfl ⟨by (first | ((try clear hn1); (try clear hm); (try clear c1); (try clear c2); (try clear f2); (try clear f3); (try clear f6); (try clear e2); (try clear e3); (try clear e6); omega) | omega), by (first | ((try clear hn1); (try clear hm); (try clear c1); (try clear c2); (try clear f2); (try clear f3); (try clear f6); (try clear e2); (try clear e3); (try clear e6); omega) | omega)⟩ (by decide) dX10_fuses_218 ?_
      rw [show μd (649 + (u1).toNat) (b).toNat = 1 + (rN b9 : Int) from (by rw [ks_u, (hs_u1 _).2.2]; exact p3)]
      refine lv_iadd hx hb dX10_fuses_219 ?_
      refine lv_topi (fun x9 ex9 => ?_)
      obtain rfl : x9 = iZ (b + (1 + (rN b9 : Int))) := ex9.trans (iZ_add _ _)
      refine lv_istore (lv' := [(9, .int (iZ (b + (1 + (rN b9 : Int))))), (8, .int (iZ (x + rd))), (10, .int (iZ (a))), (7, .int (iZ (y1))), (0, .ref h0), (1, .int (iZ (t))), (2, .int (iZ (i))), (3, .int (iZ (u1))), (5, .int (iZ (o1)))]) hx hb dX10_fuses_220 hl (by decide) rfl (fun ls hl => ?_)
      refine lv_iload hx hb dX10_fuses_222 (lv_at hl 2 rfl) ?_
      refine lv_aload_n hx hb dX10_fuses_224 rfl (lv_at hl 4 rfl) ?_
      refine fz_get (D := (dC, dI)) (ci := 10) (v := .ref (h0 + 648)) (C := RX10) (T := TX10) (N := 53) hx hb hts inG10 hown hK hP (k := 0) (by decide) (F := mF h0) mE_obj rfl 20 (by decide) (hts _ k1186) (fun _ h9 => h9) rfl dX10_fuses_225 ?_
      refine lv_iload_n hx hb dX10_fuses_228 rfl (lv_at hl 5 rfl) ?_
      refine fz_ald (k := 648) (n := 70) (k2 := (649 + (t).toNat)) hx hb hK hP 2 rfl (by decide) mE_span rfl ⟨by (first | ((try clear hn1); (try clear hm); (try clear c1); (try clear c2); (try clear f2); (try clear f3); (try clear f6); (try clear e2); (try clear e3); (try clear e6); omega) | omega), by (first | ((try clear hn1); (try clear hm); (try clear c1); (try clear c2); (try clear f2); (try clear f3); (try clear f6); (try clear e2); (try clear e3); (try clear e6); omega) | omega)⟩ (by decide) (if_pos (by (first | ((try clear hn1); (try clear hm); (try clear c1); (try clear c2); (try clear f2); (try clear f3); (try clear f6); (try clear e2); (try clear e3); (try clear e6); omega) | omega))) dX10_fuses_229 ?_
      refine lv_iload hx hb dX10_fuses_230 (lv_at hl 2 rfl) ?_
      refine fz_ld (k := (649 + (t).toNat)) (n := 900) hx hb hK hP 0 (by (first | ((try clear hn1); (try clear hm); (try clear c1); (try clear c2); (try clear f2); (try clear f3); (try clear f6); (try clear e2); (try clear e3); (try clear e6); omega) | omega)) (mE_spanR (by (first | ((try clear hn1); (try clear hm); (try clear c1); (try clear c2); (try clear f2); (try clear f3); (try clear f6); (try clear e2); (try clear e3); (try clear e6); omega) | omega))) rfl ⟨by (first | ((try clear hn1); (try clear hm); (try clear c1); (try clear c2); (try clear f2); (try clear f3); (try clear f6); (try clear e2); (try clear e3); (try clear e6); omega) | omega), by (first | ((try clear hn1); (try clear hm); (try clear c1); (try clear c2); (try clear f2); (try clear f3); (try clear f6); (try clear e2); (try clear e3); (try clear e6); omega) | omega)⟩ (by decide) dX10_fuses_232 ?_
      rw [show μd (649 + (t).toNat) (a).toNat = 1 + (rN l9 : Int) from (by rw [(ks_t _).2, (hs_t _).2.2]; exact g3)]
      refine lv_iadd hx hb dX10_fuses_233 ?_
      refine lv_topi (fun x9 ex9 => ?_)
      obtain rfl : x9 = iZ (a + (1 + (rN l9 : Int))) := ex9.trans (iZ_add _ _)
      refine lv_istore (lv' := [(10, .int (iZ (a + (1 + (rN l9 : Int))))), (9, .int (iZ (b + (1 + (rN b9 : Int))))), (8, .int (iZ (x + rd))), (7, .int (iZ (y1))), (0, .ref h0), (1, .int (iZ (t))), (2, .int (iZ (i))), (3, .int (iZ (u1))), (5, .int (iZ (o1)))]) hx hb dX10_fuses_234 hl (by decide) rfl (fun ls hl => ?_)
      refine lv_goto (tgt := 176) hx hb dX10_fuses_236 (by decide) ?_
      exact ih (a + (1 + (rN l9 : Int))) (b + (1 + (rN b9 : Int))) (x + rd) (w9) (u9_) μd H locs ls (by
                    refine ⟨fun h => by rw [c1 h]; exact hm.1 h, fun h => ?_⟩
                    obtain ⟨d1, d2, d3⟩ := c2 h
                    obtain ⟨m1, m2, m3⟩ := hm.2 h
                    have hn8 := hn1 h
                    refine ⟨fr_trans m1 (fr_mono d1 (fun a b hp => by unfold PG at hp ⊢; omega)), by (first | ((try clear hn1); (try clear hm); (try clear c1); (try clear c2); (try clear f2); (try clear f3); (try clear f6); (try clear e2); (try clear e3); (try clear e6); omega) | omega), fun u8 ha8 hr8 => ?_⟩
                    have hl8 : rN (rfus l9 b9) = rN l9 := by
                      rcases hal.1 with ⟨q1, _⟩ | ⟨_, _, _, q4⟩
                      · unfold isTx at q1
                        obtain rfl := f2 (by (first | ((try clear hn1); (try clear hm); (try clear c1); (try clear c2); (try clear f2); (try clear f3); (try clear f6); (try clear e2); (try clear e3); (try clear e6); omega) | omega))
                        cases b9 <;> rfl
                      · exact hfn q4
                    obtain ⟨i1, i2, i3, i4⟩ := d3
                    have hq8 := ha8 (μ 719 o1.toNat).toNat (by (first | ((try clear hn1); (try clear hm); (try clear c1); (try clear c2); (try clear f2); (try clear f3); (try clear f6); (try clear e2); (try clear e3); (try clear e6); omega) | omega)) (by (first | ((try clear hn1); (try clear hm); (try clear c1); (try clear c2); (try clear f2); (try clear f3); (try clear f6); (try clear e2); (try clear e3); (try clear e6); omega) | omega))
                    refine m3 u8 (fun y hy1 hy2 => ?_) ⟨hq8.1.trans i1, hq8.2.1.trans i2, hq8.2.2.trans i3, RA_kept i4 (fun y hy1 hy2 => ha8 y (by (first | ((try clear hn1); (try clear hm); (try clear c1); (try clear c2); (try clear f2); (try clear f3); (try clear f6); (try clear e2); (try clear e3); (try clear e6); omega) | omega)) (by (first | ((try clear hn1); (try clear hm); (try clear c1); (try clear c2); (try clear f2); (try clear f3); (try clear f6); (try clear e2); (try clear e3); (try clear e6); omega) | omega))), ?_⟩
                    · have h7 := ha8 y (by (first | ((try clear hn1); (try clear hm); (try clear c1); (try clear c2); (try clear f2); (try clear f3); (try clear f6); (try clear e2); (try clear e3); (try clear e6); omega) | omega)) (by (first | ((try clear hn1); (try clear hm); (try clear c1); (try clear c2); (try clear f2); (try clear f3); (try clear f6); (try clear e2); (try clear e3); (try clear e6); omega) | omega))
                      rw [h7.1, h7.2.1, h7.2.2]
                      exact ⟨d1 _ _ (by (first | ((try clear ho); (try clear hn1); (try clear hm); (try clear c1); (try clear c2); (try clear f2); (try clear f3); (try clear f6); (try clear e2); (try clear e3); (try clear e6); unfold PG; omega) | (unfold PG; omega))), d1 _ _ (by (first | ((try clear ho); (try clear hn1); (try clear hm); (try clear c1); (try clear c2); (try clear f2); (try clear f3); (try clear f6); (try clear e2); (try clear e3); (try clear e6); unfold PG; omega) | (unfold PG; omega))), d1 _ _ (by (first | ((try clear ho); (try clear hn1); (try clear hm); (try clear c1); (try clear c2); (try clear f2); (try clear f3); (try clear f6); (try clear e2); (try clear e3); (try clear e6); unfold PG; omega) | (unfold PG; omega)))⟩
                    · rw [show (μ 719 o1.toNat).toNat + 1 + rN (rfus l9 b9) = (μd 719 o1.toNat).toNat by (first | ((try clear hn1); (try clear hm); (try clear c1); (try clear c2); (try clear f2); (try clear f3); (try clear f6); (try clear e2); (try clear e3); (try clear e6); omega) | omega)]
                      exact hr8) (by rw [show (a + (1 + (rN l9 : Int))).toNat = a.toNat + 1 + rN l9 by (first | ((try clear hn1); (try clear hm); (try clear c1); (try clear c2); (try clear f2); (try clear f3); (try clear f6); (try clear e2); (try clear e3); (try clear e6); omega) | omega)]; exact g5) (by rw [show (b + (1 + (rN b9 : Int))).toNat = b.toNat + 1 + rN b9 by (first | ((try clear hn1); (try clear hm); (try clear c1); (try clear c2); (try clear f2); (try clear f3); (try clear f6); (try clear e2); (try clear e3); (try clear e6); omega) | omega)]; exact p5) (by (first | ((try clear hn1); (try clear hm); (try clear c1); (try clear c2); (try clear f2); (try clear f3); (try clear f6); (try clear e2); (try clear e3); (try clear e6); omega) | omega)) (by (first | ((try clear hn1); (try clear hm); (try clear c1); (try clear c2); (try clear f2); (try clear f3); (try clear f6); (try clear e2); (try clear e3); (try clear e6); omega) | omega)) (by exact hal.2) (by
                    have h9 := hx0
                    rw [rfC] at h9
                    have h7 := fC_rng (k := k9) (v := v9) (k2 := m9) (v2 := x9_) (rfC_rng l9 b9)
                    omega) (by (first | ((try clear hn1); (try clear hm); (try clear c1); (try clear c2); (try clear f2); (try clear f3); (try clear f6); (try clear e2); (try clear e3); (try clear e6); omega) | omega)) (by exact f8) (by exact e8) (by (first | ((try clear hn1); (try clear hm); (try clear c1); (try clear c2); (try clear f2); (try clear f3); (try clear f6); (try clear e2); (try clear e3); (try clear e6); omega) | omega)) hP hS (lv_sub hl [0, 1, 2, 3, 4, 5, 6, 7, 8] rfl)
set_option maxHeartbeats 4000000 in
set_option maxRecDepth 100000 in
theorem m_fuses (l : Launch) (dC : Nat → ClassId) (dI : Nat → Nat → Nat) (cI cZ cII cIII : ClassId) (h0 : Nat) : ∀ (d : Nat), ∀ (sz : Nat) (μ : va_M) (t : Int) (i : Int) (u1 : Int) (j : Int) (o1 : Int) (k : Nat) (v : Int) (w1 : Rw) (k2 : Nat) (v2 : Int) (b1 : Rw), (0 ≤ t ∧ t < 70) → (0 ≤ u1 ∧ u1 < 70) → (-1 ≤ o1 ∧ o1 < 70 ∧ o1 ≠ t ∧ o1 ≠ u1) → (0 ≤ o1 → 0 ≤ μ 719 o1.toNat ∧ μ 719 o1.toNat + 1 + rN w1 ≤ 900) → (0 ≤ i ∧ i + 1 + rN w1 ≤ 900) → (0 ≤ j ∧ j + 1 + rN b1 ≤ 900) → (IA μ t.toNat i.toNat k v w1) → (IA μ u1.toNat j.toNat k2 v2 b1) → (iWF k v w1) → (iWF k2 v2 b1) → (ialk k v w1 k2 v2 b1) → (rH w1 ≤ d) → Met l yX10_fuses (Cond.code yX10_fuses cX10_fuses 11 (some .int) :: wsG) ({ frames := d + 3, cells := 0, slots := 0, locals := 30 * d + 100 } : Room) (va_Pc [.ref h0, .int (iZ (t)), .int (iZ (i)), .int (iZ (u1)), .int (iZ (j)), .int (iZ (o1))] (fun U => U.heap.size = sz ∧ va_P (dC, dI) vwCl (fw (mE cI cZ cII cIII h0) h0 6325 μ) U.heap ∧ va_K (dC, dI) vwCl (mT cI cZ cII cIII) U)) (va_Qi (fun (r9 : Int32) (u : va_M × Int) => r9 = iZ u.2 ∧ (fun (u : va_M) (r : Int) => (o1 = -1 → u = μ) ∧ (0 ≤ o1 → fr (PG o1.toNat (μ 719 o1.toNat).toNat) μ u ∧ u 719 o1.toNat = μ 719 o1.toNat + 1 + rN w1 ∧ IA u o1.toNat (μ 719 o1.toNat).toNat (fK k v k2 v2) (fV k v k2 v2) (rfus w1 b1)) ∧ r = fC k v k2 v2 (rfC w1 b1)) u.1 u.2) (fun u t => va_P (dC, dI) vwCl (fw (mE cI cZ cII cIII h0) h0 6325 u.1) t.heap ∧ va_K (dC, dI) vwCl (mT cI cZ cII cIII) t) (fA h0 6325 sz)) 0 0 (fA h0 6325 sz) := by
  intro d
  induction d using Nat.strongRecOn with
  | _ d ih =>
  intro sz μ t i u1 j o1 k v w1 k2 v2 b1 ht hu ho hcap hi hj h1 h2 hw1 hw2 hal hd
  refine Met.ofW (cc := cX10_fuses) (maxL := 11) (ret := (some .int)) (by decide) rfl ?_
  intro p e s m args below meth c s₁ B hml hv
  obtain ⟨rfl, hsz, hP, hK⟩ := hv
  have hx := B.exec
  have hb := B.bytes
  have hr := B.returns
  have hts : ∀ w ∈ wsG, w.before _ s = true := hG_of (atoms_spec (ws := (Cond.code yX10_fuses cX10_fuses 11 (some .int) :: wsG)) B.pre)
  have hown : s.vm.findClass RX10 = some m.cls := findClass_of_methodNamed B.named
  have hlocks := B.notSynchronized
  subst hsz
  have hS : va_S (fA h0 6325 s.heap.size) s.heap s.heap [] := va_S.rf
  have hl := lv_entry ([.ref h0, .int (iZ (t)), .int (iZ (i)), .int (iZ (u1)), .int (iZ (j)), .int (iZ (o1))]) (n := 11) (Nat.le_of_ble_eq_true rfl)
  rw [lg_entry_eq]
  generalize (lg_sl ([.ref h0, .int (iZ (t)), .int (iZ (i)), .int (iZ (u1)), .int (iZ (j)), .int (iZ (o1))]) ++ List.replicate (11 - (lg_sl ([.ref h0, .int (iZ (t)), .int (iZ (i)), .int (iZ (u1)), .int (iZ (j)), .int (iZ (o1))])).length) Slot.unset).toArray = ls at hl ⊢
  have hl : lv_has ls 11 [(0, .ref h0), (1, .int (iZ (t))), (2, .int (iZ (i))), (3, .int (iZ (u1))), (4, .int (iZ (j))), (5, .int (iZ (o1)))] := hl
  have hq1 := rI_le w1
  have hq2 := rI_le b1
  have hwA := hw1.1
  have hwB := hw2.1
  have hvA := hw1.2.2.2.1
  have hvB := hw1.2.2.2.2.1
  have hvC := hw2.2.2.2.1
  have hvD := hw2.2.2.2.2.1
  refine lv_aload_n hx hb dX10_fuses_0 rfl (lv_at hl 0 rfl) ?_
  refine fz_get (D := (dC, dI)) (ci := 10) (v := .ref (h0 + 506)) (C := RX10) (T := TX10) (N := 53) hx hb hts inG10 hown hK hP (k := 0) (by decide) (F := mF h0) mE_obj rfl 18 (by decide) (hts _ k1184) (fun _ h9 => h9) rfl dX10_fuses_1 ?_
  refine lv_iload_n hx hb dX10_fuses_4 rfl (lv_at hl 1 rfl) ?_
  refine fz_ald (k := 506) (n := 70) (k2 := (507 + (t).toNat)) hx hb hK hP 2 rfl (by decide) mE_sort rfl ⟨by (first | ((try clear hcap); (try clear ho); omega) | omega), by (first | ((try clear hcap); (try clear ho); omega) | omega)⟩ (by decide) (if_pos (by (first | ((try clear hcap); (try clear ho); omega) | omega))) dX10_fuses_5 ?_
  refine lv_iload_n hx hb dX10_fuses_6 rfl (lv_at hl 2 rfl) ?_
  refine fz_ld (k := (507 + (t).toNat)) (n := 900) hx hb hK hP 0 (by (first | ((try clear hcap); (try clear ho); omega) | omega)) (mE_sortR (by (first | ((try clear hcap); (try clear ho); omega) | omega))) rfl ⟨by (first | ((try clear hcap); (try clear ho); omega) | omega), by (first | ((try clear hcap); (try clear ho); omega) | omega)⟩ (by decide) dX10_fuses_7 ?_
  rw [show μ (507 + (t).toNat) (i).toNat = (k : Int) from (by exact h1.1)]
  refine lv_istore (lv' := [(6, .int (iZ ((k : Int)))), (0, .ref h0), (1, .int (iZ (t))), (2, .int (iZ (i))), (3, .int (iZ (u1))), (4, .int (iZ (j))), (5, .int (iZ (o1)))]) hx hb dX10_fuses_8 hl (by decide) rfl (fun ls hl => ?_)
  refine lv_iload hx hb dX10_fuses_10 (lv_at hl 0 rfl) ?_
  refine fz_if_ne (tgt := 33) (by constructor <;> (first | ((try clear hcap); (try clear ho); omega) | omega)) hx hb dX10_fuses_12 (by decide) (fun c12_ => ?_) (fun c12_ => ?_)
  · refine lv_iload hx hb dX10_fuses_33 (lv_at hl 0 rfl) ?_
    refine va_calli (va_runS (As := [.int (iZ ((k : Int)))]) (rest := []) ⟨hx, hb, hml, hown, hts⟩ (m_isText l dC dI cI cZ cII cIII h0 s.heap.size μ ((k : Int)) (by first | assumption | ((try clear hcap); (try clear ho); omega) | omega | exact ⟨by (first | ((try clear hcap); (try clear ho); omega) | omega), by (first | ((try clear hcap); (try clear ho); omega) | omega)⟩)) (cwS 1 hts (gS_G k1397 k1398 k13 k1399) rfl rfl rfl (by decide +kernel) ⟨by show 1 + 1 ≤ d + 3; omega, by show 8 + (1 + 11) + (14) ≤ 30 * d + 100; omega⟩) ⟨fun a U g mk q => by obtain ⟨q0, q1, qP, qK⟩ := q; exact ⟨q0, q1, qP, va_K.moved (u := U) (U := U.calling g mk a) (Vm.Alike.refl U.vm) qK⟩, fun U hU hW => ⟨rfl, by rw [hU], by rw [hU]; exact hP, va_K.moved hW.alike hK⟩⟩ rfl rfl hl.1 rfl (lv_room (Nat.le_of_ble_eq_true rfl)) dX10_fuses_35 ⟨Nat.le_of_ble_eq_true rfl, Nat.le_of_ble_eq_true rfl⟩) hS (fun q _ h => fA_le hS.1 q h) (fA_le hS.1) (fun r9 u9 t9 H1 locs ht9 hvm9 hw9 hB9 hz9 hk9 hS => ?_)
    obtain ⟨μ1, r2⟩ := u9
    obtain ⟨hP, -⟩ := hB9
    rw [ht9] at hP
    generalize H1 = H at hP hS ⊢
    obtain ⟨e9, hw9⟩ := hw9
    have e9 : r9 = iZ r2 := e9
    subst e9
    simp only at hP hw9
    have hμ1 := hw9; clear hw9
    rw [hμ1.1] at hP; have hμ1 := hμ1.2
    refine fz_if_eq (tgt := 151) (by constructor <;> (first | ((try clear hcap); (try clear ho); omega) | omega)) hx hb dX10_fuses_38 (by decide) (fun c38_ => ?_) (fun c38_ => ?_)
    · have hkT : ¬ isTx k := by unfold isTx; split at hμ1 <;> omega
      have hk3 : 3 ≤ k := by unfold isTx at hkT; omega
      have hdp := rH_0 (hw1.2.2.1 hk3)
      have hal2 : ralk w1 b1 := by
        rcases hal with h | h
        · exact absurd h.1 hkT
        · exact h.2.2.2
      refine lv_aload_n hx hb dX10_fuses_151 rfl (lv_at hl 1 rfl) ?_
      refine lv_iload hx hb dX10_fuses_152 (lv_at hl 6 rfl) ?_
      refine lv_iload hx hb dX10_fuses_154 (lv_at hl 0 rfl) ?_
      refine lv_iconst (v := iZ (-1)) hx hb dX10_fuses_156 rfl ?_
      refine va_calli (va_runV (As := [.int (iZ (o1)), .int (iZ ((k : Int))), .int (iZ ((-1)))]) (rest := []) ⟨hx, hb, hml, hown, hts⟩ (m_adds l dC dI cI cZ cII cIII h0 H.size μ (o1) ((k : Int)) ((-1)) (by first | assumption | ((try clear hcap); (try clear ho); omega) | omega | exact ⟨by (first | ((try clear hcap); (try clear ho); omega) | omega), by (first | ((try clear hcap); (try clear ho); omega) | omega)⟩) (by intro h; have h9 := hcap h; omega)) (cwV 3 hts (gV_G k1377 k1379 ks_yX10_adds k13 k1380) rfl rfl rfl (by decide +kernel) ⟨by show 1 + 1 ≤ d + 3; omega, by show 8 + (5 + 11) + (14) ≤ 30 * d + 100; omega⟩) ⟨fun a U g mk q => by obtain ⟨q0, q1, qP, qK⟩ := q; exact ⟨q0, q1, qP, va_K.moved (u := U) (U := U.calling g mk a) (Vm.Alike.refl U.vm) qK⟩, va_recv hK hP (ci := 10) (q0 := 0) rfl ((fw_get (by decide)).trans (by rw [mE_obj]; rfl)), fun U hU hW => ⟨rfl, by rw [hU], by rw [hU]; exact hP, va_K.moved hW.alike hK⟩⟩ rfl rfl hl.1 rfl (lv_room (Nat.le_of_ble_eq_true rfl)) dX10_fuses_157 ⟨Nat.le_of_ble_eq_true rfl, Nat.le_of_ble_eq_true rfl⟩) hS (fun q _ h => fA_le hS.1 q h) (fA_le hS.1) (fun r9 u9 t9 H1 locs ht9 hvm9 hw9 hB9 hz9 hk9 hS => ?_)
      obtain ⟨μc, yc⟩ := u9
      obtain ⟨hP, -⟩ := hB9
      rw [ht9] at hP
      generalize H1 = H at hP hS ⊢
      obtain ⟨e9, hw9⟩ := hw9
      have e9 : r9 = iZ yc := e9
      subst e9
      simp only at hP hw9
      have hμc := hw9; clear hw9
      refine lv_istore (lv' := [(7, .int (iZ (yc))), (6, .int (iZ ((k : Int)))), (0, .ref h0), (1, .int (iZ (t))), (2, .int (iZ (i))), (3, .int (iZ (u1))), (4, .int (iZ (j))), (5, .int (iZ (o1)))]) hx hb dX10_fuses_160 hl (by decide) rfl (fun ls hl => ?_)
      refine lv_iconst (v := iZ 0) hx hb dX10_fuses_162 rfl ?_
      refine lv_istore (lv' := [(8, .int (iZ (0))), (7, .int (iZ (yc))), (6, .int (iZ ((k : Int)))), (0, .ref h0), (1, .int (iZ (t))), (2, .int (iZ (i))), (3, .int (iZ (u1))), (4, .int (iZ (j))), (5, .int (iZ (o1)))]) hx hb dX10_fuses_163 hl (by decide) rfl (fun ls hl => ?_)
      refine lv_iload hx hb dX10_fuses_165 (lv_at hl 7 rfl) ?_
      refine lv_iconst (v := iZ 1) hx hb dX10_fuses_167 rfl ?_
      refine lv_iadd hx hb dX10_fuses_168 ?_
      refine lv_topi (fun x9 ex9 => ?_)
      obtain rfl : x9 = iZ (j + 1) := ex9.trans (iZ_add _ _)
      refine lv_istore (lv' := [(9, .int (iZ (j + 1))), (8, .int (iZ (0))), (7, .int (iZ (yc))), (6, .int (iZ ((k : Int)))), (0, .ref h0), (1, .int (iZ (t))), (2, .int (iZ (i))), (3, .int (iZ (u1))), (4, .int (iZ (j))), (5, .int (iZ (o1)))]) hx hb dX10_fuses_169 hl (by decide) rfl (fun ls hl => ?_)
      refine lv_iload_n hx hb dX10_fuses_171 rfl (lv_at hl 6 rfl) ?_
      refine lv_iconst (v := iZ 1) hx hb dX10_fuses_172 rfl ?_
      refine lv_iadd hx hb dX10_fuses_173 ?_
      refine lv_topi (fun x9 ex9 => ?_)
      obtain rfl : x9 = iZ (i + 1) := ex9.trans (iZ_add _ _)
      refine lv_istore (lv' := [(10, .int (iZ (i + 1))), (9, .int (iZ (j + 1))), (8, .int (iZ (0))), (7, .int (iZ (yc))), (6, .int (iZ ((k : Int)))), (0, .ref h0), (1, .int (iZ (t))), (2, .int (iZ (i))), (3, .int (iZ (u1))), (4, .int (iZ (j))), (5, .int (iZ (o1)))]) hx hb dX10_fuses_174 hl (by decide) rfl (fun ls hl => ?_)
      refine LX10_fuses_176 (d9 := d - 1) hx hb hml hown hts hK (by show (d - 1) + 3 + 1 ≤ d + 3; omega) (by show 8 + (11 + 11) + (30 * (d - 1) + 100) ≤ 30 * d + 100; omega) (Nat.le_of_ble_eq_true rfl) (Nat.le_of_ble_eq_true rfl) (ih (d - 1) (by (first | ((try clear hcap); (try clear ho); omega) | omega))) (μc) (t) (i) (u1) (j) (o1) (yc) (μ 719 o1.toNat + 1) (w1) (b1) (by assumption) (by assumption) (by assumption) (by assumption) (by assumption) (by
                    by_cases h9 : o1 = -1
                    · rw [(hμc.1 h9).1]; exact h1.2.2.1
                    · rw [(hμc.2 (by (first | ((try clear hcap); (try clear ho); omega) | omega))).1, uz_n (by (first | ((try clear hcap); (try clear ho); omega) | omega)), uz_n (by (first | ((try clear hcap); (try clear ho); omega) | omega)), uz_n (by (first | ((try clear hcap); (try clear ho); omega) | omega)), uz_n (by (first | ((try clear hcap); (try clear ho); omega) | omega))]; exact h1.2.2.1) (by intro h; have h9 := hcap h; omega) ?_ _ (i + 1) (j + 1) (0) (w1) (b1) μc H locs ls (by
                    refine ⟨fun _ => rfl, fun h => ?_⟩
                    obtain ⟨e1, e2⟩ := hμc.2 h
                    exact ⟨fr_rfl, by rw [e1, uz_s]; omega, fun u8 _ hr8 => by
                      rw [e1, uz_s] at hr8
                      exact hr8⟩) (by
                    rw [show (i + 1).toNat = i.toNat + 1 by (first | ((try clear hcap); (try clear ho); omega) | omega)]
                    refine RA_kept h1.2.2.2 (fun x _ _ => ?_)
                    by_cases h9 : o1 = -1
                    · rw [(hμc.1 h9).1]; exact ⟨rfl, rfl, rfl⟩
                    · rw [(hμc.2 (by (first | ((try clear hcap); (try clear ho); omega) | omega))).1]; exact ⟨by rw [uz_n (by (first | ((try clear hcap); (try clear ho); omega) | omega)), uz_n (by (first | ((try clear hcap); (try clear ho); omega) | omega)), uz_n (by (first | ((try clear hcap); (try clear ho); omega) | omega)), uz_n (by (first | ((try clear hcap); (try clear ho); omega) | omega))], by rw [uz_n (by (first | ((try clear hcap); (try clear ho); omega) | omega)), uz_n (by (first | ((try clear hcap); (try clear ho); omega) | omega)), uz_n (by (first | ((try clear hcap); (try clear ho); omega) | omega)), uz_n (by (first | ((try clear hcap); (try clear ho); omega) | omega))], by rw [uz_n (by (first | ((try clear hcap); (try clear ho); omega) | omega)), uz_n (by (first | ((try clear hcap); (try clear ho); omega) | omega)), uz_n (by (first | ((try clear hcap); (try clear ho); omega) | omega)), uz_n (by (first | ((try clear hcap); (try clear ho); omega) | omega))]⟩) (by
                    rw [show (j + 1).toNat = j.toNat + 1 by (first | ((try clear hcap); (try clear ho); omega) | omega)]
                    refine RA_kept h2.2.2.2 (fun x _ _ => ?_)
                    by_cases h9 : o1 = -1
                    · rw [(hμc.1 h9).1]; exact ⟨rfl, rfl, rfl⟩
                    · rw [(hμc.2 (by (first | ((try clear hcap); (try clear ho); omega) | omega))).1]; exact ⟨by rw [uz_n (by (first | ((try clear hcap); (try clear ho); omega) | omega)), uz_n (by (first | ((try clear hcap); (try clear ho); omega) | omega)), uz_n (by (first | ((try clear hcap); (try clear ho); omega) | omega)), uz_n (by (first | ((try clear hcap); (try clear ho); omega) | omega))], by rw [uz_n (by (first | ((try clear hcap); (try clear ho); omega) | omega)), uz_n (by (first | ((try clear hcap); (try clear ho); omega) | omega)), uz_n (by (first | ((try clear hcap); (try clear ho); omega) | omega)), uz_n (by (first | ((try clear hcap); (try clear ho); omega) | omega))], by rw [uz_n (by (first | ((try clear hcap); (try clear ho); omega) | omega)), uz_n (by (first | ((try clear hcap); (try clear ho); omega) | omega)), uz_n (by (first | ((try clear hcap); (try clear ho); omega) | omega)), uz_n (by (first | ((try clear hcap); (try clear ho); omega) | omega))]⟩) (by (first | ((try clear hcap); (try clear ho); omega) | omega)) (by (first | ((try clear hcap); (try clear ho); omega) | omega)) (by exact hal2) (by exact ⟨by (first | ((try clear hcap); (try clear ho); omega) | omega), by (first | ((try clear hcap); (try clear ho); omega) | omega)⟩) (by (first | ((try clear hcap); (try clear ho); omega) | omega)) (by exact hw1.2.2.2.2.2.2) (by exact hw2.2.2.2.2.2.2) (Nat.lt_succ_self _) hP hS (lv_sub hl [0, 1, 2, 3, 5, 6, 7, 8, 10] rfl)
      · intro a_3 b_3 x_3 w_3 w2_3 μ3_ H locs ls q1_3 q2_3 hP hS hl
        have hl : lv_has ls 11 [(8, .int (iZ (x_3))), (7, .int (iZ (yc))), (0, .ref h0), (5, .int (iZ (o1)))] := hl
        refine lv_aload_n hx hb dX10_fuses_239 rfl (lv_at hl 2 rfl) ?_
        refine lv_iload hx hb dX10_fuses_240 (lv_at hl 3 rfl) ?_
        refine lv_iload hx hb dX10_fuses_242 (lv_at hl 1 rfl) ?_
        refine va_callv (va_runV (As := [.int (iZ (o1)), .int (iZ (yc))]) (rest := []) ⟨hx, hb, hml, hown, hts⟩ (m_closes l dC dI cI cZ cII cIII h0 H.size μ3_ (o1) (yc) (by first | assumption | ((try clear hcap); (try clear ho); omega) | omega | exact ⟨by (first | ((try clear hcap); (try clear ho); omega) | omega), by (first | ((try clear hcap); (try clear ho); omega) | omega)⟩) (by intro h; have h9 := hcap h; have h8 := (hμc.2 h).2; omega)) (cwV 2 hts (gV_G k1420 k1422 ks_yX10_closes k13 k1423) rfl rfl rfl (by decide +kernel) ⟨by show 1 + 1 ≤ d + 3; omega, by show 8 + (3 + 11) + (14) ≤ 30 * d + 100; omega⟩) ⟨fun a U g mk q => by obtain ⟨q0, q1, qP, qK⟩ := q; exact ⟨q0, q1, qP, va_K.moved (u := U) (U := U.calling g mk a) (Vm.Alike.refl U.vm) qK⟩, va_recv hK hP (ci := 10) (q0 := 0) rfl ((fw_get (by decide)).trans (by rw [mE_obj]; rfl)), fun U hU hW => ⟨rfl, by rw [hU], by rw [hU]; exact hP, va_K.moved hW.alike hK⟩⟩ rfl rfl hl.1 rfl (lv_room (Nat.le_of_ble_eq_true rfl)) dX10_fuses_244 ⟨Nat.le_of_ble_eq_true rfl, Nat.le_of_ble_eq_true rfl⟩) hS (fun q _ h => fA_le hS.1 q h) (fA_le hS.1) (fun u9 t9 H1 locs ht9 hvm9 hw9 hB9 hz9 hk9 hS => ?_)
        obtain ⟨hP, -⟩ := hB9
        rw [ht9] at hP
        generalize H1 = H at hP hS ⊢
        obtain ⟨μ4, eμ4⟩ : ∃ x : va_M, x = u9 := ⟨_, rfl⟩
        rw [← eμ4] at hP hw9
        have hμ4 := hw9; clear hw9
        refine lv_iload hx hb dX10_fuses_247 (lv_at hl 0 rfl) ?_
        exact W.iret (v := iZ (x_3)) hx hb hr (fun t9 ht9 hW9 => ⟨⟨iZ (x_3), (μ4, x_3), rfl, ⟨rfl, (by
                        dsimp only
                        refine ⟨fun h => ?_, fun h => ?_, ?_⟩
                        · rw [hμ4.1 h, (q1_3).1 h, (hμc.1 h).1]
                        · obtain ⟨e1, e2⟩ := hμc.2 h
                          obtain ⟨m1, m2, m3⟩ := (q1_3).2 h
                          have hn9 := hcap h
                          rw [hμ4.2 h, e2]
                          have hfr9 : fr (PG o1.toNat (μ 719 o1.toNat).toNat) μ μ3_ := fr_trans (by rw [e1]; exact fr_uz (fr_uz (fr_uz (fr_uz fr_rfl (by (first | ((try clear ho); (try clear hcap); (try clear hal); (try clear hi); (try clear hj); (try clear hd); (try clear ht); (try clear hu); (try clear hq1); (try clear hq2); (try clear hvA); (try clear hvB); (try clear hvC); (try clear hvD); (try clear hwA); (try clear hwB); (try clear hkT); (try clear hμ1); (try clear hμ5); (try clear hμ7); (try clear hμ9); (try clear hμc); unfold PG; omega) | (unfold PG; omega)))) (by (first | ((try clear ho); (try clear hcap); (try clear hal); (try clear hi); (try clear hj); (try clear hd); (try clear ht); (try clear hu); (try clear hq1); (try clear hq2); (try clear hvA); (try clear hvB); (try clear hvC); (try clear hvD); (try clear hwA); (try clear hwB); (try clear hkT); (try clear hμ1); (try clear hμ5); (try clear hμ7); (try clear hμ9); (try clear hμc); unfold PG; omega) | (unfold PG; omega)))) (by (first | ((try clear ho); (try clear hcap); (try clear hal); (try clear hi); (try clear hj); (try clear hd); (try clear ht); (try clear hu); (try clear hq1); (try clear hq2); (try clear hvA); (try clear hvB); (try clear hvC); (try clear hvD); (try clear hwA); (try clear hwB); (try clear hkT); (try clear hμ1); (try clear hμ5); (try clear hμ7); (try clear hμ9); (try clear hμc); unfold PG; omega) | (unfold PG; omega)))) (by (first | ((try clear ho); (try clear hcap); (try clear hal); (try clear hi); (try clear hj); (try clear hd); (try clear ht); (try clear hu); (try clear hq1); (try clear hq2); (try clear hvA); (try clear hvB); (try clear hvC); (try clear hvD); (try clear hwA); (try clear hwB); (try clear hkT); (try clear hμ1); (try clear hμ5); (try clear hμ7); (try clear hμ9); (try clear hμc); unfold PG; omega) | (unfold PG; omega)))) (fr_mono m1 (fun a b hp => by unfold PG at hp ⊢; omega))
                          refine ⟨fr_uz hfr9 (by (first | ((try clear ho); (try clear hcap); (try clear hal); (try clear hi); (try clear hj); (try clear hd); (try clear ht); (try clear hu); (try clear hq1); (try clear hq2); (try clear hvA); (try clear hvB); (try clear hvC); (try clear hvD); (try clear hwA); (try clear hwB); (try clear hkT); (try clear hμ1); (try clear hμ5); (try clear hμ7); (try clear hμ9); (try clear hμc); unfold PG; omega) | (unfold PG; omega))), by rw [uz_n (by (first | ((try clear hcap); (try clear ho); omega) | omega))]; omega, ?_, ?_, ?_, ?_⟩
                          · rw [uz_n (by (first | ((try clear hcap); (try clear ho); omega) | omega)), m1 _ _ (by (first | ((try clear ho); (try clear hcap); (try clear hal); (try clear hi); (try clear hj); (try clear hd); (try clear ht); (try clear hu); (try clear hq1); (try clear hq2); (try clear hvA); (try clear hvB); (try clear hvC); (try clear hvD); (try clear hwA); (try clear hwB); (try clear hkT); (try clear hμ1); (try clear hμ5); (try clear hμ7); (try clear hμ9); (try clear hμc); unfold PG; omega) | (unfold PG; omega))), e1, uz_n (by (first | ((try clear hcap); (try clear ho); omega) | omega)), uz_n (by (first | ((try clear hcap); (try clear ho); omega) | omega)), uz_n (by (first | ((try clear hcap); (try clear ho); omega) | omega)), uz_s]
                            unfold isTx at hkT; unfold fK; rw [if_neg (by (first | ((try clear hcap); (try clear ho); omega) | omega))]
                          · rw [uz_n (by (first | ((try clear hcap); (try clear ho); omega) | omega)), m1 _ _ (by (first | ((try clear ho); (try clear hcap); (try clear hal); (try clear hi); (try clear hj); (try clear hd); (try clear ht); (try clear hu); (try clear hq1); (try clear hq2); (try clear hvA); (try clear hvB); (try clear hvC); (try clear hvD); (try clear hwA); (try clear hwB); (try clear hkT); (try clear hμ1); (try clear hμ5); (try clear hμ7); (try clear hμ9); (try clear hμc); unfold PG; omega) | (unfold PG; omega))), e1, uz_n (by (first | ((try clear hcap); (try clear ho); omega) | omega)), uz_n (by (first | ((try clear hcap); (try clear ho); omega) | omega)), uz_s]
                            unfold isTx at hkT; unfold fV; rw [if_neg (by (first | ((try clear hcap); (try clear ho); omega) | omega))]
                          · rw [uz_s, m2, rfus_N _ _ hw1.2.2.2.2.2.2 hw2.2.2.2.2.2.2 hal2]; omega
                          · rw [show (μ 719 o1.toNat).toNat + 1 = (μ 719 o1.toNat + 1).toNat by (first | ((try clear hcap); (try clear ho); omega) | omega)]
                            exact RA_kept m3 (fun x hx1 _ => ⟨uz_n (by (first | ((try clear hcap); (try clear ho); omega) | omega)), uz_n (by (first | ((try clear hcap); (try clear ho); omega) | omega)), uz_n (by (first | ((try clear hcap); (try clear ho); omega) | omega))⟩)
                        · rw [q2_3]; unfold isTx at hkT; unfold fC; rw [if_neg (by (first | ((try clear hcap); (try clear ho); omega) | omega))])⟩, by rw [ht9]; exact hP, va_K.moved hW9.alike hK⟩, hS.F ht9⟩) hS.2.2 dX10_fuses_249
    · have hkT : k = 1 ∨ k = 2 := by split at hμ1 <;> omega
      have hl0 := hw1.2.1 (by (first | ((try clear hcap); (try clear ho); omega) | omega))
      refine lv_iload hx hb dX10_fuses_41 (lv_at hl 0 rfl) ?_
      refine lv_iconst (v := iZ 1) hx hb dX10_fuses_43 rfl ?_
      refine fz_icmp_ne (tgt := 84) (by constructor <;> (first | ((try clear hcap); (try clear ho); omega) | omega)) (by decide) hx hb dX10_fuses_44 (by decide) (fun c44_ => ?_) (fun c44_ => ?_)
      · refine lv_iconst (v := iZ 0) hx hb dX10_fuses_84 rfl ?_
        refine lv_istore (lv' := [(7, .int (iZ (0))), (6, .int (iZ ((k : Int)))), (0, .ref h0), (1, .int (iZ (t))), (2, .int (iZ (i))), (3, .int (iZ (u1))), (4, .int (iZ (j))), (5, .int (iZ (o1)))]) hx hb dX10_fuses_85 hl (by decide) rfl (fun ls hl => ?_)
        refine lv_aload_n hx hb dX10_fuses_87 rfl (lv_at hl 2 rfl) ?_
        refine lv_iload hx hb dX10_fuses_88 (lv_at hl 7 rfl) ?_
        refine lv_iload hx hb dX10_fuses_90 (lv_at hl 0 rfl) ?_
        refine fz_if_eq (tgt := 99) (by decide) hx hb dX10_fuses_92 (by decide) (fun c92_ => ?_) (fun h9 => absurd h9 (by decide))
        refine lv_iconst (v := iZ 2) hx hb dX10_fuses_99 rfl ?_
        refine lv_iload hx hb dX10_fuses_100 (lv_at hl 0 rfl) ?_
        refine fz_if_eq (tgt := 116) (by decide) hx hb dX10_fuses_102 (by decide) (fun c102_ => ?_) (fun h9 => absurd h9 (by decide))
        refine lv_iconst (v := iZ (-1)) hx hb dX10_fuses_116 rfl ?_
        refine va_calli (va_runV (As := [.int (iZ (o1)), .int (iZ (2)), .int (iZ ((-1)))]) (rest := []) ⟨hx, hb, hml, hown, hts⟩ (m_adds l dC dI cI cZ cII cIII h0 H.size μ (o1) (2) ((-1)) (by first | assumption | ((try clear hcap); (try clear ho); omega) | omega | exact ⟨by (first | ((try clear hcap); (try clear ho); omega) | omega), by (first | ((try clear hcap); (try clear ho); omega) | omega)⟩) (by intro h; have h9 := hcap h; omega)) (cwV 3 hts (gV_G k1377 k1379 ks_yX10_adds k13 k1380) rfl rfl rfl (by decide +kernel) ⟨by show 1 + 1 ≤ d + 3; omega, by show 8 + (5 + 11) + (14) ≤ 30 * d + 100; omega⟩) ⟨fun a U g mk q => by obtain ⟨q0, q1, qP, qK⟩ := q; exact ⟨q0, q1, qP, va_K.moved (u := U) (U := U.calling g mk a) (Vm.Alike.refl U.vm) qK⟩, va_recv hK hP (ci := 10) (q0 := 0) rfl ((fw_get (by decide)).trans (by rw [mE_obj]; rfl)), fun U hU hW => ⟨rfl, by rw [hU], by rw [hU]; exact hP, va_K.moved hW.alike hK⟩⟩ rfl rfl hl.1 rfl (lv_room (Nat.le_of_ble_eq_true rfl)) dX10_fuses_117 ⟨Nat.le_of_ble_eq_true rfl, Nat.le_of_ble_eq_true rfl⟩) hS (fun q _ h => fA_le hS.1 q h) (fA_le hS.1) (fun r9 u9 t9 H1 locs ht9 hvm9 hw9 hB9 hz9 hk9 hS => ?_)
        obtain ⟨μ5, r6⟩ := u9
        obtain ⟨hP, -⟩ := hB9
        rw [ht9] at hP
        generalize H1 = H at hP hS ⊢
        obtain ⟨e9, hw9⟩ := hw9
        have e9 : r9 = iZ r6 := e9
        subst e9
        simp only at hP hw9
        have hμ5 := hw9; clear hw9
        refine lv_pop hx hb dX10_fuses_120 rfl ?_
        refine lv_iload hx hb dX10_fuses_121 (lv_at hl 0 rfl) ?_
        refine fz_if_ne (tgt := 149) (by decide) hx hb dX10_fuses_123 (by decide) (fun h9 => absurd h9 (by decide)) (fun c123_ => ?_)
        refine lv_iload hx hb dX10_fuses_126 (lv_at hl 1 rfl) ?_
        refine lv_iconst (v := iZ 1) hx hb dX10_fuses_128 rfl ?_
        refine fz_icmp_ne (tgt := 149) (by constructor <;> (first | ((try clear hcap); (try clear ho); omega) | omega)) (by decide) hx hb dX10_fuses_129 (by decide) (fun c129_ => ?_) (fun c129_ => ?_)
        · refine lv_iconst (v := iZ 0) hx hb dX10_fuses_149 rfl ?_
          exact W.iret (v := iZ (0)) hx hb hr (fun t9 ht9 hW9 => ⟨⟨iZ (0), (μ5, 0), rfl, ⟨rfl, (by
                            dsimp only
                            subst hl0
                            have hfl : rfus Std.DTreeMap.Internal.Impl.leaf b1 = Std.DTreeMap.Internal.Impl.leaf := by cases b1 <;> rfl
                            have hN0 : rN Std.DTreeMap.Internal.Impl.leaf = 0 := rfl
                            refine ⟨fun h => (hμ5.1 h).1, fun h => ?_, ?_⟩
                            · obtain ⟨e1, e2⟩ := hμ5.2 h
                              have hn9 := hcap h
                              rw [e1]
                              refine ⟨fr_uz (fr_uz (fr_uz (fr_uz fr_rfl (by (first | ((try clear ho); (try clear hcap); (try clear hal); (try clear hi); (try clear hj); (try clear hd); (try clear ht); (try clear hu); (try clear hq1); (try clear hq2); (try clear hvA); (try clear hvB); (try clear hvC); (try clear hvD); (try clear hwA); (try clear hwB); (try clear hkT); (try clear hμ1); (try clear hμ5); (try clear hμ7); (try clear hμ9); (try clear hμc); unfold PG; omega) | (unfold PG; omega)))) (by (first | ((try clear ho); (try clear hcap); (try clear hal); (try clear hi); (try clear hj); (try clear hd); (try clear ht); (try clear hu); (try clear hq1); (try clear hq2); (try clear hvA); (try clear hvB); (try clear hvC); (try clear hvD); (try clear hwA); (try clear hwB); (try clear hkT); (try clear hμ1); (try clear hμ5); (try clear hμ7); (try clear hμ9); (try clear hμc); unfold PG; omega) | (unfold PG; omega)))) (by (first | ((try clear ho); (try clear hcap); (try clear hal); (try clear hi); (try clear hj); (try clear hd); (try clear ht); (try clear hu); (try clear hq1); (try clear hq2); (try clear hvA); (try clear hvB); (try clear hvC); (try clear hvD); (try clear hwA); (try clear hwB); (try clear hkT); (try clear hμ1); (try clear hμ5); (try clear hμ7); (try clear hμ9); (try clear hμc); unfold PG; omega) | (unfold PG; omega)))) (by (first | ((try clear ho); (try clear hcap); (try clear hal); (try clear hi); (try clear hj); (try clear hd); (try clear ht); (try clear hu); (try clear hq1); (try clear hq2); (try clear hvA); (try clear hvB); (try clear hvC); (try clear hvD); (try clear hwA); (try clear hwB); (try clear hkT); (try clear hμ1); (try clear hμ5); (try clear hμ7); (try clear hμ9); (try clear hμc); unfold PG; omega) | (unfold PG; omega))), by rw [uz_s, hN0]; omega, ?_, ?_, ?_, ?_⟩
                              · rw [uz_n (by (first | ((try clear hcap); (try clear ho); omega) | omega)), uz_n (by (first | ((try clear hcap); (try clear ho); omega) | omega)), uz_n (by (first | ((try clear hcap); (try clear ho); omega) | omega)), uz_s]; unfold fK; first | ((try clear ho); (try clear hcap); (try clear hal); (try clear hi); (try clear hj); (try clear hd); (try clear ht); (try clear hu); (try clear hq1); (try clear hq2); (try clear hvA); (try clear hvB); (try clear hvC); (try clear hvD); (try clear hn9); (try clear hwB); (repeat (first | rw [if_pos (by (first | ((try clear hcap); (try clear ho); omega) | omega))] | rw [if_neg (by (first | ((try clear hcap); (try clear ho); omega) | omega))])) <;> first | omega | (cases b1 <;> rfl)) | ((repeat (first | rw [if_pos (by (first | ((try clear hcap); (try clear ho); omega) | omega))] | rw [if_neg (by (first | ((try clear hcap); (try clear ho); omega) | omega))])) <;> first | omega | (cases b1 <;> rfl))
                              · rw [uz_n (by (first | ((try clear hcap); (try clear ho); omega) | omega)), uz_n (by (first | ((try clear hcap); (try clear ho); omega) | omega)), uz_s]; unfold fV; first | ((try clear ho); (try clear hcap); (try clear hal); (try clear hi); (try clear hj); (try clear hd); (try clear ht); (try clear hu); (try clear hq1); (try clear hq2); (try clear hvA); (try clear hvB); (try clear hvC); (try clear hvD); (try clear hn9); (try clear hwB); (repeat (first | rw [if_pos (by (first | ((try clear hcap); (try clear ho); omega) | omega))] | rw [if_neg (by (first | ((try clear hcap); (try clear ho); omega) | omega))])) <;> first | omega | (cases b1 <;> rfl)) | ((repeat (first | rw [if_pos (by (first | ((try clear hcap); (try clear ho); omega) | omega))] | rw [if_neg (by (first | ((try clear hcap); (try clear ho); omega) | omega))])) <;> first | omega | (cases b1 <;> rfl))
                              · rw [uz_n (by (first | ((try clear hcap); (try clear ho); omega) | omega)), uz_s, hfl, hN0]; rfl
                              · rw [hfl]; trivial
                            · unfold fC; first | ((try clear ho); (try clear hcap); (try clear hal); (try clear hi); (try clear hj); (try clear hd); (try clear ht); (try clear hu); (try clear hq1); (try clear hq2); (try clear hvA); (try clear hvB); (try clear hvC); (try clear hvD); (try clear hn9); (try clear hwB); (repeat (first | rw [if_pos (by (first | ((try clear hcap); (try clear ho); omega) | omega))] | rw [if_neg (by (first | ((try clear hcap); (try clear ho); omega) | omega))])) <;> first | omega | (cases b1 <;> rfl)) | ((repeat (first | rw [if_pos (by (first | ((try clear hcap); (try clear ho); omega) | omega))] | rw [if_neg (by (first | ((try clear hcap); (try clear ho); omega) | omega))])) <;> first | omega | (cases b1 <;> rfl)))⟩, by rw [ht9]; exact hP, va_K.moved hW9.alike hK⟩, hS.F ht9⟩) hS.2.2 dX10_fuses_150
        · refine lv_aload_n hx hb dX10_fuses_132 rfl (lv_at hl 2 rfl) ?_
          refine fz_get (D := (dC, dI)) (ci := 10) (v := .ref (h0 + 506)) (C := RX10) (T := TX10) (N := 53) hx hb hts inG10 hown hK hP (k := 0) (by decide) (F := mF h0) mE_obj rfl 18 (by decide) (hts _ k1184) (fun _ h9 => h9) rfl dX10_fuses_133 ?_
          refine lv_iload_n hx hb dX10_fuses_136 rfl (lv_at hl 5 rfl) ?_
          refine fz_ald (k := 506) (n := 70) (k2 := (507 + (u1).toNat)) hx hb hK hP 2 rfl (by decide) mE_sort rfl ⟨by (first | ((try clear hcap); (try clear ho); omega) | omega), by (first | ((try clear hcap); (try clear ho); omega) | omega)⟩ (by decide) (if_pos (by (first | ((try clear hcap); (try clear ho); omega) | omega))) dX10_fuses_137 ?_
          refine lv_iload hx hb dX10_fuses_138 (lv_at hl 6 rfl) ?_
          refine fz_ld (k := (507 + (u1).toNat)) (n := 900) hx hb hK hP 0 (by (first | ((try clear hcap); (try clear ho); omega) | omega)) (mE_sortR (by (first | ((try clear hcap); (try clear ho); omega) | omega))) rfl ⟨by (first | ((try clear hcap); (try clear ho); omega) | omega), by (first | ((try clear hcap); (try clear ho); omega) | omega)⟩ (by decide) dX10_fuses_140 ?_
          rw [show μ5 (507 + (u1).toNat) (j).toNat = (k2 : Int) from (by
                  by_cases h9 : o1 = -1
                  · rw [hμ5.1 h9 |>.1]; exact h2.1
                  · rw [(hμ5.2 (by (first | ((try clear hcap); (try clear ho); omega) | omega))).1, uz_n (by (first | ((try clear hcap); (try clear ho); omega) | omega)), uz_n (by (first | ((try clear hcap); (try clear ho); omega) | omega)), uz_n (by (first | ((try clear hcap); (try clear ho); omega) | omega)), uz_n (by (first | ((try clear hcap); (try clear ho); omega) | omega))]; exact h2.1)]
          refine lv_iconst (v := iZ 1) hx hb dX10_fuses_141 rfl ?_
          refine fz_icmp_ne (tgt := 149) (by constructor <;> (first | ((try clear hcap); (try clear ho); omega) | omega)) (by decide) hx hb dX10_fuses_142 (by decide) (fun c142_ => ?_) (fun c142_ => ?_)
          · refine lv_iconst (v := iZ 0) hx hb dX10_fuses_149 rfl ?_
            exact W.iret (v := iZ (0)) hx hb hr (fun t9 ht9 hW9 => ⟨⟨iZ (0), (μ5, 0), rfl, ⟨rfl, (by
                                dsimp only
                                subst hl0
                                have hfl : rfus Std.DTreeMap.Internal.Impl.leaf b1 = Std.DTreeMap.Internal.Impl.leaf := by cases b1 <;> rfl
                                have hN0 : rN Std.DTreeMap.Internal.Impl.leaf = 0 := rfl
                                refine ⟨fun h => (hμ5.1 h).1, fun h => ?_, ?_⟩
                                · obtain ⟨e1, e2⟩ := hμ5.2 h
                                  have hn9 := hcap h
                                  rw [e1]
                                  refine ⟨fr_uz (fr_uz (fr_uz (fr_uz fr_rfl (by (first | ((try clear ho); (try clear hcap); (try clear hal); (try clear hi); (try clear hj); (try clear hd); (try clear ht); (try clear hu); (try clear hq1); (try clear hq2); (try clear hvA); (try clear hvB); (try clear hvC); (try clear hvD); (try clear hwA); (try clear hwB); (try clear hkT); (try clear hμ1); (try clear hμ5); (try clear hμ7); (try clear hμ9); (try clear hμc); unfold PG; omega) | (unfold PG; omega)))) (by (first | ((try clear ho); (try clear hcap); (try clear hal); (try clear hi); (try clear hj); (try clear hd); (try clear ht); (try clear hu); (try clear hq1); (try clear hq2); (try clear hvA); (try clear hvB); (try clear hvC); (try clear hvD); (try clear hwA); (try clear hwB); (try clear hkT); (try clear hμ1); (try clear hμ5); (try clear hμ7); (try clear hμ9); (try clear hμc); unfold PG; omega) | (unfold PG; omega)))) (by (first | ((try clear ho); (try clear hcap); (try clear hal); (try clear hi); (try clear hj); (try clear hd); (try clear ht); (try clear hu); (try clear hq1); (try clear hq2); (try clear hvA); (try clear hvB); (try clear hvC); (try clear hvD); (try clear hwA); (try clear hwB); (try clear hkT); (try clear hμ1); (try clear hμ5); (try clear hμ7); (try clear hμ9); (try clear hμc); unfold PG; omega) | (unfold PG; omega)))) (by (first | ((try clear ho); (try clear hcap); (try clear hal); (try clear hi); (try clear hj); (try clear hd); (try clear ht); (try clear hu); (try clear hq1); (try clear hq2); (try clear hvA); (try clear hvB); (try clear hvC); (try clear hvD); (try clear hwA); (try clear hwB); (try clear hkT); (try clear hμ1); (try clear hμ5); (try clear hμ7); (try clear hμ9); (try clear hμc); unfold PG; omega) | (unfold PG; omega))), by rw [uz_s, hN0]; omega, ?_, ?_, ?_, ?_⟩
                                  · rw [uz_n (by (first | ((try clear hcap); (try clear ho); omega) | omega)), uz_n (by (first | ((try clear hcap); (try clear ho); omega) | omega)), uz_n (by (first | ((try clear hcap); (try clear ho); omega) | omega)), uz_s]; unfold fK; first | ((try clear ho); (try clear hcap); (try clear hal); (try clear hi); (try clear hj); (try clear hd); (try clear ht); (try clear hu); (try clear hq1); (try clear hq2); (try clear hvA); (try clear hvB); (try clear hvC); (try clear hvD); (try clear hn9); (try clear hwB); (repeat (first | rw [if_pos (by (first | ((try clear hcap); (try clear ho); omega) | omega))] | rw [if_neg (by (first | ((try clear hcap); (try clear ho); omega) | omega))])) <;> first | omega | (cases b1 <;> rfl)) | ((repeat (first | rw [if_pos (by (first | ((try clear hcap); (try clear ho); omega) | omega))] | rw [if_neg (by (first | ((try clear hcap); (try clear ho); omega) | omega))])) <;> first | omega | (cases b1 <;> rfl))
                                  · rw [uz_n (by (first | ((try clear hcap); (try clear ho); omega) | omega)), uz_n (by (first | ((try clear hcap); (try clear ho); omega) | omega)), uz_s]; unfold fV; first | ((try clear ho); (try clear hcap); (try clear hal); (try clear hi); (try clear hj); (try clear hd); (try clear ht); (try clear hu); (try clear hq1); (try clear hq2); (try clear hvA); (try clear hvB); (try clear hvC); (try clear hvD); (try clear hn9); (try clear hwB); (repeat (first | rw [if_pos (by (first | ((try clear hcap); (try clear ho); omega) | omega))] | rw [if_neg (by (first | ((try clear hcap); (try clear ho); omega) | omega))])) <;> first | omega | (cases b1 <;> rfl)) | ((repeat (first | rw [if_pos (by (first | ((try clear hcap); (try clear ho); omega) | omega))] | rw [if_neg (by (first | ((try clear hcap); (try clear ho); omega) | omega))])) <;> first | omega | (cases b1 <;> rfl))
                                  · rw [uz_n (by (first | ((try clear hcap); (try clear ho); omega) | omega)), uz_s, hfl, hN0]; rfl
                                  · rw [hfl]; trivial
                                · unfold fC; first | ((try clear ho); (try clear hcap); (try clear hal); (try clear hi); (try clear hj); (try clear hd); (try clear ht); (try clear hu); (try clear hq1); (try clear hq2); (try clear hvA); (try clear hvB); (try clear hvC); (try clear hvD); (try clear hn9); (try clear hwB); (repeat (first | rw [if_pos (by (first | ((try clear hcap); (try clear ho); omega) | omega))] | rw [if_neg (by (first | ((try clear hcap); (try clear ho); omega) | omega))])) <;> first | omega | (cases b1 <;> rfl)) | ((repeat (first | rw [if_pos (by (first | ((try clear hcap); (try clear ho); omega) | omega))] | rw [if_neg (by (first | ((try clear hcap); (try clear ho); omega) | omega))])) <;> first | omega | (cases b1 <;> rfl)))⟩, by rw [ht9]; exact hP, va_K.moved hW9.alike hK⟩, hS.F ht9⟩) hS.2.2 dX10_fuses_150
          · refine lv_iconst (v := iZ 1) hx hb dX10_fuses_145 rfl ?_
            refine lv_goto (tgt := 150) hx hb dX10_fuses_146 (by decide) ?_
            exact W.iret (v := iZ (1)) hx hb hr (fun t9 ht9 hW9 => ⟨⟨iZ (1), (μ5, 1), rfl, ⟨rfl, (by
                                dsimp only
                                subst hl0
                                have hfl : rfus Std.DTreeMap.Internal.Impl.leaf b1 = Std.DTreeMap.Internal.Impl.leaf := by cases b1 <;> rfl
                                have hN0 : rN Std.DTreeMap.Internal.Impl.leaf = 0 := rfl
                                refine ⟨fun h => (hμ5.1 h).1, fun h => ?_, ?_⟩
                                · obtain ⟨e1, e2⟩ := hμ5.2 h
                                  have hn9 := hcap h
                                  rw [e1]
                                  refine ⟨fr_uz (fr_uz (fr_uz (fr_uz fr_rfl (by (first | ((try clear ho); (try clear hcap); (try clear hal); (try clear hi); (try clear hj); (try clear hd); (try clear ht); (try clear hu); (try clear hq1); (try clear hq2); (try clear hvA); (try clear hvB); (try clear hvC); (try clear hvD); (try clear hwA); (try clear hwB); (try clear hkT); (try clear hμ1); (try clear hμ5); (try clear hμ7); (try clear hμ9); (try clear hμc); unfold PG; omega) | (unfold PG; omega)))) (by (first | ((try clear ho); (try clear hcap); (try clear hal); (try clear hi); (try clear hj); (try clear hd); (try clear ht); (try clear hu); (try clear hq1); (try clear hq2); (try clear hvA); (try clear hvB); (try clear hvC); (try clear hvD); (try clear hwA); (try clear hwB); (try clear hkT); (try clear hμ1); (try clear hμ5); (try clear hμ7); (try clear hμ9); (try clear hμc); unfold PG; omega) | (unfold PG; omega)))) (by (first | ((try clear ho); (try clear hcap); (try clear hal); (try clear hi); (try clear hj); (try clear hd); (try clear ht); (try clear hu); (try clear hq1); (try clear hq2); (try clear hvA); (try clear hvB); (try clear hvC); (try clear hvD); (try clear hwA); (try clear hwB); (try clear hkT); (try clear hμ1); (try clear hμ5); (try clear hμ7); (try clear hμ9); (try clear hμc); unfold PG; omega) | (unfold PG; omega)))) (by (first | ((try clear ho); (try clear hcap); (try clear hal); (try clear hi); (try clear hj); (try clear hd); (try clear ht); (try clear hu); (try clear hq1); (try clear hq2); (try clear hvA); (try clear hvB); (try clear hvC); (try clear hvD); (try clear hwA); (try clear hwB); (try clear hkT); (try clear hμ1); (try clear hμ5); (try clear hμ7); (try clear hμ9); (try clear hμc); unfold PG; omega) | (unfold PG; omega))), by rw [uz_s, hN0]; omega, ?_, ?_, ?_, ?_⟩
                                  · rw [uz_n (by (first | ((try clear hcap); (try clear ho); omega) | omega)), uz_n (by (first | ((try clear hcap); (try clear ho); omega) | omega)), uz_n (by (first | ((try clear hcap); (try clear ho); omega) | omega)), uz_s]; unfold fK; first | ((try clear ho); (try clear hcap); (try clear hal); (try clear hi); (try clear hj); (try clear hd); (try clear ht); (try clear hu); (try clear hq1); (try clear hq2); (try clear hvA); (try clear hvB); (try clear hvC); (try clear hvD); (try clear hn9); (try clear hwB); (repeat (first | rw [if_pos (by (first | ((try clear hcap); (try clear ho); omega) | omega))] | rw [if_neg (by (first | ((try clear hcap); (try clear ho); omega) | omega))])) <;> first | omega | (cases b1 <;> rfl)) | ((repeat (first | rw [if_pos (by (first | ((try clear hcap); (try clear ho); omega) | omega))] | rw [if_neg (by (first | ((try clear hcap); (try clear ho); omega) | omega))])) <;> first | omega | (cases b1 <;> rfl))
                                  · rw [uz_n (by (first | ((try clear hcap); (try clear ho); omega) | omega)), uz_n (by (first | ((try clear hcap); (try clear ho); omega) | omega)), uz_s]; unfold fV; first | ((try clear ho); (try clear hcap); (try clear hal); (try clear hi); (try clear hj); (try clear hd); (try clear ht); (try clear hu); (try clear hq1); (try clear hq2); (try clear hvA); (try clear hvB); (try clear hvC); (try clear hvD); (try clear hn9); (try clear hwB); (repeat (first | rw [if_pos (by (first | ((try clear hcap); (try clear ho); omega) | omega))] | rw [if_neg (by (first | ((try clear hcap); (try clear ho); omega) | omega))])) <;> first | omega | (cases b1 <;> rfl)) | ((repeat (first | rw [if_pos (by (first | ((try clear hcap); (try clear ho); omega) | omega))] | rw [if_neg (by (first | ((try clear hcap); (try clear ho); omega) | omega))])) <;> first | omega | (cases b1 <;> rfl))
                                  · rw [uz_n (by (first | ((try clear hcap); (try clear ho); omega) | omega)), uz_s, hfl, hN0]; rfl
                                  · rw [hfl]; trivial
                                · unfold fC; first | ((try clear ho); (try clear hcap); (try clear hal); (try clear hi); (try clear hj); (try clear hd); (try clear ht); (try clear hu); (try clear hq1); (try clear hq2); (try clear hvA); (try clear hvB); (try clear hvC); (try clear hvD); (try clear hn9); (try clear hwB); (repeat (first | rw [if_pos (by (first | ((try clear hcap); (try clear ho); omega) | omega))] | rw [if_neg (by (first | ((try clear hcap); (try clear ho); omega) | omega))])) <;> first | omega | (cases b1 <;> rfl)) | ((repeat (first | rw [if_pos (by (first | ((try clear hcap); (try clear ho); omega) | omega))] | rw [if_neg (by (first | ((try clear hcap); (try clear ho); omega) | omega))])) <;> first | omega | (cases b1 <;> rfl)))⟩, by rw [ht9]; exact hP, va_K.moved hW9.alike hK⟩, hS.F ht9⟩) hS.2.2 dX10_fuses_150
      · refine lv_aload_n hx hb dX10_fuses_47 rfl (lv_at hl 1 rfl) ?_
        refine fz_get (D := (dC, dI)) (ci := 10) (v := .ref (h0 + 506)) (C := RX10) (T := TX10) (N := 53) hx hb hts inG10 hown hK hP (k := 0) (by decide) (F := mF h0) mE_obj rfl 18 (by decide) (hts _ k1184) (fun _ h9 => h9) rfl dX10_fuses_48 ?_
        refine lv_iload_n hx hb dX10_fuses_51 rfl (lv_at hl 4 rfl) ?_
        refine fz_ald (k := 506) (n := 70) (k2 := (507 + (u1).toNat)) hx hb hK hP 2 rfl (by decide) mE_sort rfl ⟨by (first | ((try clear hcap); (try clear ho); omega) | omega), by (first | ((try clear hcap); (try clear ho); omega) | omega)⟩ (by decide) (if_pos (by (first | ((try clear hcap); (try clear ho); omega) | omega))) dX10_fuses_52 ?_
        refine lv_iload hx hb dX10_fuses_53 (lv_at hl 5 rfl) ?_
        refine fz_ld (k := (507 + (u1).toNat)) (n := 900) hx hb hK hP 0 (by (first | ((try clear hcap); (try clear ho); omega) | omega)) (mE_sortR (by (first | ((try clear hcap); (try clear ho); omega) | omega))) rfl ⟨by (first | ((try clear hcap); (try clear ho); omega) | omega), by (first | ((try clear hcap); (try clear ho); omega) | omega)⟩ (by decide) dX10_fuses_55 ?_
        rw [show μ (507 + (u1).toNat) (j).toNat = (k2 : Int) from (by exact h2.1)]
        refine lv_iconst (v := iZ 1) hx hb dX10_fuses_56 rfl ?_
        refine fz_icmp_ne (tgt := 84) (by constructor <;> (first | ((try clear hcap); (try clear ho); omega) | omega)) (by decide) hx hb dX10_fuses_57 (by decide) (fun c57_ => ?_) (fun c57_ => ?_)
        · refine lv_iconst (v := iZ 0) hx hb dX10_fuses_84 rfl ?_
          refine lv_istore (lv' := [(7, .int (iZ (0))), (6, .int (iZ ((k : Int)))), (0, .ref h0), (1, .int (iZ (t))), (2, .int (iZ (i))), (3, .int (iZ (u1))), (4, .int (iZ (j))), (5, .int (iZ (o1)))]) hx hb dX10_fuses_85 hl (by decide) rfl (fun ls hl => ?_)
          refine lv_aload_n hx hb dX10_fuses_87 rfl (lv_at hl 2 rfl) ?_
          refine lv_iload hx hb dX10_fuses_88 (lv_at hl 7 rfl) ?_
          refine lv_iload hx hb dX10_fuses_90 (lv_at hl 0 rfl) ?_
          refine fz_if_eq (tgt := 99) (by decide) hx hb dX10_fuses_92 (by decide) (fun c92_ => ?_) (fun h9 => absurd h9 (by decide))
          refine lv_iconst (v := iZ 2) hx hb dX10_fuses_99 rfl ?_
          refine lv_iload hx hb dX10_fuses_100 (lv_at hl 0 rfl) ?_
          refine fz_if_eq (tgt := 116) (by decide) hx hb dX10_fuses_102 (by decide) (fun c102_ => ?_) (fun h9 => absurd h9 (by decide))
          refine lv_iconst (v := iZ (-1)) hx hb dX10_fuses_116 rfl ?_
          refine va_calli (va_runV (As := [.int (iZ (o1)), .int (iZ (2)), .int (iZ ((-1)))]) (rest := []) ⟨hx, hb, hml, hown, hts⟩ (m_adds l dC dI cI cZ cII cIII h0 H.size μ (o1) (2) ((-1)) (by first | assumption | ((try clear hcap); (try clear ho); omega) | omega | exact ⟨by (first | ((try clear hcap); (try clear ho); omega) | omega), by (first | ((try clear hcap); (try clear ho); omega) | omega)⟩) (by intro h; have h9 := hcap h; omega)) (cwV 3 hts (gV_G k1377 k1379 ks_yX10_adds k13 k1380) rfl rfl rfl (by decide +kernel) ⟨by show 1 + 1 ≤ d + 3; omega, by show 8 + (5 + 11) + (14) ≤ 30 * d + 100; omega⟩) ⟨fun a U g mk q => by obtain ⟨q0, q1, qP, qK⟩ := q; exact ⟨q0, q1, qP, va_K.moved (u := U) (U := U.calling g mk a) (Vm.Alike.refl U.vm) qK⟩, va_recv hK hP (ci := 10) (q0 := 0) rfl ((fw_get (by decide)).trans (by rw [mE_obj]; rfl)), fun U hU hW => ⟨rfl, by rw [hU], by rw [hU]; exact hP, va_K.moved hW.alike hK⟩⟩ rfl rfl hl.1 rfl (lv_room (Nat.le_of_ble_eq_true rfl)) dX10_fuses_117 ⟨Nat.le_of_ble_eq_true rfl, Nat.le_of_ble_eq_true rfl⟩) hS (fun q _ h => fA_le hS.1 q h) (fA_le hS.1) (fun r9 u9 t9 H1 locs ht9 hvm9 hw9 hB9 hz9 hk9 hS => ?_)
          obtain ⟨μ7, r8⟩ := u9
          obtain ⟨hP, -⟩ := hB9
          rw [ht9] at hP
          generalize H1 = H at hP hS ⊢
          obtain ⟨e9, hw9⟩ := hw9
          have e9 : r9 = iZ r8 := e9
          subst e9
          simp only at hP hw9
          have hμ7 := hw9; clear hw9
          refine lv_pop hx hb dX10_fuses_120 rfl ?_
          refine lv_iload hx hb dX10_fuses_121 (lv_at hl 0 rfl) ?_
          refine fz_if_ne (tgt := 149) (by decide) hx hb dX10_fuses_123 (by decide) (fun h9 => absurd h9 (by decide)) (fun c123_ => ?_)
          refine lv_iload hx hb dX10_fuses_126 (lv_at hl 1 rfl) ?_
          refine lv_iconst (v := iZ 1) hx hb dX10_fuses_128 rfl ?_
          refine fz_icmp_ne (tgt := 149) (by constructor <;> (first | ((try clear hcap); (try clear ho); omega) | omega)) (by decide) hx hb dX10_fuses_129 (by decide) (fun c129_ => ?_) (fun c129_ => ?_)
          · refine lv_iconst (v := iZ 0) hx hb dX10_fuses_149 rfl ?_
            exact W.iret (v := iZ (0)) hx hb hr (fun t9 ht9 hW9 => ⟨⟨iZ (0), (μ7, 0), rfl, ⟨rfl, (by
                                dsimp only
                                subst hl0
                                have hfl : rfus Std.DTreeMap.Internal.Impl.leaf b1 = Std.DTreeMap.Internal.Impl.leaf := by cases b1 <;> rfl
                                have hN0 : rN Std.DTreeMap.Internal.Impl.leaf = 0 := rfl
                                refine ⟨fun h => (hμ7.1 h).1, fun h => ?_, ?_⟩
                                · obtain ⟨e1, e2⟩ := hμ7.2 h
                                  have hn9 := hcap h
                                  rw [e1]
                                  refine ⟨fr_uz (fr_uz (fr_uz (fr_uz fr_rfl (by (first | ((try clear ho); (try clear hcap); (try clear hal); (try clear hi); (try clear hj); (try clear hd); (try clear ht); (try clear hu); (try clear hq1); (try clear hq2); (try clear hvA); (try clear hvB); (try clear hvC); (try clear hvD); (try clear hwA); (try clear hwB); (try clear hkT); (try clear hμ1); (try clear hμ5); (try clear hμ7); (try clear hμ9); (try clear hμc); unfold PG; omega) | (unfold PG; omega)))) (by (first | ((try clear ho); (try clear hcap); (try clear hal); (try clear hi); (try clear hj); (try clear hd); (try clear ht); (try clear hu); (try clear hq1); (try clear hq2); (try clear hvA); (try clear hvB); (try clear hvC); (try clear hvD); (try clear hwA); (try clear hwB); (try clear hkT); (try clear hμ1); (try clear hμ5); (try clear hμ7); (try clear hμ9); (try clear hμc); unfold PG; omega) | (unfold PG; omega)))) (by (first | ((try clear ho); (try clear hcap); (try clear hal); (try clear hi); (try clear hj); (try clear hd); (try clear ht); (try clear hu); (try clear hq1); (try clear hq2); (try clear hvA); (try clear hvB); (try clear hvC); (try clear hvD); (try clear hwA); (try clear hwB); (try clear hkT); (try clear hμ1); (try clear hμ5); (try clear hμ7); (try clear hμ9); (try clear hμc); unfold PG; omega) | (unfold PG; omega)))) (by (first | ((try clear ho); (try clear hcap); (try clear hal); (try clear hi); (try clear hj); (try clear hd); (try clear ht); (try clear hu); (try clear hq1); (try clear hq2); (try clear hvA); (try clear hvB); (try clear hvC); (try clear hvD); (try clear hwA); (try clear hwB); (try clear hkT); (try clear hμ1); (try clear hμ5); (try clear hμ7); (try clear hμ9); (try clear hμc); unfold PG; omega) | (unfold PG; omega))), by rw [uz_s, hN0]; omega, ?_, ?_, ?_, ?_⟩
                                  · rw [uz_n (by (first | ((try clear hcap); (try clear ho); omega) | omega)), uz_n (by (first | ((try clear hcap); (try clear ho); omega) | omega)), uz_n (by (first | ((try clear hcap); (try clear ho); omega) | omega)), uz_s]; unfold fK; first | ((try clear ho); (try clear hcap); (try clear hal); (try clear hi); (try clear hj); (try clear hd); (try clear ht); (try clear hu); (try clear hq1); (try clear hq2); (try clear hvA); (try clear hvB); (try clear hvC); (try clear hvD); (try clear hn9); (try clear hwB); (repeat (first | rw [if_pos (by (first | ((try clear hcap); (try clear ho); omega) | omega))] | rw [if_neg (by (first | ((try clear hcap); (try clear ho); omega) | omega))])) <;> first | omega | (cases b1 <;> rfl)) | ((repeat (first | rw [if_pos (by (first | ((try clear hcap); (try clear ho); omega) | omega))] | rw [if_neg (by (first | ((try clear hcap); (try clear ho); omega) | omega))])) <;> first | omega | (cases b1 <;> rfl))
                                  · rw [uz_n (by (first | ((try clear hcap); (try clear ho); omega) | omega)), uz_n (by (first | ((try clear hcap); (try clear ho); omega) | omega)), uz_s]; unfold fV; first | ((try clear ho); (try clear hcap); (try clear hal); (try clear hi); (try clear hj); (try clear hd); (try clear ht); (try clear hu); (try clear hq1); (try clear hq2); (try clear hvA); (try clear hvB); (try clear hvC); (try clear hvD); (try clear hn9); (try clear hwB); (repeat (first | rw [if_pos (by (first | ((try clear hcap); (try clear ho); omega) | omega))] | rw [if_neg (by (first | ((try clear hcap); (try clear ho); omega) | omega))])) <;> first | omega | (cases b1 <;> rfl)) | ((repeat (first | rw [if_pos (by (first | ((try clear hcap); (try clear ho); omega) | omega))] | rw [if_neg (by (first | ((try clear hcap); (try clear ho); omega) | omega))])) <;> first | omega | (cases b1 <;> rfl))
                                  · rw [uz_n (by (first | ((try clear hcap); (try clear ho); omega) | omega)), uz_s, hfl, hN0]; rfl
                                  · rw [hfl]; trivial
                                · unfold fC; first | ((try clear ho); (try clear hcap); (try clear hal); (try clear hi); (try clear hj); (try clear hd); (try clear ht); (try clear hu); (try clear hq1); (try clear hq2); (try clear hvA); (try clear hvB); (try clear hvC); (try clear hvD); (try clear hn9); (try clear hwB); (repeat (first | rw [if_pos (by (first | ((try clear hcap); (try clear ho); omega) | omega))] | rw [if_neg (by (first | ((try clear hcap); (try clear ho); omega) | omega))])) <;> first | omega | (cases b1 <;> rfl)) | ((repeat (first | rw [if_pos (by (first | ((try clear hcap); (try clear ho); omega) | omega))] | rw [if_neg (by (first | ((try clear hcap); (try clear ho); omega) | omega))])) <;> first | omega | (cases b1 <;> rfl)))⟩, by rw [ht9]; exact hP, va_K.moved hW9.alike hK⟩, hS.F ht9⟩) hS.2.2 dX10_fuses_150
          · refine lv_aload_n hx hb dX10_fuses_132 rfl (lv_at hl 2 rfl) ?_
            refine fz_get (D := (dC, dI)) (ci := 10) (v := .ref (h0 + 506)) (C := RX10) (T := TX10) (N := 53) hx hb hts inG10 hown hK hP (k := 0) (by decide) (F := mF h0) mE_obj rfl 18 (by decide) (hts _ k1184) (fun _ h9 => h9) rfl dX10_fuses_133 ?_
            refine lv_iload_n hx hb dX10_fuses_136 rfl (lv_at hl 5 rfl) ?_
            refine fz_ald (k := 506) (n := 70) (k2 := (507 + (u1).toNat)) hx hb hK hP 2 rfl (by decide) mE_sort rfl ⟨by (first | ((try clear hcap); (try clear ho); omega) | omega), by (first | ((try clear hcap); (try clear ho); omega) | omega)⟩ (by decide) (if_pos (by (first | ((try clear hcap); (try clear ho); omega) | omega))) dX10_fuses_137 ?_
            refine lv_iload hx hb dX10_fuses_138 (lv_at hl 6 rfl) ?_
            refine fz_ld (k := (507 + (u1).toNat)) (n := 900) hx hb hK hP 0 (by (first | ((try clear hcap); (try clear ho); omega) | omega)) (mE_sortR (by (first | ((try clear hcap); (try clear ho); omega) | omega))) rfl ⟨by (first | ((try clear hcap); (try clear ho); omega) | omega), by (first | ((try clear hcap); (try clear ho); omega) | omega)⟩ (by decide) dX10_fuses_140 ?_
            rw [show μ7 (507 + (u1).toNat) (j).toNat = (k2 : Int) from (by
                    by_cases h9 : o1 = -1
                    · rw [hμ7.1 h9 |>.1]; exact h2.1
                    · rw [(hμ7.2 (by (first | ((try clear hcap); (try clear ho); omega) | omega))).1, uz_n (by (first | ((try clear hcap); (try clear ho); omega) | omega)), uz_n (by (first | ((try clear hcap); (try clear ho); omega) | omega)), uz_n (by (first | ((try clear hcap); (try clear ho); omega) | omega)), uz_n (by (first | ((try clear hcap); (try clear ho); omega) | omega))]; exact h2.1)]
            refine lv_iconst (v := iZ 1) hx hb dX10_fuses_141 rfl ?_
            refine fz_icmp_ne (tgt := 149) (by constructor <;> (first | ((try clear hcap); (try clear ho); omega) | omega)) (by decide) hx hb dX10_fuses_142 (by decide) (fun c142_ => ?_) (fun c142_ => ?_)
            · refine lv_iconst (v := iZ 0) hx hb dX10_fuses_149 rfl ?_
              exact W.iret (v := iZ (0)) hx hb hr (fun t9 ht9 hW9 => ⟨⟨iZ (0), (μ7, 0), rfl, ⟨rfl, (by
                                    dsimp only
                                    subst hl0
                                    have hfl : rfus Std.DTreeMap.Internal.Impl.leaf b1 = Std.DTreeMap.Internal.Impl.leaf := by cases b1 <;> rfl
                                    have hN0 : rN Std.DTreeMap.Internal.Impl.leaf = 0 := rfl
                                    refine ⟨fun h => (hμ7.1 h).1, fun h => ?_, ?_⟩
                                    · obtain ⟨e1, e2⟩ := hμ7.2 h
                                      have hn9 := hcap h
                                      rw [e1]
                                      refine ⟨fr_uz (fr_uz (fr_uz (fr_uz fr_rfl (by (first | ((try clear ho); (try clear hcap); (try clear hal); (try clear hi); (try clear hj); (try clear hd); (try clear ht); (try clear hu); (try clear hq1); (try clear hq2); (try clear hvA); (try clear hvB); (try clear hvC); (try clear hvD); (try clear hwA); (try clear hwB); (try clear hkT); (try clear hμ1); (try clear hμ5); (try clear hμ7); (try clear hμ9); (try clear hμc); unfold PG; omega) | (unfold PG; omega)))) (by (first | ((try clear ho); (try clear hcap); (try clear hal); (try clear hi); (try clear hj); (try clear hd); (try clear ht); (try clear hu); (try clear hq1); (try clear hq2); (try clear hvA); (try clear hvB); (try clear hvC); (try clear hvD); (try clear hwA); (try clear hwB); (try clear hkT); (try clear hμ1); (try clear hμ5); (try clear hμ7); (try clear hμ9); (try clear hμc); unfold PG; omega) | (unfold PG; omega)))) (by (first | ((try clear ho); (try clear hcap); (try clear hal); (try clear hi); (try clear hj); (try clear hd); (try clear ht); (try clear hu); (try clear hq1); (try clear hq2); (try clear hvA); (try clear hvB); (try clear hvC); (try clear hvD); (try clear hwA); (try clear hwB); (try clear hkT); (try clear hμ1); (try clear hμ5); (try clear hμ7); (try clear hμ9); (try clear hμc); unfold PG; omega) | (unfold PG; omega)))) (by (first | ((try clear ho); (try clear hcap); (try clear hal); (try clear hi); (try clear hj); (try clear hd); (try clear ht); (try clear hu); (try clear hq1); (try clear hq2); (try clear hvA); (try clear hvB); (try clear hvC); (try clear hvD); (try clear hwA); (try clear hwB); (try clear hkT); (try clear hμ1); (try clear hμ5); (try clear hμ7); (try clear hμ9); (try clear hμc); unfold PG; omega) | (unfold PG; omega))), by rw [uz_s, hN0]; omega, ?_, ?_, ?_, ?_⟩
                                      · rw [uz_n (by (first | ((try clear hcap); (try clear ho); omega) | omega)), uz_n (by (first | ((try clear hcap); (try clear ho); omega) | omega)), uz_n (by (first | ((try clear hcap); (try clear ho); omega) | omega)), uz_s]; unfold fK; first | ((try clear ho); (try clear hcap); (try clear hal); (try clear hi); (try clear hj); (try clear hd); (try clear ht); (try clear hu); (try clear hq1); (try clear hq2); (try clear hvA); (try clear hvB); (try clear hvC); (try clear hvD); (try clear hn9); (try clear hwB); (repeat (first | rw [if_pos (by (first | ((try clear hcap); (try clear ho); omega) | omega))] | rw [if_neg (by (first | ((try clear hcap); (try clear ho); omega) | omega))])) <;> first | omega | (cases b1 <;> rfl)) | ((repeat (first | rw [if_pos (by (first | ((try clear hcap); (try clear ho); omega) | omega))] | rw [if_neg (by (first | ((try clear hcap); (try clear ho); omega) | omega))])) <;> first | omega | (cases b1 <;> rfl))
                                      · rw [uz_n (by (first | ((try clear hcap); (try clear ho); omega) | omega)), uz_n (by (first | ((try clear hcap); (try clear ho); omega) | omega)), uz_s]; unfold fV; first | ((try clear ho); (try clear hcap); (try clear hal); (try clear hi); (try clear hj); (try clear hd); (try clear ht); (try clear hu); (try clear hq1); (try clear hq2); (try clear hvA); (try clear hvB); (try clear hvC); (try clear hvD); (try clear hn9); (try clear hwB); (repeat (first | rw [if_pos (by (first | ((try clear hcap); (try clear ho); omega) | omega))] | rw [if_neg (by (first | ((try clear hcap); (try clear ho); omega) | omega))])) <;> first | omega | (cases b1 <;> rfl)) | ((repeat (first | rw [if_pos (by (first | ((try clear hcap); (try clear ho); omega) | omega))] | rw [if_neg (by (first | ((try clear hcap); (try clear ho); omega) | omega))])) <;> first | omega | (cases b1 <;> rfl))
                                      · rw [uz_n (by (first | ((try clear hcap); (try clear ho); omega) | omega)), uz_s, hfl, hN0]; rfl
                                      · rw [hfl]; trivial
                                    · unfold fC; first | ((try clear ho); (try clear hcap); (try clear hal); (try clear hi); (try clear hj); (try clear hd); (try clear ht); (try clear hu); (try clear hq1); (try clear hq2); (try clear hvA); (try clear hvB); (try clear hvC); (try clear hvD); (try clear hn9); (try clear hwB); (repeat (first | rw [if_pos (by (first | ((try clear hcap); (try clear ho); omega) | omega))] | rw [if_neg (by (first | ((try clear hcap); (try clear ho); omega) | omega))])) <;> first | omega | (cases b1 <;> rfl)) | ((repeat (first | rw [if_pos (by (first | ((try clear hcap); (try clear ho); omega) | omega))] | rw [if_neg (by (first | ((try clear hcap); (try clear ho); omega) | omega))])) <;> first | omega | (cases b1 <;> rfl)))⟩, by rw [ht9]; exact hP, va_K.moved hW9.alike hK⟩, hS.F ht9⟩) hS.2.2 dX10_fuses_150
            · refine lv_iconst (v := iZ 1) hx hb dX10_fuses_145 rfl ?_
              refine lv_goto (tgt := 150) hx hb dX10_fuses_146 (by decide) ?_
              exact W.iret (v := iZ (1)) hx hb hr (fun t9 ht9 hW9 => ⟨⟨iZ (1), (μ7, 1), rfl, ⟨rfl, (by
                                    dsimp only
                                    subst hl0
                                    have hfl : rfus Std.DTreeMap.Internal.Impl.leaf b1 = Std.DTreeMap.Internal.Impl.leaf := by cases b1 <;> rfl
                                    have hN0 : rN Std.DTreeMap.Internal.Impl.leaf = 0 := rfl
                                    refine ⟨fun h => (hμ7.1 h).1, fun h => ?_, ?_⟩
                                    · obtain ⟨e1, e2⟩ := hμ7.2 h
                                      have hn9 := hcap h
                                      rw [e1]
                                      refine ⟨fr_uz (fr_uz (fr_uz (fr_uz fr_rfl (by (first | ((try clear ho); (try clear hcap); (try clear hal); (try clear hi); (try clear hj); (try clear hd); (try clear ht); (try clear hu); (try clear hq1); (try clear hq2); (try clear hvA); (try clear hvB); (try clear hvC); (try clear hvD); (try clear hwA); (try clear hwB); (try clear hkT); (try clear hμ1); (try clear hμ5); (try clear hμ7); (try clear hμ9); (try clear hμc); unfold PG; omega) | (unfold PG; omega)))) (by (first | ((try clear ho); (try clear hcap); (try clear hal); (try clear hi); (try clear hj); (try clear hd); (try clear ht); (try clear hu); (try clear hq1); (try clear hq2); (try clear hvA); (try clear hvB); (try clear hvC); (try clear hvD); (try clear hwA); (try clear hwB); (try clear hkT); (try clear hμ1); (try clear hμ5); (try clear hμ7); (try clear hμ9); (try clear hμc); unfold PG; omega) | (unfold PG; omega)))) (by (first | ((try clear ho); (try clear hcap); (try clear hal); (try clear hi); (try clear hj); (try clear hd); (try clear ht); (try clear hu); (try clear hq1); (try clear hq2); (try clear hvA); (try clear hvB); (try clear hvC); (try clear hvD); (try clear hwA); (try clear hwB); (try clear hkT); (try clear hμ1); (try clear hμ5); (try clear hμ7); (try clear hμ9); (try clear hμc); unfold PG; omega) | (unfold PG; omega)))) (by (first | ((try clear ho); (try clear hcap); (try clear hal); (try clear hi); (try clear hj); (try clear hd); (try clear ht); (try clear hu); (try clear hq1); (try clear hq2); (try clear hvA); (try clear hvB); (try clear hvC); (try clear hvD); (try clear hwA); (try clear hwB); (try clear hkT); (try clear hμ1); (try clear hμ5); (try clear hμ7); (try clear hμ9); (try clear hμc); unfold PG; omega) | (unfold PG; omega))), by rw [uz_s, hN0]; omega, ?_, ?_, ?_, ?_⟩
                                      · rw [uz_n (by (first | ((try clear hcap); (try clear ho); omega) | omega)), uz_n (by (first | ((try clear hcap); (try clear ho); omega) | omega)), uz_n (by (first | ((try clear hcap); (try clear ho); omega) | omega)), uz_s]; unfold fK; first | ((try clear ho); (try clear hcap); (try clear hal); (try clear hi); (try clear hj); (try clear hd); (try clear ht); (try clear hu); (try clear hq1); (try clear hq2); (try clear hvA); (try clear hvB); (try clear hvC); (try clear hvD); (try clear hn9); (try clear hwB); (repeat (first | rw [if_pos (by (first | ((try clear hcap); (try clear ho); omega) | omega))] | rw [if_neg (by (first | ((try clear hcap); (try clear ho); omega) | omega))])) <;> first | omega | (cases b1 <;> rfl)) | ((repeat (first | rw [if_pos (by (first | ((try clear hcap); (try clear ho); omega) | omega))] | rw [if_neg (by (first | ((try clear hcap); (try clear ho); omega) | omega))])) <;> first | omega | (cases b1 <;> rfl))
                                      · rw [uz_n (by (first | ((try clear hcap); (try clear ho); omega) | omega)), uz_n (by (first | ((try clear hcap); (try clear ho); omega) | omega)), uz_s]; unfold fV; first | ((try clear ho); (try clear hcap); (try clear hal); (try clear hi); (try clear hj); (try clear hd); (try clear ht); (try clear hu); (try clear hq1); (try clear hq2); (try clear hvA); (try clear hvB); (try clear hvC); (try clear hvD); (try clear hn9); (try clear hwB); (repeat (first | rw [if_pos (by (first | ((try clear hcap); (try clear ho); omega) | omega))] | rw [if_neg (by (first | ((try clear hcap); (try clear ho); omega) | omega))])) <;> first | omega | (cases b1 <;> rfl)) | ((repeat (first | rw [if_pos (by (first | ((try clear hcap); (try clear ho); omega) | omega))] | rw [if_neg (by (first | ((try clear hcap); (try clear ho); omega) | omega))])) <;> first | omega | (cases b1 <;> rfl))
                                      · rw [uz_n (by (first | ((try clear hcap); (try clear ho); omega) | omega)), uz_s, hfl, hN0]; rfl
                                      · rw [hfl]; trivial
                                    · unfold fC; first | ((try clear ho); (try clear hcap); (try clear hal); (try clear hi); (try clear hj); (try clear hd); (try clear ht); (try clear hu); (try clear hq1); (try clear hq2); (try clear hvA); (try clear hvB); (try clear hvC); (try clear hvD); (try clear hn9); (try clear hwB); (repeat (first | rw [if_pos (by (first | ((try clear hcap); (try clear ho); omega) | omega))] | rw [if_neg (by (first | ((try clear hcap); (try clear ho); omega) | omega))])) <;> first | omega | (cases b1 <;> rfl)) | ((repeat (first | rw [if_pos (by (first | ((try clear hcap); (try clear ho); omega) | omega))] | rw [if_neg (by (first | ((try clear hcap); (try clear ho); omega) | omega))])) <;> first | omega | (cases b1 <;> rfl)))⟩, by rw [ht9]; exact hP, va_K.moved hW9.alike hK⟩, hS.F ht9⟩) hS.2.2 dX10_fuses_150
        · refine lv_aload_n hx hb dX10_fuses_60 rfl (lv_at hl 1 rfl) ?_
          refine fz_get (D := (dC, dI)) (ci := 10) (v := .ref (h0 + 577)) (C := RX10) (T := TX10) (N := 53) hx hb hts inG10 hown hK hP (k := 0) (by decide) (F := mF h0) mE_obj rfl 19 (by decide) (hts _ k1185) (fun _ h9 => h9) rfl dX10_fuses_61 ?_
          refine lv_iload_n hx hb dX10_fuses_64 rfl (lv_at hl 2 rfl) ?_
          refine fz_ald (k := 577) (n := 70) (k2 := (578 + (t).toNat)) hx hb hK hP 2 rfl (by decide) mE_token rfl ⟨by (first | ((try clear hcap); (try clear ho); omega) | omega), by (first | ((try clear hcap); (try clear ho); omega) | omega)⟩ (by decide) (if_pos (by (first | ((try clear hcap); (try clear ho); omega) | omega))) dX10_fuses_65 ?_
          refine lv_iload_n hx hb dX10_fuses_66 rfl (lv_at hl 3 rfl) ?_
          refine fz_ld (k := (578 + (t).toNat)) (n := 900) hx hb hK hP 0 (by (first | ((try clear hcap); (try clear ho); omega) | omega)) (mE_tokenR (by (first | ((try clear hcap); (try clear ho); omega) | omega))) rfl ⟨by (first | ((try clear hcap); (try clear ho); omega) | omega), by (first | ((try clear hcap); (try clear ho); omega) | omega)⟩ (by decide) dX10_fuses_67 ?_
          rw [show μ (578 + (t).toNat) (i).toNat = v from (by exact h1.2.1)]
          refine lv_aload_n hx hb dX10_fuses_68 rfl (lv_at hl 1 rfl) ?_
          refine fz_get (D := (dC, dI)) (ci := 10) (v := .ref (h0 + 577)) (C := RX10) (T := TX10) (N := 53) hx hb hts inG10 hown hK hP (k := 0) (by decide) (F := mF h0) mE_obj rfl 19 (by decide) (hts _ k1185) (fun _ h9 => h9) rfl dX10_fuses_69 ?_
          refine lv_iload_n hx hb dX10_fuses_72 rfl (lv_at hl 4 rfl) ?_
          refine fz_ald (k := 577) (n := 70) (k2 := (578 + (u1).toNat)) hx hb hK hP 2 rfl (by decide) mE_token rfl ⟨by (first | ((try clear hcap); (try clear ho); omega) | omega), by (first | ((try clear hcap); (try clear ho); omega) | omega)⟩ (by decide) (if_pos (by (first | ((try clear hcap); (try clear ho); omega) | omega))) dX10_fuses_73 ?_
          refine lv_iload hx hb dX10_fuses_74 (lv_at hl 5 rfl) ?_
          refine fz_ld (k := (578 + (u1).toNat)) (n := 900) hx hb hK hP 0 (by (first | ((try clear hcap); (try clear ho); omega) | omega)) (mE_tokenR (by (first | ((try clear hcap); (try clear ho); omega) | omega))) rfl ⟨by (first | ((try clear hcap); (try clear ho); omega) | omega), by (first | ((try clear hcap); (try clear ho); omega) | omega)⟩ (by decide) dX10_fuses_76 ?_
          rw [show μ (578 + (u1).toNat) (j).toNat = v2 from (by exact h2.2.1)]
          refine fz_icmp_ne (tgt := 84) (by constructor <;> (first | ((try clear hcap); (try clear ho); omega) | omega)) (by constructor <;> (first | ((try clear hcap); (try clear ho); omega) | omega)) hx hb dX10_fuses_77 (by decide) (fun c77_ => ?_) (fun c77_ => ?_)
          · refine lv_iconst (v := iZ 0) hx hb dX10_fuses_84 rfl ?_
            refine lv_istore (lv' := [(7, .int (iZ (0))), (6, .int (iZ ((k : Int)))), (0, .ref h0), (1, .int (iZ (t))), (2, .int (iZ (i))), (3, .int (iZ (u1))), (4, .int (iZ (j))), (5, .int (iZ (o1)))]) hx hb dX10_fuses_85 hl (by decide) rfl (fun ls hl => ?_)
            refine lv_aload_n hx hb dX10_fuses_87 rfl (lv_at hl 2 rfl) ?_
            refine lv_iload hx hb dX10_fuses_88 (lv_at hl 7 rfl) ?_
            refine lv_iload hx hb dX10_fuses_90 (lv_at hl 0 rfl) ?_
            refine fz_if_eq (tgt := 99) (by decide) hx hb dX10_fuses_92 (by decide) (fun c92_ => ?_) (fun h9 => absurd h9 (by decide))
            refine lv_iconst (v := iZ 2) hx hb dX10_fuses_99 rfl ?_
            refine lv_iload hx hb dX10_fuses_100 (lv_at hl 0 rfl) ?_
            refine fz_if_eq (tgt := 116) (by decide) hx hb dX10_fuses_102 (by decide) (fun c102_ => ?_) (fun h9 => absurd h9 (by decide))
            refine lv_iconst (v := iZ (-1)) hx hb dX10_fuses_116 rfl ?_
            refine va_calli (va_runV (As := [.int (iZ (o1)), .int (iZ (2)), .int (iZ ((-1)))]) (rest := []) ⟨hx, hb, hml, hown, hts⟩ (m_adds l dC dI cI cZ cII cIII h0 H.size μ (o1) (2) ((-1)) (by first | assumption | ((try clear hcap); (try clear ho); omega) | omega | exact ⟨by (first | ((try clear hcap); (try clear ho); omega) | omega), by (first | ((try clear hcap); (try clear ho); omega) | omega)⟩) (by intro h; have h9 := hcap h; omega)) (cwV 3 hts (gV_G k1377 k1379 ks_yX10_adds k13 k1380) rfl rfl rfl (by decide +kernel) ⟨by show 1 + 1 ≤ d + 3; omega, by show 8 + (5 + 11) + (14) ≤ 30 * d + 100; omega⟩) ⟨fun a U g mk q => by obtain ⟨q0, q1, qP, qK⟩ := q; exact ⟨q0, q1, qP, va_K.moved (u := U) (U := U.calling g mk a) (Vm.Alike.refl U.vm) qK⟩, va_recv hK hP (ci := 10) (q0 := 0) rfl ((fw_get (by decide)).trans (by rw [mE_obj]; rfl)), fun U hU hW => ⟨rfl, by rw [hU], by rw [hU]; exact hP, va_K.moved hW.alike hK⟩⟩ rfl rfl hl.1 rfl (lv_room (Nat.le_of_ble_eq_true rfl)) dX10_fuses_117 ⟨Nat.le_of_ble_eq_true rfl, Nat.le_of_ble_eq_true rfl⟩) hS (fun q _ h => fA_le hS.1 q h) (fA_le hS.1) (fun r9 u9 t9 H1 locs ht9 hvm9 hw9 hB9 hz9 hk9 hS => ?_)
            obtain ⟨μ9, r10⟩ := u9
            obtain ⟨hP, -⟩ := hB9
            rw [ht9] at hP
            generalize H1 = H at hP hS ⊢
            obtain ⟨e9, hw9⟩ := hw9
            have e9 : r9 = iZ r10 := e9
            subst e9
            simp only at hP hw9
            have hμ9 := hw9; clear hw9
            refine lv_pop hx hb dX10_fuses_120 rfl ?_
            refine lv_iload hx hb dX10_fuses_121 (lv_at hl 0 rfl) ?_
            refine fz_if_ne (tgt := 149) (by decide) hx hb dX10_fuses_123 (by decide) (fun h9 => absurd h9 (by decide)) (fun c123_ => ?_)
            refine lv_iload hx hb dX10_fuses_126 (lv_at hl 1 rfl) ?_
            refine lv_iconst (v := iZ 1) hx hb dX10_fuses_128 rfl ?_
            refine fz_icmp_ne (tgt := 149) (by constructor <;> (first | ((try clear hcap); (try clear ho); omega) | omega)) (by decide) hx hb dX10_fuses_129 (by decide) (fun c129_ => ?_) (fun c129_ => ?_)
            · refine lv_iconst (v := iZ 0) hx hb dX10_fuses_149 rfl ?_
              exact W.iret (v := iZ (0)) hx hb hr (fun t9 ht9 hW9 => ⟨⟨iZ (0), (μ9, 0), rfl, ⟨rfl, (by
                                    dsimp only
                                    subst hl0
                                    have hfl : rfus Std.DTreeMap.Internal.Impl.leaf b1 = Std.DTreeMap.Internal.Impl.leaf := by cases b1 <;> rfl
                                    have hN0 : rN Std.DTreeMap.Internal.Impl.leaf = 0 := rfl
                                    refine ⟨fun h => (hμ9.1 h).1, fun h => ?_, ?_⟩
                                    · obtain ⟨e1, e2⟩ := hμ9.2 h
                                      have hn9 := hcap h
                                      rw [e1]
                                      refine ⟨fr_uz (fr_uz (fr_uz (fr_uz fr_rfl (by (first | ((try clear ho); (try clear hcap); (try clear hal); (try clear hi); (try clear hj); (try clear hd); (try clear ht); (try clear hu); (try clear hq1); (try clear hq2); (try clear hvA); (try clear hvB); (try clear hvC); (try clear hvD); (try clear hwA); (try clear hwB); (try clear hkT); (try clear hμ1); (try clear hμ5); (try clear hμ7); (try clear hμ9); (try clear hμc); unfold PG; omega) | (unfold PG; omega)))) (by (first | ((try clear ho); (try clear hcap); (try clear hal); (try clear hi); (try clear hj); (try clear hd); (try clear ht); (try clear hu); (try clear hq1); (try clear hq2); (try clear hvA); (try clear hvB); (try clear hvC); (try clear hvD); (try clear hwA); (try clear hwB); (try clear hkT); (try clear hμ1); (try clear hμ5); (try clear hμ7); (try clear hμ9); (try clear hμc); unfold PG; omega) | (unfold PG; omega)))) (by (first | ((try clear ho); (try clear hcap); (try clear hal); (try clear hi); (try clear hj); (try clear hd); (try clear ht); (try clear hu); (try clear hq1); (try clear hq2); (try clear hvA); (try clear hvB); (try clear hvC); (try clear hvD); (try clear hwA); (try clear hwB); (try clear hkT); (try clear hμ1); (try clear hμ5); (try clear hμ7); (try clear hμ9); (try clear hμc); unfold PG; omega) | (unfold PG; omega)))) (by (first | ((try clear ho); (try clear hcap); (try clear hal); (try clear hi); (try clear hj); (try clear hd); (try clear ht); (try clear hu); (try clear hq1); (try clear hq2); (try clear hvA); (try clear hvB); (try clear hvC); (try clear hvD); (try clear hwA); (try clear hwB); (try clear hkT); (try clear hμ1); (try clear hμ5); (try clear hμ7); (try clear hμ9); (try clear hμc); unfold PG; omega) | (unfold PG; omega))), by rw [uz_s, hN0]; omega, ?_, ?_, ?_, ?_⟩
                                      · rw [uz_n (by (first | ((try clear hcap); (try clear ho); omega) | omega)), uz_n (by (first | ((try clear hcap); (try clear ho); omega) | omega)), uz_n (by (first | ((try clear hcap); (try clear ho); omega) | omega)), uz_s]; unfold fK; first | ((try clear ho); (try clear hcap); (try clear hal); (try clear hi); (try clear hj); (try clear hd); (try clear ht); (try clear hu); (try clear hq1); (try clear hq2); (try clear hvA); (try clear hvB); (try clear hvC); (try clear hvD); (try clear hn9); (try clear hwB); (repeat (first | rw [if_pos (by (first | ((try clear hcap); (try clear ho); omega) | omega))] | rw [if_neg (by (first | ((try clear hcap); (try clear ho); omega) | omega))])) <;> first | omega | (cases b1 <;> rfl)) | ((repeat (first | rw [if_pos (by (first | ((try clear hcap); (try clear ho); omega) | omega))] | rw [if_neg (by (first | ((try clear hcap); (try clear ho); omega) | omega))])) <;> first | omega | (cases b1 <;> rfl))
                                      · rw [uz_n (by (first | ((try clear hcap); (try clear ho); omega) | omega)), uz_n (by (first | ((try clear hcap); (try clear ho); omega) | omega)), uz_s]; unfold fV; first | ((try clear ho); (try clear hcap); (try clear hal); (try clear hi); (try clear hj); (try clear hd); (try clear ht); (try clear hu); (try clear hq1); (try clear hq2); (try clear hvA); (try clear hvB); (try clear hvC); (try clear hvD); (try clear hn9); (try clear hwB); (repeat (first | rw [if_pos (by (first | ((try clear hcap); (try clear ho); omega) | omega))] | rw [if_neg (by (first | ((try clear hcap); (try clear ho); omega) | omega))])) <;> first | omega | (cases b1 <;> rfl)) | ((repeat (first | rw [if_pos (by (first | ((try clear hcap); (try clear ho); omega) | omega))] | rw [if_neg (by (first | ((try clear hcap); (try clear ho); omega) | omega))])) <;> first | omega | (cases b1 <;> rfl))
                                      · rw [uz_n (by (first | ((try clear hcap); (try clear ho); omega) | omega)), uz_s, hfl, hN0]; rfl
                                      · rw [hfl]; trivial
                                    · unfold fC; first | ((try clear ho); (try clear hcap); (try clear hal); (try clear hi); (try clear hj); (try clear hd); (try clear ht); (try clear hu); (try clear hq1); (try clear hq2); (try clear hvA); (try clear hvB); (try clear hvC); (try clear hvD); (try clear hn9); (try clear hwB); (repeat (first | rw [if_pos (by (first | ((try clear hcap); (try clear ho); omega) | omega))] | rw [if_neg (by (first | ((try clear hcap); (try clear ho); omega) | omega))])) <;> first | omega | (cases b1 <;> rfl)) | ((repeat (first | rw [if_pos (by (first | ((try clear hcap); (try clear ho); omega) | omega))] | rw [if_neg (by (first | ((try clear hcap); (try clear ho); omega) | omega))])) <;> first | omega | (cases b1 <;> rfl)))⟩, by rw [ht9]; exact hP, va_K.moved hW9.alike hK⟩, hS.F ht9⟩) hS.2.2 dX10_fuses_150
            · refine lv_aload_n hx hb dX10_fuses_132 rfl (lv_at hl 2 rfl) ?_
              refine fz_get (D := (dC, dI)) (ci := 10) (v := .ref (h0 + 506)) (C := RX10) (T := TX10) (N := 53) hx hb hts inG10 hown hK hP (k := 0) (by decide) (F := mF h0) mE_obj rfl 18 (by decide) (hts _ k1184) (fun _ h9 => h9) rfl dX10_fuses_133 ?_
              refine lv_iload_n hx hb dX10_fuses_136 rfl (lv_at hl 5 rfl) ?_
              refine fz_ald (k := 506) (n := 70) (k2 := (507 + (u1).toNat)) hx hb hK hP 2 rfl (by decide) mE_sort rfl ⟨by (first | ((try clear hcap); (try clear ho); omega) | omega), by (first | ((try clear hcap); (try clear ho); omega) | omega)⟩ (by decide) (if_pos (by (first | ((try clear hcap); (try clear ho); omega) | omega))) dX10_fuses_137 ?_
              refine lv_iload hx hb dX10_fuses_138 (lv_at hl 6 rfl) ?_
              refine fz_ld (k := (507 + (u1).toNat)) (n := 900) hx hb hK hP 0 (by (first | ((try clear hcap); (try clear ho); omega) | omega)) (mE_sortR (by (first | ((try clear hcap); (try clear ho); omega) | omega))) rfl ⟨by (first | ((try clear hcap); (try clear ho); omega) | omega), by (first | ((try clear hcap); (try clear ho); omega) | omega)⟩ (by decide) dX10_fuses_140 ?_
              rw [show μ9 (507 + (u1).toNat) (j).toNat = (k2 : Int) from (by
                      by_cases h9 : o1 = -1
                      · rw [hμ9.1 h9 |>.1]; exact h2.1
                      · rw [(hμ9.2 (by (first | ((try clear hcap); (try clear ho); omega) | omega))).1, uz_n (by (first | ((try clear hcap); (try clear ho); omega) | omega)), uz_n (by (first | ((try clear hcap); (try clear ho); omega) | omega)), uz_n (by (first | ((try clear hcap); (try clear ho); omega) | omega)), uz_n (by (first | ((try clear hcap); (try clear ho); omega) | omega))]; exact h2.1)]
              refine lv_iconst (v := iZ 1) hx hb dX10_fuses_141 rfl ?_
              refine fz_icmp_ne (tgt := 149) (by constructor <;> (first | ((try clear hcap); (try clear ho); omega) | omega)) (by decide) hx hb dX10_fuses_142 (by decide) (fun c142_ => ?_) (fun c142_ => ?_)
              · refine lv_iconst (v := iZ 0) hx hb dX10_fuses_149 rfl ?_
                exact W.iret (v := iZ (0)) hx hb hr (fun t9 ht9 hW9 => ⟨⟨iZ (0), (μ9, 0), rfl, ⟨rfl, (by
                                        dsimp only
                                        subst hl0
                                        have hfl : rfus Std.DTreeMap.Internal.Impl.leaf b1 = Std.DTreeMap.Internal.Impl.leaf := by cases b1 <;> rfl
                                        have hN0 : rN Std.DTreeMap.Internal.Impl.leaf = 0 := rfl
                                        refine ⟨fun h => (hμ9.1 h).1, fun h => ?_, ?_⟩
                                        · obtain ⟨e1, e2⟩ := hμ9.2 h
                                          have hn9 := hcap h
                                          rw [e1]
                                          refine ⟨fr_uz (fr_uz (fr_uz (fr_uz fr_rfl (by (first | ((try clear ho); (try clear hcap); (try clear hal); (try clear hi); (try clear hj); (try clear hd); (try clear ht); (try clear hu); (try clear hq1); (try clear hq2); (try clear hvA); (try clear hvB); (try clear hvC); (try clear hvD); (try clear hwA); (try clear hwB); (try clear hkT); (try clear hμ1); (try clear hμ5); (try clear hμ7); (try clear hμ9); (try clear hμc); unfold PG; omega) | (unfold PG; omega)))) (by (first | ((try clear ho); (try clear hcap); (try clear hal); (try clear hi); (try clear hj); (try clear hd); (try clear ht); (try clear hu); (try clear hq1); (try clear hq2); (try clear hvA); (try clear hvB); (try clear hvC); (try clear hvD); (try clear hwA); (try clear hwB); (try clear hkT); (try clear hμ1); (try clear hμ5); (try clear hμ7); (try clear hμ9); (try clear hμc); unfold PG; omega) | (unfold PG; omega)))) (by (first | ((try clear ho); (try clear hcap); (try clear hal); (try clear hi); (try clear hj); (try clear hd); (try clear ht); (try clear hu); (try clear hq1); (try clear hq2); (try clear hvA); (try clear hvB); (try clear hvC); (try clear hvD); (try clear hwA); (try clear hwB); (try clear hkT); (try clear hμ1); (try clear hμ5); (try clear hμ7); (try clear hμ9); (try clear hμc); unfold PG; omega) | (unfold PG; omega)))) (by (first | ((try clear ho); (try clear hcap); (try clear hal); (try clear hi); (try clear hj); (try clear hd); (try clear ht); (try clear hu); (try clear hq1); (try clear hq2); (try clear hvA); (try clear hvB); (try clear hvC); (try clear hvD); (try clear hwA); (try clear hwB); (try clear hkT); (try clear hμ1); (try clear hμ5); (try clear hμ7); (try clear hμ9); (try clear hμc); unfold PG; omega) | (unfold PG; omega))), by rw [uz_s, hN0]; omega, ?_, ?_, ?_, ?_⟩
                                          · rw [uz_n (by (first | ((try clear hcap); (try clear ho); omega) | omega)), uz_n (by (first | ((try clear hcap); (try clear ho); omega) | omega)), uz_n (by (first | ((try clear hcap); (try clear ho); omega) | omega)), uz_s]; unfold fK; first | ((try clear ho); (try clear hcap); (try clear hal); (try clear hi); (try clear hj); (try clear hd); (try clear ht); (try clear hu); (try clear hq1); (try clear hq2); (try clear hvA); (try clear hvB); (try clear hvC); (try clear hvD); (try clear hn9); (try clear hwB); (repeat (first | rw [if_pos (by (first | ((try clear hcap); (try clear ho); omega) | omega))] | rw [if_neg (by (first | ((try clear hcap); (try clear ho); omega) | omega))])) <;> first | omega | (cases b1 <;> rfl)) | ((repeat (first | rw [if_pos (by (first | ((try clear hcap); (try clear ho); omega) | omega))] | rw [if_neg (by (first | ((try clear hcap); (try clear ho); omega) | omega))])) <;> first | omega | (cases b1 <;> rfl))
                                          · rw [uz_n (by (first | ((try clear hcap); (try clear ho); omega) | omega)), uz_n (by (first | ((try clear hcap); (try clear ho); omega) | omega)), uz_s]; unfold fV; first | ((try clear ho); (try clear hcap); (try clear hal); (try clear hi); (try clear hj); (try clear hd); (try clear ht); (try clear hu); (try clear hq1); (try clear hq2); (try clear hvA); (try clear hvB); (try clear hvC); (try clear hvD); (try clear hn9); (try clear hwB); (repeat (first | rw [if_pos (by (first | ((try clear hcap); (try clear ho); omega) | omega))] | rw [if_neg (by (first | ((try clear hcap); (try clear ho); omega) | omega))])) <;> first | omega | (cases b1 <;> rfl)) | ((repeat (first | rw [if_pos (by (first | ((try clear hcap); (try clear ho); omega) | omega))] | rw [if_neg (by (first | ((try clear hcap); (try clear ho); omega) | omega))])) <;> first | omega | (cases b1 <;> rfl))
                                          · rw [uz_n (by (first | ((try clear hcap); (try clear ho); omega) | omega)), uz_s, hfl, hN0]; rfl
                                          · rw [hfl]; trivial
                                        · unfold fC; first | ((try clear ho); (try clear hcap); (try clear hal); (try clear hi); (try clear hj); (try clear hd); (try clear ht); (try clear hu); (try clear hq1); (try clear hq2); (try clear hvA); (try clear hvB); (try clear hvC); (try clear hvD); (try clear hn9); (try clear hwB); (repeat (first | rw [if_pos (by (first | ((try clear hcap); (try clear ho); omega) | omega))] | rw [if_neg (by (first | ((try clear hcap); (try clear ho); omega) | omega))])) <;> first | omega | (cases b1 <;> rfl)) | ((repeat (first | rw [if_pos (by (first | ((try clear hcap); (try clear ho); omega) | omega))] | rw [if_neg (by (first | ((try clear hcap); (try clear ho); omega) | omega))])) <;> first | omega | (cases b1 <;> rfl)))⟩, by rw [ht9]; exact hP, va_K.moved hW9.alike hK⟩, hS.F ht9⟩) hS.2.2 dX10_fuses_150
              · refine lv_iconst (v := iZ 1) hx hb dX10_fuses_145 rfl ?_
                refine lv_goto (tgt := 150) hx hb dX10_fuses_146 (by decide) ?_
                exact W.iret (v := iZ (1)) hx hb hr (fun t9 ht9 hW9 => ⟨⟨iZ (1), (μ9, 1), rfl, ⟨rfl, (by
                                        dsimp only
                                        subst hl0
                                        have hfl : rfus Std.DTreeMap.Internal.Impl.leaf b1 = Std.DTreeMap.Internal.Impl.leaf := by cases b1 <;> rfl
                                        have hN0 : rN Std.DTreeMap.Internal.Impl.leaf = 0 := rfl
                                        refine ⟨fun h => (hμ9.1 h).1, fun h => ?_, ?_⟩
                                        · obtain ⟨e1, e2⟩ := hμ9.2 h
                                          have hn9 := hcap h
                                          rw [e1]
                                          refine ⟨fr_uz (fr_uz (fr_uz (fr_uz fr_rfl (by (first | ((try clear ho); (try clear hcap); (try clear hal); (try clear hi); (try clear hj); (try clear hd); (try clear ht); (try clear hu); (try clear hq1); (try clear hq2); (try clear hvA); (try clear hvB); (try clear hvC); (try clear hvD); (try clear hwA); (try clear hwB); (try clear hkT); (try clear hμ1); (try clear hμ5); (try clear hμ7); (try clear hμ9); (try clear hμc); unfold PG; omega) | (unfold PG; omega)))) (by (first | ((try clear ho); (try clear hcap); (try clear hal); (try clear hi); (try clear hj); (try clear hd); (try clear ht); (try clear hu); (try clear hq1); (try clear hq2); (try clear hvA); (try clear hvB); (try clear hvC); (try clear hvD); (try clear hwA); (try clear hwB); (try clear hkT); (try clear hμ1); (try clear hμ5); (try clear hμ7); (try clear hμ9); (try clear hμc); unfold PG; omega) | (unfold PG; omega)))) (by (first | ((try clear ho); (try clear hcap); (try clear hal); (try clear hi); (try clear hj); (try clear hd); (try clear ht); (try clear hu); (try clear hq1); (try clear hq2); (try clear hvA); (try clear hvB); (try clear hvC); (try clear hvD); (try clear hwA); (try clear hwB); (try clear hkT); (try clear hμ1); (try clear hμ5); (try clear hμ7); (try clear hμ9); (try clear hμc); unfold PG; omega) | (unfold PG; omega)))) (by (first | ((try clear ho); (try clear hcap); (try clear hal); (try clear hi); (try clear hj); (try clear hd); (try clear ht); (try clear hu); (try clear hq1); (try clear hq2); (try clear hvA); (try clear hvB); (try clear hvC); (try clear hvD); (try clear hwA); (try clear hwB); (try clear hkT); (try clear hμ1); (try clear hμ5); (try clear hμ7); (try clear hμ9); (try clear hμc); unfold PG; omega) | (unfold PG; omega))), by rw [uz_s, hN0]; omega, ?_, ?_, ?_, ?_⟩
                                          · rw [uz_n (by (first | ((try clear hcap); (try clear ho); omega) | omega)), uz_n (by (first | ((try clear hcap); (try clear ho); omega) | omega)), uz_n (by (first | ((try clear hcap); (try clear ho); omega) | omega)), uz_s]; unfold fK; first | ((try clear ho); (try clear hcap); (try clear hal); (try clear hi); (try clear hj); (try clear hd); (try clear ht); (try clear hu); (try clear hq1); (try clear hq2); (try clear hvA); (try clear hvB); (try clear hvC); (try clear hvD); (try clear hn9); (try clear hwB); (repeat (first | rw [if_pos (by (first | ((try clear hcap); (try clear ho); omega) | omega))] | rw [if_neg (by (first | ((try clear hcap); (try clear ho); omega) | omega))])) <;> first | omega | (cases b1 <;> rfl)) | ((repeat (first | rw [if_pos (by (first | ((try clear hcap); (try clear ho); omega) | omega))] | rw [if_neg (by (first | ((try clear hcap); (try clear ho); omega) | omega))])) <;> first | omega | (cases b1 <;> rfl))
                                          · rw [uz_n (by (first | ((try clear hcap); (try clear ho); omega) | omega)), uz_n (by (first | ((try clear hcap); (try clear ho); omega) | omega)), uz_s]; unfold fV; first | ((try clear ho); (try clear hcap); (try clear hal); (try clear hi); (try clear hj); (try clear hd); (try clear ht); (try clear hu); (try clear hq1); (try clear hq2); (try clear hvA); (try clear hvB); (try clear hvC); (try clear hvD); (try clear hn9); (try clear hwB); (repeat (first | rw [if_pos (by (first | ((try clear hcap); (try clear ho); omega) | omega))] | rw [if_neg (by (first | ((try clear hcap); (try clear ho); omega) | omega))])) <;> first | omega | (cases b1 <;> rfl)) | ((repeat (first | rw [if_pos (by (first | ((try clear hcap); (try clear ho); omega) | omega))] | rw [if_neg (by (first | ((try clear hcap); (try clear ho); omega) | omega))])) <;> first | omega | (cases b1 <;> rfl))
                                          · rw [uz_n (by (first | ((try clear hcap); (try clear ho); omega) | omega)), uz_s, hfl, hN0]; rfl
                                          · rw [hfl]; trivial
                                        · unfold fC; first | ((try clear ho); (try clear hcap); (try clear hal); (try clear hi); (try clear hj); (try clear hd); (try clear ht); (try clear hu); (try clear hq1); (try clear hq2); (try clear hvA); (try clear hvB); (try clear hvC); (try clear hvD); (try clear hn9); (try clear hwB); (repeat (first | rw [if_pos (by (first | ((try clear hcap); (try clear ho); omega) | omega))] | rw [if_neg (by (first | ((try clear hcap); (try clear ho); omega) | omega))])) <;> first | omega | (cases b1 <;> rfl)) | ((repeat (first | rw [if_pos (by (first | ((try clear hcap); (try clear ho); omega) | omega))] | rw [if_neg (by (first | ((try clear hcap); (try clear ho); omega) | omega))])) <;> first | omega | (cases b1 <;> rfl)))⟩, by rw [ht9]; exact hP, va_K.moved hW9.alike hK⟩, hS.F ht9⟩) hS.2.2 dX10_fuses_150
          · refine lv_iconst (v := iZ 1) hx hb dX10_fuses_80 rfl ?_
            refine lv_goto (tgt := 85) hx hb dX10_fuses_81 (by decide) ?_
            refine lv_istore (lv' := [(7, .int (iZ (1))), (6, .int (iZ ((k : Int)))), (0, .ref h0), (1, .int (iZ (t))), (2, .int (iZ (i))), (3, .int (iZ (u1))), (4, .int (iZ (j))), (5, .int (iZ (o1)))]) hx hb dX10_fuses_85 hl (by decide) rfl (fun ls hl => ?_)
            refine lv_aload_n hx hb dX10_fuses_87 rfl (lv_at hl 2 rfl) ?_
            refine lv_iload hx hb dX10_fuses_88 (lv_at hl 7 rfl) ?_
            refine lv_iload hx hb dX10_fuses_90 (lv_at hl 0 rfl) ?_
            refine fz_if_eq (tgt := 99) (by decide) hx hb dX10_fuses_92 (by decide) (fun h9 => absurd h9 (by decide)) (fun c92_ => ?_)
            refine lv_iconst (v := iZ 1) hx hb dX10_fuses_95 rfl ?_
            refine lv_goto (tgt := 100) hx hb dX10_fuses_96 (by decide) ?_
            refine lv_iload hx hb dX10_fuses_100 (lv_at hl 0 rfl) ?_
            refine fz_if_eq (tgt := 116) (by decide) hx hb dX10_fuses_102 (by decide) (fun h9 => absurd h9 (by decide)) (fun c102_ => ?_)
            refine lv_aload_n hx hb dX10_fuses_105 rfl (lv_at hl 2 rfl) ?_
            refine fz_get (D := (dC, dI)) (ci := 10) (v := .ref (h0 + 577)) (C := RX10) (T := TX10) (N := 53) hx hb hts inG10 hown hK hP (k := 0) (by decide) (F := mF h0) mE_obj rfl 19 (by decide) (hts _ k1185) (fun _ h9 => h9) rfl dX10_fuses_106 ?_
            refine lv_iload_n hx hb dX10_fuses_109 rfl (lv_at hl 3 rfl) ?_
            refine fz_ald (k := 577) (n := 70) (k2 := (578 + (t).toNat)) hx hb hK hP 2 rfl (by decide) mE_token rfl ⟨by (first | ((try clear hcap); (try clear ho); omega) | omega), by (first | ((try clear hcap); (try clear ho); omega) | omega)⟩ (by decide) (if_pos (by (first | ((try clear hcap); (try clear ho); omega) | omega))) dX10_fuses_110 ?_
            refine lv_iload_n hx hb dX10_fuses_111 rfl (lv_at hl 4 rfl) ?_
            refine fz_ld (k := (578 + (t).toNat)) (n := 900) hx hb hK hP 0 (by (first | ((try clear hcap); (try clear ho); omega) | omega)) (mE_tokenR (by (first | ((try clear hcap); (try clear ho); omega) | omega))) rfl ⟨by (first | ((try clear hcap); (try clear ho); omega) | omega), by (first | ((try clear hcap); (try clear ho); omega) | omega)⟩ (by decide) dX10_fuses_112 ?_
            rw [show μ (578 + (t).toNat) (i).toNat = v from (by exact h1.2.1)]
            refine lv_goto (tgt := 117) hx hb dX10_fuses_113 (by decide) ?_
            refine va_calli (va_runV (As := [.int (iZ (o1)), .int (iZ (1)), .int (iZ (v))]) (rest := []) ⟨hx, hb, hml, hown, hts⟩ (m_adds l dC dI cI cZ cII cIII h0 H.size μ (o1) (1) (v) (by first | assumption | ((try clear hcap); (try clear ho); omega) | omega | exact ⟨by (first | ((try clear hcap); (try clear ho); omega) | omega), by (first | ((try clear hcap); (try clear ho); omega) | omega)⟩) (by intro h; have h9 := hcap h; omega)) (cwV 3 hts (gV_G k1377 k1379 ks_yX10_adds k13 k1380) rfl rfl rfl (by decide +kernel) ⟨by show 1 + 1 ≤ d + 3; omega, by show 8 + (5 + 11) + (14) ≤ 30 * d + 100; omega⟩) ⟨fun a U g mk q => by obtain ⟨q0, q1, qP, qK⟩ := q; exact ⟨q0, q1, qP, va_K.moved (u := U) (U := U.calling g mk a) (Vm.Alike.refl U.vm) qK⟩, va_recv hK hP (ci := 10) (q0 := 0) rfl ((fw_get (by decide)).trans (by rw [mE_obj]; rfl)), fun U hU hW => ⟨rfl, by rw [hU], by rw [hU]; exact hP, va_K.moved hW.alike hK⟩⟩ rfl rfl hl.1 rfl (lv_room (Nat.le_of_ble_eq_true rfl)) dX10_fuses_117 ⟨Nat.le_of_ble_eq_true rfl, Nat.le_of_ble_eq_true rfl⟩) hS (fun q _ h => fA_le hS.1 q h) (fA_le hS.1) (fun r9 u9 t9 H1 locs ht9 hvm9 hw9 hB9 hz9 hk9 hS => ?_)
            obtain ⟨μ11, r12⟩ := u9
            obtain ⟨hP, -⟩ := hB9
            rw [ht9] at hP
            generalize H1 = H at hP hS ⊢
            obtain ⟨e9, hw9⟩ := hw9
            have e9 : r9 = iZ r12 := e9
            subst e9
            simp only at hP hw9
            have hμ11 := hw9; clear hw9
            refine lv_pop hx hb dX10_fuses_120 rfl ?_
            refine lv_iload hx hb dX10_fuses_121 (lv_at hl 0 rfl) ?_
            refine fz_if_ne (tgt := 149) (by decide) hx hb dX10_fuses_123 (by decide) (fun c123_ => ?_) (fun h9 => absurd h9 (by decide))
            refine lv_iconst (v := iZ 0) hx hb dX10_fuses_149 rfl ?_
            exact W.iret (v := iZ (0)) hx hb hr (fun t9 ht9 hW9 => ⟨⟨iZ (0), (μ11, 0), rfl, ⟨rfl, (by
                                dsimp only
                                subst hl0
                                have hfl : rfus Std.DTreeMap.Internal.Impl.leaf b1 = Std.DTreeMap.Internal.Impl.leaf := by cases b1 <;> rfl
                                have hN0 : rN Std.DTreeMap.Internal.Impl.leaf = 0 := rfl
                                refine ⟨fun h => (hμ11.1 h).1, fun h => ?_, ?_⟩
                                · obtain ⟨e1, e2⟩ := hμ11.2 h
                                  have hn9 := hcap h
                                  rw [e1]
                                  refine ⟨fr_uz (fr_uz (fr_uz (fr_uz fr_rfl (by (first | ((try clear ho); (try clear hcap); (try clear hal); (try clear hi); (try clear hj); (try clear hd); (try clear ht); (try clear hu); (try clear hq1); (try clear hq2); (try clear hvA); (try clear hvB); (try clear hvC); (try clear hvD); (try clear hwA); (try clear hwB); (try clear hkT); (try clear hμ1); (try clear hμ5); (try clear hμ7); (try clear hμ9); (try clear hμc); unfold PG; omega) | (unfold PG; omega)))) (by (first | ((try clear ho); (try clear hcap); (try clear hal); (try clear hi); (try clear hj); (try clear hd); (try clear ht); (try clear hu); (try clear hq1); (try clear hq2); (try clear hvA); (try clear hvB); (try clear hvC); (try clear hvD); (try clear hwA); (try clear hwB); (try clear hkT); (try clear hμ1); (try clear hμ5); (try clear hμ7); (try clear hμ9); (try clear hμc); unfold PG; omega) | (unfold PG; omega)))) (by (first | ((try clear ho); (try clear hcap); (try clear hal); (try clear hi); (try clear hj); (try clear hd); (try clear ht); (try clear hu); (try clear hq1); (try clear hq2); (try clear hvA); (try clear hvB); (try clear hvC); (try clear hvD); (try clear hwA); (try clear hwB); (try clear hkT); (try clear hμ1); (try clear hμ5); (try clear hμ7); (try clear hμ9); (try clear hμc); unfold PG; omega) | (unfold PG; omega)))) (by (first | ((try clear ho); (try clear hcap); (try clear hal); (try clear hi); (try clear hj); (try clear hd); (try clear ht); (try clear hu); (try clear hq1); (try clear hq2); (try clear hvA); (try clear hvB); (try clear hvC); (try clear hvD); (try clear hwA); (try clear hwB); (try clear hkT); (try clear hμ1); (try clear hμ5); (try clear hμ7); (try clear hμ9); (try clear hμc); unfold PG; omega) | (unfold PG; omega))), by rw [uz_s, hN0]; omega, ?_, ?_, ?_, ?_⟩
                                  · rw [uz_n (by (first | ((try clear hcap); (try clear ho); omega) | omega)), uz_n (by (first | ((try clear hcap); (try clear ho); omega) | omega)), uz_n (by (first | ((try clear hcap); (try clear ho); omega) | omega)), uz_s]; unfold fK; first | ((try clear ho); (try clear hcap); (try clear hal); (try clear hi); (try clear hj); (try clear hd); (try clear ht); (try clear hu); (try clear hq1); (try clear hq2); (try clear hvA); (try clear hvB); (try clear hvC); (try clear hvD); (try clear hn9); (try clear hwB); (repeat (first | rw [if_pos (by (first | ((try clear hcap); (try clear ho); omega) | omega))] | rw [if_neg (by (first | ((try clear hcap); (try clear ho); omega) | omega))])) <;> first | omega | (cases b1 <;> rfl)) | ((repeat (first | rw [if_pos (by (first | ((try clear hcap); (try clear ho); omega) | omega))] | rw [if_neg (by (first | ((try clear hcap); (try clear ho); omega) | omega))])) <;> first | omega | (cases b1 <;> rfl))
                                  · rw [uz_n (by (first | ((try clear hcap); (try clear ho); omega) | omega)), uz_n (by (first | ((try clear hcap); (try clear ho); omega) | omega)), uz_s]; unfold fV; first | ((try clear ho); (try clear hcap); (try clear hal); (try clear hi); (try clear hj); (try clear hd); (try clear ht); (try clear hu); (try clear hq1); (try clear hq2); (try clear hvA); (try clear hvB); (try clear hvC); (try clear hvD); (try clear hn9); (try clear hwB); (repeat (first | rw [if_pos (by (first | ((try clear hcap); (try clear ho); omega) | omega))] | rw [if_neg (by (first | ((try clear hcap); (try clear ho); omega) | omega))])) <;> first | omega | (cases b1 <;> rfl)) | ((repeat (first | rw [if_pos (by (first | ((try clear hcap); (try clear ho); omega) | omega))] | rw [if_neg (by (first | ((try clear hcap); (try clear ho); omega) | omega))])) <;> first | omega | (cases b1 <;> rfl))
                                  · rw [uz_n (by (first | ((try clear hcap); (try clear ho); omega) | omega)), uz_s, hfl, hN0]; rfl
                                  · rw [hfl]; trivial
                                · unfold fC; first | ((try clear ho); (try clear hcap); (try clear hal); (try clear hi); (try clear hj); (try clear hd); (try clear ht); (try clear hu); (try clear hq1); (try clear hq2); (try clear hvA); (try clear hvB); (try clear hvC); (try clear hvD); (try clear hn9); (try clear hwB); (repeat (first | rw [if_pos (by (first | ((try clear hcap); (try clear ho); omega) | omega))] | rw [if_neg (by (first | ((try clear hcap); (try clear ho); omega) | omega))])) <;> first | omega | (cases b1 <;> rfl)) | ((repeat (first | rw [if_pos (by (first | ((try clear hcap); (try clear ho); omega) | omega))] | rw [if_neg (by (first | ((try clear hcap); (try clear ho); omega) | omega))])) <;> first | omega | (cases b1 <;> rfl)))⟩, by rw [ht9]; exact hP, va_K.moved hW9.alike hK⟩, hS.F ht9⟩) hS.2.2 dX10_fuses_150
  · have hl0 := hw1.2.1 (by (first | ((try clear hcap); (try clear ho); omega) | omega))
    refine lv_aload_n hx hb dX10_fuses_15 rfl (lv_at hl 1 rfl) ?_
    refine lv_iload hx hb dX10_fuses_16 (lv_at hl 6 rfl) ?_
    refine lv_iconst (v := iZ 0) hx hb dX10_fuses_18 rfl ?_
    refine lv_aload_n hx hb dX10_fuses_19 rfl (lv_at hl 1 rfl) ?_
    refine fz_get (D := (dC, dI)) (ci := 10) (v := .ref (h0 + 577)) (C := RX10) (T := TX10) (N := 53) hx hb hts inG10 hown hK hP (k := 0) (by decide) (F := mF h0) mE_obj rfl 19 (by decide) (hts _ k1185) (fun _ h9 => h9) rfl dX10_fuses_20 ?_
    refine lv_iload_n hx hb dX10_fuses_23 rfl (lv_at hl 2 rfl) ?_
    refine fz_ald (k := 577) (n := 70) (k2 := (578 + (t).toNat)) hx hb hK hP 2 rfl (by decide) mE_token rfl ⟨by (first | ((try clear hcap); (try clear ho); omega) | omega), by (first | ((try clear hcap); (try clear ho); omega) | omega)⟩ (by decide) (if_pos (by (first | ((try clear hcap); (try clear ho); omega) | omega))) dX10_fuses_24 ?_
    refine lv_iload_n hx hb dX10_fuses_25 rfl (lv_at hl 3 rfl) ?_
    refine fz_ld (k := (578 + (t).toNat)) (n := 900) hx hb hK hP 0 (by (first | ((try clear hcap); (try clear ho); omega) | omega)) (mE_tokenR (by (first | ((try clear hcap); (try clear ho); omega) | omega))) rfl ⟨by (first | ((try clear hcap); (try clear ho); omega) | omega), by (first | ((try clear hcap); (try clear ho); omega) | omega)⟩ (by decide) dX10_fuses_26 ?_
    rw [show μ (578 + (t).toNat) (i).toNat = v from (by exact h1.2.1)]
    refine va_calli (va_runV (As := [.int (iZ (o1)), .int (iZ (0)), .int (iZ (v))]) (rest := []) ⟨hx, hb, hml, hown, hts⟩ (m_adds l dC dI cI cZ cII cIII h0 s.heap.size μ (o1) (0) (v) (by first | assumption | ((try clear hcap); (try clear ho); omega) | omega | exact ⟨by (first | ((try clear hcap); (try clear ho); omega) | omega), by (first | ((try clear hcap); (try clear ho); omega) | omega)⟩) (by intro h; have h9 := hcap h; omega)) (cwV 3 hts (gV_G k1377 k1379 ks_yX10_adds k13 k1380) rfl rfl rfl (by decide +kernel) ⟨by show 1 + 1 ≤ d + 3; omega, by show 8 + (5 + 11) + (14) ≤ 30 * d + 100; omega⟩) ⟨fun a U g mk q => by obtain ⟨q0, q1, qP, qK⟩ := q; exact ⟨q0, q1, qP, va_K.moved (u := U) (U := U.calling g mk a) (Vm.Alike.refl U.vm) qK⟩, va_recv hK hP (ci := 10) (q0 := 0) rfl ((fw_get (by decide)).trans (by rw [mE_obj]; rfl)), fun U hU hW => ⟨rfl, by rw [hU], by rw [hU]; exact hP, va_K.moved hW.alike hK⟩⟩ rfl rfl hl.1 rfl (lv_room (Nat.le_of_ble_eq_true rfl)) dX10_fuses_27 ⟨Nat.le_of_ble_eq_true rfl, Nat.le_of_ble_eq_true rfl⟩) hS (fun q _ h => fA_le hS.1 q h) (fA_le hS.1) (fun r9 u9 t9 H1 locs ht9 hvm9 hw9 hB9 hz9 hk9 hS => ?_)
    obtain ⟨μ13, r14⟩ := u9
    obtain ⟨hP, -⟩ := hB9
    rw [ht9] at hP
    generalize H1 = H at hP hS ⊢
    obtain ⟨e9, hw9⟩ := hw9
    have e9 : r9 = iZ r14 := e9
    subst e9
    simp only at hP hw9
    have hμ13 := hw9; clear hw9
    refine lv_pop hx hb dX10_fuses_30 rfl ?_
    refine lv_iconst (v := iZ 0) hx hb dX10_fuses_31 rfl ?_
    exact W.iret (v := iZ (0)) hx hb hr (fun t9 ht9 hW9 => ⟨⟨iZ (0), (μ13, 0), rfl, ⟨rfl, (by
                dsimp only
                subst hl0
                have hfl : rfus Std.DTreeMap.Internal.Impl.leaf b1 = Std.DTreeMap.Internal.Impl.leaf := by cases b1 <;> rfl
                have hN0 : rN Std.DTreeMap.Internal.Impl.leaf = 0 := rfl
                refine ⟨fun h => (hμ13.1 h).1, fun h => ?_, ?_⟩
                · obtain ⟨e1, e2⟩ := hμ13.2 h
                  have hn9 := hcap h
                  rw [e1]
                  refine ⟨fr_uz (fr_uz (fr_uz (fr_uz fr_rfl (by (first | ((try clear ho); (try clear hcap); (try clear hal); (try clear hi); (try clear hj); (try clear hd); (try clear ht); (try clear hu); (try clear hq1); (try clear hq2); (try clear hvA); (try clear hvB); (try clear hvC); (try clear hvD); (try clear hwA); (try clear hwB); (try clear hkT); (try clear hμ1); (try clear hμ5); (try clear hμ7); (try clear hμ9); (try clear hμc); unfold PG; omega) | (unfold PG; omega)))) (by (first | ((try clear ho); (try clear hcap); (try clear hal); (try clear hi); (try clear hj); (try clear hd); (try clear ht); (try clear hu); (try clear hq1); (try clear hq2); (try clear hvA); (try clear hvB); (try clear hvC); (try clear hvD); (try clear hwA); (try clear hwB); (try clear hkT); (try clear hμ1); (try clear hμ5); (try clear hμ7); (try clear hμ9); (try clear hμc); unfold PG; omega) | (unfold PG; omega)))) (by (first | ((try clear ho); (try clear hcap); (try clear hal); (try clear hi); (try clear hj); (try clear hd); (try clear ht); (try clear hu); (try clear hq1); (try clear hq2); (try clear hvA); (try clear hvB); (try clear hvC); (try clear hvD); (try clear hwA); (try clear hwB); (try clear hkT); (try clear hμ1); (try clear hμ5); (try clear hμ7); (try clear hμ9); (try clear hμc); unfold PG; omega) | (unfold PG; omega)))) (by (first | ((try clear ho); (try clear hcap); (try clear hal); (try clear hi); (try clear hj); (try clear hd); (try clear ht); (try clear hu); (try clear hq1); (try clear hq2); (try clear hvA); (try clear hvB); (try clear hvC); (try clear hvD); (try clear hwA); (try clear hwB); (try clear hkT); (try clear hμ1); (try clear hμ5); (try clear hμ7); (try clear hμ9); (try clear hμc); unfold PG; omega) | (unfold PG; omega))), by rw [uz_s, hN0]; omega, ?_, ?_, ?_, ?_⟩
                  · rw [uz_n (by (first | ((try clear hcap); (try clear ho); omega) | omega)), uz_n (by (first | ((try clear hcap); (try clear ho); omega) | omega)), uz_n (by (first | ((try clear hcap); (try clear ho); omega) | omega)), uz_s]; unfold fK; first | ((try clear ho); (try clear hcap); (try clear hal); (try clear hi); (try clear hj); (try clear hd); (try clear ht); (try clear hu); (try clear hq1); (try clear hq2); (try clear hvA); (try clear hvB); (try clear hvC); (try clear hvD); (try clear hn9); (try clear hwB); (repeat (first | rw [if_pos (by (first | ((try clear hcap); (try clear ho); omega) | omega))] | rw [if_neg (by (first | ((try clear hcap); (try clear ho); omega) | omega))])) <;> first | omega | (cases b1 <;> rfl)) | ((repeat (first | rw [if_pos (by (first | ((try clear hcap); (try clear ho); omega) | omega))] | rw [if_neg (by (first | ((try clear hcap); (try clear ho); omega) | omega))])) <;> first | omega | (cases b1 <;> rfl))
                  · rw [uz_n (by (first | ((try clear hcap); (try clear ho); omega) | omega)), uz_n (by (first | ((try clear hcap); (try clear ho); omega) | omega)), uz_s]; unfold fV; first | ((try clear ho); (try clear hcap); (try clear hal); (try clear hi); (try clear hj); (try clear hd); (try clear ht); (try clear hu); (try clear hq1); (try clear hq2); (try clear hvA); (try clear hvB); (try clear hvC); (try clear hvD); (try clear hn9); (try clear hwB); (repeat (first | rw [if_pos (by (first | ((try clear hcap); (try clear ho); omega) | omega))] | rw [if_neg (by (first | ((try clear hcap); (try clear ho); omega) | omega))])) <;> first | omega | (cases b1 <;> rfl)) | ((repeat (first | rw [if_pos (by (first | ((try clear hcap); (try clear ho); omega) | omega))] | rw [if_neg (by (first | ((try clear hcap); (try clear ho); omega) | omega))])) <;> first | omega | (cases b1 <;> rfl))
                  · rw [uz_n (by (first | ((try clear hcap); (try clear ho); omega) | omega)), uz_s, hfl, hN0]; rfl
                  · rw [hfl]; trivial
                · unfold fC; first | ((try clear ho); (try clear hcap); (try clear hal); (try clear hi); (try clear hj); (try clear hd); (try clear ht); (try clear hu); (try clear hq1); (try clear hq2); (try clear hvA); (try clear hvB); (try clear hvC); (try clear hvD); (try clear hn9); (try clear hwB); (repeat (first | rw [if_pos (by (first | ((try clear hcap); (try clear ho); omega) | omega))] | rw [if_neg (by (first | ((try clear hcap); (try clear ho); omega) | omega))])) <;> first | omega | (cases b1 <;> rfl)) | ((repeat (first | rw [if_pos (by (first | ((try clear hcap); (try clear ho); omega) | omega))] | rw [if_neg (by (first | ((try clear hcap); (try clear ho); omega) | omega))])) <;> first | omega | (cases b1 <;> rfl)))⟩, by rw [ht9]; exact hP, va_K.moved hW9.alike hK⟩, hS.F ht9⟩) hS.2.2 dX10_fuses_32

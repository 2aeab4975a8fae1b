theorem k1504 : (Cond.methodLink "PageSkeletonModel" (380 : Nat) ({ cls := "PageSkeletonModel", name := "laysStates", desc := "()V" } : MethodName)) ∈ wsG := wsG_at 1504 (by decide +kernel) (by decide +kernel)
theorem k1506 : (Cond.instanceMethod ({ cls := "PageSkeletonModel", name := "laysStates", desc := "()V" } : MethodName)) ∈ wsG := wsG_at 1506 (by decide +kernel) (by decide +kernel)
theorem k1507 : (Cond.code ({ cls := "PageSkeletonModel", name := "laysStates", desc := "()V" } : MethodName) prog_12_method_73_code (4 : Nat) (Option.none : Option Jvm.ClassFile.FieldType)) ∈ wsG := wsG_at 1507 (by decide +kernel) (by decide +kernel)
theorem k1512 : (Cond.methodLink "PageSkeletonModel" (383 : Nat) ({ cls := "PageSkeletonModel", name := "takes", desc := "(II)Z" } : MethodName)) ∈ wsG := wsG_at 1512 (by decide +kernel) (by decide +kernel)
theorem k1514 : (Cond.instanceMethod ({ cls := "PageSkeletonModel", name := "takes", desc := "(II)Z" } : MethodName)) ∈ wsG := wsG_at 1514 (by decide +kernel) (by decide +kernel)
theorem k1515 : (Cond.code ({ cls := "PageSkeletonModel", name := "takes", desc := "(II)Z" } : MethodName) prog_12_method_76_code (5 : Nat) (Option.some FieldType.boolean)) ∈ wsG := wsG_at 1515 (by decide +kernel) (by decide +kernel)
theorem k1516 : (Cond.methodLink "PageSkeletonModel" (386 : Nat) ({ cls := "PageSkeletonModel", name := "waysFrom", desc := "(III)I" } : MethodName)) ∈ wsG := wsG_at 1516 (by decide +kernel) (by decide +kernel)
theorem k1518 : (Cond.instanceMethod ({ cls := "PageSkeletonModel", name := "waysFrom", desc := "(III)I" } : MethodName)) ∈ wsG := wsG_at 1518 (by decide +kernel) (by decide +kernel)
theorem k1519 : (Cond.code ({ cls := "PageSkeletonModel", name := "waysFrom", desc := "(III)I" } : MethodName) prog_12_method_78_code (4 : Nat) (Option.some FieldType.int)) ∈ wsG := wsG_at 1519 (by decide +kernel) (by decide +kernel)
theorem ks_yX10_waysFrom : Cond.selects RX10 yX10_waysFrom yX10_waysFrom ∈ wsG := wsG_mem (by decide +kernel) (by decide +kernel)
theorem ks_yX10_takes : Cond.selects RX10 yX10_takes yX10_takes ∈ wsG := wsG_mem (by decide +kernel) (by decide +kernel)
theorem ks_yX10_laysStates : Cond.selects RX10 yX10_laysStates yX10_laysStates ∈ wsG := wsG_mem (by decide +kernel) (by decide +kernel)
theorem dX10_laysWays_0 : decode cX10_laysWays 0 = .ok (.aload_n 0, 1) := by decide +kernel
theorem dX10_laysWays_1 : decode cX10_laysWays 1 = .ok (.invokevirtual 380, 3) := by decide +kernel
theorem dX10_laysWays_4 : decode cX10_laysWays 4 = .ok (.aload_n 0, 1) := by decide +kernel
theorem dX10_laysWays_5 : decode cX10_laysWays 5 = .ok (.getfield 34, 3) := by decide +kernel
theorem dX10_laysWays_8 : decode cX10_laysWays 8 = .ok (.iload_n 1, 1) := by decide +kernel
theorem dX10_laysWays_9 : decode cX10_laysWays 9 = .ok (.iaload, 1) := by decide +kernel
theorem dX10_laysWays_10 : decode cX10_laysWays 10 = .ok (.istore_n 2, 1) := by decide +kernel
theorem dX10_laysWays_11 : decode cX10_laysWays 11 = .ok (.iload_n 2, 1) := by decide +kernel
theorem dX10_laysWays_12 : decode cX10_laysWays 12 = .ok (.ifCond .lt 197, 3) := by decide +kernel
theorem dX10_laysWays_15 : decode cX10_laysWays 15 = .ok (.iconst 0, 1) := by decide +kernel
theorem dX10_laysWays_16 : decode cX10_laysWays 16 = .ok (.istore_n 3, 1) := by decide +kernel
theorem dX10_laysWays_17 : decode cX10_laysWays 17 = .ok (.iload_n 3, 1) := by decide +kernel
theorem dX10_laysWays_18 : decode cX10_laysWays 18 = .ok (.aload_n 0, 1) := by decide +kernel
theorem dX10_laysWays_19 : decode cX10_laysWays 19 = .ok (.getfield 367, 3) := by decide +kernel
theorem dX10_laysWays_22 : decode cX10_laysWays 22 = .ok (.if_icmp .gt 18, 3) := by decide +kernel
theorem dX10_laysWays_25 : decode cX10_laysWays 25 = .ok (.aload_n 0, 1) := by decide +kernel
theorem dX10_laysWays_26 : decode cX10_laysWays 26 = .ok (.getfield 97, 3) := by decide +kernel
theorem dX10_laysWays_29 : decode cX10_laysWays 29 = .ok (.iload_n 3, 1) := by decide +kernel
theorem dX10_laysWays_30 : decode cX10_laysWays 30 = .ok (.aaload, 1) := by decide +kernel
theorem dX10_laysWays_31 : decode cX10_laysWays 31 = .ok (.iload_n 2, 1) := by decide +kernel
theorem dX10_laysWays_32 : decode cX10_laysWays 32 = .ok (.iconst 0, 1) := by decide +kernel
theorem dX10_laysWays_33 : decode cX10_laysWays 33 = .ok (.iastore, 1) := by decide +kernel
theorem dX10_laysWays_34 : decode cX10_laysWays 34 = .ok (.iinc 3 1, 3) := by decide +kernel
theorem dX10_laysWays_37 : decode cX10_laysWays 37 = .ok (.goto (-20), 3) := by decide +kernel
theorem dX10_laysWays_40 : decode cX10_laysWays 40 = .ok (.aload_n 0, 1) := by decide +kernel
theorem dX10_laysWays_41 : decode cX10_laysWays 41 = .ok (.getfield 97, 3) := by decide +kernel
theorem dX10_laysWays_44 : decode cX10_laysWays 44 = .ok (.aload_n 0, 1) := by decide +kernel
theorem dX10_laysWays_45 : decode cX10_laysWays 45 = .ok (.getfield 367, 3) := by decide +kernel
theorem dX10_laysWays_48 : decode cX10_laysWays 48 = .ok (.aaload, 1) := by decide +kernel
theorem dX10_laysWays_49 : decode cX10_laysWays 49 = .ok (.iload_n 2, 1) := by decide +kernel
theorem dX10_laysWays_50 : decode cX10_laysWays 50 = .ok (.iload_n 2, 1) := by decide +kernel
theorem dX10_laysWays_51 : decode cX10_laysWays 51 = .ok (.aload_n 0, 1) := by decide +kernel
theorem dX10_laysWays_52 : decode cX10_laysWays 52 = .ok (.getfield 34, 3) := by decide +kernel
theorem dX10_laysWays_55 : decode cX10_laysWays 55 = .ok (.iload_n 1, 1) := by decide +kernel
theorem dX10_laysWays_56 : decode cX10_laysWays 56 = .ok (.iaload, 1) := by decide +kernel
theorem dX10_laysWays_57 : decode cX10_laysWays 57 = .ok (.if_icmp .ne 7, 3) := by decide +kernel
theorem dX10_laysWays_60 : decode cX10_laysWays 60 = .ok (.iconst 1, 1) := by decide +kernel
theorem dX10_laysWays_61 : decode cX10_laysWays 61 = .ok (.goto 4, 3) := by decide +kernel
theorem dX10_laysWays_64 : decode cX10_laysWays 64 = .ok (.iconst 0, 1) := by decide +kernel
theorem dX10_laysWays_65 : decode cX10_laysWays 65 = .ok (.iastore, 1) := by decide +kernel
theorem dX10_laysWays_66 : decode cX10_laysWays 66 = .ok (.iconst 1, 1) := by decide +kernel
theorem dX10_laysWays_67 : decode cX10_laysWays 67 = .ok (.istore_n 3, 1) := by decide +kernel
theorem dX10_laysWays_68 : decode cX10_laysWays 68 = .ok (.iload_n 3, 1) := by decide +kernel
theorem dX10_laysWays_69 : decode cX10_laysWays 69 = .ok (.ifCond .eq 134, 3) := by decide +kernel
theorem dX10_laysWays_72 : decode cX10_laysWays 72 = .ok (.iconst 0, 1) := by decide +kernel
theorem dX10_laysWays_73 : decode cX10_laysWays 73 = .ok (.istore_n 3, 1) := by decide +kernel
theorem dX10_laysWays_74 : decode cX10_laysWays 74 = .ok (.aload_n 0, 1) := by decide +kernel
theorem dX10_laysWays_75 : decode cX10_laysWays 75 = .ok (.getfield 367, 3) := by decide +kernel
theorem dX10_laysWays_78 : decode cX10_laysWays 78 = .ok (.iconst 1, 1) := by decide +kernel
theorem dX10_laysWays_79 : decode cX10_laysWays 79 = .ok (.isub, 1) := by decide +kernel
theorem dX10_laysWays_80 : decode cX10_laysWays 80 = .ok (.istore 4, 2) := by decide +kernel
theorem dX10_laysWays_82 : decode cX10_laysWays 82 = .ok (.iload 4, 2) := by decide +kernel
theorem dX10_laysWays_84 : decode cX10_laysWays 84 = .ok (.ifCond .lt 116, 3) := by decide +kernel
theorem dX10_laysWays_87 : decode cX10_laysWays 87 = .ok (.aload_n 0, 1) := by decide +kernel
theorem dX10_laysWays_88 : decode cX10_laysWays 88 = .ok (.iload 4, 2) := by decide +kernel
theorem dX10_laysWays_90 : decode cX10_laysWays 90 = .ok (.invokevirtual 371, 3) := by decide +kernel
theorem dX10_laysWays_93 : decode cX10_laysWays 93 = .ok (.ifCond .eq 34, 3) := by decide +kernel
theorem dX10_laysWays_96 : decode cX10_laysWays 96 = .ok (.iload_n 2, 1) := by decide +kernel
theorem dX10_laysWays_97 : decode cX10_laysWays 97 = .ok (.aload_n 0, 1) := by decide +kernel
theorem dX10_laysWays_98 : decode cX10_laysWays 98 = .ok (.getfield 34, 3) := by decide +kernel
theorem dX10_laysWays_101 : decode cX10_laysWays 101 = .ok (.iload_n 1, 1) := by decide +kernel
theorem dX10_laysWays_102 : decode cX10_laysWays 102 = .ok (.iaload, 1) := by decide +kernel
theorem dX10_laysWays_103 : decode cX10_laysWays 103 = .ok (.if_icmp .ge 24, 3) := by decide +kernel
theorem dX10_laysWays_106 : decode cX10_laysWays 106 = .ok (.aload_n 0, 1) := by decide +kernel
theorem dX10_laysWays_107 : decode cX10_laysWays 107 = .ok (.iload 4, 2) := by decide +kernel
theorem dX10_laysWays_109 : decode cX10_laysWays 109 = .ok (.aload_n 0, 1) := by decide +kernel
theorem dX10_laysWays_110 : decode cX10_laysWays 110 = .ok (.getfield 31, 3) := by decide +kernel
theorem dX10_laysWays_113 : decode cX10_laysWays 113 = .ok (.iload_n 1, 1) := by decide +kernel
theorem dX10_laysWays_114 : decode cX10_laysWays 114 = .ok (.aaload, 1) := by decide +kernel
theorem dX10_laysWays_115 : decode cX10_laysWays 115 = .ok (.iload_n 2, 1) := by decide +kernel
theorem dX10_laysWays_116 : decode cX10_laysWays 116 = .ok (.iaload, 1) := by decide +kernel
theorem dX10_laysWays_117 : decode cX10_laysWays 117 = .ok (.invokevirtual 383, 3) := by decide +kernel
theorem dX10_laysWays_120 : decode cX10_laysWays 120 = .ok (.ifCond .eq 7, 3) := by decide +kernel
theorem dX10_laysWays_123 : decode cX10_laysWays 123 = .ok (.iconst 1, 1) := by decide +kernel
theorem dX10_laysWays_124 : decode cX10_laysWays 124 = .ok (.goto 4, 3) := by decide +kernel
theorem dX10_laysWays_127 : decode cX10_laysWays 127 = .ok (.iconst 0, 1) := by decide +kernel
theorem dX10_laysWays_128 : decode cX10_laysWays 128 = .ok (.istore 5, 2) := by decide +kernel
theorem dX10_laysWays_130 : decode cX10_laysWays 130 = .ok (.aload_n 0, 1) := by decide +kernel
theorem dX10_laysWays_131 : decode cX10_laysWays 131 = .ok (.iload 4, 2) := by decide +kernel
theorem dX10_laysWays_133 : decode cX10_laysWays 133 = .ok (.iload_n 2, 1) := by decide +kernel
theorem dX10_laysWays_134 : decode cX10_laysWays 134 = .ok (.iload 5, 2) := by decide +kernel
theorem dX10_laysWays_136 : decode cX10_laysWays 136 = .ok (.ifCond .eq 19, 3) := by decide +kernel
theorem dX10_laysWays_139 : decode cX10_laysWays 139 = .ok (.aload_n 0, 1) := by decide +kernel
theorem dX10_laysWays_140 : decode cX10_laysWays 140 = .ok (.getfield 97, 3) := by decide +kernel
theorem dX10_laysWays_143 : decode cX10_laysWays 143 = .ok (.iload 4, 2) := by decide +kernel
theorem dX10_laysWays_145 : decode cX10_laysWays 145 = .ok (.iconst 1, 1) := by decide +kernel
theorem dX10_laysWays_146 : decode cX10_laysWays 146 = .ok (.iadd, 1) := by decide +kernel
theorem dX10_laysWays_147 : decode cX10_laysWays 147 = .ok (.aaload, 1) := by decide +kernel
theorem dX10_laysWays_148 : decode cX10_laysWays 148 = .ok (.iload_n 2, 1) := by decide +kernel
theorem dX10_laysWays_149 : decode cX10_laysWays 149 = .ok (.iconst 1, 1) := by decide +kernel
theorem dX10_laysWays_150 : decode cX10_laysWays 150 = .ok (.iadd, 1) := by decide +kernel
theorem dX10_laysWays_151 : decode cX10_laysWays 151 = .ok (.iaload, 1) := by decide +kernel
theorem dX10_laysWays_152 : decode cX10_laysWays 152 = .ok (.goto 4, 3) := by decide +kernel
theorem dX10_laysWays_155 : decode cX10_laysWays 155 = .ok (.iconst 0, 1) := by decide +kernel
theorem dX10_laysWays_156 : decode cX10_laysWays 156 = .ok (.invokevirtual 386, 3) := by decide +kernel
theorem dX10_laysWays_159 : decode cX10_laysWays 159 = .ok (.istore 6, 2) := by decide +kernel
theorem dX10_laysWays_161 : decode cX10_laysWays 161 = .ok (.iload_n 3, 1) := by decide +kernel
theorem dX10_laysWays_162 : decode cX10_laysWays 162 = .ok (.iload 6, 2) := by decide +kernel
theorem dX10_laysWays_164 : decode cX10_laysWays 164 = .ok (.aload_n 0, 1) := by decide +kernel
theorem dX10_laysWays_165 : decode cX10_laysWays 165 = .ok (.getfield 97, 3) := by decide +kernel
theorem dX10_laysWays_168 : decode cX10_laysWays 168 = .ok (.iload 4, 2) := by decide +kernel
theorem dX10_laysWays_170 : decode cX10_laysWays 170 = .ok (.aaload, 1) := by decide +kernel
theorem dX10_laysWays_171 : decode cX10_laysWays 171 = .ok (.iload_n 2, 1) := by decide +kernel
theorem dX10_laysWays_172 : decode cX10_laysWays 172 = .ok (.iaload, 1) := by decide +kernel
theorem dX10_laysWays_173 : decode cX10_laysWays 173 = .ok (.if_icmp .eq 7, 3) := by decide +kernel
theorem dX10_laysWays_176 : decode cX10_laysWays 176 = .ok (.iconst 1, 1) := by decide +kernel
theorem dX10_laysWays_177 : decode cX10_laysWays 177 = .ok (.goto 4, 3) := by decide +kernel
theorem dX10_laysWays_180 : decode cX10_laysWays 180 = .ok (.iconst 0, 1) := by decide +kernel
theorem dX10_laysWays_181 : decode cX10_laysWays 181 = .ok (.ior, 1) := by decide +kernel
theorem dX10_laysWays_182 : decode cX10_laysWays 182 = .ok (.istore_n 3, 1) := by decide +kernel
theorem dX10_laysWays_183 : decode cX10_laysWays 183 = .ok (.aload_n 0, 1) := by decide +kernel
theorem dX10_laysWays_184 : decode cX10_laysWays 184 = .ok (.getfield 97, 3) := by decide +kernel
theorem dX10_laysWays_187 : decode cX10_laysWays 187 = .ok (.iload 4, 2) := by decide +kernel
theorem dX10_laysWays_189 : decode cX10_laysWays 189 = .ok (.aaload, 1) := by decide +kernel
theorem dX10_laysWays_190 : decode cX10_laysWays 190 = .ok (.iload_n 2, 1) := by decide +kernel
theorem dX10_laysWays_191 : decode cX10_laysWays 191 = .ok (.iload 6, 2) := by decide +kernel
theorem dX10_laysWays_193 : decode cX10_laysWays 193 = .ok (.iastore, 1) := by decide +kernel
theorem dX10_laysWays_194 : decode cX10_laysWays 194 = .ok (.iinc 4 (-1), 3) := by decide +kernel
theorem dX10_laysWays_197 : decode cX10_laysWays 197 = .ok (.goto (-115), 3) := by decide +kernel
theorem dX10_laysWays_200 : decode cX10_laysWays 200 = .ok (.goto (-132), 3) := by decide +kernel
theorem dX10_laysWays_203 : decode cX10_laysWays 203 = .ok (.iinc 2 (-1), 3) := by decide +kernel
theorem dX10_laysWays_206 : decode cX10_laysWays 206 = .ok (.goto (-195), 3) := by decide +kernel
theorem dX10_laysWays_209 : decode cX10_laysWays 209 = .ok (.return_, 1) := by decide +kernel
theorem uz_id {μ : va_M} {k j : Nat} {v : Int} (h : v = μ k j) : uz μ k j v = μ := funext fun a => funext fun b => by
  unfold uz
  split
  · next h2 => rw [h2.1, h2.2, h]
  · rfl
/-- what the laying of ways keeps within a column -/
def wayI (μ0 μ : va_M) (P : Int) (pp pos : Nat) : Prop := fr (colF pos) μ0 μ ∧ fxI μ pos (tkv μ P pp pos) ∧ cOK μ pos ∧ μ (4416 + (μ 0 39).toNat) pos = (if (pos : Int) = P then 1 else 0)
theorem colF_n {pos x y : Nat} (h : x < 4416 ∨ 6316 ≤ x ∨ y ≠ pos) : ¬ colF pos x y := by unfold colF CF; omega
theorem wayI_O {μ0 μ : va_M} {P : Int} {pp pos : Nat} (h : wayI μ0 μ P pp pos) (hO : stOK μ0) : stOK μ := stOK_fr hO h.1 (fun x y hh => by unfold colF CF at hh; omega)
theorem tkv_rng {μ : va_M} {P : Int} {pp pos x : Nat} (hx : (x : Int) < μ 0 39) (h : (pos : Int) < P → cOK μ (pos + 1)) : 0 ≤ tkv μ P pp pos x ∧ tkv μ P pp pos x ≤ 1000000000 := by
  unfold tkv
  split
  · next h1 => exact h h1.2.1 (x + 1) (by omega)
  · omega
theorem wayI_up {μ0 μ : va_M} {P : Int} {pp pos q : Nat} (hp : pp < 8) (h : wayI μ0 μ P pp pos) (hO : stOK μ0) (hq : (q : Int) < μ 0 39) (hn : (pos : Int) < P → cOK μ (pos + 1)) : wayI μ0 (uz μ (4416 + q) pos (wF μ q pos (tkv μ P pp pos q))) P pp pos ∧ mS (uz μ (4416 + q) pos (wF μ q pos (tkv μ P pp pos q))) pos (μ 0 39).toNat ≤ mS μ pos (μ 0 39).toNat ∧ (wF μ q pos (tkv μ P pp pos q) ≠ μ (4416 + q) pos → mS (uz μ (4416 + q) pos (wF μ q pos (tkv μ P pp pos q))) pos (μ 0 39).toNat < mS μ pos (μ 0 39).toNat) := by
  have hO1 := wayI_O h hO
  obtain ⟨h1, h2, h3, h4⟩ := h
  have hr := wF_rng hO1 hq h3 (tkv_rng (P := P) (pp := pp) hq hn)
  have hle := h2 q hq
  have hb := hO1.2.1
  have hu := mS_up (μ := μ) (q := q) (col := pos) (v := wF μ q pos (tkv μ P pp pos q)) (μ 0 39).toNat (by omega) hle hr.2
  refine ⟨⟨fr_uz h1 ⟨by unfold CF; omega, rfl⟩, ?_, ?_, ?_⟩, hu.1, fun hne => hu.2 (by omega)⟩
  · have h9 := fxI_up hO1 hq h2
    intro x hx
    rw [tkv_uz hp]
    exact h9 x hx
  · intro x hx
    rw [uz_n (by omega)] at hx
    by_cases hxq : x = q
    · subst hxq; rw [uz_s]; exact hr
    · rw [uz_n (by omega)]; exact h3 x hx
  · rw [uz_n (show ¬ (0 = 4416 + q ∧ 39 = pos) by omega), uz_n (by omega)]; exact h4
theorem RS_fr {μ u : va_M} : ∀ (w : Rw) (p q : Nat), RS μ w p q → (∀ x, u 4412 x = μ 4412 x ∧ u 4413 x = μ 4413 x ∧ u 4414 x = μ 4414 x) → RS u w p q
  | .leaf, _, _, _, _ => trivial
  | .inner z k v l r, p, q, h, g => by
    rw [RS] at h ⊢
    obtain ⟨h1, h2, h3⟩ := h
    refine ⟨by rw [(g _).1]; exact h1, by rw [(g _).2.2]; exact h2, ?_⟩
    split
    · next hk => rw [if_pos hk] at h3; exact RS_fr r _ _ h3 g
    · next hk =>
      rw [if_neg hk] at h3
      obtain ⟨t1, t2, t3, t4, t5, t6⟩ := h3
      exact ⟨by rw [(g _).2.1]; exact t1, RS_fr l _ _ t2 g, by rw [(g _).1]; exact t3, by rw [(g _).2.2]; exact t4, by rw [(g _).2.1]; exact t5, RS_fr r _ _ t6 g⟩
def SW (x y : Nat) : Prop := SF x y ∨ CF x
set_option maxHeartbeats 4000000 in
set_option maxRecDepth 100000 in
theorem LX10_laysWays_17 {p : Program} {l : Launch} {e : Env} {R : Room} {s : State} {m : MethodId} {args : Array Value} {below : List Frame} {meth : Method} {c : Code} {cells slots : Nat} {Q : State → Prop} {dC : Nat → ClassId} {dI : Nat → Nat → Nat} {h0 : Nat} {cI cZ cII cIII : ClassId} (hx : p.tables.exec = Jvm.exec) (hb : c.code = cX10_laysWays) (hml : c.maxLocals = 7) (hown : s.vm.findClass RX10 = some m.cls) (hts : ∀ w ∈ wsG, w.before args s = true) (hK : va_K (dC, dI) vwCl (mT cI cZ cII cIII) s) (hRf : 5 ≤ R.frames) (hRl : 120 ≤ R.locals) (hRc : cells ≤ R.cells) (hRs : slots ≤ R.slots) (μ0 : va_M) (pp : Int) (pos : Int) (hO : stOK μ0) (hpos : 0 ≤ pos ∧ pos ≤ 60) (hexit40 : ∀ (q : Int) (μ : va_M) (H : Heap) (locs : List Loc) (ls : Array Slot), (fr (colF pos.toNat) μ0 μ) → (∀ x : Nat, (x : Int) ≤ μ0 0 39 → μ (4416 + x) pos.toNat = 0) → va_P (dC, dI) vwCl (fw (mE cI cZ cII cIII h0) h0 6325 μ) H → va_S (fA h0 6325 s.heap.size) s.heap H locs → lv_has ls 7 [(2, .int (iZ (pos))), (1, .int (iZ (pp))), (0, .ref h0)] → W p l e R s m args below meth c H locs cells slots Q (F0 m 40 ls [])) :
    ∀ (n9 : Nat) (q : Int) (μ : va_M) (H : Heap) (locs : List Loc) (ls : Array Slot), (0 ≤ q ∧ q ≤ μ0 0 39 + 1) → (fr (colF pos.toNat) μ0 μ) → (∀ x : Nat, (x : Int) < q → μ (4416 + x) pos.toNat = 0) → (2000 - q).toNat < n9 → va_P (dC, dI) vwCl (fw (mE cI cZ cII cIII h0) h0 6325 μ) H → va_S (fA h0 6325 s.heap.size) s.heap H locs → lv_has ls 7 [(3, .int (iZ (q))), (2, .int (iZ (pos))), (1, .int (iZ (pp))), (0, .ref h0)] → W p l e R s m args below meth c H locs cells slots Q (F0 m 17 ls []) := by
  intro n9
  induction n9 with
  | zero => intro q μ H locs ls hq hf hz hm9 hP hS hl; exact absurd hm9 (Nat.not_lt_zero _)
  | succ n9 ih =>
    intro q μ H locs ls hq hf hz hm9 hP hS hl
    have e39 : μ 0 39 = μ0 0 39 := hf 0 39 (colF_n (by omega))
    have hb1 := hO.1
    have hb2 := hO.2.1
    refine lv_iload_n hx hb dX10_laysWays_17 rfl (lv_at hl 0 rfl) ?_
    refine lv_aload_n hx hb dX10_laysWays_18 rfl (lv_at hl 3 rfl) ?_
    refine fz_get (D := (dC, dI)) (ci := 10) (v := .int (iZ (μ 0 39))) (C := RX10) (T := TX10) (N := 53) hx hb hts inG10 hown hK hP (k := 0) (by decide) (F := mF h0) mE_obj rfl 39 (by decide) (hts _ k1205) (fun _ h9 => h9) rfl dX10_laysWays_19 ?_
    refine fz_icmp_gt (tgt := 40) (by constructor <;> omega) (by constructor <;> omega) hx hb dX10_laysWays_22 (by decide) (fun c22_ => ?_) (fun c22_ => ?_)
    · exact hexit40 (q) μ H locs ls (by exact hf) (by
                    intro x hx
                    exact hz x (by omega)) hP hS (lv_sub hl [1, 2, 3] rfl)
    · refine lv_aload_n hx hb dX10_laysWays_25 rfl (lv_at hl 3 rfl) ?_
      refine fz_get (D := (dC, dI)) (ci := 10) (v := .ref (h0 + 4415)) (C := RX10) (T := TX10) (N := 53) hx hb hts inG10 hown hK hP (k := 0) (by decide) (F := mF h0) mE_obj rfl 43 (by decide) (hts _ k1209) (fun _ h9 => h9) rfl dX10_laysWays_26 ?_
      refine lv_iload_n hx hb dX10_laysWays_29 rfl (lv_at hl 0 rfl) ?_
      refine fz_ald (k := 4415) (n := 1900) (k2 := (4416 + (q).toNat)) hx hb hK hP 2 rfl (by decide) mE_can rfl ⟨by omega, by omega⟩ (by decide) (if_pos (by omega)) dX10_laysWays_30 ?_
      refine lv_iload_n hx hb dX10_laysWays_31 rfl (lv_at hl 1 rfl) ?_
      refine lv_iconst (v := iZ 0) hx hb dX10_laysWays_32 rfl ?_
      refine fz_st (k := (4416 + (q).toNat)) (n := 62) (i := pos) (z := 0) hx hb hK hP fA_in hS 0 (by omega) (mE_canR (by omega)) rfl ⟨by omega, by omega⟩ (by decide) dX10_laysWays_33 (fun H locs hP hS => ?_)
      obtain ⟨μ1, eμ1⟩ : ∃ x : va_M, x = uz μ (4416 + (q).toNat) (pos).toNat (0) := ⟨_, rfl⟩
      rw [← eμ1] at hP
      refine lv_iinc (v := iZ (q + 1)) (lv' := [(3, .int (iZ (q + 1))), (2, .int (iZ (pos))), (1, .int (iZ (pp))), (0, .ref h0)]) hx hb dX10_laysWays_34 hl (k := 0) rfl (iZ_add _ _) (by decide) rfl (fun ls hl => ?_)
      refine lv_goto (tgt := 17) hx hb dX10_laysWays_37 (by decide) ?_
      exact ih (q + 1) μ1 H locs ls (by omega) (by
                    subst eμ1
                    exact fr_uz hf ⟨by unfold CF; omega, rfl⟩) (by
                    subst eμ1
                    intro x hx
                    by_cases h9 : x = q.toNat
                    · subst h9; rw [uz_s]
                    · rw [uz_n (by omega)]; exact hz x (by omega)) (by omega) hP hS (lv_sub hl [0, 1, 2, 3] rfl)
set_option maxHeartbeats 4000000 in
set_option maxRecDepth 100000 in
theorem LX10_laysWays_82 {p : Program} {l : Launch} {e : Env} {R : Room} {s : State} {m : MethodId} {args : Array Value} {below : List Frame} {meth : Method} {c : Code} {cells slots : Nat} {Q : State → Prop} {dC : Nat → ClassId} {dI : Nat → Nat → Nat} {h0 : Nat} {cI cZ cII cIII : ClassId} (hx : p.tables.exec = Jvm.exec) (hb : c.code = cX10_laysWays) (hml : c.maxLocals = 7) (hown : s.vm.findClass RX10 = some m.cls) (hts : ∀ w ∈ wsG, w.before args s = true) (hK : va_K (dC, dI) vwCl (mT cI cZ cII cIII) s) (hRf : 5 ≤ R.frames) (hRl : 120 ≤ R.locals) (hRc : cells ≤ R.cells) (hRs : slots ≤ R.slots) (μ0 : va_M) (pp : Int) (pos : Int) (P9 : Int) (M0 : Nat) (hO : stOK μ0) (hpp : 0 ≤ pp ∧ pp < 8) (hpos : 0 ≤ pos ∧ pos ≤ P9) (hP9 : μ0 15 pp.toNat = P9 ∧ P9 ≤ 60) (hsr : ∀ j : Nat, j < 201 → inR (μ0 3 j)) (htk : ∀ k : Nat, (k : Int) < P9 → 0 ≤ μ0 (7 + pp.toNat) k ∧ μ0 (7 + pp.toNat) k < 201) (hnx : pos < P9 → cOK μ0 (pos.toNat + 1)) (hexit200 : ∀ (mv : Int) (q : Int) (μ : va_M) (H : Heap) (locs : List Loc) (ls : Array Slot), (wayI μ0 μ P9 pp.toNat pos.toNat) → ((mv = 0 ∧ mS μ pos.toNat (μ0 0 39).toNat ≤ M0 ∧ ∀ x : Nat, (x : Int) < μ0 0 39 → μ (4416 + x) pos.toNat = wF μ x pos.toNat (tkv μ P9 pp.toNat pos.toNat x)) ∨ (mv = 1 ∧ mS μ pos.toNat (μ0 0 39).toNat < M0)) → va_P (dC, dI) vwCl (fw (mE cI cZ cII cIII h0) h0 6325 μ) H → va_S (fA h0 6325 s.heap.size) s.heap H locs → lv_has ls 7 [(3, .int (iZ (mv))), (2, .int (iZ (pos))), (1, .int (iZ (pp))), (0, .ref h0)] → W p l e R s m args below meth c H locs cells slots Q (F0 m 200 ls [])) :
    ∀ (n9 : Nat) (mv : Int) (q : Int) (μ : va_M) (H : Heap) (locs : List Loc) (ls : Array Slot), (-1 ≤ q ∧ q < μ0 0 39) → (wayI μ0 μ P9 pp.toNat pos.toNat) → (mS μ pos.toNat (μ0 0 39).toNat ≤ M0) → ((mv = 0 ∧ ∀ x : Nat, q < (x : Int) → (x : Int) < μ0 0 39 → μ (4416 + x) pos.toNat = wF μ x pos.toNat (tkv μ P9 pp.toNat pos.toNat x)) ∨ (mv = 1 ∧ mS μ pos.toNat (μ0 0 39).toNat < M0)) → (q + 2).toNat < n9 → va_P (dC, dI) vwCl (fw (mE cI cZ cII cIII h0) h0 6325 μ) H → va_S (fA h0 6325 s.heap.size) s.heap H locs → lv_has ls 7 [(4, .int (iZ (q))), (3, .int (iZ (mv))), (2, .int (iZ (pos))), (1, .int (iZ (pp))), (0, .ref h0)] → W p l e R s m args below meth c H locs cells slots Q (F0 m 82 ls []) := by
  intro n9
  induction n9 with
  | zero => intro mv q μ H locs ls hq hW hM hd hm9 hP hS hl; exact absurd hm9 (Nat.not_lt_zero _)
  | succ n9 ih =>
    intro mv q μ H locs ls hq hW hM hd hm9 hP hS hl
    have hO1 := wayI_O hW hO
    have hf := hW.1
    have e39 : μ 0 39 = μ0 0 39 := hf 0 39 (colF_n (by omega))
    have e15 : μ 15 pp.toNat = P9 := (hf 15 _ (colF_n (by omega))).trans hP9.1
    have e7 : ∀ k, μ (7 + pp.toNat) k = μ0 (7 + pp.toNat) k := fun k => hf _ _ (colF_n (by omega))
    have e3 : ∀ k, μ 3 k = μ0 3 k := fun k => hf _ _ (colF_n (by omega))
    have hb1 := hO.1
    have hb2 := hO.2.1
    have hnx1 : pos < P9 → cOK μ (pos.toNat + 1) := fun h => cOK_fr (hnx h) hf (colF_n (by omega)) (fun x => colF_n (by omega))
    have hmv : mv = 0 ∨ mv = 1 := by rcases hd with h | h <;> omega
    have hc1 := hW.2.2.1
    refine lv_iload hx hb dX10_laysWays_82 (lv_at hl 0 rfl) ?_
    refine fz_if_lt (tgt := 200) (by constructor <;> omega) hx hb dX10_laysWays_84 (by decide) (fun c84_ => ?_) (fun c84_ => ?_)
    · exact hexit200 (mv) (q) μ H locs ls (by exact hW) (by
                    rcases hd with ⟨h1, h2⟩ | h1
                    · exact Or.inl ⟨h1, hM, fun x hx => h2 x (by omega) hx⟩
                    · exact Or.inr h1) hP hS (lv_sub hl [1, 2, 3, 4] rfl)
    · refine lv_aload_n hx hb dX10_laysWays_87 rfl (lv_at hl 4 rfl) ?_
      refine lv_iload hx hb dX10_laysWays_88 (lv_at hl 0 rfl) ?_
      refine va_calli (va_runV (As := [.int (iZ (q))]) (rest := []) ⟨hx, hb, hml, hown, hts⟩ (m_isLeaf l dC dI cI cZ cII cIII h0 H.size μ (q) (by first | assumption | omega | exact ⟨by omega, by omega⟩) (by first | assumption | omega | exact ⟨by omega, by omega⟩)) (cwV 1 hts (gV_G k1508 k1510 ks_yX10_isLeaf k13 k1511) rfl rfl rfl (by decide +kernel) ⟨by show 1 + 1 ≤ _; omega, by show 8 + (2 + 11) + (14) ≤ _; omega⟩) ⟨fun a U g mk q => by obtain ⟨q0, q1, qP, qK⟩ := q; exact ⟨q0, q1, qP, va_K.moved (u := U) (U := U.calling g mk a) (Vm.Alike.refl U.vm) qK⟩, va_recv hK hP (ci := 10) (q0 := 0) rfl ((fw_get (by decide)).trans (by rw [mE_obj]; rfl)), fun U hU hW => ⟨rfl, by rw [hU], by rw [hU]; exact hP, va_K.moved hW.alike hK⟩⟩ rfl rfl hl.1 rfl (lv_room (Nat.le_of_ble_eq_true rfl)) dX10_laysWays_90 ⟨hRc, hRs⟩) hS (fun q _ h => fA_le hS.1 q h) (fA_le hS.1) (fun r9 u9 t9 H1 locs ht9 hvm9 hw9 hB9 hz9 hk9 hS => ?_)
      obtain ⟨μ2, r3⟩ := u9
      obtain ⟨hP, -⟩ := hB9
      rw [ht9] at hP
      generalize H1 = H at hP hS ⊢
      obtain ⟨e9, hw9⟩ := hw9
      have e9 : r9 = iZ r3 := e9
      subst e9
      simp only at hP hw9
      have hμ2 := hw9; clear hw9
      rw [hμ2.1] at hP; have hμ2 := hμ2.2
      have h1 := hμ2
      refine fz_if_eq (tgt := 127) (by constructor <;> omega) hx hb dX10_laysWays_93 (by decide) (fun c93_ => ?_) (fun c93_ => ?_)
      · have hnl := if_not h1 (by omega)
        refine lv_iconst (v := iZ 0) hx hb dX10_laysWays_127 rfl ?_
        refine lv_istore (lv' := [(5, .int (iZ (0))), (4, .int (iZ (q))), (3, .int (iZ (mv))), (2, .int (iZ (pos))), (1, .int (iZ (pp))), (0, .ref h0)]) hx hb dX10_laysWays_128 hl (by decide) rfl (fun ls hl => ?_)
        refine lv_aload_n hx hb dX10_laysWays_130 rfl (lv_at hl 5 rfl) ?_
        refine lv_iload hx hb dX10_laysWays_131 (lv_at hl 1 rfl) ?_
        refine lv_iload_n hx hb dX10_laysWays_133 rfl (lv_at hl 3 rfl) ?_
        refine lv_iload hx hb dX10_laysWays_134 (lv_at hl 0 rfl) ?_
        refine fz_if_eq (tgt := 155) (by decide) hx hb dX10_laysWays_136 (by decide) (fun c136_ => ?_) (fun h9 => absurd h9 (by decide))
        have htk1 : tkv μ P9 pp.toNat pos.toNat q.toNat = 0 := by
          unfold tkv
          refine if_neg (fun hh => ?_)
          obtain ⟨a1, a2, a3⟩ := hh
          first | omega | exact hnl a1
        refine lv_iconst (v := iZ 0) hx hb dX10_laysWays_155 rfl ?_
        refine va_calli (va_runV (As := [.int (iZ (q)), .int (iZ (pos)), .int (iZ (0))]) (rest := []) ⟨hx, hb, hml, hown, hts⟩ (m_waysFrom l dC dI cI cZ cII cIII h0 H.size μ (q) (pos) (0) (by first | assumption | omega | exact ⟨by omega, by omega⟩) (by omega) (by first | assumption | omega | exact ⟨by omega, by omega⟩) (by exact hc1)) (cwV 3 hts (gV_G k1516 k1518 ks_yX10_waysFrom k13 k1519) rfl rfl rfl (by decide +kernel) ⟨by show 3 + 1 ≤ _; omega, by show 8 + (4 + 11) + (56) ≤ _; omega⟩) ⟨fun a U g mk q => by obtain ⟨q0, q1, qP, qK⟩ := q; exact ⟨q0, q1, qP, va_K.moved (u := U) (U := U.calling g mk a) (Vm.Alike.refl U.vm) qK⟩, va_recv hK hP (ci := 10) (q0 := 0) rfl ((fw_get (by decide)).trans (by rw [mE_obj]; rfl)), fun U hU hW => ⟨rfl, by rw [hU], by rw [hU]; exact hP, va_K.moved hW.alike hK⟩⟩ rfl rfl hl.1 rfl (lv_room (Nat.le_of_ble_eq_true rfl)) dX10_laysWays_156 ⟨hRc, hRs⟩) hS (fun q _ h => fA_le hS.1 q h) (fA_le hS.1) (fun r9 u9 t9 H1 locs ht9 hvm9 hw9 hB9 hz9 hk9 hS => ?_)
        obtain ⟨μ4, rn⟩ := u9
        obtain ⟨hP, -⟩ := hB9
        rw [ht9] at hP
        generalize H1 = H at hP hS ⊢
        obtain ⟨e9, hw9⟩ := hw9
        have e9 : r9 = iZ rn := e9
        subst e9
        simp only at hP hw9
        have hμ4 := hw9; clear hw9
        rw [hμ4.1] at hP; have hμ4 := hμ4.2
        have hn : rn = wF μ q.toNat pos.toNat (tkv μ P9 pp.toNat pos.toNat q.toNat) := by rw [htk1]; exact hμ4
        have hrr := wF_rng (q := q.toNat) hO1 (by omega) hc1 (tkv_rng (pp := pp.toNat) (x := q.toNat) (P := P9) (by omega) (fun h => hnx1 (by omega)))
        have hcq := hc1 q.toNat (by omega)
        obtain ⟨hU1, hU2, hU3⟩ := wayI_up (q := q.toNat) (by omega) hW hO (by omega) (fun h => hnx1 (by omega))
        rw [← hn] at hU1 hU2 hU3
        rw [e39] at hU2 hU3
        refine lv_istore (lv' := [(6, .int (iZ (rn))), (5, .int (iZ (0))), (4, .int (iZ (q))), (3, .int (iZ (mv))), (2, .int (iZ (pos))), (1, .int (iZ (pp))), (0, .ref h0)]) hx hb dX10_laysWays_159 hl (by decide) rfl (fun ls hl => ?_)
        refine lv_iload_n hx hb dX10_laysWays_161 rfl (lv_at hl 3 rfl) ?_
        refine lv_iload hx hb dX10_laysWays_162 (lv_at hl 0 rfl) ?_
        refine lv_aload_n hx hb dX10_laysWays_164 rfl (lv_at hl 6 rfl) ?_
        refine fz_get (D := (dC, dI)) (ci := 10) (v := .ref (h0 + 4415)) (C := RX10) (T := TX10) (N := 53) hx hb hts inG10 hown hK hP (k := 0) (by decide) (F := mF h0) mE_obj rfl 43 (by decide) (hts _ k1209) (fun _ h9 => h9) rfl dX10_laysWays_165 ?_
        refine lv_iload hx hb dX10_laysWays_168 (lv_at hl 2 rfl) ?_
        refine fz_ald (k := 4415) (n := 1900) (k2 := (4416 + (q).toNat)) hx hb hK hP 2 rfl (by decide) mE_can rfl ⟨by omega, by omega⟩ (by decide) (if_pos (by omega)) dX10_laysWays_170 ?_
        refine lv_iload_n hx hb dX10_laysWays_171 rfl (lv_at hl 4 rfl) ?_
        refine fz_ld (k := (4416 + (q).toNat)) (n := 62) hx hb hK hP 0 (by omega) (mE_canR (by omega)) rfl ⟨by omega, by omega⟩ (by decide) dX10_laysWays_172 ?_
        refine fz_icmp_eq (tgt := 180) (by constructor <;> omega) (by constructor <;> omega) hx hb dX10_laysWays_173 (by decide) (fun c173_ => ?_) (fun c173_ => ?_)
        · refine lv_iconst (v := iZ 0) hx hb dX10_laysWays_180 rfl ?_
          refine lv_ior hx hb dX10_laysWays_181 ?_
          refine lv_topi (fun x9 ex9 => ?_)
          obtain ⟨z5, rfl, hz5⟩ := iZ_ex x9
          have ez5 := ex9; clear ex9
          refine lv_istore_n (lv' := [(3, .int (iZ (z5))), (6, .int (iZ (rn))), (5, .int (iZ (0))), (4, .int (iZ (q))), (2, .int (iZ (pos))), (1, .int (iZ (pp))), (0, .ref h0)]) hx hb dX10_laysWays_182 rfl hl (by decide) rfl (fun ls hl => ?_)
          refine lv_aload_n hx hb dX10_laysWays_183 rfl (lv_at hl 6 rfl) ?_
          refine fz_get (D := (dC, dI)) (ci := 10) (v := .ref (h0 + 4415)) (C := RX10) (T := TX10) (N := 53) hx hb hts inG10 hown hK hP (k := 0) (by decide) (F := mF h0) mE_obj rfl 43 (by decide) (hts _ k1209) (fun _ h9 => h9) rfl dX10_laysWays_184 ?_
          refine lv_iload hx hb dX10_laysWays_187 (lv_at hl 3 rfl) ?_
          refine fz_ald (k := 4415) (n := 1900) (k2 := (4416 + (q).toNat)) hx hb hK hP 2 rfl (by decide) mE_can rfl ⟨by omega, by omega⟩ (by decide) (if_pos (by omega)) dX10_laysWays_189 ?_
          refine lv_iload_n hx hb dX10_laysWays_190 rfl (lv_at hl 4 rfl) ?_
          refine lv_iload hx hb dX10_laysWays_191 (lv_at hl 1 rfl) ?_
          have hz1 := ior_b hz5 ez5 hmv (by omega)
          refine fz_st (k := (4416 + (q).toNat)) (n := 62) (i := pos) (z := rn) hx hb hK hP fA_in hS 0 (by omega) (mE_canR (by omega)) rfl ⟨by omega, by omega⟩ (by decide) dX10_laysWays_193 (fun H locs hP hS => ?_)
          obtain ⟨μ6, eμ6⟩ : ∃ x : va_M, x = uz μ (4416 + (q).toNat) (pos).toNat (rn) := ⟨_, rfl⟩
          rw [← eμ6] at hP
          refine lv_iinc (v := iZ (q - 1)) (lv' := [(4, .int (iZ (q - 1))), (3, .int (iZ (z5))), (6, .int (iZ (rn))), (5, .int (iZ (0))), (2, .int (iZ (pos))), (1, .int (iZ (pp))), (0, .ref h0)]) hx hb dX10_laysWays_194 hl (k := 3) rfl (iZ_add _ (-1)) (by decide) rfl (fun ls hl => ?_)
          refine lv_goto (tgt := 82) hx hb dX10_laysWays_197 (by decide) ?_
          exact ih (z5) (q - 1) μ6 H locs ls (by omega) (by
                            subst eμ6
                            exact hU1) (by
                            subst eμ6
                            omega) (by
                            subst eμ6
                            rcases hz1 with ⟨z1, z2, z3⟩ | ⟨z1, z2⟩
                            · left
                              refine ⟨z1, ?_⟩
                              have hs : rn = μ (4416 + q.toNat) pos.toNat := by omega
                              rw [uz_id hs]
                              intro x h1 h2
                              by_cases h9 : x = q.toNat
                              · subst h9; rw [← hs]; exact hn
                              · rcases hd with ⟨_, hd⟩ | ⟨hd, _⟩
                                · exact hd x (by omega) h2
                                · omega
                            · right
                              refine ⟨z1, ?_⟩
                              rcases hd with ⟨hd0, hd⟩ | ⟨_, hd⟩
                              · have h9 := hU3 (by omega)
                                omega
                              · omega) (by omega) hP hS (lv_sub hl [0, 1, 4, 5, 6] rfl)
        · refine lv_iconst (v := iZ 1) hx hb dX10_laysWays_176 rfl ?_
          refine lv_goto (tgt := 181) hx hb dX10_laysWays_177 (by decide) ?_
          refine lv_ior hx hb dX10_laysWays_181 ?_
          refine lv_topi (fun x9 ex9 => ?_)
          obtain ⟨z7, rfl, hz7⟩ := iZ_ex x9
          have ez7 := ex9; clear ex9
          refine lv_istore_n (lv' := [(3, .int (iZ (z7))), (6, .int (iZ (rn))), (5, .int (iZ (0))), (4, .int (iZ (q))), (2, .int (iZ (pos))), (1, .int (iZ (pp))), (0, .ref h0)]) hx hb dX10_laysWays_182 rfl hl (by decide) rfl (fun ls hl => ?_)
          refine lv_aload_n hx hb dX10_laysWays_183 rfl (lv_at hl 6 rfl) ?_
          refine fz_get (D := (dC, dI)) (ci := 10) (v := .ref (h0 + 4415)) (C := RX10) (T := TX10) (N := 53) hx hb hts inG10 hown hK hP (k := 0) (by decide) (F := mF h0) mE_obj rfl 43 (by decide) (hts _ k1209) (fun _ h9 => h9) rfl dX10_laysWays_184 ?_
          refine lv_iload hx hb dX10_laysWays_187 (lv_at hl 3 rfl) ?_
          refine fz_ald (k := 4415) (n := 1900) (k2 := (4416 + (q).toNat)) hx hb hK hP 2 rfl (by decide) mE_can rfl ⟨by omega, by omega⟩ (by decide) (if_pos (by omega)) dX10_laysWays_189 ?_
          refine lv_iload_n hx hb dX10_laysWays_190 rfl (lv_at hl 4 rfl) ?_
          refine lv_iload hx hb dX10_laysWays_191 (lv_at hl 1 rfl) ?_
          have hz1 := ior_b hz7 ez7 hmv (by omega)
          refine fz_st (k := (4416 + (q).toNat)) (n := 62) (i := pos) (z := rn) hx hb hK hP fA_in hS 0 (by omega) (mE_canR (by omega)) rfl ⟨by omega, by omega⟩ (by decide) dX10_laysWays_193 (fun H locs hP hS => ?_)
          obtain ⟨μ8, eμ8⟩ : ∃ x : va_M, x = uz μ (4416 + (q).toNat) (pos).toNat (rn) := ⟨_, rfl⟩
          rw [← eμ8] at hP
          refine lv_iinc (v := iZ (q - 1)) (lv' := [(4, .int (iZ (q - 1))), (3, .int (iZ (z7))), (6, .int (iZ (rn))), (5, .int (iZ (0))), (2, .int (iZ (pos))), (1, .int (iZ (pp))), (0, .ref h0)]) hx hb dX10_laysWays_194 hl (k := 3) rfl (iZ_add _ (-1)) (by decide) rfl (fun ls hl => ?_)
          refine lv_goto (tgt := 82) hx hb dX10_laysWays_197 (by decide) ?_
          exact ih (z7) (q - 1) μ8 H locs ls (by omega) (by
                            subst eμ8
                            exact hU1) (by
                            subst eμ8
                            omega) (by
                            subst eμ8
                            rcases hz1 with ⟨z1, z2, z3⟩ | ⟨z1, z2⟩
                            · left
                              refine ⟨z1, ?_⟩
                              have hs : rn = μ (4416 + q.toNat) pos.toNat := by omega
                              rw [uz_id hs]
                              intro x h1 h2
                              by_cases h9 : x = q.toNat
                              · subst h9; rw [← hs]; exact hn
                              · rcases hd with ⟨_, hd⟩ | ⟨hd, _⟩
                                · exact hd x (by omega) h2
                                · omega
                            · right
                              refine ⟨z1, ?_⟩
                              rcases hd with ⟨hd0, hd⟩ | ⟨_, hd⟩
                              · have h9 := hU3 (by omega)
                                omega
                              · omega) (by omega) hP hS (lv_sub hl [0, 1, 4, 5, 6] rfl)
      · have hlf := if_get h1 (by omega)
        refine lv_iload_n hx hb dX10_laysWays_96 rfl (lv_at hl 2 rfl) ?_
        refine lv_aload_n hx hb dX10_laysWays_97 rfl (lv_at hl 4 rfl) ?_
        refine fz_get (D := (dC, dI)) (ci := 10) (v := .ref (h0 + 15)) (C := RX10) (T := TX10) (N := 53) hx hb hts inG10 hown hK hP (k := 0) (by decide) (F := mF h0) mE_obj rfl 15 (by decide) (hts _ k1181) (fun _ h9 => h9) rfl dX10_laysWays_98 ?_
        refine lv_iload_n hx hb dX10_laysWays_101 rfl (lv_at hl 3 rfl) ?_
        refine fz_ld (k := 15) (n := 8) hx hb hK hP 0 (by decide) mE_pageLong rfl ⟨by omega, by omega⟩ (by decide) dX10_laysWays_102 ?_
        refine fz_icmp_ge (tgt := 127) (by constructor <;> omega) (by constructor <;> omega) hx hb dX10_laysWays_103 (by decide) (fun c103_ => ?_) (fun c103_ => ?_)
        · refine lv_iconst (v := iZ 0) hx hb dX10_laysWays_127 rfl ?_
          refine lv_istore (lv' := [(5, .int (iZ (0))), (4, .int (iZ (q))), (3, .int (iZ (mv))), (2, .int (iZ (pos))), (1, .int (iZ (pp))), (0, .ref h0)]) hx hb dX10_laysWays_128 hl (by decide) rfl (fun ls hl => ?_)
          refine lv_aload_n hx hb dX10_laysWays_130 rfl (lv_at hl 5 rfl) ?_
          refine lv_iload hx hb dX10_laysWays_131 (lv_at hl 1 rfl) ?_
          refine lv_iload_n hx hb dX10_laysWays_133 rfl (lv_at hl 3 rfl) ?_
          refine lv_iload hx hb dX10_laysWays_134 (lv_at hl 0 rfl) ?_
          refine fz_if_eq (tgt := 155) (by decide) hx hb dX10_laysWays_136 (by decide) (fun c136_ => ?_) (fun h9 => absurd h9 (by decide))
          have htk1 : tkv μ P9 pp.toNat pos.toNat q.toNat = 0 := by
            unfold tkv
            refine if_neg (fun hh => ?_)
            obtain ⟨a1, a2, a3⟩ := hh
            first | omega | exact hnl a1
          refine lv_iconst (v := iZ 0) hx hb dX10_laysWays_155 rfl ?_
          refine va_calli (va_runV (As := [.int (iZ (q)), .int (iZ (pos)), .int (iZ (0))]) (rest := []) ⟨hx, hb, hml, hown, hts⟩ (m_waysFrom l dC dI cI cZ cII cIII h0 H.size μ (q) (pos) (0) (by first | assumption | omega | exact ⟨by omega, by omega⟩) (by omega) (by first | assumption | omega | exact ⟨by omega, by omega⟩) (by exact hc1)) (cwV 3 hts (gV_G k1516 k1518 ks_yX10_waysFrom k13 k1519) rfl rfl rfl (by decide +kernel) ⟨by show 3 + 1 ≤ _; omega, by show 8 + (4 + 11) + (56) ≤ _; omega⟩) ⟨fun a U g mk q => by obtain ⟨q0, q1, qP, qK⟩ := q; exact ⟨q0, q1, qP, va_K.moved (u := U) (U := U.calling g mk a) (Vm.Alike.refl U.vm) qK⟩, va_recv hK hP (ci := 10) (q0 := 0) rfl ((fw_get (by decide)).trans (by rw [mE_obj]; rfl)), fun U hU hW => ⟨rfl, by rw [hU], by rw [hU]; exact hP, va_K.moved hW.alike hK⟩⟩ rfl rfl hl.1 rfl (lv_room (Nat.le_of_ble_eq_true rfl)) dX10_laysWays_156 ⟨hRc, hRs⟩) hS (fun q _ h => fA_le hS.1 q h) (fA_le hS.1) (fun r9 u9 t9 H1 locs ht9 hvm9 hw9 hB9 hz9 hk9 hS => ?_)
          obtain ⟨μ10, rn⟩ := u9
          obtain ⟨hP, -⟩ := hB9
          rw [ht9] at hP
          generalize H1 = H at hP hS ⊢
          obtain ⟨e9, hw9⟩ := hw9
          have e9 : r9 = iZ rn := e9
          subst e9
          simp only at hP hw9
          have hμ10 := hw9; clear hw9
          rw [hμ10.1] at hP; have hμ10 := hμ10.2
          have hn : rn = wF μ q.toNat pos.toNat (tkv μ P9 pp.toNat pos.toNat q.toNat) := by rw [htk1]; exact hμ10
          have hrr := wF_rng (q := q.toNat) hO1 (by omega) hc1 (tkv_rng (pp := pp.toNat) (x := q.toNat) (P := P9) (by omega) (fun h => hnx1 (by omega)))
          have hcq := hc1 q.toNat (by omega)
          obtain ⟨hU1, hU2, hU3⟩ := wayI_up (q := q.toNat) (by omega) hW hO (by omega) (fun h => hnx1 (by omega))
          rw [← hn] at hU1 hU2 hU3
          rw [e39] at hU2 hU3
          refine lv_istore (lv' := [(6, .int (iZ (rn))), (5, .int (iZ (0))), (4, .int (iZ (q))), (3, .int (iZ (mv))), (2, .int (iZ (pos))), (1, .int (iZ (pp))), (0, .ref h0)]) hx hb dX10_laysWays_159 hl (by decide) rfl (fun ls hl => ?_)
          refine lv_iload_n hx hb dX10_laysWays_161 rfl (lv_at hl 3 rfl) ?_
          refine lv_iload hx hb dX10_laysWays_162 (lv_at hl 0 rfl) ?_
          refine lv_aload_n hx hb dX10_laysWays_164 rfl (lv_at hl 6 rfl) ?_
          refine fz_get (D := (dC, dI)) (ci := 10) (v := .ref (h0 + 4415)) (C := RX10) (T := TX10) (N := 53) hx hb hts inG10 hown hK hP (k := 0) (by decide) (F := mF h0) mE_obj rfl 43 (by decide) (hts _ k1209) (fun _ h9 => h9) rfl dX10_laysWays_165 ?_
          refine lv_iload hx hb dX10_laysWays_168 (lv_at hl 2 rfl) ?_
          refine fz_ald (k := 4415) (n := 1900) (k2 := (4416 + (q).toNat)) hx hb hK hP 2 rfl (by decide) mE_can rfl ⟨by omega, by omega⟩ (by decide) (if_pos (by omega)) dX10_laysWays_170 ?_
          refine lv_iload_n hx hb dX10_laysWays_171 rfl (lv_at hl 4 rfl) ?_
          refine fz_ld (k := (4416 + (q).toNat)) (n := 62) hx hb hK hP 0 (by omega) (mE_canR (by omega)) rfl ⟨by omega, by omega⟩ (by decide) dX10_laysWays_172 ?_
          refine fz_icmp_eq (tgt := 180) (by constructor <;> omega) (by constructor <;> omega) hx hb dX10_laysWays_173 (by decide) (fun c173_ => ?_) (fun c173_ => ?_)
          · refine lv_iconst (v := iZ 0) hx hb dX10_laysWays_180 rfl ?_
            refine lv_ior hx hb dX10_laysWays_181 ?_
            refine lv_topi (fun x9 ex9 => ?_)
            obtain ⟨z11, rfl, hz11⟩ := iZ_ex x9
            have ez11 := ex9; clear ex9
            refine lv_istore_n (lv' := [(3, .int (iZ (z11))), (6, .int (iZ (rn))), (5, .int (iZ (0))), (4, .int (iZ (q))), (2, .int (iZ (pos))), (1, .int (iZ (pp))), (0, .ref h0)]) hx hb dX10_laysWays_182 rfl hl (by decide) rfl (fun ls hl => ?_)
            refine lv_aload_n hx hb dX10_laysWays_183 rfl (lv_at hl 6 rfl) ?_
            refine fz_get (D := (dC, dI)) (ci := 10) (v := .ref (h0 + 4415)) (C := RX10) (T := TX10) (N := 53) hx hb hts inG10 hown hK hP (k := 0) (by decide) (F := mF h0) mE_obj rfl 43 (by decide) (hts _ k1209) (fun _ h9 => h9) rfl dX10_laysWays_184 ?_
            refine lv_iload hx hb dX10_laysWays_187 (lv_at hl 3 rfl) ?_
            refine fz_ald (k := 4415) (n := 1900) (k2 := (4416 + (q).toNat)) hx hb hK hP 2 rfl (by decide) mE_can rfl ⟨by omega, by omega⟩ (by decide) (if_pos (by omega)) dX10_laysWays_189 ?_
            refine lv_iload_n hx hb dX10_laysWays_190 rfl (lv_at hl 4 rfl) ?_
            refine lv_iload hx hb dX10_laysWays_191 (lv_at hl 1 rfl) ?_
            have hz1 := ior_b hz11 ez11 hmv (by omega)
            refine fz_st (k := (4416 + (q).toNat)) (n := 62) (i := pos) (z := rn) hx hb hK hP fA_in hS 0 (by omega) (mE_canR (by omega)) rfl ⟨by omega, by omega⟩ (by decide) dX10_laysWays_193 (fun H locs hP hS => ?_)
            obtain ⟨μ12, eμ12⟩ : ∃ x : va_M, x = uz μ (4416 + (q).toNat) (pos).toNat (rn) := ⟨_, rfl⟩
            rw [← eμ12] at hP
            refine lv_iinc (v := iZ (q - 1)) (lv' := [(4, .int (iZ (q - 1))), (3, .int (iZ (z11))), (6, .int (iZ (rn))), (5, .int (iZ (0))), (2, .int (iZ (pos))), (1, .int (iZ (pp))), (0, .ref h0)]) hx hb dX10_laysWays_194 hl (k := 3) rfl (iZ_add _ (-1)) (by decide) rfl (fun ls hl => ?_)
            refine lv_goto (tgt := 82) hx hb dX10_laysWays_197 (by decide) ?_
            exact ih (z11) (q - 1) μ12 H locs ls (by omega) (by
                                subst eμ12
                                exact hU1) (by
                                subst eμ12
                                omega) (by
                                subst eμ12
                                rcases hz1 with ⟨z1, z2, z3⟩ | ⟨z1, z2⟩
                                · left
                                  refine ⟨z1, ?_⟩
                                  have hs : rn = μ (4416 + q.toNat) pos.toNat := by omega
                                  rw [uz_id hs]
                                  intro x h1 h2
                                  by_cases h9 : x = q.toNat
                                  · subst h9; rw [← hs]; exact hn
                                  · rcases hd with ⟨_, hd⟩ | ⟨hd, _⟩
                                    · exact hd x (by omega) h2
                                    · omega
                                · right
                                  refine ⟨z1, ?_⟩
                                  rcases hd with ⟨hd0, hd⟩ | ⟨_, hd⟩
                                  · have h9 := hU3 (by omega)
                                    omega
                                  · omega) (by omega) hP hS (lv_sub hl [0, 1, 4, 5, 6] rfl)
          · refine lv_iconst (v := iZ 1) hx hb dX10_laysWays_176 rfl ?_
            refine lv_goto (tgt := 181) hx hb dX10_laysWays_177 (by decide) ?_
            refine lv_ior hx hb dX10_laysWays_181 ?_
            refine lv_topi (fun x9 ex9 => ?_)
            obtain ⟨z13, rfl, hz13⟩ := iZ_ex x9
            have ez13 := ex9; clear ex9
            refine lv_istore_n (lv' := [(3, .int (iZ (z13))), (6, .int (iZ (rn))), (5, .int (iZ (0))), (4, .int (iZ (q))), (2, .int (iZ (pos))), (1, .int (iZ (pp))), (0, .ref h0)]) hx hb dX10_laysWays_182 rfl hl (by decide) rfl (fun ls hl => ?_)
            refine lv_aload_n hx hb dX10_laysWays_183 rfl (lv_at hl 6 rfl) ?_
            refine fz_get (D := (dC, dI)) (ci := 10) (v := .ref (h0 + 4415)) (C := RX10) (T := TX10) (N := 53) hx hb hts inG10 hown hK hP (k := 0) (by decide) (F := mF h0) mE_obj rfl 43 (by decide) (hts _ k1209) (fun _ h9 => h9) rfl dX10_laysWays_184 ?_
            refine lv_iload hx hb dX10_laysWays_187 (lv_at hl 3 rfl) ?_
            refine fz_ald (k := 4415) (n := 1900) (k2 := (4416 + (q).toNat)) hx hb hK hP 2 rfl (by decide) mE_can rfl ⟨by omega, by omega⟩ (by decide) (if_pos (by omega)) dX10_laysWays_189 ?_
            refine lv_iload_n hx hb dX10_laysWays_190 rfl (lv_at hl 4 rfl) ?_
            refine lv_iload hx hb dX10_laysWays_191 (lv_at hl 1 rfl) ?_
            have hz1 := ior_b hz13 ez13 hmv (by omega)
            refine fz_st (k := (4416 + (q).toNat)) (n := 62) (i := pos) (z := rn) hx hb hK hP fA_in hS 0 (by omega) (mE_canR (by omega)) rfl ⟨by omega, by omega⟩ (by decide) dX10_laysWays_193 (fun H locs hP hS => ?_)
            obtain ⟨μ14, eμ14⟩ : ∃ x : va_M, x = uz μ (4416 + (q).toNat) (pos).toNat (rn) := ⟨_, rfl⟩
            rw [← eμ14] at hP
            refine lv_iinc (v := iZ (q - 1)) (lv' := [(4, .int (iZ (q - 1))), (3, .int (iZ (z13))), (6, .int (iZ (rn))), (5, .int (iZ (0))), (2, .int (iZ (pos))), (1, .int (iZ (pp))), (0, .ref h0)]) hx hb dX10_laysWays_194 hl (k := 3) rfl (iZ_add _ (-1)) (by decide) rfl (fun ls hl => ?_)
            refine lv_goto (tgt := 82) hx hb dX10_laysWays_197 (by decide) ?_
            exact ih (z13) (q - 1) μ14 H locs ls (by omega) (by
                                subst eμ14
                                exact hU1) (by
                                subst eμ14
                                omega) (by
                                subst eμ14
                                rcases hz1 with ⟨z1, z2, z3⟩ | ⟨z1, z2⟩
                                · left
                                  refine ⟨z1, ?_⟩
                                  have hs : rn = μ (4416 + q.toNat) pos.toNat := by omega
                                  rw [uz_id hs]
                                  intro x h1 h2
                                  by_cases h9 : x = q.toNat
                                  · subst h9; rw [← hs]; exact hn
                                  · rcases hd with ⟨_, hd⟩ | ⟨hd, _⟩
                                    · exact hd x (by omega) h2
                                    · omega
                                · right
                                  refine ⟨z1, ?_⟩
                                  rcases hd with ⟨hd0, hd⟩ | ⟨_, hd⟩
                                  · have h9 := hU3 (by omega)
                                    omega
                                  · omega) (by omega) hP hS (lv_sub hl [0, 1, 4, 5, 6] rfl)
        · have htk9 := htk pos.toNat (by omega)
          have e7p := e7 pos.toNat
          refine lv_aload_n hx hb dX10_laysWays_106 rfl (lv_at hl 4 rfl) ?_
          refine lv_iload hx hb dX10_laysWays_107 (lv_at hl 0 rfl) ?_
          refine lv_aload_n hx hb dX10_laysWays_109 rfl (lv_at hl 4 rfl) ?_
          refine fz_get (D := (dC, dI)) (ci := 10) (v := .ref (h0 + 6)) (C := RX10) (T := TX10) (N := 53) hx hb hts inG10 hown hK hP (k := 0) (by decide) (F := mF h0) mE_obj rfl 14 (by decide) (hts _ k1180) (fun _ h9 => h9) rfl dX10_laysWays_110 ?_
          refine lv_iload_n hx hb dX10_laysWays_113 rfl (lv_at hl 3 rfl) ?_
          refine fz_ald (k := 6) (n := 8) (k2 := (7 + (pp).toNat)) hx hb hK hP 2 rfl (by decide) mE_page rfl ⟨by omega, by omega⟩ (by decide) (if_pos (by omega)) dX10_laysWays_114 ?_
          refine lv_iload_n hx hb dX10_laysWays_115 rfl (lv_at hl 2 rfl) ?_
          refine fz_ld (k := (7 + (pp).toNat)) (n := 60) hx hb hK hP 0 (by omega) (mE_pageR (by omega)) rfl ⟨by omega, by omega⟩ (by decide) dX10_laysWays_116 ?_
          refine va_calli (va_runV (As := [.int (iZ (q)), .int (iZ (μ (7 + (pp).toNat) (pos).toNat))]) (rest := []) ⟨hx, hb, hml, hown, hts⟩ (m_takes l dC dI cI cZ cII cIII h0 H.size μ (q) (μ (7 + (pp).toNat) (pos).toNat) (by first | assumption | omega | exact ⟨by omega, by omega⟩) (by first | assumption | omega | exact ⟨by omega, by omega⟩) (by omega) (by intro j hj; rw [e3]; exact hsr j hj)) (cwV 2 hts (gV_G k1512 k1514 ks_yX10_takes k13 k1515) rfl rfl rfl (by decide +kernel) ⟨by show 1 + 1 ≤ _; omega, by show 8 + (5 + 11) + (14) ≤ _; omega⟩) ⟨fun a U g mk q => by obtain ⟨q0, q1, qP, qK⟩ := q; exact ⟨q0, q1, qP, va_K.moved (u := U) (U := U.calling g mk a) (Vm.Alike.refl U.vm) qK⟩, va_recv hK hP (ci := 10) (q0 := 0) rfl ((fw_get (by decide)).trans (by rw [mE_obj]; rfl)), fun U hU hW => ⟨rfl, by rw [hU], by rw [hU]; exact hP, va_K.moved hW.alike hK⟩⟩ rfl rfl hl.1 rfl (lv_room (Nat.le_of_ble_eq_true rfl)) dX10_laysWays_117 ⟨hRc, hRs⟩) hS (fun q _ h => fA_le hS.1 q h) (fA_le hS.1) (fun r9 u9 t9 H1 locs ht9 hvm9 hw9 hB9 hz9 hk9 hS => ?_)
          obtain ⟨μ15, r16⟩ := u9
          obtain ⟨hP, -⟩ := hB9
          rw [ht9] at hP
          generalize H1 = H at hP hS ⊢
          obtain ⟨e9, hw9⟩ := hw9
          have e9 : r9 = iZ r16 := e9
          subst e9
          simp only at hP hw9
          have hμ15 := hw9; clear hw9
          rw [hμ15.1] at hP; have hμ15 := hμ15.2
          have h3 := tkD_of hμ15
          have h3b : r16 = 0 ∨ r16 = 1 := by rcases hμ15 with h | h <;> omega
          refine fz_if_eq (tgt := 127) (by constructor <;> omega) hx hb dX10_laysWays_120 (by decide) (fun c120_ => ?_) (fun c120_ => ?_)
          · refine lv_iconst (v := iZ 0) hx hb dX10_laysWays_127 rfl ?_
            refine lv_istore (lv' := [(5, .int (iZ (0))), (4, .int (iZ (q))), (3, .int (iZ (mv))), (2, .int (iZ (pos))), (1, .int (iZ (pp))), (0, .ref h0)]) hx hb dX10_laysWays_128 hl (by decide) rfl (fun ls hl => ?_)
            refine lv_aload_n hx hb dX10_laysWays_130 rfl (lv_at hl 5 rfl) ?_
            refine lv_iload hx hb dX10_laysWays_131 (lv_at hl 1 rfl) ?_
            refine lv_iload_n hx hb dX10_laysWays_133 rfl (lv_at hl 3 rfl) ?_
            refine lv_iload hx hb dX10_laysWays_134 (lv_at hl 0 rfl) ?_
            refine fz_if_eq (tgt := 155) (by decide) hx hb dX10_laysWays_136 (by decide) (fun c136_ => ?_) (fun h9 => absurd h9 (by decide))
            have htk1 : tkv μ P9 pp.toNat pos.toNat q.toNat = 0 := by
              unfold tkv
              refine if_neg (fun hh => ?_)
              obtain ⟨a1, a2, a3⟩ := hh
              first | omega | exact hnl a1
            refine lv_iconst (v := iZ 0) hx hb dX10_laysWays_155 rfl ?_
            refine va_calli (va_runV (As := [.int (iZ (q)), .int (iZ (pos)), .int (iZ (0))]) (rest := []) ⟨hx, hb, hml, hown, hts⟩ (m_waysFrom l dC dI cI cZ cII cIII h0 H.size μ (q) (pos) (0) (by first | assumption | omega | exact ⟨by omega, by omega⟩) (by omega) (by first | assumption | omega | exact ⟨by omega, by omega⟩) (by exact hc1)) (cwV 3 hts (gV_G k1516 k1518 ks_yX10_waysFrom k13 k1519) rfl rfl rfl (by decide +kernel) ⟨by show 3 + 1 ≤ _; omega, by show 8 + (4 + 11) + (56) ≤ _; omega⟩) ⟨fun a U g mk q => by obtain ⟨q0, q1, qP, qK⟩ := q; exact ⟨q0, q1, qP, va_K.moved (u := U) (U := U.calling g mk a) (Vm.Alike.refl U.vm) qK⟩, va_recv hK hP (ci := 10) (q0 := 0) rfl ((fw_get (by decide)).trans (by rw [mE_obj]; rfl)), fun U hU hW => ⟨rfl, by rw [hU], by rw [hU]; exact hP, va_K.moved hW.alike hK⟩⟩ rfl rfl hl.1 rfl (lv_room (Nat.le_of_ble_eq_true rfl)) dX10_laysWays_156 ⟨hRc, hRs⟩) hS (fun q _ h => fA_le hS.1 q h) (fA_le hS.1) (fun r9 u9 t9 H1 locs ht9 hvm9 hw9 hB9 hz9 hk9 hS => ?_)
            obtain ⟨μ17, rn⟩ := u9
            obtain ⟨hP, -⟩ := hB9
            rw [ht9] at hP
            generalize H1 = H at hP hS ⊢
            obtain ⟨e9, hw9⟩ := hw9
            have e9 : r9 = iZ rn := e9
            subst e9
            simp only at hP hw9
            have hμ17 := hw9; clear hw9
            rw [hμ17.1] at hP; have hμ17 := hμ17.2
            have hn : rn = wF μ q.toNat pos.toNat (tkv μ P9 pp.toNat pos.toNat q.toNat) := by rw [htk1]; exact hμ17
            have hrr := wF_rng (q := q.toNat) hO1 (by omega) hc1 (tkv_rng (pp := pp.toNat) (x := q.toNat) (P := P9) (by omega) (fun h => hnx1 (by omega)))
            have hcq := hc1 q.toNat (by omega)
            obtain ⟨hU1, hU2, hU3⟩ := wayI_up (q := q.toNat) (by omega) hW hO (by omega) (fun h => hnx1 (by omega))
            rw [← hn] at hU1 hU2 hU3
            rw [e39] at hU2 hU3
            refine lv_istore (lv' := [(6, .int (iZ (rn))), (5, .int (iZ (0))), (4, .int (iZ (q))), (3, .int (iZ (mv))), (2, .int (iZ (pos))), (1, .int (iZ (pp))), (0, .ref h0)]) hx hb dX10_laysWays_159 hl (by decide) rfl (fun ls hl => ?_)
            refine lv_iload_n hx hb dX10_laysWays_161 rfl (lv_at hl 3 rfl) ?_
            refine lv_iload hx hb dX10_laysWays_162 (lv_at hl 0 rfl) ?_
            refine lv_aload_n hx hb dX10_laysWays_164 rfl (lv_at hl 6 rfl) ?_
            refine fz_get (D := (dC, dI)) (ci := 10) (v := .ref (h0 + 4415)) (C := RX10) (T := TX10) (N := 53) hx hb hts inG10 hown hK hP (k := 0) (by decide) (F := mF h0) mE_obj rfl 43 (by decide) (hts _ k1209) (fun _ h9 => h9) rfl dX10_laysWays_165 ?_
            refine lv_iload hx hb dX10_laysWays_168 (lv_at hl 2 rfl) ?_
            refine fz_ald (k := 4415) (n := 1900) (k2 := (4416 + (q).toNat)) hx hb hK hP 2 rfl (by decide) mE_can rfl ⟨by omega, by omega⟩ (by decide) (if_pos (by omega)) dX10_laysWays_170 ?_
            refine lv_iload_n hx hb dX10_laysWays_171 rfl (lv_at hl 4 rfl) ?_
            refine fz_ld (k := (4416 + (q).toNat)) (n := 62) hx hb hK hP 0 (by omega) (mE_canR (by omega)) rfl ⟨by omega, by omega⟩ (by decide) dX10_laysWays_172 ?_
            refine fz_icmp_eq (tgt := 180) (by constructor <;> omega) (by constructor <;> omega) hx hb dX10_laysWays_173 (by decide) (fun c173_ => ?_) (fun c173_ => ?_)
            · refine lv_iconst (v := iZ 0) hx hb dX10_laysWays_180 rfl ?_
              refine lv_ior hx hb dX10_laysWays_181 ?_
              refine lv_topi (fun x9 ex9 => ?_)
              obtain ⟨z18, rfl, hz18⟩ := iZ_ex x9
              have ez18 := ex9; clear ex9
              refine lv_istore_n (lv' := [(3, .int (iZ (z18))), (6, .int (iZ (rn))), (5, .int (iZ (0))), (4, .int (iZ (q))), (2, .int (iZ (pos))), (1, .int (iZ (pp))), (0, .ref h0)]) hx hb dX10_laysWays_182 rfl hl (by decide) rfl (fun ls hl => ?_)
              refine lv_aload_n hx hb dX10_laysWays_183 rfl (lv_at hl 6 rfl) ?_
              refine fz_get (D := (dC, dI)) (ci := 10) (v := .ref (h0 + 4415)) (C := RX10) (T := TX10) (N := 53) hx hb hts inG10 hown hK hP (k := 0) (by decide) (F := mF h0) mE_obj rfl 43 (by decide) (hts _ k1209) (fun _ h9 => h9) rfl dX10_laysWays_184 ?_
              refine lv_iload hx hb dX10_laysWays_187 (lv_at hl 3 rfl) ?_
              refine fz_ald (k := 4415) (n := 1900) (k2 := (4416 + (q).toNat)) hx hb hK hP 2 rfl (by decide) mE_can rfl ⟨by omega, by omega⟩ (by decide) (if_pos (by omega)) dX10_laysWays_189 ?_
              refine lv_iload_n hx hb dX10_laysWays_190 rfl (lv_at hl 4 rfl) ?_
              refine lv_iload hx hb dX10_laysWays_191 (lv_at hl 1 rfl) ?_
              have hz1 := ior_b hz18 ez18 hmv (by omega)
              refine fz_st (k := (4416 + (q).toNat)) (n := 62) (i := pos) (z := rn) hx hb hK hP fA_in hS 0 (by omega) (mE_canR (by omega)) rfl ⟨by omega, by omega⟩ (by decide) dX10_laysWays_193 (fun H locs hP hS => ?_)
              obtain ⟨μ19, eμ19⟩ : ∃ x : va_M, x = uz μ (4416 + (q).toNat) (pos).toNat (rn) := ⟨_, rfl⟩
              rw [← eμ19] at hP
              refine lv_iinc (v := iZ (q - 1)) (lv' := [(4, .int (iZ (q - 1))), (3, .int (iZ (z18))), (6, .int (iZ (rn))), (5, .int (iZ (0))), (2, .int (iZ (pos))), (1, .int (iZ (pp))), (0, .ref h0)]) hx hb dX10_laysWays_194 hl (k := 3) rfl (iZ_add _ (-1)) (by decide) rfl (fun ls hl => ?_)
              refine lv_goto (tgt := 82) hx hb dX10_laysWays_197 (by decide) ?_
              exact ih (z18) (q - 1) μ19 H locs ls (by omega) (by
                                    subst eμ19
                                    exact hU1) (by
                                    subst eμ19
                                    omega) (by
                                    subst eμ19
                                    rcases hz1 with ⟨z1, z2, z3⟩ | ⟨z1, z2⟩
                                    · left
                                      refine ⟨z1, ?_⟩
                                      have hs : rn = μ (4416 + q.toNat) pos.toNat := by omega
                                      rw [uz_id hs]
                                      intro x h1 h2
                                      by_cases h9 : x = q.toNat
                                      · subst h9; rw [← hs]; exact hn
                                      · rcases hd with ⟨_, hd⟩ | ⟨hd, _⟩
                                        · exact hd x (by omega) h2
                                        · omega
                                    · right
                                      refine ⟨z1, ?_⟩
                                      rcases hd with ⟨hd0, hd⟩ | ⟨_, hd⟩
                                      · have h9 := hU3 (by omega)
                                        omega
                                      · omega) (by omega) hP hS (lv_sub hl [0, 1, 4, 5, 6] rfl)
            · refine lv_iconst (v := iZ 1) hx hb dX10_laysWays_176 rfl ?_
              refine lv_goto (tgt := 181) hx hb dX10_laysWays_177 (by decide) ?_
              refine lv_ior hx hb dX10_laysWays_181 ?_
              refine lv_topi (fun x9 ex9 => ?_)
              obtain ⟨z20, rfl, hz20⟩ := iZ_ex x9
              have ez20 := ex9; clear ex9
              refine lv_istore_n (lv' := [(3, .int (iZ (z20))), (6, .int (iZ (rn))), (5, .int (iZ (0))), (4, .int (iZ (q))), (2, .int (iZ (pos))), (1, .int (iZ (pp))), (0, .ref h0)]) hx hb dX10_laysWays_182 rfl hl (by decide) rfl (fun ls hl => ?_)
              refine lv_aload_n hx hb dX10_laysWays_183 rfl (lv_at hl 6 rfl) ?_
              refine fz_get (D := (dC, dI)) (ci := 10) (v := .ref (h0 + 4415)) (C := RX10) (T := TX10) (N := 53) hx hb hts inG10 hown hK hP (k := 0) (by decide) (F := mF h0) mE_obj rfl 43 (by decide) (hts _ k1209) (fun _ h9 => h9) rfl dX10_laysWays_184 ?_
              refine lv_iload hx hb dX10_laysWays_187 (lv_at hl 3 rfl) ?_
              refine fz_ald (k := 4415) (n := 1900) (k2 := (4416 + (q).toNat)) hx hb hK hP 2 rfl (by decide) mE_can rfl ⟨by omega, by omega⟩ (by decide) (if_pos (by omega)) dX10_laysWays_189 ?_
              refine lv_iload_n hx hb dX10_laysWays_190 rfl (lv_at hl 4 rfl) ?_
              refine lv_iload hx hb dX10_laysWays_191 (lv_at hl 1 rfl) ?_
              have hz1 := ior_b hz20 ez20 hmv (by omega)
              refine fz_st (k := (4416 + (q).toNat)) (n := 62) (i := pos) (z := rn) hx hb hK hP fA_in hS 0 (by omega) (mE_canR (by omega)) rfl ⟨by omega, by omega⟩ (by decide) dX10_laysWays_193 (fun H locs hP hS => ?_)
              obtain ⟨μ21, eμ21⟩ : ∃ x : va_M, x = uz μ (4416 + (q).toNat) (pos).toNat (rn) := ⟨_, rfl⟩
              rw [← eμ21] at hP
              refine lv_iinc (v := iZ (q - 1)) (lv' := [(4, .int (iZ (q - 1))), (3, .int (iZ (z20))), (6, .int (iZ (rn))), (5, .int (iZ (0))), (2, .int (iZ (pos))), (1, .int (iZ (pp))), (0, .ref h0)]) hx hb dX10_laysWays_194 hl (k := 3) rfl (iZ_add _ (-1)) (by decide) rfl (fun ls hl => ?_)
              refine lv_goto (tgt := 82) hx hb dX10_laysWays_197 (by decide) ?_
              exact ih (z20) (q - 1) μ21 H locs ls (by omega) (by
                                    subst eμ21
                                    exact hU1) (by
                                    subst eμ21
                                    omega) (by
                                    subst eμ21
                                    rcases hz1 with ⟨z1, z2, z3⟩ | ⟨z1, z2⟩
                                    · left
                                      refine ⟨z1, ?_⟩
                                      have hs : rn = μ (4416 + q.toNat) pos.toNat := by omega
                                      rw [uz_id hs]
                                      intro x h1 h2
                                      by_cases h9 : x = q.toNat
                                      · subst h9; rw [← hs]; exact hn
                                      · rcases hd with ⟨_, hd⟩ | ⟨hd, _⟩
                                        · exact hd x (by omega) h2
                                        · omega
                                    · right
                                      refine ⟨z1, ?_⟩
                                      rcases hd with ⟨hd0, hd⟩ | ⟨_, hd⟩
                                      · have h9 := hU3 (by omega)
                                        omega
                                      · omega) (by omega) hP hS (lv_sub hl [0, 1, 4, 5, 6] rfl)
          · refine lv_iconst (v := iZ 1) hx hb dX10_laysWays_123 rfl ?_
            refine lv_goto (tgt := 128) hx hb dX10_laysWays_124 (by decide) ?_
            refine lv_istore (lv' := [(5, .int (iZ (1))), (4, .int (iZ (q))), (3, .int (iZ (mv))), (2, .int (iZ (pos))), (1, .int (iZ (pp))), (0, .ref h0)]) hx hb dX10_laysWays_128 hl (by decide) rfl (fun ls hl => ?_)
            refine lv_aload_n hx hb dX10_laysWays_130 rfl (lv_at hl 5 rfl) ?_
            refine lv_iload hx hb dX10_laysWays_131 (lv_at hl 1 rfl) ?_
            refine lv_iload_n hx hb dX10_laysWays_133 rfl (lv_at hl 3 rfl) ?_
            refine lv_iload hx hb dX10_laysWays_134 (lv_at hl 0 rfl) ?_
            refine fz_if_eq (tgt := 155) (by decide) hx hb dX10_laysWays_136 (by decide) (fun h9 => absurd h9 (by decide)) (fun c136_ => ?_)
            have htk1 : tkv μ P9 pp.toNat pos.toNat q.toNat = μ (4416 + (q.toNat + 1)) (pos.toNat + 1) := by
              unfold tkv
              rw [if_pos ⟨hlf, by omega, by omega⟩]
            have eq1 : (q + 1).toNat = q.toNat + 1 := by omega
            have ep1 : (pos + 1).toNat = pos.toNat + 1 := by omega
            refine lv_aload_n hx hb dX10_laysWays_139 rfl (lv_at hl 5 rfl) ?_
            refine fz_get (D := (dC, dI)) (ci := 10) (v := .ref (h0 + 4415)) (C := RX10) (T := TX10) (N := 53) hx hb hts inG10 hown hK hP (k := 0) (by decide) (F := mF h0) mE_obj rfl 43 (by decide) (hts _ k1209) (fun _ h9 => h9) rfl dX10_laysWays_140 ?_
            refine lv_iload hx hb dX10_laysWays_143 (lv_at hl 1 rfl) ?_
            refine lv_iconst (v := iZ 1) hx hb dX10_laysWays_145 rfl ?_
            refine lv_iadd hx hb dX10_laysWays_146 ?_
            refine lv_topi (fun x9 ex9 => ?_)
            obtain rfl : x9 = iZ (q + 1) := ex9.trans (iZ_add _ _)
            refine fz_ald (k := 4415) (n := 1900) (k2 := (4416 + (q + 1).toNat)) hx hb hK hP 2 rfl (by decide) mE_can rfl ⟨by omega, by omega⟩ (by decide) (if_pos (by omega)) dX10_laysWays_147 ?_
            refine lv_iload_n hx hb dX10_laysWays_148 rfl (lv_at hl 3 rfl) ?_
            refine lv_iconst (v := iZ 1) hx hb dX10_laysWays_149 rfl ?_
            refine lv_iadd hx hb dX10_laysWays_150 ?_
            refine lv_topi (fun x9 ex9 => ?_)
            obtain rfl : x9 = iZ (pos + 1) := ex9.trans (iZ_add _ _)
            refine fz_ld (k := (4416 + (q + 1).toNat)) (n := 62) hx hb hK hP 0 (by omega) (mE_canR (by omega)) rfl ⟨by omega, by omega⟩ (by decide) dX10_laysWays_151 ?_
            rw [show μ (4416 + (q + 1).toNat) (pos + 1).toNat = μ (4416 + (q.toNat + 1)) (pos.toNat + 1) from (by rw [eq1, ep1])]
            refine lv_goto (tgt := 156) hx hb dX10_laysWays_152 (by decide) ?_
            refine va_calli (va_runV (As := [.int (iZ (q)), .int (iZ (pos)), .int (iZ (μ (4416 + (q.toNat + 1)) (pos.toNat + 1)))]) (rest := []) ⟨hx, hb, hml, hown, hts⟩ (m_waysFrom l dC dI cI cZ cII cIII h0 H.size μ (q) (pos) (μ (4416 + (q.toNat + 1)) (pos.toNat + 1)) (by first | assumption | omega | exact ⟨by omega, by omega⟩) (by omega) (by first | assumption | omega | exact ⟨by omega, by omega⟩) (by exact hc1)) (cwV 3 hts (gV_G k1516 k1518 ks_yX10_waysFrom k13 k1519) rfl rfl rfl (by decide +kernel) ⟨by show 3 + 1 ≤ _; omega, by show 8 + (4 + 11) + (56) ≤ _; omega⟩) ⟨fun a U g mk q => by obtain ⟨q0, q1, qP, qK⟩ := q; exact ⟨q0, q1, qP, va_K.moved (u := U) (U := U.calling g mk a) (Vm.Alike.refl U.vm) qK⟩, va_recv hK hP (ci := 10) (q0 := 0) rfl ((fw_get (by decide)).trans (by rw [mE_obj]; rfl)), fun U hU hW => ⟨rfl, by rw [hU], by rw [hU]; exact hP, va_K.moved hW.alike hK⟩⟩ rfl rfl hl.1 rfl (lv_room (Nat.le_of_ble_eq_true rfl)) dX10_laysWays_156 ⟨hRc, hRs⟩) hS (fun q _ h => fA_le hS.1 q h) (fA_le hS.1) (fun r9 u9 t9 H1 locs ht9 hvm9 hw9 hB9 hz9 hk9 hS => ?_)
            obtain ⟨μ22, rn⟩ := u9
            obtain ⟨hP, -⟩ := hB9
            rw [ht9] at hP
            generalize H1 = H at hP hS ⊢
            obtain ⟨e9, hw9⟩ := hw9
            have e9 : r9 = iZ rn := e9
            subst e9
            simp only at hP hw9
            have hμ22 := hw9; clear hw9
            rw [hμ22.1] at hP; have hμ22 := hμ22.2
            have hn : rn = wF μ q.toNat pos.toNat (tkv μ P9 pp.toNat pos.toNat q.toNat) := by rw [htk1]; exact hμ22
            have hrr := wF_rng (q := q.toNat) hO1 (by omega) hc1 (tkv_rng (pp := pp.toNat) (x := q.toNat) (P := P9) (by omega) (fun h => hnx1 (by omega)))
            have hcq := hc1 q.toNat (by omega)
            obtain ⟨hU1, hU2, hU3⟩ := wayI_up (q := q.toNat) (by omega) hW hO (by omega) (fun h => hnx1 (by omega))
            rw [← hn] at hU1 hU2 hU3
            rw [e39] at hU2 hU3
            refine lv_istore (lv' := [(6, .int (iZ (rn))), (5, .int (iZ (1))), (4, .int (iZ (q))), (3, .int (iZ (mv))), (2, .int (iZ (pos))), (1, .int (iZ (pp))), (0, .ref h0)]) hx hb dX10_laysWays_159 hl (by decide) rfl (fun ls hl => ?_)
            refine lv_iload_n hx hb dX10_laysWays_161 rfl (lv_at hl 3 rfl) ?_
            refine lv_iload hx hb dX10_laysWays_162 (lv_at hl 0 rfl) ?_
            refine lv_aload_n hx hb dX10_laysWays_164 rfl (lv_at hl 6 rfl) ?_
            refine fz_get (D := (dC, dI)) (ci := 10) (v := .ref (h0 + 4415)) (C := RX10) (T := TX10) (N := 53) hx hb hts inG10 hown hK hP (k := 0) (by decide) (F := mF h0) mE_obj rfl 43 (by decide) (hts _ k1209) (fun _ h9 => h9) rfl dX10_laysWays_165 ?_
            refine lv_iload hx hb dX10_laysWays_168 (lv_at hl 2 rfl) ?_
            refine fz_ald (k := 4415) (n := 1900) (k2 := (4416 + (q).toNat)) hx hb hK hP 2 rfl (by decide) mE_can rfl ⟨by omega, by omega⟩ (by decide) (if_pos (by omega)) dX10_laysWays_170 ?_
            refine lv_iload_n hx hb dX10_laysWays_171 rfl (lv_at hl 4 rfl) ?_
            refine fz_ld (k := (4416 + (q).toNat)) (n := 62) hx hb hK hP 0 (by omega) (mE_canR (by omega)) rfl ⟨by omega, by omega⟩ (by decide) dX10_laysWays_172 ?_
            refine fz_icmp_eq (tgt := 180) (by constructor <;> omega) (by constructor <;> omega) hx hb dX10_laysWays_173 (by decide) (fun c173_ => ?_) (fun c173_ => ?_)
            · refine lv_iconst (v := iZ 0) hx hb dX10_laysWays_180 rfl ?_
              refine lv_ior hx hb dX10_laysWays_181 ?_
              refine lv_topi (fun x9 ex9 => ?_)
              obtain ⟨z23, rfl, hz23⟩ := iZ_ex x9
              have ez23 := ex9; clear ex9
              refine lv_istore_n (lv' := [(3, .int (iZ (z23))), (6, .int (iZ (rn))), (5, .int (iZ (1))), (4, .int (iZ (q))), (2, .int (iZ (pos))), (1, .int (iZ (pp))), (0, .ref h0)]) hx hb dX10_laysWays_182 rfl hl (by decide) rfl (fun ls hl => ?_)
              refine lv_aload_n hx hb dX10_laysWays_183 rfl (lv_at hl 6 rfl) ?_
              refine fz_get (D := (dC, dI)) (ci := 10) (v := .ref (h0 + 4415)) (C := RX10) (T := TX10) (N := 53) hx hb hts inG10 hown hK hP (k := 0) (by decide) (F := mF h0) mE_obj rfl 43 (by decide) (hts _ k1209) (fun _ h9 => h9) rfl dX10_laysWays_184 ?_
              refine lv_iload hx hb dX10_laysWays_187 (lv_at hl 3 rfl) ?_
              refine fz_ald (k := 4415) (n := 1900) (k2 := (4416 + (q).toNat)) hx hb hK hP 2 rfl (by decide) mE_can rfl ⟨by omega, by omega⟩ (by decide) (if_pos (by omega)) dX10_laysWays_189 ?_
              refine lv_iload_n hx hb dX10_laysWays_190 rfl (lv_at hl 4 rfl) ?_
              refine lv_iload hx hb dX10_laysWays_191 (lv_at hl 1 rfl) ?_
              have hz1 := ior_b hz23 ez23 hmv (by omega)
              refine fz_st (k := (4416 + (q).toNat)) (n := 62) (i := pos) (z := rn) hx hb hK hP fA_in hS 0 (by omega) (mE_canR (by omega)) rfl ⟨by omega, by omega⟩ (by decide) dX10_laysWays_193 (fun H locs hP hS => ?_)
              obtain ⟨μ24, eμ24⟩ : ∃ x : va_M, x = uz μ (4416 + (q).toNat) (pos).toNat (rn) := ⟨_, rfl⟩
              rw [← eμ24] at hP
              refine lv_iinc (v := iZ (q - 1)) (lv' := [(4, .int (iZ (q - 1))), (3, .int (iZ (z23))), (6, .int (iZ (rn))), (5, .int (iZ (1))), (2, .int (iZ (pos))), (1, .int (iZ (pp))), (0, .ref h0)]) hx hb dX10_laysWays_194 hl (k := 3) rfl (iZ_add _ (-1)) (by decide) rfl (fun ls hl => ?_)
              refine lv_goto (tgt := 82) hx hb dX10_laysWays_197 (by decide) ?_
              exact ih (z23) (q - 1) μ24 H locs ls (by omega) (by
                                    subst eμ24
                                    exact hU1) (by
                                    subst eμ24
                                    omega) (by
                                    subst eμ24
                                    rcases hz1 with ⟨z1, z2, z3⟩ | ⟨z1, z2⟩
                                    · left
                                      refine ⟨z1, ?_⟩
                                      have hs : rn = μ (4416 + q.toNat) pos.toNat := by omega
                                      rw [uz_id hs]
                                      intro x h1 h2
                                      by_cases h9 : x = q.toNat
                                      · subst h9; rw [← hs]; exact hn
                                      · rcases hd with ⟨_, hd⟩ | ⟨hd, _⟩
                                        · exact hd x (by omega) h2
                                        · omega
                                    · right
                                      refine ⟨z1, ?_⟩
                                      rcases hd with ⟨hd0, hd⟩ | ⟨_, hd⟩
                                      · have h9 := hU3 (by omega)
                                        omega
                                      · omega) (by omega) hP hS (lv_sub hl [0, 1, 4, 5, 6] rfl)
            · refine lv_iconst (v := iZ 1) hx hb dX10_laysWays_176 rfl ?_
              refine lv_goto (tgt := 181) hx hb dX10_laysWays_177 (by decide) ?_
              refine lv_ior hx hb dX10_laysWays_181 ?_
              refine lv_topi (fun x9 ex9 => ?_)
              obtain ⟨z25, rfl, hz25⟩ := iZ_ex x9
              have ez25 := ex9; clear ex9
              refine lv_istore_n (lv' := [(3, .int (iZ (z25))), (6, .int (iZ (rn))), (5, .int (iZ (1))), (4, .int (iZ (q))), (2, .int (iZ (pos))), (1, .int (iZ (pp))), (0, .ref h0)]) hx hb dX10_laysWays_182 rfl hl (by decide) rfl (fun ls hl => ?_)
              refine lv_aload_n hx hb dX10_laysWays_183 rfl (lv_at hl 6 rfl) ?_
              refine fz_get (D := (dC, dI)) (ci := 10) (v := .ref (h0 + 4415)) (C := RX10) (T := TX10) (N := 53) hx hb hts inG10 hown hK hP (k := 0) (by decide) (F := mF h0) mE_obj rfl 43 (by decide) (hts _ k1209) (fun _ h9 => h9) rfl dX10_laysWays_184 ?_
              refine lv_iload hx hb dX10_laysWays_187 (lv_at hl 3 rfl) ?_
              refine fz_ald (k := 4415) (n := 1900) (k2 := (4416 + (q).toNat)) hx hb hK hP 2 rfl (by decide) mE_can rfl ⟨by omega, by omega⟩ (by decide) (if_pos (by omega)) dX10_laysWays_189 ?_
              refine lv_iload_n hx hb dX10_laysWays_190 rfl (lv_at hl 4 rfl) ?_
              refine lv_iload hx hb dX10_laysWays_191 (lv_at hl 1 rfl) ?_
              have hz1 := ior_b hz25 ez25 hmv (by omega)
              refine fz_st (k := (4416 + (q).toNat)) (n := 62) (i := pos) (z := rn) hx hb hK hP fA_in hS 0 (by omega) (mE_canR (by omega)) rfl ⟨by omega, by omega⟩ (by decide) dX10_laysWays_193 (fun H locs hP hS => ?_)
              obtain ⟨μ26, eμ26⟩ : ∃ x : va_M, x = uz μ (4416 + (q).toNat) (pos).toNat (rn) := ⟨_, rfl⟩
              rw [← eμ26] at hP
              refine lv_iinc (v := iZ (q - 1)) (lv' := [(4, .int (iZ (q - 1))), (3, .int (iZ (z25))), (6, .int (iZ (rn))), (5, .int (iZ (1))), (2, .int (iZ (pos))), (1, .int (iZ (pp))), (0, .ref h0)]) hx hb dX10_laysWays_194 hl (k := 3) rfl (iZ_add _ (-1)) (by decide) rfl (fun ls hl => ?_)
              refine lv_goto (tgt := 82) hx hb dX10_laysWays_197 (by decide) ?_
              exact ih (z25) (q - 1) μ26 H locs ls (by omega) (by
                                    subst eμ26
                                    exact hU1) (by
                                    subst eμ26
                                    omega) (by
                                    subst eμ26
                                    rcases hz1 with ⟨z1, z2, z3⟩ | ⟨z1, z2⟩
                                    · left
                                      refine ⟨z1, ?_⟩
                                      have hs : rn = μ (4416 + q.toNat) pos.toNat := by omega
                                      rw [uz_id hs]
                                      intro x h1 h2
                                      by_cases h9 : x = q.toNat
                                      · subst h9; rw [← hs]; exact hn
                                      · rcases hd with ⟨_, hd⟩ | ⟨hd, _⟩
                                        · exact hd x (by omega) h2
                                        · omega
                                    · right
                                      refine ⟨z1, ?_⟩
                                      rcases hd with ⟨hd0, hd⟩ | ⟨_, hd⟩
                                      · have h9 := hU3 (by omega)
                                        omega
                                      · omega) (by omega) hP hS (lv_sub hl [0, 1, 4, 5, 6] rfl)
set_option maxHeartbeats 4000000 in
set_option maxRecDepth 100000 in
theorem LX10_laysWays_68 {p : Program} {l : Launch} {e : Env} {R : Room} {s : State} {m : MethodId} {args : Array Value} {below : List Frame} {meth : Method} {c : Code} {cells slots : Nat} {Q : State → Prop} {dC : Nat → ClassId} {dI : Nat → Nat → Nat} {h0 : Nat} {cI cZ cII cIII : ClassId} (hx : p.tables.exec = Jvm.exec) (hb : c.code = cX10_laysWays) (hml : c.maxLocals = 7) (hown : s.vm.findClass RX10 = some m.cls) (hts : ∀ w ∈ wsG, w.before args s = true) (hK : va_K (dC, dI) vwCl (mT cI cZ cII cIII) s) (hRf : 5 ≤ R.frames) (hRl : 120 ≤ R.locals) (hRc : cells ≤ R.cells) (hRs : slots ≤ R.slots) (μ0 : va_M) (pp : Int) (pos : Int) (P9 : Int) (hO : stOK μ0) (hpp : 0 ≤ pp ∧ pp < 8) (hpos : 0 ≤ pos ∧ pos ≤ P9) (hP9 : μ0 15 pp.toNat = P9 ∧ P9 ≤ 60) (hsr : ∀ j : Nat, j < 201 → inR (μ0 3 j)) (htk : ∀ k : Nat, (k : Int) < P9 → 0 ≤ μ0 (7 + pp.toNat) k ∧ μ0 (7 + pp.toNat) k < 201) (hnx : pos < P9 → cOK μ0 (pos.toNat + 1)) (hexit203 : ∀ (mv : Int) (μ : va_M) (H : Heap) (locs : List Loc) (ls : Array Slot), (fr (colF pos.toNat) μ0 μ) → (cFix μ P9 pp.toNat pos.toNat) → va_P (dC, dI) vwCl (fw (mE cI cZ cII cIII h0) h0 6325 μ) H → va_S (fA h0 6325 s.heap.size) s.heap H locs → lv_has ls 7 [(2, .int (iZ (pos))), (1, .int (iZ (pp))), (0, .ref h0)] → W p l e R s m args below meth c H locs cells slots Q (F0 m 203 ls [])) :
    ∀ (n9 : Nat) (mv : Int) (μ : va_M) (H : Heap) (locs : List Loc) (ls : Array Slot), (wayI μ0 μ P9 pp.toNat pos.toNat) → ((mv = 0 ∧ ∀ x : Nat, (x : Int) < μ0 0 39 → μ (4416 + x) pos.toNat = wF μ x pos.toNat (tkv μ P9 pp.toNat pos.toNat x)) ∨ mv = 1) → 2 * mS μ pos.toNat (μ0 0 39).toNat + mv.toNat < n9 → va_P (dC, dI) vwCl (fw (mE cI cZ cII cIII h0) h0 6325 μ) H → va_S (fA h0 6325 s.heap.size) s.heap H locs → lv_has ls 7 [(3, .int (iZ (mv))), (2, .int (iZ (pos))), (1, .int (iZ (pp))), (0, .ref h0)] → W p l e R s m args below meth c H locs cells slots Q (F0 m 68 ls []) := by
  intro n9
  induction n9 with
  | zero => intro mv μ H locs ls hW hd hm9 hP hS hl; exact absurd hm9 (Nat.not_lt_zero _)
  | succ n9 ih =>
    intro mv μ H locs ls hW hd hm9 hP hS hl
    have hO1 := wayI_O hW hO
    have hf := hW.1
    have e39 : μ 0 39 = μ0 0 39 := hf 0 39 (colF_n (by omega))
    have hb1 := hO.1
    have hb2 := hO.2.1
    have hmv : mv = 0 ∨ mv = 1 := by rcases hd with h | h <;> omega
    refine lv_iload_n hx hb dX10_laysWays_68 rfl (lv_at hl 0 rfl) ?_
    refine fz_if_eq (tgt := 203) (by constructor <;> omega) hx hb dX10_laysWays_69 (by decide) (fun c69_ => ?_) (fun c69_ => ?_)
    · exact hexit203 (mv) μ H locs ls (by exact hf) (by
                    refine ⟨hW.2.2.1, hW.2.2.2, fun x hx => ?_⟩
                    rcases hd with ⟨_, h2⟩ | h2
                    · exact h2 x (by omega)
                    · omega) hP hS (lv_sub hl [1, 2, 3] rfl)
    · refine lv_iconst (v := iZ 0) hx hb dX10_laysWays_72 rfl ?_
      refine lv_istore_n (lv' := [(3, .int (iZ (0))), (2, .int (iZ (pos))), (1, .int (iZ (pp))), (0, .ref h0)]) hx hb dX10_laysWays_73 rfl hl (by decide) rfl (fun ls hl => ?_)
      refine lv_aload_n hx hb dX10_laysWays_74 rfl (lv_at hl 3 rfl) ?_
      refine fz_get (D := (dC, dI)) (ci := 10) (v := .int (iZ (μ 0 39))) (C := RX10) (T := TX10) (N := 53) hx hb hts inG10 hown hK hP (k := 0) (by decide) (F := mF h0) mE_obj rfl 39 (by decide) (hts _ k1205) (fun _ h9 => h9) rfl dX10_laysWays_75 ?_
      refine lv_iconst (v := iZ 1) hx hb dX10_laysWays_78 rfl ?_
      refine lv_isub hx hb dX10_laysWays_79 ?_
      refine lv_topi (fun x9 ex9 => ?_)
      obtain rfl : x9 = iZ ((μ 0 39) - 1) := ex9.trans (iZ_sub _ _)
      refine lv_istore (lv' := [(4, .int (iZ ((μ 0 39) - 1))), (3, .int (iZ (0))), (2, .int (iZ (pos))), (1, .int (iZ (pp))), (0, .ref h0)]) hx hb dX10_laysWays_80 hl (by decide) rfl (fun ls hl => ?_)
      refine LX10_laysWays_82 hx hb hml hown hts hK hRf hRl hRc hRs (μ0) (pp) (pos) (P9) (mS μ pos.toNat (μ0 0 39).toNat) (by assumption) (by assumption) (by assumption) (by assumption) (by assumption) (by assumption) (by assumption) ?_ _ (0) ((μ 0 39) - 1) μ H locs ls (by omega) (by exact hW) (by exact Nat.le_refl _) (by
                    left
                    exact ⟨rfl, fun x h1 h2 => by omega⟩) (Nat.lt_succ_self _) hP hS (lv_sub hl [0, 1, 2, 3, 4] rfl)
      · intro mv_27 q_27 μ27_ H locs ls q3_27 q4_27 hP hS hl
        have hl : lv_has ls 7 [(3, .int (iZ (mv_27))), (2, .int (iZ (pos))), (1, .int (iZ (pp))), (0, .ref h0)] := hl
        refine lv_goto (tgt := 68) hx hb dX10_laysWays_200 (by decide) ?_
        exact ih (mv_27) μ27_ H locs ls (by exact q3_27) (by
                        rcases q4_27 with ⟨h1, _, h2⟩ | ⟨h1, h2⟩
                        · exact Or.inl ⟨h1, h2⟩
                        · exact Or.inr h1) (by rcases q4_27 with ⟨h1, h2, _⟩ | ⟨h1, h2⟩ <;> omega) hP hS (lv_sub hl [0, 1, 2, 3] rfl)
set_option maxHeartbeats 4000000 in
set_option maxRecDepth 100000 in
theorem LX10_laysWays_11 {p : Program} {l : Launch} {e : Env} {R : Room} {s : State} {m : MethodId} {args : Array Value} {below : List Frame} {meth : Method} {c : Code} {cells slots : Nat} {Q : State → Prop} {dC : Nat → ClassId} {dI : Nat → Nat → Nat} {h0 : Nat} {cI cZ cII cIII : ClassId} (hx : p.tables.exec = Jvm.exec) (hb : c.code = cX10_laysWays) (hml : c.maxLocals = 7) (hown : s.vm.findClass RX10 = some m.cls) (hts : ∀ w ∈ wsG, w.before args s = true) (hK : va_K (dC, dI) vwCl (mT cI cZ cII cIII) s) (hRf : 5 ≤ R.frames) (hRl : 120 ≤ R.locals) (hRc : cells ≤ R.cells) (hRs : slots ≤ R.slots) (μ0 : va_M) (pp : Int) (P9 : Int) (hO : stOK μ0) (hpp : 0 ≤ pp ∧ pp < 8) (hP9 : μ0 15 pp.toNat = P9 ∧ 0 ≤ P9 ∧ P9 ≤ 60) (hsr : ∀ j : Nat, j < 201 → inR (μ0 3 j)) (htk : ∀ k : Nat, (k : Int) < P9 → 0 ≤ μ0 (7 + pp.toNat) k ∧ μ0 (7 + pp.toNat) k < 201) (hexit209 : ∀ (pos : Int) (μ : va_M) (H : Heap) (locs : List Loc) (ls : Array Slot), (fr (fun x y => CF x) μ0 μ) → (∀ c : Nat, (c : Int) ≤ P9 → cFix μ P9 pp.toNat c) → va_P (dC, dI) vwCl (fw (mE cI cZ cII cIII h0) h0 6325 μ) H → va_S (fA h0 6325 s.heap.size) s.heap H locs → lv_has ls 7 [] → W p l e R s m args below meth c H locs cells slots Q (F0 m 209 ls [])) :
    ∀ (n9 : Nat) (pos : Int) (μ : va_M) (H : Heap) (locs : List Loc) (ls : Array Slot), (-1 ≤ pos ∧ pos ≤ P9) → (fr (fun x y => CF x) μ0 μ) → (∀ c : Nat, pos < (c : Int) → (c : Int) ≤ P9 → cFix μ P9 pp.toNat c) → (pos + 2).toNat < n9 → va_P (dC, dI) vwCl (fw (mE cI cZ cII cIII h0) h0 6325 μ) H → va_S (fA h0 6325 s.heap.size) s.heap H locs → lv_has ls 7 [(2, .int (iZ (pos))), (1, .int (iZ (pp))), (0, .ref h0)] → W p l e R s m args below meth c H locs cells slots Q (F0 m 11 ls []) := by
  intro n9
  induction n9 with
  | zero => intro pos μ H locs ls hpos hf hc hm9 hP hS hl; exact absurd hm9 (Nat.not_lt_zero _)
  | succ n9 ih =>
    intro pos μ H locs ls hpos hf hc hm9 hP hS hl
    have hO1 : stOK μ := stOK_fr hO hf (fun x y hh => by unfold CF at hh; omega)
    have e39 : μ 0 39 = μ0 0 39 := hf 0 39 (by unfold CF; omega)
    have e15 : μ 15 pp.toNat = P9 := (hf 15 _ (by unfold CF; omega)).trans hP9.1
    have e7 : ∀ k, μ (7 + pp.toNat) k = μ0 (7 + pp.toNat) k := fun k => hf _ _ (by unfold CF; omega)
    have e3 : ∀ k, μ 3 k = μ0 3 k := fun k => hf _ _ (by unfold CF; omega)
    have hb1 := hO.1
    have hb2 := hO.2.1
    refine lv_iload_n hx hb dX10_laysWays_11 rfl (lv_at hl 0 rfl) ?_
    refine fz_if_lt (tgt := 209) (by constructor <;> omega) hx hb dX10_laysWays_12 (by decide) (fun c12_ => ?_) (fun c12_ => ?_)
    · exact hexit209 (pos) μ H locs ls (by exact hf) (by
                    intro c h1
                    exact hc c (by omega) h1) hP hS (lv_sub hl [] rfl)
    · refine lv_iconst (v := iZ 0) hx hb dX10_laysWays_15 rfl ?_
      refine lv_istore_n (lv' := [(3, .int (iZ (0))), (2, .int (iZ (pos))), (1, .int (iZ (pp))), (0, .ref h0)]) hx hb dX10_laysWays_16 rfl hl (by decide) rfl (fun ls hl => ?_)
      refine LX10_laysWays_17 hx hb hml hown hts hK hRf hRl hRc hRs (μ) (pp) (pos) (by exact hO1) (by omega) ?_ _ (0) μ H locs ls (by omega) (by exact fr_rfl) (by intro x hx; omega) (Nat.lt_succ_self _) hP hS (lv_sub hl [0, 1, 2, 3] rfl)
      · intro q_28 μ28_ H locs ls q1_28 q2_28 hP hS hl
        have hl : lv_has ls 7 [(2, .int (iZ (pos))), (1, .int (iZ (pp))), (0, .ref h0)] := hl
        have k39 : μ28_ 0 39 = μ0 0 39 := (q1_28 0 39 (colF_n (by omega))).trans e39
        have k15 : μ28_ 15 pp.toNat = P9 := (q1_28 15 _ (colF_n (by omega))).trans e15
        refine lv_aload_n hx hb dX10_laysWays_40 rfl (lv_at hl 2 rfl) ?_
        refine fz_get (D := (dC, dI)) (ci := 10) (v := .ref (h0 + 4415)) (C := RX10) (T := TX10) (N := 53) hx hb hts inG10 hown hK hP (k := 0) (by decide) (F := mF h0) mE_obj rfl 43 (by decide) (hts _ k1209) (fun _ h9 => h9) rfl dX10_laysWays_41 ?_
        refine lv_aload_n hx hb dX10_laysWays_44 rfl (lv_at hl 2 rfl) ?_
        refine fz_get (D := (dC, dI)) (ci := 10) (v := .int (iZ (μ28_ 0 39))) (C := RX10) (T := TX10) (N := 53) hx hb hts inG10 hown hK hP (k := 0) (by decide) (F := mF h0) mE_obj rfl 39 (by decide) (hts _ k1205) (fun _ h9 => h9) rfl dX10_laysWays_45 ?_
        rw [show μ28_ 0 39 = μ0 0 39 from (by exact k39)]
        refine fz_ald (k := 4415) (n := 1900) (k2 := (4416 + (μ0 0 39).toNat)) hx hb hK hP 2 rfl (by decide) mE_can rfl ⟨by omega, by omega⟩ (by decide) (if_pos (by omega)) dX10_laysWays_48 ?_
        refine lv_iload_n hx hb dX10_laysWays_49 rfl (lv_at hl 0 rfl) ?_
        refine lv_iload_n hx hb dX10_laysWays_50 rfl (lv_at hl 0 rfl) ?_
        refine lv_aload_n hx hb dX10_laysWays_51 rfl (lv_at hl 2 rfl) ?_
        refine fz_get (D := (dC, dI)) (ci := 10) (v := .ref (h0 + 15)) (C := RX10) (T := TX10) (N := 53) hx hb hts inG10 hown hK hP (k := 0) (by decide) (F := mF h0) mE_obj rfl 15 (by decide) (hts _ k1181) (fun _ h9 => h9) rfl dX10_laysWays_52 ?_
        refine lv_iload_n hx hb dX10_laysWays_55 rfl (lv_at hl 1 rfl) ?_
        refine fz_ld (k := 15) (n := 8) hx hb hK hP 0 (by decide) mE_pageLong rfl ⟨by omega, by omega⟩ (by decide) dX10_laysWays_56 ?_
        rw [show μ28_ 15 (pp).toNat = P9 from (by exact k15)]
        refine fz_icmp_ne (tgt := 64) (by constructor <;> omega) (by constructor <;> omega) hx hb dX10_laysWays_57 (by decide) (fun c57_ => ?_) (fun c57_ => ?_)
        · refine lv_iconst (v := iZ 0) hx hb dX10_laysWays_64 rfl ?_
          refine fz_st (k := (4416 + (μ0 0 39).toNat)) (n := 62) (i := pos) (z := 0) hx hb hK hP fA_in hS 0 (by omega) (mE_canR (by omega)) rfl ⟨by omega, by omega⟩ (by decide) dX10_laysWays_65 (fun H locs hP hS => ?_)
          obtain ⟨μ29, eμ29⟩ : ∃ x : va_M, x = uz μ28_ (4416 + (μ0 0 39).toNat) (pos).toNat (0) := ⟨_, rfl⟩
          rw [← eμ29] at hP
          refine lv_iconst (v := iZ 1) hx hb dX10_laysWays_66 rfl ?_
          refine lv_istore_n (lv' := [(3, .int (iZ (1))), (2, .int (iZ (pos))), (1, .int (iZ (pp))), (0, .ref h0)]) hx hb dX10_laysWays_67 rfl hl (by decide) rfl (fun ls hl => ?_)
          refine LX10_laysWays_68 hx hb hml hown hts hK hRf hRl hRc hRs (μ) (pp) (pos) (P9) (by exact hO1) (by exact hpp) (by omega) (by exact ⟨e15, by omega⟩) (by intro j hj; rw [e3]; exact hsr j hj) (by intro k hk; rw [e7]; exact htk k hk) (by
                            intro h9
                            exact (hc (pos.toNat + 1) (by omega) (by omega)).1) ?_ _ (1) μ29 H locs ls (by
                            first
                              | (subst eμ29
                                 have z39 : ∀ v, uz μ28_ (4416 + (μ0 0 39).toNat) pos.toNat v 0 39 = μ0 0 39 := fun v => by rw [uz_n (by omega)]; exact k39
                                 have zc : ∀ v : Int, 0 ≤ v → v ≤ 1 → ∀ x : Nat, (x : Int) ≤ μ0 0 39 → 0 ≤ uz μ28_ (4416 + (μ0 0 39).toNat) pos.toNat v (4416 + x) pos.toNat ∧ uz μ28_ (4416 + (μ0 0 39).toNat) pos.toNat v (4416 + x) pos.toNat ≤ 1000000000 := fun v h1 h2 x hx => by
                                   by_cases h9 : x = (μ0 0 39).toNat
                                   · subst h9; rw [uz_s]; omega
                                   · rw [uz_n (by omega), q2_28 x (by omega)]; omega
                                 have zf : ∀ v, fr (colF pos.toNat) μ (uz μ28_ (4416 + (μ0 0 39).toNat) pos.toNat v) := fun v => fr_uz q1_28 ⟨by unfold CF; omega, rfl⟩
                                 have zO : ∀ v, stOK (uz μ28_ (4416 + (μ0 0 39).toNat) pos.toNat v) := fun v => stOK_fr hO1 (zf v) (fun x y hh => by unfold colF CF at hh; omega)
                                 refine ⟨zf _, fun x hx => ?_, fun x hx => ?_, ?_⟩
                                 · rw [z39] at hx
                                   have hcz : cOK (uz μ28_ (4416 + (μ0 0 39).toNat) pos.toNat 1) pos.toNat := fun y hy => zc _ (by omega) (by omega) y (by rw [z39] at hy; exact hy)
                                   have hwr := wF_rng (q := x) (tk := tkv (uz μ28_ (4416 + (μ0 0 39).toNat) pos.toNat 1) P9 pp.toNat pos.toNat x) (zO 1) (by rw [z39]; exact hx) hcz (tkv_rng (by rw [z39]; exact hx) (fun h9 => by
                                     refine cOK_fr (hc (pos.toNat + 1) (by omega) (by omega)).1 (zf 1) (colF_n (by omega)) (fun y => colF_n (by omega))))
                                   rw [uz_n (by omega), q2_28 x (by omega)]
                                   exact hwr.1
                                 · rw [z39] at hx
                                   exact zc _ (by omega) (by omega) x hx
                                 · rw [z39, uz_s]
                                   first | rw [if_pos (by omega)] | rw [if_neg (by omega)])
                              | (subst eμ29
                                 have z39 : ∀ v, uz μ28_ (4416 + (μ0 0 39).toNat) pos.toNat v 0 39 = μ0 0 39 := fun v => by rw [uz_n (by omega)]; exact k39
                                 have zc : ∀ v : Int, 0 ≤ v → v ≤ 1 → ∀ x : Nat, (x : Int) ≤ μ0 0 39 → 0 ≤ uz μ28_ (4416 + (μ0 0 39).toNat) pos.toNat v (4416 + x) pos.toNat ∧ uz μ28_ (4416 + (μ0 0 39).toNat) pos.toNat v (4416 + x) pos.toNat ≤ 1000000000 := fun v h1 h2 x hx => by
                                   by_cases h9 : x = (μ0 0 39).toNat
                                   · subst h9; rw [uz_s]; omega
                                   · rw [uz_n (by omega), q2_28 x (by omega)]; omega
                                 have zf : ∀ v, fr (colF pos.toNat) μ (uz μ28_ (4416 + (μ0 0 39).toNat) pos.toNat v) := fun v => fr_uz q1_28 ⟨by unfold CF; omega, rfl⟩
                                 have zO : ∀ v, stOK (uz μ28_ (4416 + (μ0 0 39).toNat) pos.toNat v) := fun v => stOK_fr hO1 (zf v) (fun x y hh => by unfold colF CF at hh; omega)
                                 refine ⟨zf _, fun x hx => ?_, fun x hx => ?_, ?_⟩
                                 · rw [z39] at hx
                                   have hcz : cOK (uz μ28_ (4416 + (μ0 0 39).toNat) pos.toNat 0) pos.toNat := fun y hy => zc _ (by omega) (by omega) y (by rw [z39] at hy; exact hy)
                                   have hwr := wF_rng (q := x) (tk := tkv (uz μ28_ (4416 + (μ0 0 39).toNat) pos.toNat 0) P9 pp.toNat pos.toNat x) (zO 0) (by rw [z39]; exact hx) hcz (tkv_rng (by rw [z39]; exact hx) (fun h9 => by
                                     refine cOK_fr (hc (pos.toNat + 1) (by omega) (by omega)).1 (zf 0) (colF_n (by omega)) (fun y => colF_n (by omega))))
                                   rw [uz_n (by omega), q2_28 x (by omega)]
                                   exact hwr.1
                                 · rw [z39] at hx
                                   exact zc _ (by omega) (by omega) x hx
                                 · rw [z39, uz_s]
                                   first | rw [if_pos (by omega)] | rw [if_neg (by omega)])) (by exact Or.inr rfl) (Nat.lt_succ_self _) hP hS (lv_sub hl [0, 1, 2, 3] rfl)
          · intro mv_30 μ30_ H locs ls q5_30 q6_30 hP hS hl
            have hl : lv_has ls 7 [(2, .int (iZ (pos))), (1, .int (iZ (pp))), (0, .ref h0)] := hl
            refine lv_iinc (v := iZ (pos - 1)) (lv' := [(2, .int (iZ (pos - 1))), (1, .int (iZ (pp))), (0, .ref h0)]) hx hb dX10_laysWays_203 hl (k := 0) rfl (iZ_add _ (-1)) (by decide) rfl (fun ls hl => ?_)
            refine lv_goto (tgt := 11) hx hb dX10_laysWays_206 (by decide) ?_
            exact ih (pos - 1) μ30_ H locs ls (by omega) (by exact fr_trans hf (fr_mono q5_30 (fun x y h => h.1))) (by
                                intro c h1 h2
                                by_cases h9 : c = pos.toNat
                                · subst h9; exact q6_30
                                · exact cFix_fr (hc c (by omega) h2) q5_30 (by omega) (fun x y hh => ⟨hh.1, by have h8 : y = pos.toNat := hh.2; omega⟩)) (by omega) hP hS (lv_sub hl [0, 1, 2] rfl)
        · refine lv_iconst (v := iZ 1) hx hb dX10_laysWays_60 rfl ?_
          refine lv_goto (tgt := 65) hx hb dX10_laysWays_61 (by decide) ?_
          refine fz_st (k := (4416 + (μ0 0 39).toNat)) (n := 62) (i := pos) (z := 1) hx hb hK hP fA_in hS 0 (by omega) (mE_canR (by omega)) rfl ⟨by omega, by omega⟩ (by decide) dX10_laysWays_65 (fun H locs hP hS => ?_)
          obtain ⟨μ31, eμ31⟩ : ∃ x : va_M, x = uz μ28_ (4416 + (μ0 0 39).toNat) (pos).toNat (1) := ⟨_, rfl⟩
          rw [← eμ31] at hP
          refine lv_iconst (v := iZ 1) hx hb dX10_laysWays_66 rfl ?_
          refine lv_istore_n (lv' := [(3, .int (iZ (1))), (2, .int (iZ (pos))), (1, .int (iZ (pp))), (0, .ref h0)]) hx hb dX10_laysWays_67 rfl hl (by decide) rfl (fun ls hl => ?_)
          refine LX10_laysWays_68 hx hb hml hown hts hK hRf hRl hRc hRs (μ) (pp) (pos) (P9) (by exact hO1) (by exact hpp) (by omega) (by exact ⟨e15, by omega⟩) (by intro j hj; rw [e3]; exact hsr j hj) (by intro k hk; rw [e7]; exact htk k hk) (by
                            intro h9
                            exact (hc (pos.toNat + 1) (by omega) (by omega)).1) ?_ _ (1) μ31 H locs ls (by
                            first
                              | (subst eμ31
                                 have z39 : ∀ v, uz μ28_ (4416 + (μ0 0 39).toNat) pos.toNat v 0 39 = μ0 0 39 := fun v => by rw [uz_n (by omega)]; exact k39
                                 have zc : ∀ v : Int, 0 ≤ v → v ≤ 1 → ∀ x : Nat, (x : Int) ≤ μ0 0 39 → 0 ≤ uz μ28_ (4416 + (μ0 0 39).toNat) pos.toNat v (4416 + x) pos.toNat ∧ uz μ28_ (4416 + (μ0 0 39).toNat) pos.toNat v (4416 + x) pos.toNat ≤ 1000000000 := fun v h1 h2 x hx => by
                                   by_cases h9 : x = (μ0 0 39).toNat
                                   · subst h9; rw [uz_s]; omega
                                   · rw [uz_n (by omega), q2_28 x (by omega)]; omega
                                 have zf : ∀ v, fr (colF pos.toNat) μ (uz μ28_ (4416 + (μ0 0 39).toNat) pos.toNat v) := fun v => fr_uz q1_28 ⟨by unfold CF; omega, rfl⟩
                                 have zO : ∀ v, stOK (uz μ28_ (4416 + (μ0 0 39).toNat) pos.toNat v) := fun v => stOK_fr hO1 (zf v) (fun x y hh => by unfold colF CF at hh; omega)
                                 refine ⟨zf _, fun x hx => ?_, fun x hx => ?_, ?_⟩
                                 · rw [z39] at hx
                                   have hcz : cOK (uz μ28_ (4416 + (μ0 0 39).toNat) pos.toNat 1) pos.toNat := fun y hy => zc _ (by omega) (by omega) y (by rw [z39] at hy; exact hy)
                                   have hwr := wF_rng (q := x) (tk := tkv (uz μ28_ (4416 + (μ0 0 39).toNat) pos.toNat 1) P9 pp.toNat pos.toNat x) (zO 1) (by rw [z39]; exact hx) hcz (tkv_rng (by rw [z39]; exact hx) (fun h9 => by
                                     refine cOK_fr (hc (pos.toNat + 1) (by omega) (by omega)).1 (zf 1) (colF_n (by omega)) (fun y => colF_n (by omega))))
                                   rw [uz_n (by omega), q2_28 x (by omega)]
                                   exact hwr.1
                                 · rw [z39] at hx
                                   exact zc _ (by omega) (by omega) x hx
                                 · rw [z39, uz_s]
                                   first | rw [if_pos (by omega)] | rw [if_neg (by omega)])
                              | (subst eμ31
                                 have z39 : ∀ v, uz μ28_ (4416 + (μ0 0 39).toNat) pos.toNat v 0 39 = μ0 0 39 := fun v => by rw [uz_n (by omega)]; exact k39
                                 have zc : ∀ v : Int, 0 ≤ v → v ≤ 1 → ∀ x : Nat, (x : Int) ≤ μ0 0 39 → 0 ≤ uz μ28_ (4416 + (μ0 0 39).toNat) pos.toNat v (4416 + x) pos.toNat ∧ uz μ28_ (4416 + (μ0 0 39).toNat) pos.toNat v (4416 + x) pos.toNat ≤ 1000000000 := fun v h1 h2 x hx => by
                                   by_cases h9 : x = (μ0 0 39).toNat
                                   · subst h9; rw [uz_s]; omega
                                   · rw [uz_n (by omega), q2_28 x (by omega)]; omega
                                 have zf : ∀ v, fr (colF pos.toNat) μ (uz μ28_ (4416 + (μ0 0 39).toNat) pos.toNat v) := fun v => fr_uz q1_28 ⟨by unfold CF; omega, rfl⟩
                                 have zO : ∀ v, stOK (uz μ28_ (4416 + (μ0 0 39).toNat) pos.toNat v) := fun v => stOK_fr hO1 (zf v) (fun x y hh => by unfold colF CF at hh; omega)
                                 refine ⟨zf _, fun x hx => ?_, fun x hx => ?_, ?_⟩
                                 · rw [z39] at hx
                                   have hcz : cOK (uz μ28_ (4416 + (μ0 0 39).toNat) pos.toNat 0) pos.toNat := fun y hy => zc _ (by omega) (by omega) y (by rw [z39] at hy; exact hy)
                                   have hwr := wF_rng (q := x) (tk := tkv (uz μ28_ (4416 + (μ0 0 39).toNat) pos.toNat 0) P9 pp.toNat pos.toNat x) (zO 0) (by rw [z39]; exact hx) hcz (tkv_rng (by rw [z39]; exact hx) (fun h9 => by
                                     refine cOK_fr (hc (pos.toNat + 1) (by omega) (by omega)).1 (zf 0) (colF_n (by omega)) (fun y => colF_n (by omega))))
                                   rw [uz_n (by omega), q2_28 x (by omega)]
                                   exact hwr.1
                                 · rw [z39] at hx
                                   exact zc _ (by omega) (by omega) x hx
                                 · rw [z39, uz_s]
                                   first | rw [if_pos (by omega)] | rw [if_neg (by omega)])) (by exact Or.inr rfl) (Nat.lt_succ_self _) hP hS (lv_sub hl [0, 1, 2, 3] rfl)
          · intro mv_32 μ32_ H locs ls q5_32 q6_32 hP hS hl
            have hl : lv_has ls 7 [(2, .int (iZ (pos))), (1, .int (iZ (pp))), (0, .ref h0)] := hl
            refine lv_iinc (v := iZ (pos - 1)) (lv' := [(2, .int (iZ (pos - 1))), (1, .int (iZ (pp))), (0, .ref h0)]) hx hb dX10_laysWays_203 hl (k := 0) rfl (iZ_add _ (-1)) (by decide) rfl (fun ls hl => ?_)
            refine lv_goto (tgt := 11) hx hb dX10_laysWays_206 (by decide) ?_
            exact ih (pos - 1) μ32_ H locs ls (by omega) (by exact fr_trans hf (fr_mono q5_32 (fun x y h => h.1))) (by
                                intro c h1 h2
                                by_cases h9 : c = pos.toNat
                                · subst h9; exact q6_32
                                · exact cFix_fr (hc c (by omega) h2) q5_32 (by omega) (fun x y hh => ⟨hh.1, by have h8 : y = pos.toNat := hh.2; omega⟩)) (by omega) hP hS (lv_sub hl [0, 1, 2] rfl)
set_option maxHeartbeats 4000000 in
set_option maxRecDepth 100000 in
theorem m_laysWays (l : Launch) (dC : Nat → ClassId) (dI : Nat → Nat → Nat) (cI cZ cII cIII : ClassId) (h0 sz : Nat) (μ : va_M) (pp : Int) (w : Rw) (hT : TR μ 0 w) (hwf : rWF w) (hN : rN w ≤ 900) (hpp : 0 ≤ pp ∧ pp < 8) (hP : 0 ≤ μ 15 pp.toNat ∧ μ 15 pp.toNat ≤ 60) (htk : ∀ k : Nat, (k : Int) < μ 15 pp.toNat → 0 ≤ μ (7 + pp.toNat) k ∧ μ (7 + pp.toNat) k < 201) (hsr : ∀ j : Nat, j < 201 → inR (μ 3 j)) : Met l yX10_laysWays (Cond.code yX10_laysWays cX10_laysWays 7 none :: wsG) ({ frames := 5, cells := 0, slots := 0, locals := 120 } : Room) (va_Pc [.ref h0, .int (iZ (pp))] (fun U => U.heap.size = sz ∧ va_P (dC, dI) vwCl (fw (mE cI cZ cII cIII h0) h0 6325 μ) U.heap ∧ va_K (dC, dI) vwCl (mT cI cZ cII cIII) U)) (va_Qv (fun (u : va_M) => fr SW μ u ∧ u 0 39 = rS w ∧ RS u w 0 0 ∧ ∀ c : Nat, (c : Int) ≤ μ 15 pp.toNat → cFix u (μ 15 pp.toNat) pp.toNat c) (fun u t => va_P (dC, dI) vwCl (fw (mE cI cZ cII cIII h0) h0 6325 u) t.heap ∧ va_K (dC, dI) vwCl (mT cI cZ cII cIII) t) (fA h0 6325 sz)) 0 0 (fA h0 6325 sz) := by
  refine Met.ofW (cc := cX10_laysWays) (maxL := 7) (ret := none) (by decide) rfl ?_
  intro p e s m args below meth c s₁ B hml hv
  obtain ⟨rfl, hsz, hP, hK⟩ := hv
  have hx := B.exec
  have hb := B.bytes
  have hr := B.returns
  have hts : ∀ w ∈ wsG, w.before _ s = true := hG_of (atoms_spec (ws := (Cond.code yX10_laysWays cX10_laysWays 7 none :: wsG)) B.pre)
  have hown : s.vm.findClass RX10 = some m.cls := findClass_of_methodNamed B.named
  have hlocks := B.notSynchronized
  subst hsz
  have hS : va_S (fA h0 6325 s.heap.size) s.heap s.heap [] := va_S.rf
  have hl := lv_entry ([.ref h0, .int (iZ (pp))]) (n := 7) (Nat.le_of_ble_eq_true rfl)
  rw [lg_entry_eq]
  generalize (lg_sl ([.ref h0, .int (iZ (pp))]) ++ List.replicate (7 - (lg_sl ([.ref h0, .int (iZ (pp))])).length) Slot.unset).toArray = ls at hl ⊢
  have hl : lv_has ls 7 [(0, .ref h0), (1, .int (iZ (pp)))] := hl
  refine lv_aload_n hx hb dX10_laysWays_0 rfl (lv_at hl 0 rfl) ?_
  refine va_callv (va_runV (As := []) (rest := []) ⟨hx, hb, hml, hown, hts⟩ (m_laysStates l dC dI cI cZ cII cIII h0 s.heap.size μ (w) (by first | assumption | omega | exact ⟨by omega, by omega⟩) (by first | assumption | omega | exact ⟨by omega, by omega⟩) (by first | assumption | omega | exact ⟨by omega, by omega⟩)) (cwV 0 hts (gV_G k1504 k1506 ks_yX10_laysStates k13 k1507) rfl rfl rfl (by decide +kernel) ⟨Nat.le_of_ble_eq_true rfl, Nat.le_of_ble_eq_true rfl⟩) ⟨fun a U g mk q => by obtain ⟨q0, q1, qP, qK⟩ := q; exact ⟨q0, q1, qP, va_K.moved (u := U) (U := U.calling g mk a) (Vm.Alike.refl U.vm) qK⟩, va_recv hK hP (ci := 10) (q0 := 0) rfl ((fw_get (by decide)).trans (by rw [mE_obj]; rfl)), fun U hU hW => ⟨rfl, by rw [hU], by rw [hU]; exact hP, va_K.moved hW.alike hK⟩⟩ rfl rfl hl.1 rfl (lv_room (Nat.le_of_ble_eq_true rfl)) dX10_laysWays_1 ⟨Nat.le_of_ble_eq_true rfl, Nat.le_of_ble_eq_true rfl⟩) hS (fun q _ h => fA_le hS.1 q h) (fA_le hS.1) (fun u9 t9 H1 locs ht9 hvm9 hw9 hB9 hz9 hk9 hS => ?_)
  obtain ⟨hP, -⟩ := hB9
  rw [ht9] at hP
  generalize H1 = H at hP hS ⊢
  obtain ⟨μa, eμa⟩ : ∃ x : va_M, x = u9 := ⟨_, rfl⟩
  rw [← eμa] at hP hw9
  have hμa := hw9; clear hw9
  obtain ⟨s1, s2, s3⟩ := hμa
  have hTa : TR μa 0 w := TR_fr hT s1 (fun x => by unfold SF; omega) (by unfold SF; omega)
  have hOa := stOK_of hTa hwf hN s2 s3
  have e15 : μa 15 pp.toNat = μ 15 pp.toNat := s1 _ _ (by unfold SF; omega)
  refine lv_aload_n hx hb dX10_laysWays_4 rfl (lv_at hl 0 rfl) ?_
  refine fz_get (D := (dC, dI)) (ci := 10) (v := .ref (h0 + 15)) (C := RX10) (T := TX10) (N := 53) hx hb hts inG10 hown hK hP (k := 0) (by decide) (F := mF h0) mE_obj rfl 15 (by decide) (hts _ k1181) (fun _ h9 => h9) rfl dX10_laysWays_5 ?_
  refine lv_iload_n hx hb dX10_laysWays_8 rfl (lv_at hl 1 rfl) ?_
  refine fz_ld (k := 15) (n := 8) hx hb hK hP 0 (by decide) mE_pageLong rfl ⟨by omega, by omega⟩ (by decide) dX10_laysWays_9 ?_
  refine lv_istore_n (lv' := [(2, .int (iZ (μa 15 (pp).toNat))), (0, .ref h0), (1, .int (iZ (pp)))]) hx hb dX10_laysWays_10 rfl hl (by decide) rfl (fun ls hl => ?_)
  refine LX10_laysWays_11 hx hb hml hown hts hK (Nat.le_of_ble_eq_true rfl) (Nat.le_of_ble_eq_true rfl) (Nat.le_of_ble_eq_true rfl) (Nat.le_of_ble_eq_true rfl) (μa) (pp) (μ 15 pp.toNat) (by exact hOa) (by assumption) (by exact ⟨e15, by omega⟩) (by intro j hj; rw [s1 _ _ (by unfold SF; omega)]; exact hsr j hj) (by intro k hk; rw [s1 _ _ (by unfold SF; omega)]; exact htk k hk) ?_ _ (μa 15 (pp).toNat) μa H locs ls (by omega) (by exact fr_rfl) (by intro c h1 h2; omega) (Nat.lt_succ_self _) hP hS (lv_sub hl [0, 2, 1] rfl)
  · intro pos_33 μ33_ H locs ls q7_33 q8_33 hP hS hl
    have hl : lv_has ls 7 [] := hl
    exact W.vret hx hb hr (fun t9 ht9 hW9 => ⟨⟨μ33_, rfl, (by
                try dsimp only
                have hc9 := q7_33
                refine ⟨fr_trans (fr_mono s1 (fun x y h => Or.inl h)) (fr_mono hc9 (fun x y h => Or.inr h)), (hc9 0 39 (by unfold CF; omega)).trans s2, RS_fr w 0 0 s3 (fun x => ⟨hc9 _ _ (by unfold CF; omega), hc9 _ _ (by unfold CF; omega), hc9 _ _ (by unfold CF; omega)⟩), q8_33⟩), by rw [ht9]; exact hP, va_K.moved hW9.alike hK⟩, hS.F ht9⟩) hS.2.2 dX10_laysWays_209

theorem k1556 : (Cond.methodLink "PageSkeletonModel" (274 : Nat) ({ cls := "PageSkeletonModel", name := "walks", desc := "(II)V" } : MethodName)) ∈ wsG := wsG_at 1556 (by decide +kernel) (by decide +kernel)
theorem k1558 : (Cond.instanceMethod ({ cls := "PageSkeletonModel", name := "walks", desc := "(II)V" } : MethodName)) ∈ wsG := wsG_at 1558 (by decide +kernel) (by decide +kernel)
theorem k1559 : (Cond.code ({ cls := "PageSkeletonModel", name := "walks", desc := "(II)V" } : MethodName) prog_12_method_40_code (14 : Nat) (Option.none : Option Jvm.ClassFile.FieldType)) ∈ wsG := wsG_at 1559 (by decide +kernel) (by decide +kernel)
theorem ks_yX10_walks : Cond.selects RX10 yX10_walks yX10_walks ∈ wsG := wsG_mem (by decide +kernel) (by decide +kernel)
theorem dX10_laysRow_0 : decode cX10_laysRow 0 = .ok (.aload_n 0, 1) := by decide +kernel
theorem dX10_laysRow_1 : decode cX10_laysRow 1 = .ok (.getfield 76, 3) := by decide +kernel
theorem dX10_laysRow_4 : decode cX10_laysRow 4 = .ok (.iload_n 1, 1) := by decide +kernel
theorem dX10_laysRow_5 : decode cX10_laysRow 5 = .ok (.iload_n 2, 1) := by decide +kernel
theorem dX10_laysRow_6 : decode cX10_laysRow 6 = .ok (.iastore, 1) := by decide +kernel
theorem dX10_laysRow_7 : decode cX10_laysRow 7 = .ok (.aload_n 0, 1) := by decide +kernel
theorem dX10_laysRow_8 : decode cX10_laysRow 8 = .ok (.getfield 79, 3) := by decide +kernel
theorem dX10_laysRow_11 : decode cX10_laysRow 11 = .ok (.iload_n 1, 1) := by decide +kernel
theorem dX10_laysRow_12 : decode cX10_laysRow 12 = .ok (.iload 5, 2) := by decide +kernel
theorem dX10_laysRow_14 : decode cX10_laysRow 14 = .ok (.iastore, 1) := by decide +kernel
theorem dX10_laysRow_15 : decode cX10_laysRow 15 = .ok (.aload_n 0, 1) := by decide +kernel
theorem dX10_laysRow_16 : decode cX10_laysRow 16 = .ok (.getfield 82, 3) := by decide +kernel
theorem dX10_laysRow_19 : decode cX10_laysRow 19 = .ok (.iload_n 1, 1) := by decide +kernel
theorem dX10_laysRow_20 : decode cX10_laysRow 20 = .ok (.aload_n 0, 1) := by decide +kernel
theorem dX10_laysRow_21 : decode cX10_laysRow 21 = .ok (.iload_n 2, 1) := by decide +kernel
theorem dX10_laysRow_22 : decode cX10_laysRow 22 = .ok (.iload_n 3, 1) := by decide +kernel
theorem dX10_laysRow_23 : decode cX10_laysRow 23 = .ok (.iload 4, 2) := by decide +kernel
theorem dX10_laysRow_25 : decode cX10_laysRow 25 = .ok (.aload_n 0, 1) := by decide +kernel
theorem dX10_laysRow_26 : decode cX10_laysRow 26 = .ok (.getfield 64, 3) := by decide +kernel
theorem dX10_laysRow_29 : decode cX10_laysRow 29 = .ok (.iload_n 1, 1) := by decide +kernel
theorem dX10_laysRow_30 : decode cX10_laysRow 30 = .ok (.aaload, 1) := by decide +kernel
theorem dX10_laysRow_31 : decode cX10_laysRow 31 = .ok (.invokevirtual 225, 3) := by decide +kernel
theorem dX10_laysRow_34 : decode cX10_laysRow 34 = .ok (.iastore, 1) := by decide +kernel
theorem dX10_laysRow_35 : decode cX10_laysRow 35 = .ok (.aload_n 0, 1) := by decide +kernel
theorem dX10_laysRow_36 : decode cX10_laysRow 36 = .ok (.getfield 85, 3) := by decide +kernel
theorem dX10_laysRow_39 : decode cX10_laysRow 39 = .ok (.iload_n 1, 1) := by decide +kernel
theorem dX10_laysRow_40 : decode cX10_laysRow 40 = .ok (.aload_n 0, 1) := by decide +kernel
theorem dX10_laysRow_41 : decode cX10_laysRow 41 = .ok (.iload 5, 2) := by decide +kernel
theorem dX10_laysRow_43 : decode cX10_laysRow 43 = .ok (.iload 6, 2) := by decide +kernel
theorem dX10_laysRow_45 : decode cX10_laysRow 45 = .ok (.iload 7, 2) := by decide +kernel
theorem dX10_laysRow_47 : decode cX10_laysRow 47 = .ok (.aload_n 0, 1) := by decide +kernel
theorem dX10_laysRow_48 : decode cX10_laysRow 48 = .ok (.getfield 67, 3) := by decide +kernel
theorem dX10_laysRow_51 : decode cX10_laysRow 51 = .ok (.iload_n 1, 1) := by decide +kernel
theorem dX10_laysRow_52 : decode cX10_laysRow 52 = .ok (.aaload, 1) := by decide +kernel
theorem dX10_laysRow_53 : decode cX10_laysRow 53 = .ok (.invokevirtual 225, 3) := by decide +kernel
theorem dX10_laysRow_56 : decode cX10_laysRow 56 = .ok (.iastore, 1) := by decide +kernel
theorem dX10_laysRow_57 : decode cX10_laysRow 57 = .ok (.aload_n 0, 1) := by decide +kernel
theorem dX10_laysRow_58 : decode cX10_laysRow 58 = .ok (.getfield 82, 3) := by decide +kernel
theorem dX10_laysRow_61 : decode cX10_laysRow 61 = .ok (.iload_n 1, 1) := by decide +kernel
theorem dX10_laysRow_62 : decode cX10_laysRow 62 = .ok (.iaload, 1) := by decide +kernel
theorem dX10_laysRow_63 : decode cX10_laysRow 63 = .ok (.istore 9, 2) := by decide +kernel
theorem dX10_laysRow_65 : decode cX10_laysRow 65 = .ok (.iload 9, 2) := by decide +kernel
theorem dX10_laysRow_67 : decode cX10_laysRow 67 = .ok (.ifCond .lt 106, 3) := by decide +kernel
theorem dX10_laysRow_70 : decode cX10_laysRow 70 = .ok (.aload_n 0, 1) := by decide +kernel
theorem dX10_laysRow_71 : decode cX10_laysRow 71 = .ok (.getfield 85, 3) := by decide +kernel
theorem dX10_laysRow_74 : decode cX10_laysRow 74 = .ok (.iload_n 1, 1) := by decide +kernel
theorem dX10_laysRow_75 : decode cX10_laysRow 75 = .ok (.iaload, 1) := by decide +kernel
theorem dX10_laysRow_76 : decode cX10_laysRow 76 = .ok (.istore 10, 2) := by decide +kernel
theorem dX10_laysRow_78 : decode cX10_laysRow 78 = .ok (.iload 10, 2) := by decide +kernel
theorem dX10_laysRow_80 : decode cX10_laysRow 80 = .ok (.ifCond .lt 87, 3) := by decide +kernel
theorem dX10_laysRow_83 : decode cX10_laysRow 83 = .ok (.iload 9, 2) := by decide +kernel
theorem dX10_laysRow_85 : decode cX10_laysRow 85 = .ok (.aload_n 0, 1) := by decide +kernel
theorem dX10_laysRow_86 : decode cX10_laysRow 86 = .ok (.getfield 82, 3) := by decide +kernel
theorem dX10_laysRow_89 : decode cX10_laysRow 89 = .ok (.iload_n 1, 1) := by decide +kernel
theorem dX10_laysRow_90 : decode cX10_laysRow 90 = .ok (.iaload, 1) := by decide +kernel
theorem dX10_laysRow_91 : decode cX10_laysRow 91 = .ok (.if_icmp .ne 18, 3) := by decide +kernel
theorem dX10_laysRow_94 : decode cX10_laysRow 94 = .ok (.iload 10, 2) := by decide +kernel
theorem dX10_laysRow_96 : decode cX10_laysRow 96 = .ok (.aload_n 0, 1) := by decide +kernel
theorem dX10_laysRow_97 : decode cX10_laysRow 97 = .ok (.getfield 85, 3) := by decide +kernel
theorem dX10_laysRow_100 : decode cX10_laysRow 100 = .ok (.iload_n 1, 1) := by decide +kernel
theorem dX10_laysRow_101 : decode cX10_laysRow 101 = .ok (.iaload, 1) := by decide +kernel
theorem dX10_laysRow_102 : decode cX10_laysRow 102 = .ok (.if_icmp .ne 7, 3) := by decide +kernel
theorem dX10_laysRow_105 : decode cX10_laysRow 105 = .ok (.iconst 0, 1) := by decide +kernel
theorem dX10_laysRow_106 : decode cX10_laysRow 106 = .ok (.goto 5, 3) := by decide +kernel
theorem dX10_laysRow_109 : decode cX10_laysRow 109 = .ok (.ldc 247, 2) := by decide +kernel
theorem dX10_laysRow_111 : decode cX10_laysRow 111 = .ok (.istore 11, 2) := by decide +kernel
theorem dX10_laysRow_113 : decode cX10_laysRow 113 = .ok (.iconst 1, 1) := by decide +kernel
theorem dX10_laysRow_114 : decode cX10_laysRow 114 = .ok (.istore 12, 2) := by decide +kernel
theorem dX10_laysRow_116 : decode cX10_laysRow 116 = .ok (.iload 12, 2) := by decide +kernel
theorem dX10_laysRow_118 : decode cX10_laysRow 118 = .ok (.bipush 6, 2) := by decide +kernel
theorem dX10_laysRow_120 : decode cX10_laysRow 120 = .ok (.if_icmp .ge 27, 3) := by decide +kernel
theorem dX10_laysRow_123 : decode cX10_laysRow 123 = .ok (.iload 11, 2) := by decide +kernel
theorem dX10_laysRow_125 : decode cX10_laysRow 125 = .ok (.aload_n 0, 1) := by decide +kernel
theorem dX10_laysRow_126 : decode cX10_laysRow 126 = .ok (.iload 12, 2) := by decide +kernel
theorem dX10_laysRow_128 : decode cX10_laysRow 128 = .ok (.iload_n 1, 1) := by decide +kernel
theorem dX10_laysRow_129 : decode cX10_laysRow 129 = .ok (.iload 9, 2) := by decide +kernel
theorem dX10_laysRow_131 : decode cX10_laysRow 131 = .ok (.iload 10, 2) := by decide +kernel
theorem dX10_laysRow_133 : decode cX10_laysRow 133 = .ok (.invokevirtual 268, 3) := by decide +kernel
theorem dX10_laysRow_136 : decode cX10_laysRow 136 = .ok (.invokestatic 271, 3) := by decide +kernel
theorem dX10_laysRow_139 : decode cX10_laysRow 139 = .ok (.istore 11, 2) := by decide +kernel
theorem dX10_laysRow_141 : decode cX10_laysRow 141 = .ok (.iinc 12 1, 3) := by decide +kernel
theorem dX10_laysRow_144 : decode cX10_laysRow 144 = .ok (.goto (-28), 3) := by decide +kernel
theorem dX10_laysRow_147 : decode cX10_laysRow 147 = .ok (.aload_n 0, 1) := by decide +kernel
theorem dX10_laysRow_148 : decode cX10_laysRow 148 = .ok (.getfield 73, 3) := by decide +kernel
theorem dX10_laysRow_151 : decode cX10_laysRow 151 = .ok (.iload_n 1, 1) := by decide +kernel
theorem dX10_laysRow_152 : decode cX10_laysRow 152 = .ok (.aaload, 1) := by decide +kernel
theorem dX10_laysRow_153 : decode cX10_laysRow 153 = .ok (.iload 9, 2) := by decide +kernel
theorem dX10_laysRow_155 : decode cX10_laysRow 155 = .ok (.aaload, 1) := by decide +kernel
theorem dX10_laysRow_156 : decode cX10_laysRow 156 = .ok (.iload 10, 2) := by decide +kernel
theorem dX10_laysRow_158 : decode cX10_laysRow 158 = .ok (.iload 11, 2) := by decide +kernel
theorem dX10_laysRow_160 : decode cX10_laysRow 160 = .ok (.iastore, 1) := by decide +kernel
theorem dX10_laysRow_161 : decode cX10_laysRow 161 = .ok (.iinc 10 (-1), 3) := by decide +kernel
theorem dX10_laysRow_164 : decode cX10_laysRow 164 = .ok (.goto (-86), 3) := by decide +kernel
theorem dX10_laysRow_167 : decode cX10_laysRow 167 = .ok (.iinc 9 (-1), 3) := by decide +kernel
theorem dX10_laysRow_170 : decode cX10_laysRow 170 = .ok (.goto (-105), 3) := by decide +kernel
theorem dX10_laysRow_173 : decode cX10_laysRow 173 = .ok (.aload_n 0, 1) := by decide +kernel
theorem dX10_laysRow_174 : decode cX10_laysRow 174 = .ok (.iload_n 1, 1) := by decide +kernel
theorem dX10_laysRow_175 : decode cX10_laysRow 175 = .ok (.iload 8, 2) := by decide +kernel
theorem dX10_laysRow_177 : decode cX10_laysRow 177 = .ok (.invokevirtual 274, 3) := by decide +kernel
theorem dX10_laysRow_180 : decode cX10_laysRow 180 = .ok (.aload_n 0, 1) := by decide +kernel
theorem dX10_laysRow_181 : decode cX10_laysRow 181 = .ok (.getfield 73, 3) := by decide +kernel
theorem dX10_laysRow_184 : decode cX10_laysRow 184 = .ok (.iload_n 1, 1) := by decide +kernel
theorem dX10_laysRow_185 : decode cX10_laysRow 185 = .ok (.aaload, 1) := by decide +kernel
theorem dX10_laysRow_186 : decode cX10_laysRow 186 = .ok (.iconst 0, 1) := by decide +kernel
theorem dX10_laysRow_187 : decode cX10_laysRow 187 = .ok (.aaload, 1) := by decide +kernel
theorem dX10_laysRow_188 : decode cX10_laysRow 188 = .ok (.iconst 0, 1) := by decide +kernel
theorem dX10_laysRow_189 : decode cX10_laysRow 189 = .ok (.iaload, 1) := by decide +kernel
theorem dX10_laysRow_190 : decode cX10_laysRow 190 = .ok (.ireturn, 1) := by decide +kernel
/-! one row laid against another one, whole -/
def leD (μ : va_M) (n : Nat) (wS wP : Rw) (i j : Nat) : Prop := ∀ i2 j2 : Nat, (i < i2 ∨ (i2 = i ∧ j ≤ j2)) → i2 ≤ rI wS → j2 ≤ rI wP → μ (754 + n * 261 + 1 + i2) j2 = (lay (rdrop i2 wS) (rdrop j2 wP)).1
theorem leD_A {μ : va_M} {n : Nat} {wS wP : Rw} {i j : Nat} (h : leD μ n wS wP i (j + 1)) : leA μ n wS wP i j := fun i2 j2 h1 h2 h3 h4 h5 => h i2 j2 (by omega) h4 h5
theorem leD_B {μ : va_M} {n : Nat} {wS wP : Rw} (h : leD μ n wS wP 0 0) : leB μ n wS wP 0 0 := fun i2 j2 _ _ h4 h5 => h i2 j2 (by omega) h4 h5
theorem leD_up {μ : va_M} {n : Nat} {wS wP : Rw} {i j : Nat} (h : leD μ n wS wP (i + 1) 0) (hj : rI wP < j) : leD μ n wS wP i j := fun i2 j2 h3 h4 h5 => h i2 j2 (by omega) h4 h5
theorem leD_LD {μ u : va_M} {n : Nat} {wS wP : Rw} {i j : Nat} (h : leD μ n wS wP i j) (hf : fr (LD (n + 1)) μ u) (hS : rI wS ≤ 259) (hn : n ≤ 13) : leD u n wS wP i j := fun i2 j2 a b c => (hf _ _ (by unfold LD; omega)).trans (h i2 j2 a b c)
theorem leD_st {μ : va_M} {n : Nat} {wS wP : Rw} {i j : Nat} (h : leD μ n wS wP i (j + 1)) {z : Int} (hz : z = (lay (rdrop i wS) (rdrop j wP)).1) : leD (uz μ (754 + n * 261 + 1 + i) j z) n wS wP i j := by
  intro i2 j2 h3 h4 h5
  by_cases h9 : i2 = i ∧ j2 = j
  · rw [h9.1, h9.2, uz_s, hz]
  · rw [uz_n (by omega)]
    exact h i2 j2 (by omega) h4 h5
def mnF (q : Int) (w b : Rw) : Int := if q ≤ 1 then wa0 w b else if q = 2 then min (wa0 w b) (wa1 lay w b) else if q = 3 then min (min (wa0 w b) (wa1 lay w b)) (wa2 lay w b) else if q = 4 then min (min (min (wa0 w b) (wa1 lay w b)) (wa2 lay w b)) (wa3 lay w b) else if q = 5 then min (min (min (min (wa0 w b) (wa1 lay w b)) (wa2 lay w b)) (wa3 lay w b)) (wa4 lay w b) else wmin lay w b
theorem mnF_S {q : Int} {w b : Rw} (h : 1 ≤ q ∧ q ≤ 5) : mnF (q + 1) w b = min (mnF q w b) (waF q w b) := by
  obtain rfl | rfl | rfl | rfl | rfl : q = 1 ∨ q = 2 ∨ q = 3 ∨ q = 4 ∨ q = 5 := by omega
  · rfl
  · rfl
  · rfl
  · rfl
  · rfl
theorem wa0_is {w b : Rw} : wa0 w b = if rI w = 0 ∧ rI b = 0 then 0 else 1000000 := by
  cases w with
  | leaf =>
    cases b with
    | leaf => rfl
    | inner z2 k2 v2 l2 r2 =>
      rw [if_neg (fun h => by have := h.2; rw [rI_in] at this; omega)]
      rfl
  | inner z k v l r =>
    rw [if_neg (fun h => by have := h.1; rw [rI_in] at this; omega)]
    cases b <;> rfl
theorem lvS_uz {μ : va_M} {n : Nat} {t u1 : Int} {wS wP : Rw} {ps pq : Int} (h : lvS μ n t u1 wS wP ps pq) (ht : 0 ≤ t ∧ t < 70) (hu : 0 ≤ u1 ∧ u1 < 70) (hn : n ≤ 13) {x y : Nat} {z : Int} (hx : 754 ≤ x ∧ x < 4408) : lvS (uz μ x y z) n t u1 wS wP ps pq :=
  lvS_fr (P := fun a _ => a = x) h (fr_uz fr_rfl rfl) (fun a h1 h2 => by omega) (fun a => by omega) (fun a => by omega) (fun a => ⟨by omega, by omega, by omega⟩) (fun a => ⟨by omega, by omega, by omega⟩)
theorem fr_up {n : Nat} {μ u : va_M} (h : fr (LD (n + 1)) μ u) : fr (LD n) μ u := fr_mono h (fun _ _ h => LD_up h)
theorem layO_tr {μ u v : va_M} {n : Nat} {o1 : Int} {W : Rw} (hf : fr (LD n) μ u) (h : layO u v (n + 1) o1 W) (ho : o1 < 70) : layO μ v n o1 W := by
  refine ⟨fun h1 => fr_trans hf (fr_up (h.1 h1)), fun h1 => ?_⟩
  obtain ⟨a1, a2, a3⟩ := h.2 h1
  have e : u 719 o1.toNat = μ 719 o1.toNat := hf _ _ (LD_lt (by omega))
  rw [e] at a1 a2 a3
  exact ⟨fr_trans (fr_mono hf (fun _ _ h => Or.inl h)) (fr_mono a1 (fun _ _ h => h.elim (fun h => Or.inl (LD_up h)) Or.inr)), a2, a3⟩
theorem layO_k {μ u : va_M} {n : Nat} {o1 : Int} {W : Rw} (h : layO μ u n o1 W) (ho : -1 ≤ o1 ∧ o1 < 70) {x y : Nat} (hx : 719 < x) (hL : ¬ LD n x y) : u x y = μ x y := by
  by_cases h1 : o1 = -1
  · exact h.1 h1 _ _ hL
  · exact (h.2 (by omega)).1 _ _ (LO_n hL (by unfold PG; omega))
theorem lvS_mk {μ μ1 μ2 μ3 μ4 μ5 μ6 : va_M} {n : Nat} {t u1 : Int} {wS wP : Rw} {a1 b1 : Int} (e1 : μ1 = uz μ 4408 n t) (e2 : μ2 = uz μ1 4409 n u1) (e3 : (∀ m : Nat, m < rI wS → μ3 (723 + n) m = a1 + rO wS m) ∧ fr (fun x _ => x = 723 + n) μ2 μ3) (e4 : μ4 = uz μ3 4410 n (rI wS)) (e5 : (∀ m : Nat, m < rI wP → μ5 (738 + n) m = b1 + rO wP m) ∧ fr (fun x _ => x = 738 + n) μ4 μ5) (e6 : μ6 = uz μ5 4411 n (rI wP)) (hn : n ≤ 13) (ht : 0 ≤ t ∧ t < 70) (hu : 0 ≤ u1 ∧ u1 < 70) (hS : RA μ t.toNat wS a1.toNat) (hP : RA μ u1.toNat wP b1.toNat) : lvS μ6 n t u1 wS wP a1 b1 ∧ fr (LD n) μ μ6 := by
  have f1 : fr (LD n) μ μ1 := by rw [e1]; exact fr_uz fr_rfl (by unfold LD; omega)
  have f2 : fr (LD n) μ μ2 := by rw [e2]; exact fr_uz f1 (by unfold LD; omega)
  have f3 : fr (LD n) μ μ3 := fr_trans f2 (fr_mono e3.2 (fun a b h => by unfold LD; omega))
  have f4 : fr (LD n) μ μ4 := by rw [e4]; exact fr_uz f3 (by unfold LD; omega)
  have f5 : fr (LD n) μ μ5 := fr_trans f4 (fr_mono e5.2 (fun a b h => by unfold LD; omega))
  have f6 : fr (LD n) μ μ6 := by rw [e6]; exact fr_uz f5 (by unfold LD; omega)
  refine ⟨⟨?_, ?_, ?_, ?_, ?_, ?_, ?_, ?_⟩, f6⟩
  · rw [e6, uz_n (by omega), e5.2 _ _ (by omega), e4, uz_n (by omega), e3.2 _ _ (by omega), e2, uz_n (by omega), e1, uz_s]
  · rw [e6, uz_n (by omega), e5.2 _ _ (by omega), e4, uz_n (by omega), e3.2 _ _ (by omega), e2, uz_s]
  · rw [e6, uz_n (by omega), e5.2 _ _ (by omega), e4, uz_s]
  · rw [e6, uz_s]
  · intro m hm
    rw [e6, uz_n (by omega), e5.2 _ _ (by omega), e4, uz_n (by omega)]
    exact e3.1 m hm
  · intro m hm
    rw [e6, uz_n (by omega)]
    exact e5.1 m hm
  · exact RA_fr hS f6 (fun x => ⟨LD_lt (by omega), LD_lt (by omega), LD_lt (by omega)⟩)
  · exact RA_fr hP f6 (fun x => ⟨LD_lt (by omega), LD_lt (by omega), LD_lt (by omega)⟩)
set_option maxHeartbeats 40000000 in
set_option maxRecDepth 100000 in
theorem LX10_laysRow_116 {p : Program} {l : Launch} {e : Env} {R : Room} {s : State} {m : MethodId} {args : Array Value} {below : List Frame} {meth : Method} {c : Code} {cells slots : Nat} {Q : State → Prop} {dC : Nat → ClassId} {dI : Nat → Nat → Nat} {h0 : Nat} {cI cZ cII cIII : ClassId} {d9 : Nat} (hx : p.tables.exec = Jvm.exec) (hb : c.code = cX10_laysRow) (hml : c.maxLocals = 13) (hown : s.vm.findClass RX10 = some m.cls) (hts : ∀ w ∈ wsG, w.before args s = true) (hK : va_K (dC, dI) vwCl (mT cI cZ cII cIII) s) (hRf : 5 * d9 + 32 ≤ R.frames) (hRl : 200 * d9 + 900 ≤ R.locals) (hRc : cells ≤ R.cells) (hRs : slots ≤ R.slots) (μ0 : va_M) (n : Int) (t : Int) (a1 : Int) (a2 : Int) (u1 : Int) (b1 : Int) (b2 : Int) (o1 : Int) (wS : Rw) (wP : Rw) (i : Int) (j : Int) (hLR : ∀ (sz : Nat) (μ : va_M) (n : Int) (t : Int) (a1 : Int) (a2 : Int) (u1 : Int) (b1 : Int) (b2 : Int) (o1 : Int) (wS : Rw) (wP : Rw), (0 ≤ n ∧ n + rH wP ≤ 13) → (0 ≤ t ∧ t < 70) → (0 ≤ u1 ∧ u1 < 70) → (0 ≤ a1 ∧ a2 = a1 + rN wS ∧ a2 ≤ 900) → (0 ≤ b1 ∧ b2 = b1 + rN wP ∧ b2 ≤ 900) → (RA μ t.toNat wS a1.toNat) → (RA μ u1.toNat wP b1.toNat) → (rWF wS) → (rWF wP) → (rL wS ≤ 259 ∧ rL wP ≤ 60 ∧ rH wS ≤ 20) → (-1 ≤ o1 ∧ o1 < 70 ∧ o1 ≠ t ∧ o1 ≠ u1) → (capI2 o1 (μ 719 o1.toNat) (rN (lrow wS wP))) → (rH wP < (d9 - 1)) → Met l yX10_laysRow (Cond.code yX10_laysRow cX10_laysRow 13 (some .int) :: wsG) ({ frames := 5 * ((d9 - 1)) + 32, cells := 0, slots := 0, locals := 200 * ((d9 - 1)) + 900 } : Room) (va_Pc [.ref h0, .int (iZ (n)), .int (iZ (t)), .int (iZ (a1)), .int (iZ (a2)), .int (iZ (u1)), .int (iZ (b1)), .int (iZ (b2)), .int (iZ (o1))] (fun U => U.heap.size = sz ∧ va_P (dC, dI) vwCl (fw (mE cI cZ cII cIII h0) h0 6325 μ) U.heap ∧ va_K (dC, dI) vwCl (mT cI cZ cII cIII) U)) (va_Qi (fun (r9 : Int32) (u : va_M × Int) => r9 = iZ u.2 ∧ (fun (u : va_M) (r : Int) => r = (lay wS wP).1 ∧ u 0 33 = (if (lay wS wP).2 = true then 1 else 0) ∧ layO μ u n.toNat o1 (lrow wS wP)) u.1 u.2) (fun u t => va_P (dC, dI) vwCl (fw (mE cI cZ cII cIII h0) h0 6325 u.1) t.heap ∧ va_K (dC, dI) vwCl (mT cI cZ cII cIII) t) (fA h0 6325 sz)) 0 0 (fA h0 6325 sz)) (hn : 0 ≤ n ∧ n + rH wP ≤ 13) (ht : 0 ≤ t ∧ t < 70) (hu : 0 ≤ u1 ∧ u1 < 70) (htu : t ≠ -1 ∧ u1 ≠ -1) (hps : 0 ≤ a1 ∧ a1 + rN wS ≤ 900) (hpq : 0 ≤ b1 ∧ b1 + rN wP ≤ 900) (hwS : rWF wS) (hwP : rWF wP) (h260 : rL wS ≤ 259 ∧ rL wP ≤ 60 ∧ rH wS ≤ 20) (hd : rH wP < d9) (hi : 0 ≤ i ∧ i ≤ rI wS) (hj : 0 ≤ j ∧ j ≤ rI wP) (hL : lvS μ0 n.toNat t u1 wS wP a1 b1) (hle : leA μ0 n.toNat wS wP i.toNat j.toNat) (hexit147 : ∀ (q : Int) (cm : Int) (μ : va_M) (H : Heap) (locs : List Loc) (ls : Array Slot), (fr (LD (n.toNat + 1)) μ0 μ) → (cm = wmin lay (rdrop i.toNat wS) (rdrop j.toNat wP) ∧ 0 ≤ cm ∧ cm ≤ 1000000) → va_P (dC, dI) vwCl (fw (mE cI cZ cII cIII h0) h0 6325 μ) H → va_S (fA h0 6325 s.heap.size) s.heap H locs → lv_has ls 13 [(11, .int (iZ (cm))), (10, .int (iZ (j))), (9, .int (iZ (i))), (8, .int (iZ (o1))), (7, .int (iZ (b2))), (6, .int (iZ (b1))), (5, .int (iZ (u1))), (4, .int (iZ (a2))), (3, .int (iZ (a1))), (2, .int (iZ (t))), (1, .int (iZ (n))), (0, .ref h0)] → W p l e R s m args below meth c H locs cells slots Q (F0 m 147 ls [])) :
    ∀ (n9 : Nat) (q : Int) (cm : Int) (μ : va_M) (H : Heap) (locs : List Loc) (ls : Array Slot), (fr (LD (n.toNat + 1)) μ0 μ) → (1 ≤ q ∧ q ≤ 6) → (cm = mnF q (rdrop i.toNat wS) (rdrop j.toNat wP) ∧ 0 ≤ cm ∧ cm ≤ 1000000) → (6 - q).toNat < n9 → va_P (dC, dI) vwCl (fw (mE cI cZ cII cIII h0) h0 6325 μ) H → va_S (fA h0 6325 s.heap.size) s.heap H locs → lv_has ls 13 [(12, .int (iZ (q))), (11, .int (iZ (cm))), (10, .int (iZ (j))), (9, .int (iZ (i))), (8, .int (iZ (o1))), (7, .int (iZ (b2))), (6, .int (iZ (b1))), (5, .int (iZ (u1))), (4, .int (iZ (a2))), (3, .int (iZ (a1))), (2, .int (iZ (t))), (1, .int (iZ (n))), (0, .ref h0)] → W p l e R s m args below meth c H locs cells slots Q (F0 m 116 ls []) := by
  intro n9
  induction n9 with
  | zero => intro q cm μ H locs ls hf hq hc hm9 hP hS hl; exact absurd hm9 (Nat.not_lt_zero _)
  | succ n9 ih =>
    intro q cm μ H locs ls hf hq hc hm9 hP hS hl
    have hIS := rI_L wS hwS
    have hIP := rI_L wP hwP
    have hL9 := lvS_LD hL hf (by omega) ht hu
    have hl9_ : leA μ n.toNat wS wP i.toNat j.toNat := fun i2 j2 a b c8 d8 e8 => (hf _ _ (by unfold LD; omega)).trans (hle i2 j2 a b c8 d8 e8)
    refine lv_iload hx hb dX10_laysRow_116 (lv_at hl 0 rfl) ?_
    refine lv_bipush (v := iZ 6) hx hb dX10_laysRow_118 rfl ?_
    refine fz_icmp_ge (tgt := 147) (by constructor <;> omega) (by decide) hx hb dX10_laysRow_120 (by decide) (fun c120_ => ?_) (fun c120_ => ?_)
    · exact hexit147 (q) (cm) μ H locs ls (by exact hf) (by
                    rw [show q = 6 by omega] at hc
                    exact hc) hP hS (lv_sub hl [1, 2, 3, 4, 5, 6, 7, 8, 9, 10, 11, 12] rfl)
    · refine lv_iload hx hb dX10_laysRow_123 (lv_at hl 1 rfl) ?_
      refine lv_aload_n hx hb dX10_laysRow_125 rfl (lv_at hl 12 rfl) ?_
      refine lv_iload hx hb dX10_laysRow_126 (lv_at hl 0 rfl) ?_
      refine lv_iload_n hx hb dX10_laysRow_128 rfl (lv_at hl 11 rfl) ?_
      refine lv_iload hx hb dX10_laysRow_129 (lv_at hl 3 rfl) ?_
      refine lv_iload hx hb dX10_laysRow_131 (lv_at hl 2 rfl) ?_
      refine va_calli (va_runV (As := [.int (iZ (q)), .int (iZ (n)), .int (iZ (i)), .int (iZ (j))]) (rest := [.int (iZ (cm))]) ⟨hx, hb, hml, hown, hts⟩ (m_costOf l dC dI cI cZ cII cIII h0 ((d9 - 1)) H.size μ (n) (q) (i) (j) (t) (u1) (wS) (wP) (a1) (b1) (by exact hLR) (by first | assumption | omega | exact ⟨by omega, by omega⟩) (by exact hL9) (by exact hl9_) (by first | assumption | omega | exact ⟨by omega, by omega⟩) (by first | assumption | omega | exact ⟨by omega, by omega⟩) (by first | assumption | omega | exact ⟨by omega, by omega⟩) (by first | assumption | omega | exact ⟨by omega, by omega⟩) (by first | assumption | omega | exact ⟨by omega, by omega⟩) (by first | assumption | omega | exact ⟨by omega, by omega⟩) (by exact hps) (by exact hpq) (by exact hwS) (by exact hwP) (by exact h260) (by omega)) (cwV 4 hts (gV_G k1548 k1550 ks_yX10_costOf k13 k1551) rfl rfl rfl (by decide +kernel) ⟨by show 5 * ((d9 - 1)) + 32 + 1 + 1 + 1 ≤ _; omega, by show 8 + (9 + 11) + (200 * ((d9 - 1)) + 900 + 40 + 40) ≤ _; omega⟩) ⟨fun a U g mk q => by obtain ⟨q0, q1, qP, qK⟩ := q; exact ⟨q0, q1, qP, va_K.moved (u := U) (U := U.calling g mk a) (Vm.Alike.refl U.vm) qK⟩, va_recv hK hP (ci := 10) (q0 := 0) rfl ((fw_get (by decide)).trans (by rw [mE_obj]; rfl)), fun U hU hW => ⟨rfl, by rw [hU], by rw [hU]; exact hP, va_K.moved hW.alike hK⟩⟩ rfl rfl hl.1 rfl (lv_room (Nat.le_of_ble_eq_true rfl)) dX10_laysRow_133 ⟨hRc, hRs⟩) hS (fun q _ h => fA_le hS.1 q h) (fA_le hS.1) (fun r9 u9 t9 H1 locs ht9 hvm9 hw9 hB9 hz9 hk9 hS => ?_)
      obtain ⟨μc, rc⟩ := u9
      obtain ⟨hP, -⟩ := hB9
      rw [ht9] at hP
      generalize H1 = H at hP hS ⊢
      obtain ⟨e9, hw9⟩ := hw9
      have e9 : r9 = iZ rc := e9
      subst e9
      simp only at hP hw9
      have hμc := hw9; clear hw9
      obtain ⟨z1, z2⟩ := hμc
      have hrr : 0 ≤ rc ∧ rc ≤ 1002000 := by
        have hr5 := rdrop_N2 i.toNat wS
        have hr6 := rdrop_N2 j.toNat wP
        rw [z1]; exact waF_rng _ _ _ (by omega) (by omega)
      refine va_calli (va_runS (As := [.int (iZ (cm)), .int (iZ (rc))]) (rest := []) ⟨hx, hb, hml, hown, hts⟩ (m_less l dC dI cI cZ cII cIII h0 H.size μc (cm) (rc) (by constructor <;> omega) (by constructor <;> omega)) (cwS 2 hts (gS_G k1528 k1529 k13 k1530) rfl rfl rfl (by decide +kernel) ⟨by show 1 + 1 ≤ _; omega, by show 8 + (2 + 11) + (14) ≤ _; omega⟩) ⟨fun a U g mk q => by obtain ⟨q0, q1, qP, qK⟩ := q; exact ⟨q0, q1, qP, va_K.moved (u := U) (U := U.calling g mk a) (Vm.Alike.refl U.vm) qK⟩, fun U hU hW => ⟨rfl, by rw [hU], by rw [hU]; exact hP, va_K.moved hW.alike hK⟩⟩ rfl rfl hl.1 rfl (lv_room (Nat.le_of_ble_eq_true rfl)) dX10_laysRow_136 ⟨hRc, hRs⟩) hS (fun q _ h => fA_le hS.1 q h) (fA_le hS.1) (fun r9 u9 t9 H1 locs ht9 hvm9 hw9 hB9 hz9 hk9 hS => ?_)
      obtain ⟨μ1, rl9⟩ := u9
      obtain ⟨hP, -⟩ := hB9
      rw [ht9] at hP
      generalize H1 = H at hP hS ⊢
      obtain ⟨e9, hw9⟩ := hw9
      have e9 : r9 = iZ rl9 := e9
      subst e9
      simp only at hP hw9
      have hμ1 := hw9; clear hw9
      rw [hμ1.1] at hP; have hμ1 := hμ1.2
      have z3 := hμ1
      refine lv_istore (lv' := [(11, .int (iZ (rl9))), (12, .int (iZ (q))), (10, .int (iZ (j))), (9, .int (iZ (i))), (8, .int (iZ (o1))), (7, .int (iZ (b2))), (6, .int (iZ (b1))), (5, .int (iZ (u1))), (4, .int (iZ (a2))), (3, .int (iZ (a1))), (2, .int (iZ (t))), (1, .int (iZ (n))), (0, .ref h0)]) hx hb dX10_laysRow_139 hl (by decide) rfl (fun ls hl => ?_)
      refine lv_iinc (v := iZ (q + 1)) (lv' := [(12, .int (iZ (q + 1))), (11, .int (iZ (rl9))), (10, .int (iZ (j))), (9, .int (iZ (i))), (8, .int (iZ (o1))), (7, .int (iZ (b2))), (6, .int (iZ (b1))), (5, .int (iZ (u1))), (4, .int (iZ (a2))), (3, .int (iZ (a1))), (2, .int (iZ (t))), (1, .int (iZ (n))), (0, .ref h0)]) hx hb dX10_laysRow_141 hl (k := 1) rfl (iZ_add _ _) (by decide) rfl (fun ls hl => ?_)
      refine lv_goto (tgt := 116) hx hb dX10_laysRow_144 (by decide) ?_
      exact ih (q + 1) (rl9) μc H locs ls (by exact fr_trans hf z2) (by omega) (by
                    refine ⟨?_, by omega, by omega⟩
                    rw [mnF_S (by omega), ← hc.1, ← z1]
                    exact z3) (by omega) hP hS (lv_sub hl [0, 1, 2, 3, 4, 5, 6, 7, 8, 9, 10, 11, 12] rfl)
set_option maxHeartbeats 40000000 in
set_option maxRecDepth 100000 in
theorem LX10_laysRow_78 {p : Program} {l : Launch} {e : Env} {R : Room} {s : State} {m : MethodId} {args : Array Value} {below : List Frame} {meth : Method} {c : Code} {cells slots : Nat} {Q : State → Prop} {dC : Nat → ClassId} {dI : Nat → Nat → Nat} {h0 : Nat} {cI cZ cII cIII : ClassId} {d9 : Nat} (hx : p.tables.exec = Jvm.exec) (hb : c.code = cX10_laysRow) (hml : c.maxLocals = 13) (hown : s.vm.findClass RX10 = some m.cls) (hts : ∀ w ∈ wsG, w.before args s = true) (hK : va_K (dC, dI) vwCl (mT cI cZ cII cIII) s) (hRf : 5 * d9 + 32 ≤ R.frames) (hRl : 200 * d9 + 900 ≤ R.locals) (hRc : cells ≤ R.cells) (hRs : slots ≤ R.slots) (μ0 : va_M) (n : Int) (t : Int) (a1 : Int) (a2 : Int) (u1 : Int) (b1 : Int) (b2 : Int) (o1 : Int) (wS : Rw) (wP : Rw) (i : Int) (hLR : ∀ (sz : Nat) (μ : va_M) (n : Int) (t : Int) (a1 : Int) (a2 : Int) (u1 : Int) (b1 : Int) (b2 : Int) (o1 : Int) (wS : Rw) (wP : Rw), (0 ≤ n ∧ n + rH wP ≤ 13) → (0 ≤ t ∧ t < 70) → (0 ≤ u1 ∧ u1 < 70) → (0 ≤ a1 ∧ a2 = a1 + rN wS ∧ a2 ≤ 900) → (0 ≤ b1 ∧ b2 = b1 + rN wP ∧ b2 ≤ 900) → (RA μ t.toNat wS a1.toNat) → (RA μ u1.toNat wP b1.toNat) → (rWF wS) → (rWF wP) → (rL wS ≤ 259 ∧ rL wP ≤ 60 ∧ rH wS ≤ 20) → (-1 ≤ o1 ∧ o1 < 70 ∧ o1 ≠ t ∧ o1 ≠ u1) → (capI2 o1 (μ 719 o1.toNat) (rN (lrow wS wP))) → (rH wP < (d9 - 1)) → Met l yX10_laysRow (Cond.code yX10_laysRow cX10_laysRow 13 (some .int) :: wsG) ({ frames := 5 * ((d9 - 1)) + 32, cells := 0, slots := 0, locals := 200 * ((d9 - 1)) + 900 } : Room) (va_Pc [.ref h0, .int (iZ (n)), .int (iZ (t)), .int (iZ (a1)), .int (iZ (a2)), .int (iZ (u1)), .int (iZ (b1)), .int (iZ (b2)), .int (iZ (o1))] (fun U => U.heap.size = sz ∧ va_P (dC, dI) vwCl (fw (mE cI cZ cII cIII h0) h0 6325 μ) U.heap ∧ va_K (dC, dI) vwCl (mT cI cZ cII cIII) U)) (va_Qi (fun (r9 : Int32) (u : va_M × Int) => r9 = iZ u.2 ∧ (fun (u : va_M) (r : Int) => r = (lay wS wP).1 ∧ u 0 33 = (if (lay wS wP).2 = true then 1 else 0) ∧ layO μ u n.toNat o1 (lrow wS wP)) u.1 u.2) (fun u t => va_P (dC, dI) vwCl (fw (mE cI cZ cII cIII h0) h0 6325 u.1) t.heap ∧ va_K (dC, dI) vwCl (mT cI cZ cII cIII) t) (fA h0 6325 sz)) 0 0 (fA h0 6325 sz)) (hn : 0 ≤ n ∧ n + rH wP ≤ 13) (ht : 0 ≤ t ∧ t < 70) (hu : 0 ≤ u1 ∧ u1 < 70) (htu : t ≠ -1 ∧ u1 ≠ -1) (hps : 0 ≤ a1 ∧ a1 + rN wS ≤ 900) (hpq : 0 ≤ b1 ∧ b1 + rN wP ≤ 900) (hwS : rWF wS) (hwP : rWF wP) (h260 : rL wS ≤ 259 ∧ rL wP ≤ 60 ∧ rH wS ≤ 20) (hd : rH wP < d9) (hi : 0 ≤ i ∧ i ≤ rI wS) (hexit167 : ∀ (j : Int) (μ : va_M) (H : Heap) (locs : List Loc) (ls : Array Slot), (fr (LD n.toNat) μ0 μ) → (lvS μ n.toNat t u1 wS wP a1 b1) → (leD μ n.toNat wS wP i.toNat 0) → va_P (dC, dI) vwCl (fw (mE cI cZ cII cIII h0) h0 6325 μ) H → va_S (fA h0 6325 s.heap.size) s.heap H locs → lv_has ls 13 [(9, .int (iZ (i))), (8, .int (iZ (o1))), (7, .int (iZ (b2))), (6, .int (iZ (b1))), (5, .int (iZ (u1))), (4, .int (iZ (a2))), (3, .int (iZ (a1))), (2, .int (iZ (t))), (1, .int (iZ (n))), (0, .ref h0)] → W p l e R s m args below meth c H locs cells slots Q (F0 m 167 ls [])) :
    ∀ (n9 : Nat) (j : Int) (μ : va_M) (H : Heap) (locs : List Loc) (ls : Array Slot), (fr (LD n.toNat) μ0 μ) → (lvS μ n.toNat t u1 wS wP a1 b1) → (leD μ n.toNat wS wP i.toNat (j + 1).toNat) → (-1 ≤ j ∧ j ≤ rI wP) → (j + 1).toNat < n9 → va_P (dC, dI) vwCl (fw (mE cI cZ cII cIII h0) h0 6325 μ) H → va_S (fA h0 6325 s.heap.size) s.heap H locs → lv_has ls 13 [(10, .int (iZ (j))), (9, .int (iZ (i))), (8, .int (iZ (o1))), (7, .int (iZ (b2))), (6, .int (iZ (b1))), (5, .int (iZ (u1))), (4, .int (iZ (a2))), (3, .int (iZ (a1))), (2, .int (iZ (t))), (1, .int (iZ (n))), (0, .ref h0)] → W p l e R s m args below meth c H locs cells slots Q (F0 m 78 ls []) := by
  intro n9
  induction n9 with
  | zero => intro j μ H locs ls hf hL hle hj hm9 hP hS hl; exact absurd hm9 (Nat.not_lt_zero _)
  | succ n9 ih =>
    intro j μ H locs ls hf hL hle hj hm9 hP hS hl
    have hIS := rI_L wS hwS
    have hIP := rI_L wP hwP
    refine lv_iload hx hb dX10_laysRow_78 (lv_at hl 0 rfl) ?_
    refine fz_if_lt (tgt := 167) (by constructor <;> omega) hx hb dX10_laysRow_80 (by decide) (fun c80_ => ?_) (fun c80_ => ?_)
    · exact hexit167 (j) μ H locs ls (by exact hf) (by exact hL) (by
                    rw [show (j + 1).toNat = 0 by omega] at hle
                    exact hle) hP hS (lv_sub hl [1, 2, 3, 4, 5, 6, 7, 8, 9, 10] rfl)
    · have j111_ : ∀ (x111_0 : Int), (x111_0 = wa0 (rdrop i.toNat wS) (rdrop j.toNat wP)) → W p l e R s m args below meth c H locs cells slots Q (F0 m 111 ls [.int (iZ (x111_0))]) := by
        intro x111_0 hj111_0
        have h01_ : 0 ≤ x111_0 ∧ x111_0 ≤ 1000000 := by rw [hj111_0]; exact wa0_rng _ _
        refine lv_istore (lv' := [(11, .int (iZ (x111_0))), (10, .int (iZ (j))), (9, .int (iZ (i))), (8, .int (iZ (o1))), (7, .int (iZ (b2))), (6, .int (iZ (b1))), (5, .int (iZ (u1))), (4, .int (iZ (a2))), (3, .int (iZ (a1))), (2, .int (iZ (t))), (1, .int (iZ (n))), (0, .ref h0)]) hx hb dX10_laysRow_111 hl (by decide) rfl (fun ls hl => ?_)
        refine lv_iconst (v := iZ 1) hx hb dX10_laysRow_113 rfl ?_
        refine lv_istore (lv' := [(12, .int (iZ (1))), (11, .int (iZ (x111_0))), (10, .int (iZ (j))), (9, .int (iZ (i))), (8, .int (iZ (o1))), (7, .int (iZ (b2))), (6, .int (iZ (b1))), (5, .int (iZ (u1))), (4, .int (iZ (a2))), (3, .int (iZ (a1))), (2, .int (iZ (t))), (1, .int (iZ (n))), (0, .ref h0)]) hx hb dX10_laysRow_114 hl (by decide) rfl (fun ls hl => ?_)
        refine LX10_laysRow_116 hx hb hml hown hts hK hRf hRl hRc hRs (μ) (n) (t) (a1) (a2) (u1) (b1) (b2) (o1) (wS) (wP) (i) (j) (by assumption) (by assumption) (by assumption) (by assumption) (by assumption) (by assumption) (by assumption) (by assumption) (by assumption) (by assumption) (by assumption) (by assumption) (by omega) (by exact hL) (by exact leD_A (by rw [show (j + 1).toNat = j.toNat + 1 by omega] at hle; exact hle)) ?_ _ (1) (x111_0) μ H locs ls (by exact fr_rfl) (by omega) (by exact ⟨hj111_0.trans (by unfold mnF; rw [if_pos (by omega)]), h01_⟩) (Nat.lt_succ_self _) hP hS (lv_sub hl [0, 1, 2, 3, 4, 5, 6, 7, 8, 9, 10, 11, 12] rfl)
        · intro q_2 cm_2 μ2_ H locs ls q1_2 q2_2 hP hS hl
          have hl : lv_has ls 13 [(11, .int (iZ (cm_2))), (10, .int (iZ (j))), (9, .int (iZ (i))), (8, .int (iZ (o1))), (7, .int (iZ (b2))), (6, .int (iZ (b1))), (5, .int (iZ (u1))), (4, .int (iZ (a2))), (3, .int (iZ (a1))), (2, .int (iZ (t))), (1, .int (iZ (n))), (0, .ref h0)] := hl
          have hl7 := leD_LD hle q1_2 (by omega) (by omega)
          have hL7 := lvS_LD hL q1_2 (by omega) ht hu
          rw [show (j + 1).toNat = j.toNat + 1 by omega] at hl7
          refine lv_aload_n hx hb dX10_laysRow_147 rfl (lv_at hl 11 rfl) ?_
          refine fz_get (D := (dC, dI)) (ci := 10) (v := .ref (h0 + 753)) (C := RX10) (T := TX10) (N := 53) hx hb hts inG10 hown hK hP (k := 0) (by decide) (F := mF h0) mE_obj rfl 32 (by decide) (hts _ k1198) (fun _ h9 => h9) rfl dX10_laysRow_148 ?_
          refine lv_iload_n hx hb dX10_laysRow_151 rfl (lv_at hl 10 rfl) ?_
          refine fz_ald (k := 753) (n := 14) (k2 := (754 + (n).toNat * 261)) hx hb hK hP 3 rfl (by decide) mE_least rfl ⟨by omega, by omega⟩ (by decide) (if_pos (by omega)) dX10_laysRow_152 ?_
          refine lv_iload hx hb dX10_laysRow_153 (lv_at hl 2 rfl) ?_
          refine fz_ald (k := (754 + (n).toNat * 261)) (n := 260) (k2 := (754 + (n).toNat * 261 + 1 + (i).toNat)) hx hb hK hP 2 rfl (by omega) (mE_leastM (by omega)) rfl ⟨by omega, by omega⟩ (by decide) (if_pos (by omega)) dX10_laysRow_155 ?_
          refine lv_iload hx hb dX10_laysRow_156 (lv_at hl 1 rfl) ?_
          refine lv_iload hx hb dX10_laysRow_158 (lv_at hl 0 rfl) ?_
          refine fz_st (k := (754 + (n).toNat * 261 + 1 + (i).toNat)) (n := 62) (i := j) (z := cm_2) hx hb hK hP fA_in hS 0 (by omega) (mE_leastR (by omega) (by omega)) rfl ⟨by omega, by omega⟩ (by decide) dX10_laysRow_160 (fun H locs hP hS => ?_)
          obtain ⟨μ3, eμ3⟩ : ∃ x : va_M, x = uz μ2_ (754 + (n).toNat * 261 + 1 + (i).toNat) (j).toNat (cm_2) := ⟨_, rfl⟩
          rw [← eμ3] at hP
          refine lv_iinc (v := iZ (j - 1)) (lv' := [(10, .int (iZ (j - 1))), (11, .int (iZ (cm_2))), (9, .int (iZ (i))), (8, .int (iZ (o1))), (7, .int (iZ (b2))), (6, .int (iZ (b1))), (5, .int (iZ (u1))), (4, .int (iZ (a2))), (3, .int (iZ (a1))), (2, .int (iZ (t))), (1, .int (iZ (n))), (0, .ref h0)]) hx hb dX10_laysRow_161 hl (k := 1) rfl (iZ_add _ (-1)) (by decide) rfl (fun ls hl => ?_)
          refine lv_goto (tgt := 78) hx hb dX10_laysRow_164 (by decide) ?_
          exact ih (j - 1) μ3 H locs ls (by
                            rw [eμ3]
                            exact fr_uz (fr_trans hf (fr_up q1_2)) (by unfold LD; omega)) (by
                            rw [eμ3]
                            exact lvS_uz hL7 ht hu (by omega) (by omega)) (by
                            rw [eμ3, show (j - 1 + 1).toNat = j.toNat by omega]
                            exact leD_st hl7 (by rw [lay_c]; exact (q2_2).1)) (by omega) (by omega) hP hS (lv_sub hl [0, 2, 3, 4, 5, 6, 7, 8, 9, 10, 11] rfl)
      refine lv_iload hx hb dX10_laysRow_83 (lv_at hl 1 rfl) ?_
      refine lv_aload_n hx hb dX10_laysRow_85 rfl (lv_at hl 10 rfl) ?_
      refine fz_get (D := (dC, dI)) (ci := 10) (v := .ref (h0 + 4410)) (C := RX10) (T := TX10) (N := 53) hx hb hts inG10 hown hK hP (k := 0) (by decide) (F := mF h0) mE_obj rfl 36 (by decide) (hts _ k1202) (fun _ h9 => h9) rfl dX10_laysRow_86 ?_
      refine lv_iload_n hx hb dX10_laysRow_89 rfl (lv_at hl 9 rfl) ?_
      refine fz_ld (k := 4410) (n := 14) hx hb hK hP 0 (by decide) mE_manyS rfl ⟨by omega, by omega⟩ (by decide) dX10_laysRow_90 ?_
      rw [show μ 4410 (n).toNat = (rI wS : Int) from (by exact hL.2.2.1)]
      refine fz_icmp_ne (tgt := 109) (by constructor <;> omega) (by constructor <;> omega) hx hb dX10_laysRow_91 (by decide) (fun c91_ => ?_) (fun c91_ => ?_)
      · refine lv_ldc (v := iZ 1000000) hx hb hown (hts _ k1547) dX10_laysRow_109 ?_
        exact j111_ (1000000) (by rw [wa0_is, rdrop_I, rdrop_I]; split <;> omega)
      · refine lv_iload hx hb dX10_laysRow_94 (lv_at hl 0 rfl) ?_
        refine lv_aload_n hx hb dX10_laysRow_96 rfl (lv_at hl 10 rfl) ?_
        refine fz_get (D := (dC, dI)) (ci := 10) (v := .ref (h0 + 4411)) (C := RX10) (T := TX10) (N := 53) hx hb hts inG10 hown hK hP (k := 0) (by decide) (F := mF h0) mE_obj rfl 37 (by decide) (hts _ k1203) (fun _ h9 => h9) rfl dX10_laysRow_97 ?_
        refine lv_iload_n hx hb dX10_laysRow_100 rfl (lv_at hl 9 rfl) ?_
        refine fz_ld (k := 4411) (n := 14) hx hb hK hP 0 (by decide) mE_manyP rfl ⟨by omega, by omega⟩ (by decide) dX10_laysRow_101 ?_
        rw [show μ 4411 (n).toNat = (rI wP : Int) from (by exact hL.2.2.2.1)]
        refine fz_icmp_ne (tgt := 109) (by constructor <;> omega) (by constructor <;> omega) hx hb dX10_laysRow_102 (by decide) (fun c102_ => ?_) (fun c102_ => ?_)
        · refine lv_ldc (v := iZ 1000000) hx hb hown (hts _ k1547) dX10_laysRow_109 ?_
          exact j111_ (1000000) (by rw [wa0_is, rdrop_I, rdrop_I]; split <;> omega)
        · refine lv_iconst (v := iZ 0) hx hb dX10_laysRow_105 rfl ?_
          refine lv_goto (tgt := 111) hx hb dX10_laysRow_106 (by decide) ?_
          exact j111_ (0) (by rw [wa0_is, rdrop_I, rdrop_I]; split <;> omega)
set_option maxHeartbeats 40000000 in
set_option maxRecDepth 100000 in
theorem LX10_laysRow_65 {p : Program} {l : Launch} {e : Env} {R : Room} {s : State} {m : MethodId} {args : Array Value} {below : List Frame} {meth : Method} {c : Code} {cells slots : Nat} {Q : State → Prop} {dC : Nat → ClassId} {dI : Nat → Nat → Nat} {h0 : Nat} {cI cZ cII cIII : ClassId} {d9 : Nat} (hx : p.tables.exec = Jvm.exec) (hb : c.code = cX10_laysRow) (hml : c.maxLocals = 13) (hown : s.vm.findClass RX10 = some m.cls) (hts : ∀ w ∈ wsG, w.before args s = true) (hK : va_K (dC, dI) vwCl (mT cI cZ cII cIII) s) (hRf : 5 * d9 + 32 ≤ R.frames) (hRl : 200 * d9 + 900 ≤ R.locals) (hRc : cells ≤ R.cells) (hRs : slots ≤ R.slots) (μ0 : va_M) (n : Int) (t : Int) (a1 : Int) (a2 : Int) (u1 : Int) (b1 : Int) (b2 : Int) (o1 : Int) (wS : Rw) (wP : Rw) (hLR : ∀ (sz : Nat) (μ : va_M) (n : Int) (t : Int) (a1 : Int) (a2 : Int) (u1 : Int) (b1 : Int) (b2 : Int) (o1 : Int) (wS : Rw) (wP : Rw), (0 ≤ n ∧ n + rH wP ≤ 13) → (0 ≤ t ∧ t < 70) → (0 ≤ u1 ∧ u1 < 70) → (0 ≤ a1 ∧ a2 = a1 + rN wS ∧ a2 ≤ 900) → (0 ≤ b1 ∧ b2 = b1 + rN wP ∧ b2 ≤ 900) → (RA μ t.toNat wS a1.toNat) → (RA μ u1.toNat wP b1.toNat) → (rWF wS) → (rWF wP) → (rL wS ≤ 259 ∧ rL wP ≤ 60 ∧ rH wS ≤ 20) → (-1 ≤ o1 ∧ o1 < 70 ∧ o1 ≠ t ∧ o1 ≠ u1) → (capI2 o1 (μ 719 o1.toNat) (rN (lrow wS wP))) → (rH wP < (d9 - 1)) → Met l yX10_laysRow (Cond.code yX10_laysRow cX10_laysRow 13 (some .int) :: wsG) ({ frames := 5 * ((d9 - 1)) + 32, cells := 0, slots := 0, locals := 200 * ((d9 - 1)) + 900 } : Room) (va_Pc [.ref h0, .int (iZ (n)), .int (iZ (t)), .int (iZ (a1)), .int (iZ (a2)), .int (iZ (u1)), .int (iZ (b1)), .int (iZ (b2)), .int (iZ (o1))] (fun U => U.heap.size = sz ∧ va_P (dC, dI) vwCl (fw (mE cI cZ cII cIII h0) h0 6325 μ) U.heap ∧ va_K (dC, dI) vwCl (mT cI cZ cII cIII) U)) (va_Qi (fun (r9 : Int32) (u : va_M × Int) => r9 = iZ u.2 ∧ (fun (u : va_M) (r : Int) => r = (lay wS wP).1 ∧ u 0 33 = (if (lay wS wP).2 = true then 1 else 0) ∧ layO μ u n.toNat o1 (lrow wS wP)) u.1 u.2) (fun u t => va_P (dC, dI) vwCl (fw (mE cI cZ cII cIII h0) h0 6325 u.1) t.heap ∧ va_K (dC, dI) vwCl (mT cI cZ cII cIII) t) (fA h0 6325 sz)) 0 0 (fA h0 6325 sz)) (hn : 0 ≤ n ∧ n + rH wP ≤ 13) (ht : 0 ≤ t ∧ t < 70) (hu : 0 ≤ u1 ∧ u1 < 70) (htu : t ≠ -1 ∧ u1 ≠ -1) (hps : 0 ≤ a1 ∧ a1 + rN wS ≤ 900) (hpq : 0 ≤ b1 ∧ b1 + rN wP ≤ 900) (hwS : rWF wS) (hwP : rWF wP) (h260 : rL wS ≤ 259 ∧ rL wP ≤ 60 ∧ rH wS ≤ 20) (hd : rH wP < d9) (hexit173 : ∀ (i : Int) (μ : va_M) (H : Heap) (locs : List Loc) (ls : Array Slot), (fr (LD n.toNat) μ0 μ) → (lvS μ n.toNat t u1 wS wP a1 b1) → (leD μ n.toNat wS wP 0 0) → va_P (dC, dI) vwCl (fw (mE cI cZ cII cIII h0) h0 6325 μ) H → va_S (fA h0 6325 s.heap.size) s.heap H locs → lv_has ls 13 [(8, .int (iZ (o1))), (7, .int (iZ (b2))), (6, .int (iZ (b1))), (5, .int (iZ (u1))), (4, .int (iZ (a2))), (3, .int (iZ (a1))), (2, .int (iZ (t))), (1, .int (iZ (n))), (0, .ref h0)] → W p l e R s m args below meth c H locs cells slots Q (F0 m 173 ls [])) :
    ∀ (n9 : Nat) (i : Int) (μ : va_M) (H : Heap) (locs : List Loc) (ls : Array Slot), (fr (LD n.toNat) μ0 μ) → (lvS μ n.toNat t u1 wS wP a1 b1) → (leD μ n.toNat wS wP (i + 1).toNat 0) → (-1 ≤ i ∧ i ≤ rI wS) → (i + 1).toNat < n9 → va_P (dC, dI) vwCl (fw (mE cI cZ cII cIII h0) h0 6325 μ) H → va_S (fA h0 6325 s.heap.size) s.heap H locs → lv_has ls 13 [(9, .int (iZ (i))), (8, .int (iZ (o1))), (7, .int (iZ (b2))), (6, .int (iZ (b1))), (5, .int (iZ (u1))), (4, .int (iZ (a2))), (3, .int (iZ (a1))), (2, .int (iZ (t))), (1, .int (iZ (n))), (0, .ref h0)] → W p l e R s m args below meth c H locs cells slots Q (F0 m 65 ls []) := by
  intro n9
  induction n9 with
  | zero => intro i μ H locs ls hf hL hle hi hm9 hP hS hl; exact absurd hm9 (Nat.not_lt_zero _)
  | succ n9 ih =>
    intro i μ H locs ls hf hL hle hi hm9 hP hS hl
    have hIS := rI_L wS hwS
    have hIP := rI_L wP hwP
    refine lv_iload hx hb dX10_laysRow_65 (lv_at hl 0 rfl) ?_
    refine fz_if_lt (tgt := 173) (by constructor <;> omega) hx hb dX10_laysRow_67 (by decide) (fun c67_ => ?_) (fun c67_ => ?_)
    · exact hexit173 (i) μ H locs ls (by exact hf) (by exact hL) (by
                    rw [show (i + 1).toNat = 0 by omega] at hle
                    exact hle) hP hS (lv_sub hl [1, 2, 3, 4, 5, 6, 7, 8, 9] rfl)
    · refine lv_aload_n hx hb dX10_laysRow_70 rfl (lv_at hl 9 rfl) ?_
      refine fz_get (D := (dC, dI)) (ci := 10) (v := .ref (h0 + 4411)) (C := RX10) (T := TX10) (N := 53) hx hb hts inG10 hown hK hP (k := 0) (by decide) (F := mF h0) mE_obj rfl 37 (by decide) (hts _ k1203) (fun _ h9 => h9) rfl dX10_laysRow_71 ?_
      refine lv_iload_n hx hb dX10_laysRow_74 rfl (lv_at hl 8 rfl) ?_
      refine fz_ld (k := 4411) (n := 14) hx hb hK hP 0 (by decide) mE_manyP rfl ⟨by omega, by omega⟩ (by decide) dX10_laysRow_75 ?_
      rw [show μ 4411 (n).toNat = (rI wP : Int) from (by exact hL.2.2.2.1)]
      refine lv_istore (lv' := [(10, .int (iZ ((rI wP : Int)))), (9, .int (iZ (i))), (8, .int (iZ (o1))), (7, .int (iZ (b2))), (6, .int (iZ (b1))), (5, .int (iZ (u1))), (4, .int (iZ (a2))), (3, .int (iZ (a1))), (2, .int (iZ (t))), (1, .int (iZ (n))), (0, .ref h0)]) hx hb dX10_laysRow_76 hl (by decide) rfl (fun ls hl => ?_)
      refine LX10_laysRow_78 hx hb hml hown hts hK hRf hRl hRc hRs (μ0) (n) (t) (a1) (a2) (u1) (b1) (b2) (o1) (wS) (wP) (i) (by assumption) (by assumption) (by assumption) (by assumption) (by assumption) (by assumption) (by assumption) (by assumption) (by assumption) (by assumption) (by assumption) (by omega) ?_ _ ((rI wP : Int)) μ H locs ls (by exact hf) (by exact hL) (by
                    rw [show (i + 1).toNat = i.toNat + 1 by omega] at hle
                    exact leD_up hle (by omega)) (by omega) (Nat.lt_succ_self _) hP hS (lv_sub hl [0, 1, 2, 3, 4, 5, 6, 7, 8, 9, 10] rfl)
      · intro j_4 μ4_ H locs ls q1_4 q2_4 q3_4 hP hS hl
        have hl : lv_has ls 13 [(9, .int (iZ (i))), (8, .int (iZ (o1))), (7, .int (iZ (b2))), (6, .int (iZ (b1))), (5, .int (iZ (u1))), (4, .int (iZ (a2))), (3, .int (iZ (a1))), (2, .int (iZ (t))), (1, .int (iZ (n))), (0, .ref h0)] := hl
        refine lv_iinc (v := iZ (i - 1)) (lv' := [(9, .int (iZ (i - 1))), (8, .int (iZ (o1))), (7, .int (iZ (b2))), (6, .int (iZ (b1))), (5, .int (iZ (u1))), (4, .int (iZ (a2))), (3, .int (iZ (a1))), (2, .int (iZ (t))), (1, .int (iZ (n))), (0, .ref h0)]) hx hb dX10_laysRow_167 hl (k := 0) rfl (iZ_add _ (-1)) (by decide) rfl (fun ls hl => ?_)
        refine lv_goto (tgt := 65) hx hb dX10_laysRow_170 (by decide) ?_
        exact ih (i - 1) μ4_ H locs ls (by exact q1_4) (by exact q2_4) (by
                        rw [show (i - 1 + 1).toNat = i.toNat by omega]
                        exact q3_4) (by omega) (by omega) hP hS (lv_sub hl [0, 1, 2, 3, 4, 5, 6, 7, 8, 9] rfl)
set_option maxHeartbeats 40000000 in
set_option maxRecDepth 100000 in
theorem m_laysRow (l : Launch) (dC : Nat → ClassId) (dI : Nat → Nat → Nat) (cI cZ cII cIII : ClassId) (h0 : Nat) : ∀ (d : Nat), ∀ (sz : Nat) (μ : va_M) (n : Int) (t : Int) (a1 : Int) (a2 : Int) (u1 : Int) (b1 : Int) (b2 : Int) (o1 : Int) (wS : Rw) (wP : Rw), (0 ≤ n ∧ n + rH wP ≤ 13) → (0 ≤ t ∧ t < 70) → (0 ≤ u1 ∧ u1 < 70) → (0 ≤ a1 ∧ a2 = a1 + rN wS ∧ a2 ≤ 900) → (0 ≤ b1 ∧ b2 = b1 + rN wP ∧ b2 ≤ 900) → (RA μ t.toNat wS a1.toNat) → (RA μ u1.toNat wP b1.toNat) → (rWF wS) → (rWF wP) → (rL wS ≤ 259 ∧ rL wP ≤ 60 ∧ rH wS ≤ 20) → (-1 ≤ o1 ∧ o1 < 70 ∧ o1 ≠ t ∧ o1 ≠ u1) → (capI2 o1 (μ 719 o1.toNat) (rN (lrow wS wP))) → (rH wP < d) → Met l yX10_laysRow (Cond.code yX10_laysRow cX10_laysRow 13 (some .int) :: wsG) ({ frames := 5 * d + 32, cells := 0, slots := 0, locals := 200 * d + 900 } : Room) (va_Pc [.ref h0, .int (iZ (n)), .int (iZ (t)), .int (iZ (a1)), .int (iZ (a2)), .int (iZ (u1)), .int (iZ (b1)), .int (iZ (b2)), .int (iZ (o1))] (fun U => U.heap.size = sz ∧ va_P (dC, dI) vwCl (fw (mE cI cZ cII cIII h0) h0 6325 μ) U.heap ∧ va_K (dC, dI) vwCl (mT cI cZ cII cIII) U)) (va_Qi (fun (r9 : Int32) (u : va_M × Int) => r9 = iZ u.2 ∧ (fun (u : va_M) (r : Int) => r = (lay wS wP).1 ∧ u 0 33 = (if (lay wS wP).2 = true then 1 else 0) ∧ layO μ u n.toNat o1 (lrow wS wP)) u.1 u.2) (fun u t => va_P (dC, dI) vwCl (fw (mE cI cZ cII cIII h0) h0 6325 u.1) t.heap ∧ va_K (dC, dI) vwCl (mT cI cZ cII cIII) t) (fA h0 6325 sz)) 0 0 (fA h0 6325 sz) := by
  intro d
  induction d using Nat.strongRecOn with
  | _ d ih =>
  intro sz μ n t a1 a2 u1 b1 b2 o1 wS wP hn ht hu ha hbb hRS hRP hwS hwP h260 ho hcap hd
  refine Met.ofW (cc := cX10_laysRow) (maxL := 13) (ret := (some .int)) (by decide) rfl ?_
  intro p e s m args below meth c s₁ B hml hv
  obtain ⟨rfl, hsz, hP, hK⟩ := hv
  have hx := B.exec
  have hb := B.bytes
  have hr := B.returns
  have hts : ∀ w ∈ wsG, w.before _ s = true := hG_of (atoms_spec (ws := (Cond.code yX10_laysRow cX10_laysRow 13 (some .int) :: wsG)) B.pre)
  have hown : s.vm.findClass RX10 = some m.cls := findClass_of_methodNamed B.named
  have hlocks := B.notSynchronized
  subst hsz
  have hS : va_S (fA h0 6325 s.heap.size) s.heap s.heap [] := va_S.rf
  have hl := lv_entry ([.ref h0, .int (iZ (n)), .int (iZ (t)), .int (iZ (a1)), .int (iZ (a2)), .int (iZ (u1)), .int (iZ (b1)), .int (iZ (b2)), .int (iZ (o1))]) (n := 13) (Nat.le_of_ble_eq_true rfl)
  rw [lg_entry_eq]
  generalize (lg_sl ([.ref h0, .int (iZ (n)), .int (iZ (t)), .int (iZ (a1)), .int (iZ (a2)), .int (iZ (u1)), .int (iZ (b1)), .int (iZ (b2)), .int (iZ (o1))]) ++ List.replicate (13 - (lg_sl ([.ref h0, .int (iZ (n)), .int (iZ (t)), .int (iZ (a1)), .int (iZ (a2)), .int (iZ (u1)), .int (iZ (b1)), .int (iZ (b2)), .int (iZ (o1))])).length) Slot.unset).toArray = ls at hl ⊢
  have hl : lv_has ls 13 [(0, .ref h0), (1, .int (iZ (n))), (2, .int (iZ (t))), (3, .int (iZ (a1))), (4, .int (iZ (a2))), (5, .int (iZ (u1))), (6, .int (iZ (b1))), (7, .int (iZ (b2))), (8, .int (iZ (o1)))] := hl
  have hIS := rI_L wS hwS
  have hIP := rI_L wP hwP
  refine lv_aload_n hx hb dX10_laysRow_0 rfl (lv_at hl 0 rfl) ?_
  refine fz_get (D := (dC, dI)) (ci := 10) (v := .ref (h0 + 4408)) (C := RX10) (T := TX10) (N := 53) hx hb hts inG10 hown hK hP (k := 0) (by decide) (F := mF h0) mE_obj rfl 34 (by decide) (hts _ k1200) (fun _ h9 => h9) rfl dX10_laysRow_1 ?_
  refine lv_iload_n hx hb dX10_laysRow_4 rfl (lv_at hl 1 rfl) ?_
  refine lv_iload_n hx hb dX10_laysRow_5 rfl (lv_at hl 2 rfl) ?_
  refine fz_st (k := 4408) (n := 14) (i := n) (z := t) hx hb hK hP fA_in hS 0 (by decide) mE_treeS rfl ⟨by omega, by omega⟩ (by decide) dX10_laysRow_6 (fun H locs hP hS => ?_)
  obtain ⟨μ5, eμ5⟩ : ∃ x : va_M, x = uz μ 4408 (n).toNat (t) := ⟨_, rfl⟩
  rw [← eμ5] at hP
  refine lv_aload_n hx hb dX10_laysRow_7 rfl (lv_at hl 0 rfl) ?_
  refine fz_get (D := (dC, dI)) (ci := 10) (v := .ref (h0 + 4409)) (C := RX10) (T := TX10) (N := 53) hx hb hts inG10 hown hK hP (k := 0) (by decide) (F := mF h0) mE_obj rfl 35 (by decide) (hts _ k1201) (fun _ h9 => h9) rfl dX10_laysRow_8 ?_
  refine lv_iload_n hx hb dX10_laysRow_11 rfl (lv_at hl 1 rfl) ?_
  refine lv_iload hx hb dX10_laysRow_12 (lv_at hl 5 rfl) ?_
  refine fz_st (k := 4409) (n := 14) (i := n) (z := u1) hx hb hK hP fA_in hS 0 (by decide) mE_treeP rfl ⟨by omega, by omega⟩ (by decide) dX10_laysRow_14 (fun H locs hP hS => ?_)
  obtain ⟨μ6, eμ6⟩ : ∃ x : va_M, x = uz μ5 4409 (n).toNat (u1) := ⟨_, rfl⟩
  rw [← eμ6] at hP
  refine lv_aload_n hx hb dX10_laysRow_15 rfl (lv_at hl 0 rfl) ?_
  refine fz_get (D := (dC, dI)) (ci := 10) (v := .ref (h0 + 4410)) (C := RX10) (T := TX10) (N := 53) hx hb hts inG10 hown hK hP (k := 0) (by decide) (F := mF h0) mE_obj rfl 36 (by decide) (hts _ k1202) (fun _ h9 => h9) rfl dX10_laysRow_16 ?_
  refine lv_iload_n hx hb dX10_laysRow_19 rfl (lv_at hl 1 rfl) ?_
  refine lv_aload_n hx hb dX10_laysRow_20 rfl (lv_at hl 0 rfl) ?_
  refine lv_iload_n hx hb dX10_laysRow_21 rfl (lv_at hl 2 rfl) ?_
  refine lv_iload_n hx hb dX10_laysRow_22 rfl (lv_at hl 3 rfl) ?_
  refine lv_iload hx hb dX10_laysRow_23 (lv_at hl 4 rfl) ?_
  refine lv_aload_n hx hb dX10_laysRow_25 rfl (lv_at hl 0 rfl) ?_
  refine fz_get (D := (dC, dI)) (ci := 10) (v := .ref (h0 + 722)) (C := RX10) (T := TX10) (N := 53) hx hb hts inG10 hown hK hP (k := 0) (by decide) (F := mF h0) mE_obj rfl 29 (by decide) (hts _ k1195) (fun _ h9 => h9) rfl dX10_laysRow_26 ?_
  refine lv_iload_n hx hb dX10_laysRow_29 rfl (lv_at hl 1 rfl) ?_
  refine fz_ald (k := 722) (n := 14) (k2 := (723 + (n).toNat)) hx hb hK hP 2 rfl (by decide) mE_rowS rfl ⟨by omega, by omega⟩ (by decide) (if_pos (by omega)) dX10_laysRow_30 ?_
  refine va_calli (va_runV (As := [.int (iZ (t)), .int (iZ (a1)), .int (iZ (a2)), .ref (h0 + (723 + (n).toNat))]) (rest := [.int (iZ (n)), .ref (h0 + 4410)]) ⟨hx, hb, hml, hown, hts⟩ (m_lists l dC dI cI cZ cII cIII h0 H.size μ6 (t) (a1) (a2) ((723 + n.toNat)) (wS) (by first | assumption | omega | exact ⟨by omega, by omega⟩) (by omega) (by exact ha.2.1) (by exact RA_fr (P := LD n.toNat) hRS (by rw [eμ6, eμ5]; exact fr_uz (fr_uz fr_rfl (by unfold LD; omega)) (by unfold LD; omega)) (fun x => ⟨LD_lt (by omega), LD_lt (by omega), LD_lt (by omega)⟩)) (by omega) (by omega)) (cwV 4 hts (gV_G k1385 k1387 ks_yX10_lists k13 k1388) rfl rfl rfl (by decide +kernel) ⟨by show 1 + 1 ≤ 5 * d + 32; omega, by show 8 + (7 + 11) + (14) ≤ 200 * d + 900; omega⟩) ⟨fun a U g mk q => by obtain ⟨q0, q1, qP, qK⟩ := q; exact ⟨q0, q1, qP, va_K.moved (u := U) (U := U.calling g mk a) (Vm.Alike.refl U.vm) qK⟩, va_recv hK hP (ci := 10) (q0 := 0) rfl ((fw_get (by decide)).trans (by rw [mE_obj]; rfl)), fun U hU hW => ⟨rfl, by rw [hU], by rw [hU]; exact hP, va_K.moved hW.alike hK⟩⟩ rfl rfl hl.1 rfl (lv_room (Nat.le_of_ble_eq_true rfl)) dX10_laysRow_31 ⟨Nat.le_of_ble_eq_true rfl, Nat.le_of_ble_eq_true rfl⟩) hS (fun q _ h => fA_le hS.1 q h) (fA_le hS.1) (fun r9 u9 t9 H1 locs ht9 hvm9 hw9 hB9 hz9 hk9 hS => ?_)
  obtain ⟨μR3, r3_⟩ := u9
  obtain ⟨hP, -⟩ := hB9
  rw [ht9] at hP
  generalize H1 = H at hP hS ⊢
  obtain ⟨e9, hw9⟩ := hw9
  have e9 : r9 = iZ r3_ := e9
  subst e9
  simp only at hP hw9
  have hμR3 := hw9; clear hw9
  obtain ⟨y1_, y2_⟩ := hμR3
  have hf3 : fr (LD n.toNat) μ μR3 := fr_trans (by rw [eμ6, eμ5]; exact fr_uz (fr_uz fr_rfl (by unfold LD; omega)) (by unfold LD; omega)) (fr_mono y2_.2 (fun a b h => by unfold LD; omega))
  refine fz_st (k := 4410) (n := 14) (i := n) (z := r3_) hx hb hK hP fA_in hS 0 (by decide) mE_manyS rfl ⟨by omega, by omega⟩ (by decide) dX10_laysRow_34 (fun H locs hP hS => ?_)
  obtain ⟨μ7, eμ7⟩ : ∃ x : va_M, x = uz μR3 4410 (n).toNat (r3_) := ⟨_, rfl⟩
  rw [← eμ7] at hP
  refine lv_aload_n hx hb dX10_laysRow_35 rfl (lv_at hl 0 rfl) ?_
  refine fz_get (D := (dC, dI)) (ci := 10) (v := .ref (h0 + 4411)) (C := RX10) (T := TX10) (N := 53) hx hb hts inG10 hown hK hP (k := 0) (by decide) (F := mF h0) mE_obj rfl 37 (by decide) (hts _ k1203) (fun _ h9 => h9) rfl dX10_laysRow_36 ?_
  refine lv_iload_n hx hb dX10_laysRow_39 rfl (lv_at hl 1 rfl) ?_
  refine lv_aload_n hx hb dX10_laysRow_40 rfl (lv_at hl 0 rfl) ?_
  refine lv_iload hx hb dX10_laysRow_41 (lv_at hl 5 rfl) ?_
  refine lv_iload hx hb dX10_laysRow_43 (lv_at hl 6 rfl) ?_
  refine lv_iload hx hb dX10_laysRow_45 (lv_at hl 7 rfl) ?_
  refine lv_aload_n hx hb dX10_laysRow_47 rfl (lv_at hl 0 rfl) ?_
  refine fz_get (D := (dC, dI)) (ci := 10) (v := .ref (h0 + 737)) (C := RX10) (T := TX10) (N := 53) hx hb hts inG10 hown hK hP (k := 0) (by decide) (F := mF h0) mE_obj rfl 30 (by decide) (hts _ k1196) (fun _ h9 => h9) rfl dX10_laysRow_48 ?_
  refine lv_iload_n hx hb dX10_laysRow_51 rfl (lv_at hl 1 rfl) ?_
  refine fz_ald (k := 737) (n := 14) (k2 := (738 + (n).toNat)) hx hb hK hP 2 rfl (by decide) mE_rowP rfl ⟨by omega, by omega⟩ (by decide) (if_pos (by omega)) dX10_laysRow_52 ?_
  refine va_calli (va_runV (As := [.int (iZ (u1)), .int (iZ (b1)), .int (iZ (b2)), .ref (h0 + (738 + (n).toNat))]) (rest := [.int (iZ (n)), .ref (h0 + 4411)]) ⟨hx, hb, hml, hown, hts⟩ (m_lists l dC dI cI cZ cII cIII h0 H.size μ7 (u1) (b1) (b2) ((738 + n.toNat)) (wP) (by first | assumption | omega | exact ⟨by omega, by omega⟩) (by omega) (by exact hbb.2.1) (by exact RA_fr (P := LD n.toNat) hRP (by rw [eμ7]; exact fr_uz hf3 (by unfold LD; omega)) (fun x => ⟨LD_lt (by omega), LD_lt (by omega), LD_lt (by omega)⟩)) (by omega) (by omega)) (cwV 4 hts (gV_G k1385 k1387 ks_yX10_lists k13 k1388) rfl rfl rfl (by decide +kernel) ⟨by show 1 + 1 ≤ 5 * d + 32; omega, by show 8 + (7 + 11) + (14) ≤ 200 * d + 900; omega⟩) ⟨fun a U g mk q => by obtain ⟨q0, q1, qP, qK⟩ := q; exact ⟨q0, q1, qP, va_K.moved (u := U) (U := U.calling g mk a) (Vm.Alike.refl U.vm) qK⟩, va_recv hK hP (ci := 10) (q0 := 0) rfl ((fw_get (by decide)).trans (by rw [mE_obj]; rfl)), fun U hU hW => ⟨rfl, by rw [hU], by rw [hU]; exact hP, va_K.moved hW.alike hK⟩⟩ rfl rfl hl.1 rfl (lv_room (Nat.le_of_ble_eq_true rfl)) dX10_laysRow_53 ⟨Nat.le_of_ble_eq_true rfl, Nat.le_of_ble_eq_true rfl⟩) hS (fun q _ h => fA_le hS.1 q h) (fA_le hS.1) (fun r9 u9 t9 H1 locs ht9 hvm9 hw9 hB9 hz9 hk9 hS => ?_)
  obtain ⟨μR5, r5_⟩ := u9
  obtain ⟨hP, -⟩ := hB9
  rw [ht9] at hP
  generalize H1 = H at hP hS ⊢
  obtain ⟨e9, hw9⟩ := hw9
  have e9 : r9 = iZ r5_ := e9
  subst e9
  simp only at hP hw9
  have hμR5 := hw9; clear hw9
  obtain ⟨x1_, x2_⟩ := hμR5
  refine fz_st (k := 4411) (n := 14) (i := n) (z := r5_) hx hb hK hP fA_in hS 0 (by decide) mE_manyP rfl ⟨by omega, by omega⟩ (by decide) dX10_laysRow_56 (fun H locs hP hS => ?_)
  obtain ⟨μ8, eμ8⟩ : ∃ x : va_M, x = uz μR5 4411 (n).toNat (r5_) := ⟨_, rfl⟩
  rw [← eμ8] at hP
  rw [y1_] at eμ7
  rw [x1_] at eμ8
  obtain ⟨hLa, hfa⟩ := lvS_mk eμ5 eμ6 y2_ eμ7 x2_ eμ8 (by omega) ht hu hRS hRP
  refine lv_aload_n hx hb dX10_laysRow_57 rfl (lv_at hl 0 rfl) ?_
  refine fz_get (D := (dC, dI)) (ci := 10) (v := .ref (h0 + 4410)) (C := RX10) (T := TX10) (N := 53) hx hb hts inG10 hown hK hP (k := 0) (by decide) (F := mF h0) mE_obj rfl 36 (by decide) (hts _ k1202) (fun _ h9 => h9) rfl dX10_laysRow_58 ?_
  refine lv_iload_n hx hb dX10_laysRow_61 rfl (lv_at hl 1 rfl) ?_
  refine fz_ld (k := 4410) (n := 14) hx hb hK hP 0 (by decide) mE_manyS rfl ⟨by omega, by omega⟩ (by decide) dX10_laysRow_62 ?_
  rw [show μ8 4410 (n).toNat = μR5 4410 (n).toNat from by rw [eμ8, uz_n (by omega)]]
  rw [show μR5 4410 (n).toNat = (rI wS : Int) from (by
          have h9 := hLa.2.2.1
          rw [eμ8, uz_n (by omega)] at h9
          exact h9)]
  refine lv_istore (lv' := [(9, .int (iZ ((rI wS : Int)))), (0, .ref h0), (1, .int (iZ (n))), (2, .int (iZ (t))), (3, .int (iZ (a1))), (4, .int (iZ (a2))), (5, .int (iZ (u1))), (6, .int (iZ (b1))), (7, .int (iZ (b2))), (8, .int (iZ (o1)))]) hx hb dX10_laysRow_63 hl (by decide) rfl (fun ls hl => ?_)
  refine LX10_laysRow_65 (d9 := d) hx hb hml hown hts hK (Nat.le_refl _) (Nat.le_refl _) (Nat.le_of_ble_eq_true rfl) (Nat.le_of_ble_eq_true rfl) (μ) (n) (t) (a1) (a2) (u1) (b1) (b2) (o1) (wS) (wP) (by exact ih (d - 1) (by omega)) (by assumption) (by assumption) (by assumption) (by omega) (by omega) (by omega) (by assumption) (by assumption) (by assumption) (by assumption) ?_ _ ((rI wS : Int)) μ8 H locs ls (by exact hfa) (by exact hLa) (by intro i2 j2 h3 h4 h5; omega) (by omega) (Nat.lt_succ_self _) hP hS (lv_sub hl [0, 9, 8, 7, 6, 5, 4, 3, 2, 1] rfl)
  · intro i_10 μ10_ H locs ls q1_10 q2_10 q3_10 hP hS hl
    have hl : lv_has ls 13 [(8, .int (iZ (o1))), (7, .int (iZ (b2))), (6, .int (iZ (b1))), (5, .int (iZ (u1))), (4, .int (iZ (a2))), (3, .int (iZ (a1))), (2, .int (iZ (t))), (1, .int (iZ (n))), (0, .ref h0)] := hl
    refine lv_aload_n hx hb dX10_laysRow_173 rfl (lv_at hl 8 rfl) ?_
    refine lv_iload_n hx hb dX10_laysRow_174 rfl (lv_at hl 7 rfl) ?_
    refine lv_iload hx hb dX10_laysRow_175 (lv_at hl 0 rfl) ?_
    refine va_callv (va_runV (As := [.int (iZ (n)), .int (iZ (o1))]) (rest := []) ⟨hx, hb, hml, hown, hts⟩ (m_walks l dC dI cI cZ cII cIII h0 ((d - 1)) H.size μ10_ (n) (o1) (t) (u1) (wS) (wP) (a1) (b1) (by exact ih (d - 1) (by omega)) (by first | assumption | omega | exact ⟨by omega, by omega⟩) (by exact q2_10) (by first | assumption | omega | exact ⟨by omega, by omega⟩) (by first | assumption | omega | exact ⟨by omega, by omega⟩) (by omega) (by omega) (by omega) (by first | assumption | omega | exact ⟨by omega, by omega⟩) (by first | assumption | omega | exact ⟨by omega, by omega⟩) (by first | assumption | omega | exact ⟨by omega, by omega⟩) (by omega) (by exact leD_B q3_10) (by exact ho) (by rw [q1_10 _ _ (LD_lt (by omega))]; exact hcap)) (cwV 2 hts (gV_G k1556 k1558 ks_yX10_walks k13 k1559) rfl rfl rfl (by decide +kernel) ⟨by show 5 * ((d - 1)) + 32 + 1 + 1 + 1 + 1 + 1 ≤ 5 * d + 32; omega, by show 8 + (14 + 11) + (200 * ((d - 1)) + 900 + 40 + 40 + 40 + 40) ≤ 200 * d + 900; omega⟩) ⟨fun a U g mk q => by obtain ⟨q0, q1, qP, qK⟩ := q; exact ⟨q0, q1, qP, va_K.moved (u := U) (U := U.calling g mk a) (Vm.Alike.refl U.vm) qK⟩, va_recv hK hP (ci := 10) (q0 := 0) rfl ((fw_get (by decide)).trans (by rw [mE_obj]; rfl)), fun U hU hW => ⟨rfl, by rw [hU], by rw [hU]; exact hP, va_K.moved hW.alike hK⟩⟩ rfl rfl hl.1 rfl (lv_room (Nat.le_of_ble_eq_true rfl)) dX10_laysRow_177 ⟨Nat.le_of_ble_eq_true rfl, Nat.le_of_ble_eq_true rfl⟩) hS (fun q _ h => fA_le hS.1 q h) (fA_le hS.1) (fun u9 t9 H1 locs ht9 hvm9 hw9 hB9 hz9 hk9 hS => ?_)
    obtain ⟨hP, -⟩ := hB9
    rw [ht9] at hP
    generalize H1 = H at hP hS ⊢
    obtain ⟨μw, eμw⟩ : ∃ x : va_M, x = u9 := ⟨_, rfl⟩
    rw [← eμw] at hP hw9
    have hμw := hw9; clear hw9
    obtain ⟨y3_, y4_⟩ := hμw
    have hfin := layO_tr q1_10 y4_ (by omega)
    refine lv_aload_n hx hb dX10_laysRow_180 rfl (lv_at hl 8 rfl) ?_
    refine fz_get (D := (dC, dI)) (ci := 10) (v := .ref (h0 + 753)) (C := RX10) (T := TX10) (N := 53) hx hb hts inG10 hown hK hP (k := 0) (by decide) (F := mF h0) mE_obj rfl 32 (by decide) (hts _ k1198) (fun _ h9 => h9) rfl dX10_laysRow_181 ?_
    refine lv_iload_n hx hb dX10_laysRow_184 rfl (lv_at hl 7 rfl) ?_
    refine fz_ald (k := 753) (n := 14) (k2 := (754 + (n).toNat * 261)) hx hb hK hP 3 rfl (by decide) mE_least rfl ⟨by omega, by omega⟩ (by decide) (if_pos (by omega)) dX10_laysRow_185 ?_
    refine lv_iconst (v := iZ 0) hx hb dX10_laysRow_186 rfl ?_
    refine fz_ald (k := (754 + (n).toNat * 261)) (n := 260) (k2 := (754 + (n).toNat * 261 + 1 + 0)) hx hb hK hP 2 rfl (by omega) (mE_leastM (by omega)) rfl ⟨by omega, by omega⟩ (by decide) (if_pos (by omega)) dX10_laysRow_187 ?_
    refine lv_iconst (v := iZ 0) hx hb dX10_laysRow_188 rfl ?_
    refine fz_ld (k := (754 + (n).toNat * 261 + 1 + 0)) (n := 62) hx hb hK hP 0 (by omega) (mE_leastR (by omega) (by omega)) rfl ⟨by omega, by omega⟩ (by decide) dX10_laysRow_189 ?_
    rw [show (0 : Int).toNat = 0 from rfl]
    rw [show μw (754 + (n).toNat * 261 + 1 + 0) 0 = (lay wS wP).1 from (by rw [layO_k y4_ (by omega) (by omega) (by unfold LD; omega)]; exact q3_10 0 0 (by omega) (by omega) (by omega))]
    exact W.iret (v := iZ ((lay wS wP).1)) hx hb hr (fun t9 ht9 hW9 => ⟨⟨iZ ((lay wS wP).1), (μw, (lay wS wP).1), rfl, ⟨rfl, (by
                dsimp only
                exact ⟨rfl, y3_, hfin⟩)⟩, by rw [ht9]; exact hP, va_K.moved hW9.alike hK⟩, hS.F ht9⟩) hS.2.2 dX10_laysRow_190

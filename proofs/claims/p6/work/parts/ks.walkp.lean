
/-! the reference walks a page: the path, told whole -/
/-- an end and its beginning are the same node's -/
theorem RS_end {μ : va_M} : ∀ (w : Rw) (p q : Nat), RS μ w p q → ∀ x : Nat, q ≤ x → x < q + rS w → μ 4414 x = 1 → NS9 μ (MS9 μ x) = NS9 μ x
  | .leaf, _, _, _, x, h1, h2, _ => by
    have e : rS (Std.DTreeMap.Internal.Impl.leaf : Rw) = 0 := rfl
    omega
  | .inner z k v l r, p, q, hs, x, h1, h2, h3 => by
    rw [RS] at hs
    obtain ⟨s1, s2, s3⟩ := hs
    rw [rS_in] at h2
    by_cases hk : k < 3
    · rw [if_pos hk] at s3 h2
      by_cases hx : x = q
      · subst hx
        omega
      · exact RS_end r (p + 1) (q + 1) s3 x (by omega) (by omega) h3
    · rw [if_neg hk] at s3 h2
      obtain ⟨t1, t2, t3, t4, t5, t6⟩ := s3
      by_cases hx : x = q
      · subst hx
        omega
      · by_cases hx2 : x < q + 1 + rS l
        · exact RS_end l (p + 1) (q + 1) t2 x (by omega) hx2 h3
        · by_cases hx3 : x = q + 1 + rS l
          · subst hx3
            unfold NS9 MS9
            rw [t5, show ((q : Nat) : Int).toNat = q from rfl, s1, t3]
          · exact RS_end r (p + 1 + rN l) (q + 1 + rS l + 1) t6 x (by omega) (by omega) h3
def rF (μ0 : va_M) : Nat → Nat → Int := fun c y => μ0 (4416 + y) c
/-- after so many steps -/
def rnI (μ0 μ : va_M) (L m x k : Nat) : Prop := ∃ th pa tk : Nat → Int, wrn (KS μ0) (MS9 μ0) (NS9 μ0) (rF μ0) m wp0 = (x, k, th, pa, tk) ∧ (∀ j : Nat, j < 900 → μ 6319 j = th j) ∧ (∀ j : Nat, j < 900 → μ0 507 j = 4 → μ 6320 j = pa j) ∧ (∀ j : Nat, j < k → μ 6321 j = tk j) ∧ ∀ j : Nat, j < m → (wrn (KS μ0) (MS9 μ0) (NS9 μ0) (rF μ0) j wp0).1 < L
theorem rnI_st {μ0 μ u : va_M} {L m x k x2 k2 : Nat} {ft fp fk : (Nat → Int) → Nat → Int} (h : rnI μ0 μ L m x k) (hx : x < L) (hs : ∀ th pa tk : Nat → Int, wst (KS μ0) (MS9 μ0) (NS9 μ0) (rF μ0) (x, k, th, pa, tk) = (x2, k2, ft th, fp pa, fk tk)) (h1 : ∀ f : Nat → Int, (∀ j : Nat, j < 900 → μ 6319 j = f j) → ∀ j : Nat, j < 900 → u 6319 j = ft f j) (h2 : ∀ f : Nat → Int, (∀ j : Nat, j < 900 → μ0 507 j = 4 → μ 6320 j = f j) → ∀ j : Nat, j < 900 → μ0 507 j = 4 → u 6320 j = fp f j) (h3 : ∀ f : Nat → Int, (∀ j : Nat, j < k → μ 6321 j = f j) → ∀ j : Nat, j < k2 → u 6321 j = fk f j) : rnI μ0 u L (m + 1) x2 k2 := by
  obtain ⟨th, pa, tk, e1, e2, e3, e4, e5⟩ := h
  refine ⟨ft th, fp pa, fk tk, ?_, h1 th e2, h2 pa e3, h3 tk e4, fun j hj => ?_⟩
  · show wst _ _ _ _ (wrn _ _ _ _ m wp0) = _
    rw [e1]
    exact hs th pa tk
  · by_cases c : j < m
    · exact e5 j c
    · have ej : j = m := by omega
      rw [ej, e1]
      exact hx
theorem KS_0 {μ : va_M} {x : Nat} (h : nod μ x < 3) : KS μ x = 0 := by unfold KS; rw [if_pos h]
theorem KS_3 {μ : va_M} {x : Nat} (h : nod μ x = 3) (h2 : μ 4414 x = 0) : KS μ x = 3 := by unfold KS; rw [if_neg (by omega), if_pos h2, if_pos h]
theorem KS_4 {μ : va_M} {x : Nat} (h : ¬ nod μ x < 3) (h3 : ¬ nod μ x = 3) (h2 : μ 4414 x = 0) : KS μ x = 4 := by unfold KS; rw [if_neg h, if_pos h2, if_neg h3]
theorem KS_5 {μ : va_M} {x : Nat} (h : nod μ x = 3) (h2 : μ 4414 x = 1) : KS μ x = 5 := by unfold KS; rw [if_neg (by omega), if_neg (by omega), if_pos h]
theorem KS_6 {μ : va_M} {x : Nat} (h : ¬ nod μ x < 3) (h3 : ¬ nod μ x = 3) (h2 : μ 4414 x = 1) : KS μ x = 6 := by unfold KS; rw [if_neg h, if_neg (by omega), if_neg h3]
section RN
variable {μ0 μ u : va_M} {L m x k : Nat}
theorem rn_leaf (h : rnI μ0 μ L m x k) (hx : x < L) (hn : nod μ0 x < 3) (e1 : ∀ j : Nat, u 6319 j = if j = NS9 μ0 x then μ 6319 j + 1 else μ 6319 j) (e2 : ∀ j : Nat, u 6320 j = μ 6320 j) (e3 : ∀ j : Nat, u 6321 j = if j = k then (NS9 μ0 x : Int) else μ 6321 j) : rnI μ0 u L (m + 1) (x + 1) (k + 1) :=
  rnI_st (ft := fun f => bmp f (NS9 μ0 x)) (fp := fun f => f) (fk := fun f => ptk f k (NS9 μ0 x)) h hx (fun th pa tk => by unfold wst; rw [if_pos (KS_0 hn)])
    (fun f hf j hj => by
      show _ = bmp f (NS9 μ0 x) j
      unfold bmp
      rw [e1]
      split
      · rw [hf j hj]
      · exact hf j hj)
    (fun f hf j hj h4 => (e2 j).trans (hf j hj h4))
    (fun f hf j hj => by
      show _ = ptk f k (NS9 μ0 x) j
      unfold ptk
      rw [e3]
      split
      · rfl
      · exact hf j (by omega))
theorem rn_opt1 (h : rnI μ0 μ L m x k) (hx : x < L) (hn : nod μ0 x = 3) (hb : μ0 4414 x = 0) (hF : ¬ μ0 (4416 + (x + 1)) k = 0) (e1 : ∀ j : Nat, u 6319 j = if j = NS9 μ0 x then μ 6319 j + 1 else μ 6319 j) (e2 : ∀ j : Nat, j ≠ NS9 μ0 x → u 6320 j = μ 6320 j) (e3 : ∀ j : Nat, u 6321 j = μ 6321 j) : rnI μ0 u L (m + 1) (x + 1) k :=
  rnI_st (ft := fun f => bmp f (NS9 μ0 x)) (fp := fun f => f) (fk := fun f => f) h hx (fun th pa tk => by unfold wst; rw [if_neg (by rw [KS_3 hn hb]; decide), if_pos (KS_3 hn hb), if_neg (show ¬ rF μ0 k (x + 1) = 0 from hF)])
    (fun f hf j hj => by
      show _ = bmp f (NS9 μ0 x) j
      unfold bmp
      rw [e1]
      split
      · rw [hf j hj]
      · exact hf j hj)
    (fun f hf j hj h4 => (e2 j (fun h9 => by
      have h8 : nod μ0 x = μ0 507 (NS9 μ0 x) := rfl
      rw [← h9] at h8
      omega)).trans (hf j hj h4))
    (fun f hf j hj => (e3 j).trans (hf j hj))
theorem rn_opt0 (h : rnI μ0 μ L m x k) (hx : x < L) (hn : nod μ0 x = 3) (hb : μ0 4414 x = 0) (hF : μ0 (4416 + (x + 1)) k = 0) (e1 : ∀ j : Nat, u 6319 j = μ 6319 j) (e2 : ∀ j : Nat, j ≠ NS9 μ0 x → u 6320 j = μ 6320 j) (e3 : ∀ j : Nat, u 6321 j = μ 6321 j) : rnI μ0 u L (m + 1) (MS9 μ0 x + 1) k :=
  rnI_st (ft := fun f => f) (fp := fun f => f) (fk := fun f => f) h hx (fun th pa tk => by unfold wst; rw [if_neg (by rw [KS_3 hn hb]; decide), if_pos (KS_3 hn hb), if_pos (show rF μ0 k (x + 1) = 0 from hF)])
    (fun f hf j hj => (e1 j).trans (hf j hj))
    (fun f hf j hj h4 => (e2 j (fun h9 => by
      have h8 : nod μ0 x = μ0 507 (NS9 μ0 x) := rfl
      rw [← h9] at h8
      omega)).trans (hf j hj h4))
    (fun f hf j hj => (e3 j).trans (hf j hj))
theorem rn_rep (h : rnI μ0 μ L m x k) (hx : x < L) (hn : ¬ nod μ0 x < 3) (h3 : ¬ nod μ0 x = 3) (hb : μ0 4414 x = 0) (e1 : ∀ j : Nat, u 6319 j = if j = NS9 μ0 x then μ 6319 j + 1 else μ 6319 j) (e2 : ∀ j : Nat, u 6320 j = if j = NS9 μ0 x then μ 6320 j + 1 else μ 6320 j) (e3 : ∀ j : Nat, u 6321 j = μ 6321 j) : rnI μ0 u L (m + 1) (x + 1) k :=
  rnI_st (ft := fun f => bmp f (NS9 μ0 x)) (fp := fun f => bmp f (NS9 μ0 x)) (fk := fun f => f) h hx (fun th pa tk => by unfold wst; rw [if_neg (by rw [KS_4 hn h3 hb]; decide), if_neg (by rw [KS_4 hn h3 hb]; decide), if_pos (KS_4 hn h3 hb)])
    (fun f hf j hj => by
      show _ = bmp f (NS9 μ0 x) j
      unfold bmp
      rw [e1]
      split
      · rw [hf j hj]
      · exact hf j hj)
    (fun f hf j hj h4 => by
      show _ = bmp f (NS9 μ0 x) j
      unfold bmp
      rw [e2]
      split
      · rw [hf j hj h4]
      · exact hf j hj h4)
    (fun f hf j hj => (e3 j).trans (hf j hj))
theorem rn_oend (h : rnI μ0 μ L m x k) (hx : x < L) (hn : nod μ0 x = 3) (hb : μ0 4414 x = 1) (e1 : ∀ j : Nat, u 6319 j = μ 6319 j) (e2 : ∀ j : Nat, j ≠ NS9 μ0 x → u 6320 j = μ 6320 j) (e3 : ∀ j : Nat, u 6321 j = μ 6321 j) : rnI μ0 u L (m + 1) (x + 1) k :=
  rnI_st (ft := fun f => f) (fp := fun f => f) (fk := fun f => f) h hx (fun th pa tk => by unfold wst; rw [if_neg (by rw [KS_5 hn hb]; decide), if_neg (by rw [KS_5 hn hb]; decide), if_neg (by rw [KS_5 hn hb]; decide), if_neg (fun h9 => by rw [KS_5 hn hb] at h9; exact absurd h9.1 (by decide))])
    (fun f hf j hj => (e1 j).trans (hf j hj))
    (fun f hf j hj h4 => (e2 j (fun h9 => by
      have h8 : nod μ0 x = μ0 507 (NS9 μ0 x) := rfl
      rw [← h9] at h8
      omega)).trans (hf j hj h4))
    (fun f hf j hj => (e3 j).trans (hf j hj))
theorem rn_rend0 (h : rnI μ0 μ L m x k) (hx : x < L) (hn : ¬ nod μ0 x < 3) (h3 : ¬ nod μ0 x = 3) (hb : μ0 4414 x = 1) (hF : ¬ 0 < μ0 (4416 + (MS9 μ0 x + 1)) k) (e1 : ∀ j : Nat, u 6319 j = μ 6319 j) (e2 : ∀ j : Nat, u 6320 j = μ 6320 j) (e3 : ∀ j : Nat, u 6321 j = μ 6321 j) : rnI μ0 u L (m + 1) (x + 1) k :=
  rnI_st (ft := fun f => f) (fp := fun f => f) (fk := fun f => f) h hx (fun th pa tk => by unfold wst; rw [if_neg (by rw [KS_6 hn h3 hb]; decide), if_neg (by rw [KS_6 hn h3 hb]; decide), if_neg (by rw [KS_6 hn h3 hb]; decide), if_neg (fun h9 => hF h9.2)])
    (fun f hf j hj => (e1 j).trans (hf j hj)) (fun f hf j hj h4 => (e2 j).trans (hf j hj h4)) (fun f hf j hj => (e3 j).trans (hf j hj))
theorem rn_rend1 (h : rnI μ0 μ L m x k) (hx : x < L) (hn : ¬ nod μ0 x < 3) (h3 : ¬ nod μ0 x = 3) (hb : μ0 4414 x = 1) (hF : 0 < μ0 (4416 + (MS9 μ0 x + 1)) k) (hN : NS9 μ0 (MS9 μ0 x) = NS9 μ0 x) (e1 : ∀ j : Nat, u 6319 j = μ 6319 j) (e2 : ∀ j : Nat, u 6320 j = if j = NS9 μ0 x then μ 6320 j + 1 else μ 6320 j) (e3 : ∀ j : Nat, u 6321 j = μ 6321 j) : rnI μ0 u L (m + 1) (MS9 μ0 x + 1) k :=
  rnI_st (ft := fun f => f) (fp := fun f => bmp f (NS9 μ0 x)) (fk := fun f => f) h hx (fun th pa tk => by unfold wst; rw [if_neg (by rw [KS_6 hn h3 hb]; decide), if_neg (by rw [KS_6 hn h3 hb]; decide), if_neg (by rw [KS_6 hn h3 hb]; decide), if_pos (show KS μ0 x = 6 ∧ 0 < rF μ0 k (MS9 μ0 x + 1) from ⟨KS_6 hn h3 hb, hF⟩), hN])
    (fun f hf j hj => (e1 j).trans (hf j hj))
    (fun f hf j hj h4 => by
      show _ = bmp f (NS9 μ0 x) j
      unfold bmp
      rw [e2]
      split
      · rw [hf j hj h4]
      · exact hf j hj h4)
    (fun f hf j hj => (e3 j).trans (hf j hj))
end RN
/-- what the walk of a page leaves, where it fits -/
def wkdR (μ u : va_M) (Wk : Rw) (pp : Int) : Prop := ∃ th pa tk : Nat → Int, (0 < u (4416 + 0) 0 ∧ wlk Wk (cdP μ pp) (μ 15 pp.toNat).toNat (u (4416 + 0) 0) th pa tk) ∧ (∀ j : Nat, j < 900 → u 6319 j = th j) ∧ (∀ j : Nat, j < 900 → u 507 j = 4 → u 6320 j = pa j) ∧ (∀ j : Nat, (j : Int) < μ 15 pp.toNat → u 6321 j = tk j) ∧ (∀ k : Nat, (k : Int) < μ 15 pp.toNat → 0 ≤ u 6321 k ∧ u 6321 k < 900) ∧ ∀ x : Nat, x < 900 → 0 ≤ u 6319 x ∧ u 6319 x ≤ 240000
set_option maxHeartbeats 4000000 in
set_option maxRecDepth 100000 in
theorem LX10_walksPage_12b {p : Program} {l : Launch} {e : Env} {R : Room} {s : State} {m : MethodId} {args : Array Value} {below : List Frame} {meth : Method} {c : Code} {cells slots : Nat} {Q : State → Prop} {dC : Nat → ClassId} {dI : Nat → Nat → Nat} {h0 : Nat} {cI cZ cII cIII : ClassId} (hx : p.tables.exec = Jvm.exec) (hb : c.code = cX10_walksPage) (hml : c.maxLocals = 6) (hown : s.vm.findClass RX10 = some m.cls) (hts : ∀ w ∈ wsG, w.before args s = true) (hK : va_K (dC, dI) vwCl (mT cI cZ cII cIII) s) (hRf : 8 ≤ R.frames) (hRl : 190 ≤ R.locals) (hRc : cells ≤ R.cells) (hRs : slots ≤ R.slots) (μ0 : va_M) (pp : Int) (hexit39 : ∀ (i : Int) (μ : va_M) (H : Heap) (locs : List Loc) (ls : Array Slot), (fr WKF μ0 μ) → (∀ x : Nat, x < 900 → μ 6319 x = 0 ∧ μ 6320 x = 0) → va_P (dC, dI) vwCl (fw (mE cI cZ cII cIII h0) h0 6325 μ) H → va_S (fA h0 6325 s.heap.size) s.heap H locs → lv_has ls 6 [(1, .int (iZ (pp))), (0, .ref h0)] → W p l e R s m args below meth c H locs cells slots Q (F0 m 39 ls [])) :
    ∀ (n9 : Nat) (i : Int) (μ : va_M) (H : Heap) (locs : List Loc) (ls : Array Slot), (0 ≤ i ∧ i ≤ 900) → (fr WKF μ0 μ) → (∀ x : Nat, (x : Int) < i → μ 6319 x = 0 ∧ μ 6320 x = 0) → (1000 - i).toNat < n9 → va_P (dC, dI) vwCl (fw (mE cI cZ cII cIII h0) h0 6325 μ) H → va_S (fA h0 6325 s.heap.size) s.heap H locs → lv_has ls 6 [(2, .int (iZ (i))), (1, .int (iZ (pp))), (0, .ref h0)] → W p l e R s m args below meth c H locs cells slots Q (F0 m 12 ls []) := by
  intro n9
  induction n9 with
  | zero => intro i μ H locs ls hi hf hz hm9 hP hS hl; exact absurd hm9 (Nat.not_lt_zero _)
  | succ n9 ih =>
    intro i μ H locs ls hi hf hz hm9 hP hS hl
    refine lv_iload_n hx hb dX10_walksPage_12 rfl (lv_at hl 0 rfl) ?_
    refine lv_sipush (v := iZ 900) hx hb dX10_walksPage_13 rfl ?_
    refine fz_icmp_ge (tgt := 39) (by constructor <;> omega) (by decide) hx hb dX10_walksPage_16 (by decide) (fun c16_ => ?_) (fun c16_ => ?_)
    · exact hexit39 (i) μ H locs ls (by exact hf) (by
                    intro x hx
                    exact hz x (by omega)) hP hS (lv_sub hl [1, 2] rfl)
    · refine lv_aload_n hx hb dX10_walksPage_19 rfl (lv_at hl 2 rfl) ?_
      refine fz_get (D := (dC, dI)) (ci := 10) (v := .ref (h0 + 6319)) (C := RX10) (T := TX10) (N := 53) hx hb hts inG10 hown hK hP (k := 0) (by decide) (F := mF h0) mE_obj rfl 47 (by decide) (hts _ k1213) (fun _ h9 => h9) rfl dX10_walksPage_20 ?_
      refine lv_iload_n hx hb dX10_walksPage_23 rfl (lv_at hl 0 rfl) ?_
      refine lv_iconst (v := iZ 0) hx hb dX10_walksPage_24 rfl ?_
      refine fz_st (k := 6319) (n := 900) (i := i) (z := 0) hx hb hK hP fA_in hS 0 (by decide) mE_often rfl ⟨by omega, by omega⟩ (by decide) dX10_walksPage_25 (fun H locs hP hS => ?_)
      obtain ⟨μ1, eμ1⟩ : ∃ x : va_M, x = uz μ 6319 (i).toNat (0) := ⟨_, rfl⟩
      rw [← eμ1] at hP
      refine lv_aload_n hx hb dX10_walksPage_26 rfl (lv_at hl 2 rfl) ?_
      refine fz_get (D := (dC, dI)) (ci := 10) (v := .ref (h0 + 6320)) (C := RX10) (T := TX10) (N := 53) hx hb hts inG10 hown hK hP (k := 0) (by decide) (F := mF h0) mE_obj rfl 48 (by decide) (hts _ k1214) (fun _ h9 => h9) rfl dX10_walksPage_27 ?_
      refine lv_iload_n hx hb dX10_walksPage_30 rfl (lv_at hl 0 rfl) ?_
      refine lv_iconst (v := iZ 0) hx hb dX10_walksPage_31 rfl ?_
      refine fz_st (k := 6320) (n := 900) (i := i) (z := 0) hx hb hK hP fA_in hS 0 (by decide) mE_passed rfl ⟨by omega, by omega⟩ (by decide) dX10_walksPage_32 (fun H locs hP hS => ?_)
      obtain ⟨μ2, eμ2⟩ : ∃ x : va_M, x = uz μ1 6320 (i).toNat (0) := ⟨_, rfl⟩
      rw [← eμ2] at hP
      refine lv_iinc (v := iZ (i + 1)) (lv' := [(2, .int (iZ (i + 1))), (1, .int (iZ (pp))), (0, .ref h0)]) hx hb dX10_walksPage_33 hl (k := 0) rfl (iZ_add _ _) (by decide) rfl (fun ls hl => ?_)
      refine lv_goto (tgt := 12) hx hb dX10_walksPage_36 (by decide) ?_
      exact ih (i + 1) μ2 H locs ls (by omega) (by
                    subst eμ2 eμ1
                    exact fr_uz (fr_uz hf (Or.inl rfl)) (Or.inr (Or.inl rfl))) (by
                    subst eμ2 eμ1
                    intro x hx
                    by_cases h9 : x = i.toNat
                    · subst h9; exact ⟨by rw [uz_n (by omega), uz_s], by rw [uz_s]⟩
                    · have h8 := hz x (by omega)
                      exact ⟨by rw [uz_n (by omega), uz_n (by omega)]; exact h8.1, by rw [uz_n (by omega), uz_n (by omega)]; exact h8.2⟩) (by omega) hP hS (lv_sub hl [0, 1, 2] rfl)
set_option maxHeartbeats 4000000 in
set_option maxRecDepth 100000 in
theorem LX10_walksPage_43b {p : Program} {l : Launch} {e : Env} {R : Room} {s : State} {m : MethodId} {args : Array Value} {below : List Frame} {meth : Method} {c : Code} {cells slots : Nat} {Q : State → Prop} {dC : Nat → ClassId} {dI : Nat → Nat → Nat} {h0 : Nat} {cI cZ cII cIII : ClassId} (hx : p.tables.exec = Jvm.exec) (hb : c.code = cX10_walksPage) (hml : c.maxLocals = 6) (hown : s.vm.findClass RX10 = some m.cls) (hts : ∀ w ∈ wsG, w.before args s = true) (hK : va_K (dC, dI) vwCl (mT cI cZ cII cIII) s) (hRf : 8 ≤ R.frames) (hRl : 190 ≤ R.locals) (hRc : cells ≤ R.cells) (hRs : slots ≤ R.slots) (μ0 : va_M) (pp : Int) (P9 : Int) (w : Rw) (hO : stOK μ0) (hRS : RS μ0 w 0 0) (hT : TR μ0 0 w) (hB : skB w) (h39 : μ0 0 39 = rS w) (hpp : 0 ≤ pp ∧ pp < 8) (hP9 : 1 ≤ P9 ∧ P9 ≤ 60) (hfix : ∀ c : Nat, (c : Int) ≤ P9 → cFix μ0 P9 pp.toNat c) (hexit271 : ∀ (pos : Int) (q : Int) (fl : Int) (μ : va_M) (H : Heap) (locs : List Loc) (ls : Array Slot), (fr WKF μ0 μ) → (∀ k : Nat, (k : Int) < P9 → 0 ≤ μ 6321 k ∧ μ 6321 k < 900) → (∀ x : Nat, x < 900 → 0 ≤ μ 6319 x ∧ μ 6319 x ≤ 240000) → (∃ m : Nat, m ≤ 240000 ∧ rnI μ0 μ (μ0 0 39).toNat m (μ0 0 39).toNat P9.toNat) → va_P (dC, dI) vwCl (fw (mE cI cZ cII cIII h0) h0 6325 μ) H → va_S (fA h0 6325 s.heap.size) s.heap H locs → lv_has ls 6 [] → W p l e R s m args below meth c H locs cells slots Q (F0 m 271 ls [])) :
    ∀ (n9 : Nat) (pos : Int) (q : Int) (fl : Int) (μ : va_M) (H : Heap) (locs : List Loc) (ls : Array Slot), (0 ≤ q ∧ q ≤ μ0 0 39) → (0 ≤ pos ∧ pos ≤ P9) → (fl = 0 ∨ fl = 1) → (fr WKF μ0 μ) → (0 < μ0 (4416 + q.toNat) pos.toNat) → (∀ k : Nat, (k : Int) < pos → 0 ≤ μ 6321 k ∧ μ 6321 k < 900) → (∀ x : Nat, x < 900 → 0 ≤ μ 6319 x ∧ μ 6319 x + ((61 - pos) * 3802 + fl * 1901 + (1900 - q)) ≤ 240000) → (fl = 0 → Gs w q.toNat) → (∃ m : Nat, (m : Int) + ((61 - pos) * 3802 + fl * 1901 + (1900 - q)) ≤ 240000 ∧ rnI μ0 μ (μ0 0 39).toNat m q.toNat pos.toNat) → ((61 - pos) * 3802 + fl * 1901 + (1900 - q)).toNat < n9 → va_P (dC, dI) vwCl (fw (mE cI cZ cII cIII h0) h0 6325 μ) H → va_S (fA h0 6325 s.heap.size) s.heap H locs → lv_has ls 6 [(3, .int (iZ (pos))), (2, .int (iZ (q))), (1, .int (iZ (pp))), (0, .ref h0)] → W p l e R s m args below meth c H locs cells slots Q (F0 m 43 ls []) := by
  intro n9
  induction n9 with
  | zero => intro pos q fl μ H locs ls hq hpos hfl hf hcan htk hof hG hrun hm9 hP hS hl; exact absurd hm9 (Nat.not_lt_zero _)
  | succ n9 ih =>
    intro pos q fl μ H locs ls hq hpos hfl hf hcan htk hof hG hrun hm9 hP hS hl
    have e39 : μ 0 39 = μ0 0 39 := hf 0 39 (by unfold WKF; omega)
    have hb1 := hO.1
    have hb2 := hO.2.1
    have hO1 := stOK_WK hO hf
    have hb3 := hO.2.2.1.2.1
    refine lv_iload_n hx hb dX10_walksPage_43 rfl (lv_at hl 1 rfl) ?_
    refine lv_aload_n hx hb dX10_walksPage_44 rfl (lv_at hl 3 rfl) ?_
    refine fz_get (D := (dC, dI)) (ci := 10) (v := .int (iZ (μ 0 39))) (C := RX10) (T := TX10) (N := 53) hx hb hts inG10 hown hK hP (k := 0) (by decide) (F := mF h0) mE_obj rfl 39 (by decide) (hts _ k1205) (fun _ h9 => h9) rfl dX10_walksPage_45 ?_
    refine fz_icmp_ge (tgt := 271) (by constructor <;> omega) (by constructor <;> omega) hx hb dX10_walksPage_48 (by decide) (fun c48_ => ?_) (fun c48_ => ?_)
    · exact hexit271 (pos) (q) (fl) μ H locs ls (by exact hf) (by
                    intro k hk
                    have hp9 : pos = P9 := by
                      obtain ⟨F1, F2, F3⟩ := hfix pos.toNat (by omega)
                      by_cases h9 : (pos.toNat : Int) = P9
                      · omega
                      · rw [if_neg h9] at F2
                        rw [show q.toNat = (μ0 0 39).toNat by omega] at hcan
                        omega
                    exact htk k (by omega)) (by
                    intro x hx
                    have h9 := hof x hx
                    omega) (by
                    obtain ⟨m, hm1, hm2⟩ := hrun
                    have hp9 : pos = P9 := by
                      obtain ⟨F1, F2, F3⟩ := hfix pos.toNat (by omega)
                      by_cases h9 : (pos.toNat : Int) = P9
                      · omega
                      · rw [if_neg h9] at F2
                        rw [show q.toNat = (μ0 0 39).toNat by omega] at hcan
                        omega
                    rw [show q.toNat = (μ0 0 39).toNat by omega, hp9] at hm2
                    exact ⟨m, by omega, hm2⟩) hP hS (lv_sub hl [] rfl)
    · obtain ⟨⟨n1, n2⟩, n3, n4⟩ := hO.2.2.2 q.toNat (by omega)
      have m12 : μ 4412 q.toNat = μ0 4412 q.toNat := hf _ _ (by unfold WKF; omega)
      have m13 : μ 4413 q.toNat = μ0 4413 q.toNat := hf _ _ (by unfold WKF; omega)
      have m14 : μ 4414 q.toNat = μ0 4414 q.toNat := hf _ _ (by unfold WKF; omega)
      have mn : nod μ q.toNat = nod μ0 q.toNat := by unfold nod; rw [m12, hf 507 _ (by unfold WKF; omega)]
      obtain ⟨F1, F2, F3⟩ := hfix pos.toNat (by omega)
      have hw1 := F3 q.toNat (by omega)
      have hofi := hof (μ 4412 q.toNat).toNat (by omega)
      have eq1 : (q + 1).toNat = q.toNat + 1 := by omega
      have r1 := F1 (q.toNat + 1) (by omega)
      have r0 := F1 q.toNat (by omega)
      have hsf : fl = 0 → sfOK μ0 μ0 (Gs w) q.toNat := fun h => by
        rcases hG h with h9 | h9
        · exact sf_flow w 0 0 true hRS hT.2 hB.1 hB.2.2.2.2 (fun y hy => Or.inl hy) (fun _ _ => Or.inr (by omega)) q.toNat h9
        · omega
      refine lv_aload_n hx hb dX10_walksPage_51 rfl (lv_at hl 3 rfl) ?_
      refine fz_get (D := (dC, dI)) (ci := 10) (v := .ref (h0 + 4412)) (C := RX10) (T := TX10) (N := 53) hx hb hts inG10 hown hK hP (k := 0) (by decide) (F := mF h0) mE_obj rfl 40 (by decide) (hts _ k1206) (fun _ h9 => h9) rfl dX10_walksPage_52 ?_
      refine lv_iload_n hx hb dX10_walksPage_55 rfl (lv_at hl 1 rfl) ?_
      refine fz_ld (k := 4412) (n := 1900) hx hb hK hP 0 (by decide) mE_stateNode rfl ⟨by omega, by omega⟩ (by decide) dX10_walksPage_56 ?_
      refine lv_istore (lv' := [(4, .int (iZ (μ 4412 (q).toNat))), (3, .int (iZ (pos))), (2, .int (iZ (q))), (1, .int (iZ (pp))), (0, .ref h0)]) hx hb dX10_walksPage_57 hl (by decide) rfl (fun ls hl => ?_)
      refine lv_aload_n hx hb dX10_walksPage_59 rfl (lv_at hl 4 rfl) ?_
      refine lv_iload_n hx hb dX10_walksPage_60 rfl (lv_at hl 2 rfl) ?_
      refine va_calli (va_runV (As := [.int (iZ (q))]) (rest := []) ⟨hx, hb, hml, hown, hts⟩ (m_isLeaf l dC dI cI cZ cII cIII h0 H.size μ (q) (by first | assumption | omega | exact ⟨by omega, by omega⟩) (by omega)) (cwV 1 hts (gV_G k1508 k1510 ks_yX10_isLeaf k13 k1511) rfl rfl rfl (by decide +kernel) ⟨by show 1 + 1 ≤ _; omega, by show 8 + (2 + 11) + (14) ≤ _; omega⟩) ⟨fun a U g mk q => by obtain ⟨q0, q1, qP, qK⟩ := q; exact ⟨q0, q1, qP, va_K.moved (u := U) (U := U.calling g mk a) (Vm.Alike.refl U.vm) qK⟩, va_recv hK hP (ci := 10) (q0 := 0) rfl ((fw_get (by decide)).trans (by rw [mE_obj]; rfl)), fun U hU hW => ⟨rfl, by rw [hU], by rw [hU]; exact hP, va_K.moved hW.alike hK⟩⟩ rfl rfl hl.1 rfl (lv_room (Nat.le_of_ble_eq_true rfl)) dX10_walksPage_61 ⟨hRc, hRs⟩) hS (fun q _ h => fA_le hS.1 q h) (fA_le hS.1) (fun r9 u9 t9 H1 locs ht9 hvm9 hw9 hB9 hz9 hk9 hS => ?_)
      obtain ⟨μ3, r4⟩ := u9
      obtain ⟨hP, -⟩ := hB9
      rw [ht9] at hP
      generalize H1 = H at hP hS ⊢
      obtain ⟨e9, hw9⟩ := hw9
      have e9 : r9 = iZ r4 := e9
      subst e9
      simp only at hP hw9
      have hμ3 := hw9; clear hw9
      rw [hμ3.1] at hP; have hμ3 := hμ3.2
      have h1 := hμ3
      rw [mn] at h1
      have h1b := if_01 h1
      refine fz_if_eq (tgt := 95) (by constructor <;> omega) hx hb dX10_walksPage_64 (by decide) (fun c64_ => ?_) (fun c64_ => ?_)
      · have hnl := if_not h1 (by omega)
        have g9 := n4 (by unfold nod at hnl; omega)
        have r2 := F1 (μ0 4413 q.toNat + 1).toNat (by omega)
        have hnd4 : nod μ0 q.toNat ≤ 4 := by
          unfold nod
          exact (hO.2.2.1.2.2 (μ0 4412 q.toNat).toNat (by omega)).1.2
        refine lv_aload_n hx hb dX10_walksPage_95 rfl (lv_at hl 4 rfl) ?_
        refine fz_get (D := (dC, dI)) (ci := 10) (v := .ref (h0 + 4414)) (C := RX10) (T := TX10) (N := 53) hx hb hts inG10 hown hK hP (k := 0) (by decide) (F := mF h0) mE_obj rfl 42 (by decide) (hts _ k1208) (fun _ h9 => h9) rfl dX10_walksPage_96 ?_
        refine lv_iload_n hx hb dX10_walksPage_99 rfl (lv_at hl 2 rfl) ?_
        refine fz_zld (k := 4414) (n := 1900) hx hb hK hP 1 (by decide) mE_isEnd rfl ⟨by omega, by omega⟩ (by decide) dX10_walksPage_100 ?_
        refine fz_if_eq (tgt := 180) (by constructor <;> omega) hx hb dX10_walksPage_101 (by decide) (fun c101_ => ?_) (fun c101_ => ?_)
        · have hend : μ0 4414 q.toNat = 0 := by omega
          refine lv_aload_n hx hb dX10_walksPage_180 rfl (lv_at hl 4 rfl) ?_
          refine lv_iload_n hx hb dX10_walksPage_181 rfl (lv_at hl 2 rfl) ?_
          refine va_calli (va_runV (As := [.int (iZ (q))]) (rest := []) ⟨hx, hb, hml, hown, hts⟩ (m_isOption l dC dI cI cZ cII cIII h0 H.size μ (q) (by first | assumption | omega | exact ⟨by omega, by omega⟩) (by omega)) (cwV 1 hts (gV_G k1520 k1522 ks_yX10_isOption k13 k1523) rfl rfl rfl (by decide +kernel) ⟨by show 1 + 1 ≤ _; omega, by show 8 + (2 + 11) + (14) ≤ _; omega⟩) ⟨fun a U g mk q => by obtain ⟨q0, q1, qP, qK⟩ := q; exact ⟨q0, q1, qP, va_K.moved (u := U) (U := U.calling g mk a) (Vm.Alike.refl U.vm) qK⟩, va_recv hK hP (ci := 10) (q0 := 0) rfl ((fw_get (by decide)).trans (by rw [mE_obj]; rfl)), fun U hU hW => ⟨rfl, by rw [hU], by rw [hU]; exact hP, va_K.moved hW.alike hK⟩⟩ rfl rfl hl.1 rfl (lv_room (Nat.le_of_ble_eq_true rfl)) dX10_walksPage_182 ⟨hRc, hRs⟩) hS (fun q _ h => fA_le hS.1 q h) (fA_le hS.1) (fun r9 u9 t9 H1 locs ht9 hvm9 hw9 hB9 hz9 hk9 hS => ?_)
          obtain ⟨μ5, r6⟩ := u9
          obtain ⟨hP, -⟩ := hB9
          rw [ht9] at hP
          generalize H1 = H at hP hS ⊢
          obtain ⟨e9, hw9⟩ := hw9
          have e9 : r9 = iZ r6 := e9
          subst e9
          simp only at hP hw9
          have hμ5 := hw9; clear hw9
          rw [hμ5.1] at hP; have hμ5 := hμ5.2
          have h2 := hμ5
          rw [mn] at h2
          have h2b := if_01 h2
          refine fz_if_eq (tgt := 201) (by constructor <;> omega) hx hb dX10_walksPage_185 (by decide) (fun c185_ => ?_) (fun c185_ => ?_)
          · have hop := if_not h2 (by omega)
            have hc9 : 0 < μ0 (4416 + (q.toNat + 1)) pos.toNat := by
              rw [hw1] at hcan
              unfold wF at hcan
              rw [if_neg hnl, if_pos (by omega), if_neg hop] at hcan
              exact hcan
            refine lv_iconst (v := iZ 1) hx hb dX10_walksPage_201 rfl ?_
            refine lv_goto (tgt := 206) hx hb dX10_walksPage_202 (by decide) ?_
            refine lv_istore (lv' := [(5, .int (iZ (1))), (4, .int (iZ (μ 4412 (q).toNat))), (3, .int (iZ (pos))), (2, .int (iZ (q))), (1, .int (iZ (pp))), (0, .ref h0)]) hx hb dX10_walksPage_206 hl (by decide) rfl (fun ls hl => ?_)
            refine lv_aload_n hx hb dX10_walksPage_208 rfl (lv_at hl 5 rfl) ?_
            refine fz_get (D := (dC, dI)) (ci := 10) (v := .ref (h0 + 6319)) (C := RX10) (T := TX10) (N := 53) hx hb hts inG10 hown hK hP (k := 0) (by decide) (F := mF h0) mE_obj rfl 47 (by decide) (hts _ k1213) (fun _ h9 => h9) rfl dX10_walksPage_209 ?_
            refine lv_iload hx hb dX10_walksPage_212 (lv_at hl 1 rfl) ?_
            refine lv_dup2_11 hx hb dX10_walksPage_214 rfl rfl ?_
            refine fz_ld (k := 6319) (n := 900) hx hb hK hP 0 (by decide) mE_often rfl ⟨by omega, by omega⟩ (by decide) dX10_walksPage_215 ?_
            refine lv_iload hx hb dX10_walksPage_216 (lv_at hl 0 rfl) ?_
            refine fz_if_eq (tgt := 225) (by decide) hx hb dX10_walksPage_218 (by decide) (fun h9 => absurd h9 (by decide)) (fun c218_ => ?_)
            refine lv_iconst (v := iZ 1) hx hb dX10_walksPage_221 rfl ?_
            refine lv_goto (tgt := 226) hx hb dX10_walksPage_222 (by decide) ?_
            refine lv_iadd hx hb dX10_walksPage_226 ?_
            refine lv_topi (fun x9 ex9 => ?_)
            obtain rfl : x9 = iZ ((μ 6319 (μ 4412 (q).toNat).toNat) + 1) := ex9.trans (iZ_add _ _)
            refine fz_st (k := 6319) (n := 900) (i := (μ 4412 (q).toNat)) (z := ((μ 6319 (μ 4412 (q).toNat).toNat) + 1)) hx hb hK hP fA_in hS 0 (by decide) mE_often rfl ⟨by omega, by omega⟩ (by decide) dX10_walksPage_227 (fun H locs hP hS => ?_)
            obtain ⟨μ7, eμ7⟩ : ∃ x : va_M, x = uz μ 6319 (μ 4412 (q).toNat).toNat ((μ 6319 (μ 4412 (q).toNat).toNat) + 1) := ⟨_, rfl⟩
            rw [← eμ7] at hP
            refine lv_aload_n hx hb dX10_walksPage_228 rfl (lv_at hl 5 rfl) ?_
            refine fz_get (D := (dC, dI)) (ci := 10) (v := .ref (h0 + 6320)) (C := RX10) (T := TX10) (N := 53) hx hb hts inG10 hown hK hP (k := 0) (by decide) (F := mF h0) mE_obj rfl 48 (by decide) (hts _ k1214) (fun _ h9 => h9) rfl dX10_walksPage_229 ?_
            refine lv_iload hx hb dX10_walksPage_232 (lv_at hl 1 rfl) ?_
            refine lv_dup2_11 hx hb dX10_walksPage_234 rfl rfl ?_
            refine fz_ld (k := 6320) (n := 900) hx hb hK hP 0 (by decide) mE_passed rfl ⟨by omega, by omega⟩ (by decide) dX10_walksPage_235 ?_
            rw [show μ7 6320 (μ 4412 (q).toNat).toNat = μ 6320 (μ 4412 (q).toNat).toNat from by rw [eμ7, uz_n (by omega)]]
            refine lv_iload hx hb dX10_walksPage_236 (lv_at hl 0 rfl) ?_
            refine fz_if_eq (tgt := 245) (by decide) hx hb dX10_walksPage_238 (by decide) (fun h9 => absurd h9 (by decide)) (fun c238_ => ?_)
            refine lv_iconst (v := iZ 1) hx hb dX10_walksPage_241 rfl ?_
            refine lv_goto (tgt := 246) hx hb dX10_walksPage_242 (by decide) ?_
            refine lv_iadd hx hb dX10_walksPage_246 ?_
            refine lv_topi (fun x9 ex9 => ?_)
            obtain rfl : x9 = iZ ((μ 6320 (μ 4412 (q).toNat).toNat) + 1) := ex9.trans (iZ_add _ _)
            refine fz_st (k := 6320) (n := 900) (i := (μ 4412 (q).toNat)) (z := ((μ 6320 (μ 4412 (q).toNat).toNat) + 1)) hx hb hK hP fA_in hS 0 (by decide) mE_passed rfl ⟨by omega, by omega⟩ (by decide) dX10_walksPage_247 (fun H locs hP hS => ?_)
            obtain ⟨μ8, eμ8⟩ : ∃ x : va_M, x = uz μ7 6320 (μ 4412 (q).toNat).toNat ((μ 6320 (μ 4412 (q).toNat).toNat) + 1) := ⟨_, rfl⟩
            rw [← eμ8] at hP
            refine lv_iload hx hb dX10_walksPage_248 (lv_at hl 0 rfl) ?_
            refine fz_if_eq (tgt := 259) (by decide) hx hb dX10_walksPage_250 (by decide) (fun h9 => absurd h9 (by decide)) (fun c250_ => ?_)
            obtain ⟨fl2, hfl2⟩ : ∃ z : Int, z = fl := ⟨_, rfl⟩
            refine lv_iload_n hx hb dX10_walksPage_253 rfl (lv_at hl 3 rfl) ?_
            refine lv_iconst (v := iZ 1) hx hb dX10_walksPage_254 rfl ?_
            refine lv_iadd hx hb dX10_walksPage_255 ?_
            refine lv_topi (fun x9 ex9 => ?_)
            obtain rfl : x9 = iZ (q + 1) := ex9.trans (iZ_add _ _)
            refine lv_goto (tgt := 267) hx hb dX10_walksPage_256 (by decide) ?_
            refine lv_istore_n (lv' := [(2, .int (iZ (q + 1))), (5, .int (iZ (1))), (4, .int (iZ (μ 4412 (q).toNat))), (3, .int (iZ (pos))), (1, .int (iZ (pp))), (0, .ref h0)]) hx hb dX10_walksPage_267 rfl hl (by decide) rfl (fun ls hl => ?_)
            refine lv_goto (tgt := 43) hx hb dX10_walksPage_268 (by decide) ?_
            exact ih (pos) (q + 1) (fl2) μ8 H locs ls (by omega) (by omega) (by omega) (by
                                subst eμ8 eμ7
                                first
                                  | exact fr_uz (fr_uz hf (Or.inr (Or.inr rfl))) (Or.inl rfl)
                                  | exact fr_uz (fr_uz hf (Or.inl rfl)) (Or.inr (Or.inl rfl))
                                  | exact fr_uz hf (Or.inr (Or.inl rfl))) (by
                                first
                                  | (rw [eq1]; exact hc9)
                                  | (rw [eq1, show (pos + 1).toNat = pos.toNat + 1 by omega]; exact cn2)
                                  | (rw [m13]; exact hc7)) (by
                                subst eμ8 eμ7
                                intro k hk
                                first
                                  | (rw [uz_n (by omega), uz_n (by omega)]; exact htk k hk)
                                  | (rw [uz_n (by omega)]; exact htk k hk)
                                  | (rw [uz_n (by omega)]
                                     by_cases h9 : k = pos.toNat
                                     · subst h9; rw [uz_s]; omega
                                     · rw [uz_n (by omega)]; exact htk k (by omega))) (by
                                subst eμ8 eμ7
                                intro x hx
                                have h9 := hof x hx
                                by_cases hxi : x = (μ 4412 q.toNat).toNat
                                · first
                                    | (rw [hxi, uz_s]; omega)
                                    | (rw [hxi, uz_n (by omega), uz_s]; omega)
                                    | (rw [uz_n (by omega)]; omega)
                                · first
                                    | (rw [uz_n (by omega), uz_n (by omega)]; omega)
                                    | (rw [uz_n (by omega)]; omega)) (by
                                intro h9
                                first
                                  | omega
                                  | (clear hbk
                                     rw [m13]
                                     obtain ⟨y, y1, y2⟩ := sf_back (G := Gs w) w 0 0 true hRS hT.2 hB.1 (fun z hz => Or.inl hz) q.toNat (μ0 4412 q.toNat).toNat (by omega) (by omega) hend (by omega) (by unfold nod at hop hnl hnd4; omega)
                                     rw [y1, show ((y : Int) + 1).toNat = y + 1 by omega]
                                     exact y2)
                                  | (obtain ⟨nd, b1, b2⟩ := hsf (by omega)
                                     have b3 : nod μ0 q.toNat = μ0 507 nd := by unfold nod; rw [b1, Int.toNat_natCast]
                                     rcases b2 (by omega) with ⟨b4, b5, b6⟩ | ⟨b4, b5, b6⟩
                                     · first
                                         | (rw [eq1]; exact b5)
                                         | (obtain ⟨y, y1, y2⟩ := b6 (by omega)
                                            rw [m13, y1, show ((y : Int) + 1).toNat = y + 1 by omega]
                                            exact y2)
                                     · first
                                         | (rw [eq1]; exact b6)
                                         | omega)) (by
                                subst eμ8 eμ7
                                obtain ⟨m, hm1, hm2⟩ := hrun
                                have hI9 : (μ 4412 q.toNat).toNat = NS9 μ0 q.toNat := by unfold NS9; rw [m12]
                                refine ⟨m + 1, by omega, ?_⟩
                                rw [hI9]
                                rw [eq1]
                                exact rn_rep hm2 (by omega) hnl hop (by omega) (fun j => by
                                  by_cases h9 : j = NS9 μ0 q.toNat
                                  · rw [if_pos h9, h9, uz_n (by omega), uz_s]
                                  · rw [if_neg h9, uz_n (by omega), uz_n (by omega)]) (fun j => by
                                  by_cases h9 : j = NS9 μ0 q.toNat
                                  · rw [if_pos h9, h9, uz_s]
                                  · rw [if_neg h9, uz_n (by omega), uz_n (by omega)]) (fun j => by rw [uz_n (by omega), uz_n (by omega)])) (by omega) hP hS (lv_sub hl [3, 0, 4, 5] rfl)
          · have hop := if_get h2 (by omega)
            have hc8 : 0 < μ0 (4416 + (μ0 4413 q.toNat + 1).toNat) pos.toNat ∨ 0 < μ0 (4416 + (q.toNat + 1)) pos.toNat := by
              rw [hw1] at hcan
              unfold wF at hcan
              rw [if_neg hnl, if_pos (by omega), if_pos hop] at hcan
              omega
            refine lv_aload_n hx hb dX10_walksPage_188 rfl (lv_at hl 4 rfl) ?_
            refine fz_get (D := (dC, dI)) (ci := 10) (v := .ref (h0 + 4415)) (C := RX10) (T := TX10) (N := 53) hx hb hts inG10 hown hK hP (k := 0) (by decide) (F := mF h0) mE_obj rfl 43 (by decide) (hts _ k1209) (fun _ h9 => h9) rfl dX10_walksPage_189 ?_
            refine lv_iload_n hx hb dX10_walksPage_192 rfl (lv_at hl 2 rfl) ?_
            refine lv_iconst (v := iZ 1) hx hb dX10_walksPage_193 rfl ?_
            refine lv_iadd hx hb dX10_walksPage_194 ?_
            refine lv_topi (fun x9 ex9 => ?_)
            obtain rfl : x9 = iZ (q + 1) := ex9.trans (iZ_add _ _)
            refine fz_ald (k := 4415) (n := 1900) (k2 := (4416 + (q + 1).toNat)) hx hb hK hP 2 rfl (by decide) mE_can rfl ⟨by omega, by omega⟩ (by decide) (if_pos (by omega)) dX10_walksPage_195 ?_
            refine lv_iload_n hx hb dX10_walksPage_196 rfl (lv_at hl 1 rfl) ?_
            refine fz_ld (k := (4416 + (q + 1).toNat)) (n := 62) hx hb hK hP 0 (by omega) (mE_canR (by omega)) rfl ⟨by omega, by omega⟩ (by decide) dX10_walksPage_197 ?_
            rw [show μ (4416 + (q + 1).toNat) (pos).toNat = μ0 (4416 + (q.toNat + 1)) pos.toNat from (by rw [eq1]; exact hf _ _ (by unfold WKF; omega))]
            refine fz_if_le (tgt := 205) (by constructor <;> omega) hx hb dX10_walksPage_198 (by decide) (fun c198_ => ?_) (fun c198_ => ?_)
            · have hc7 : 0 < μ0 (4416 + (μ0 4413 q.toNat + 1).toNat) pos.toNat := by omega
              have hgt : q < μ0 4413 q.toNat := by
                obtain ⟨y, y1, y2⟩ := RS_gt (μ := μ0) w 0 0 hRS hT.2 hB.1 q.toNat (μ0 4412 q.toNat).toNat (by omega) (by omega) hend (by omega) (by unfold nod at hnl; omega)
                omega
              refine lv_iconst (v := iZ 0) hx hb dX10_walksPage_205 rfl ?_
              refine lv_istore (lv' := [(5, .int (iZ (0))), (4, .int (iZ (μ 4412 (q).toNat))), (3, .int (iZ (pos))), (2, .int (iZ (q))), (1, .int (iZ (pp))), (0, .ref h0)]) hx hb dX10_walksPage_206 hl (by decide) rfl (fun ls hl => ?_)
              refine lv_aload_n hx hb dX10_walksPage_208 rfl (lv_at hl 5 rfl) ?_
              refine fz_get (D := (dC, dI)) (ci := 10) (v := .ref (h0 + 6319)) (C := RX10) (T := TX10) (N := 53) hx hb hts inG10 hown hK hP (k := 0) (by decide) (F := mF h0) mE_obj rfl 47 (by decide) (hts _ k1213) (fun _ h9 => h9) rfl dX10_walksPage_209 ?_
              refine lv_iload hx hb dX10_walksPage_212 (lv_at hl 1 rfl) ?_
              refine lv_dup2_11 hx hb dX10_walksPage_214 rfl rfl ?_
              refine fz_ld (k := 6319) (n := 900) hx hb hK hP 0 (by decide) mE_often rfl ⟨by omega, by omega⟩ (by decide) dX10_walksPage_215 ?_
              refine lv_iload hx hb dX10_walksPage_216 (lv_at hl 0 rfl) ?_
              refine fz_if_eq (tgt := 225) (by decide) hx hb dX10_walksPage_218 (by decide) (fun c218_ => ?_) (fun h9 => absurd h9 (by decide))
              refine lv_iconst (v := iZ 0) hx hb dX10_walksPage_225 rfl ?_
              refine lv_iadd hx hb dX10_walksPage_226 ?_
              refine lv_topi (fun x9 ex9 => ?_)
              obtain rfl : x9 = iZ ((μ 6319 (μ 4412 (q).toNat).toNat) + 0) := ex9.trans (iZ_add _ _)
              refine fz_st (k := 6319) (n := 900) (i := (μ 4412 (q).toNat)) (z := ((μ 6319 (μ 4412 (q).toNat).toNat) + 0)) hx hb hK hP fA_in hS 0 (by decide) mE_often rfl ⟨by omega, by omega⟩ (by decide) dX10_walksPage_227 (fun H locs hP hS => ?_)
              obtain ⟨μ10, eμ10⟩ : ∃ x : va_M, x = uz μ 6319 (μ 4412 (q).toNat).toNat ((μ 6319 (μ 4412 (q).toNat).toNat) + 0) := ⟨_, rfl⟩
              rw [← eμ10] at hP
              refine lv_aload_n hx hb dX10_walksPage_228 rfl (lv_at hl 5 rfl) ?_
              refine fz_get (D := (dC, dI)) (ci := 10) (v := .ref (h0 + 6320)) (C := RX10) (T := TX10) (N := 53) hx hb hts inG10 hown hK hP (k := 0) (by decide) (F := mF h0) mE_obj rfl 48 (by decide) (hts _ k1214) (fun _ h9 => h9) rfl dX10_walksPage_229 ?_
              refine lv_iload hx hb dX10_walksPage_232 (lv_at hl 1 rfl) ?_
              refine lv_dup2_11 hx hb dX10_walksPage_234 rfl rfl ?_
              refine fz_ld (k := 6320) (n := 900) hx hb hK hP 0 (by decide) mE_passed rfl ⟨by omega, by omega⟩ (by decide) dX10_walksPage_235 ?_
              rw [show μ10 6320 (μ 4412 (q).toNat).toNat = μ 6320 (μ 4412 (q).toNat).toNat from by rw [eμ10, uz_n (by omega)]]
              refine lv_iload hx hb dX10_walksPage_236 (lv_at hl 0 rfl) ?_
              refine fz_if_eq (tgt := 245) (by decide) hx hb dX10_walksPage_238 (by decide) (fun c238_ => ?_) (fun h9 => absurd h9 (by decide))
              refine lv_iconst (v := iZ 0) hx hb dX10_walksPage_245 rfl ?_
              refine lv_iadd hx hb dX10_walksPage_246 ?_
              refine lv_topi (fun x9 ex9 => ?_)
              obtain rfl : x9 = iZ ((μ 6320 (μ 4412 (q).toNat).toNat) + 0) := ex9.trans (iZ_add _ _)
              refine fz_st (k := 6320) (n := 900) (i := (μ 4412 (q).toNat)) (z := ((μ 6320 (μ 4412 (q).toNat).toNat) + 0)) hx hb hK hP fA_in hS 0 (by decide) mE_passed rfl ⟨by omega, by omega⟩ (by decide) dX10_walksPage_247 (fun H locs hP hS => ?_)
              obtain ⟨μ11, eμ11⟩ : ∃ x : va_M, x = uz μ10 6320 (μ 4412 (q).toNat).toNat ((μ 6320 (μ 4412 (q).toNat).toNat) + 0) := ⟨_, rfl⟩
              rw [← eμ11] at hP
              refine lv_iload hx hb dX10_walksPage_248 (lv_at hl 0 rfl) ?_
              refine fz_if_eq (tgt := 259) (by decide) hx hb dX10_walksPage_250 (by decide) (fun c250_ => ?_) (fun h9 => absurd h9 (by decide))
              obtain ⟨fl2, hfl2⟩ : ∃ z : Int, z = fl := ⟨_, rfl⟩
              refine lv_aload_n hx hb dX10_walksPage_259 rfl (lv_at hl 5 rfl) ?_
              refine fz_get (D := (dC, dI)) (ci := 10) (v := .ref (h0 + 4413)) (C := RX10) (T := TX10) (N := 53) hx hb hts inG10 hown hK hP (k := 0) (by decide) (F := mF h0) mE_obj rfl 41 (by decide) (hts _ k1207) (fun _ h9 => h9) rfl dX10_walksPage_260 ?_
              refine lv_iload_n hx hb dX10_walksPage_263 rfl (lv_at hl 3 rfl) ?_
              refine fz_ld (k := 4413) (n := 1900) hx hb hK hP 0 (by decide) mE_other rfl ⟨by omega, by omega⟩ (by decide) dX10_walksPage_264 ?_
              rw [show μ11 4413 (q).toNat = μ 4413 (q).toNat from by rw [eμ11, uz_n (by omega), eμ10, uz_n (by omega)]]
              refine lv_iconst (v := iZ 1) hx hb dX10_walksPage_265 rfl ?_
              refine lv_iadd hx hb dX10_walksPage_266 ?_
              refine lv_topi (fun x9 ex9 => ?_)
              obtain rfl : x9 = iZ ((μ 4413 (q).toNat) + 1) := ex9.trans (iZ_add _ _)
              refine lv_istore_n (lv' := [(2, .int (iZ ((μ 4413 (q).toNat) + 1))), (5, .int (iZ (0))), (4, .int (iZ (μ 4412 (q).toNat))), (3, .int (iZ (pos))), (1, .int (iZ (pp))), (0, .ref h0)]) hx hb dX10_walksPage_267 rfl hl (by decide) rfl (fun ls hl => ?_)
              refine lv_goto (tgt := 43) hx hb dX10_walksPage_268 (by decide) ?_
              exact ih (pos) ((μ 4413 (q).toNat) + 1) (fl2) μ11 H locs ls (by omega) (by omega) (by omega) (by
                                    subst eμ11 eμ10
                                    first
                                      | exact fr_uz (fr_uz hf (Or.inr (Or.inr rfl))) (Or.inl rfl)
                                      | exact fr_uz (fr_uz hf (Or.inl rfl)) (Or.inr (Or.inl rfl))
                                      | exact fr_uz hf (Or.inr (Or.inl rfl))) (by
                                    first
                                      | (rw [eq1]; exact hc9)
                                      | (rw [eq1, show (pos + 1).toNat = pos.toNat + 1 by omega]; exact cn2)
                                      | (rw [m13]; exact hc7)) (by
                                    subst eμ11 eμ10
                                    intro k hk
                                    first
                                      | (rw [uz_n (by omega), uz_n (by omega)]; exact htk k hk)
                                      | (rw [uz_n (by omega)]; exact htk k hk)
                                      | (rw [uz_n (by omega)]
                                         by_cases h9 : k = pos.toNat
                                         · subst h9; rw [uz_s]; omega
                                         · rw [uz_n (by omega)]; exact htk k (by omega))) (by
                                    subst eμ11 eμ10
                                    intro x hx
                                    have h9 := hof x hx
                                    by_cases hxi : x = (μ 4412 q.toNat).toNat
                                    · first
                                        | (rw [hxi, uz_s]; omega)
                                        | (rw [hxi, uz_n (by omega), uz_s]; omega)
                                        | (rw [uz_n (by omega)]; omega)
                                    · first
                                        | (rw [uz_n (by omega), uz_n (by omega)]; omega)
                                        | (rw [uz_n (by omega)]; omega)) (by
                                    intro h9
                                    first
                                      | omega
                                      | (clear hbk
                                         rw [m13]
                                         obtain ⟨y, y1, y2⟩ := sf_back (G := Gs w) w 0 0 true hRS hT.2 hB.1 (fun z hz => Or.inl hz) q.toNat (μ0 4412 q.toNat).toNat (by omega) (by omega) hend (by omega) (by unfold nod at hop hnl hnd4; omega)
                                         rw [y1, show ((y : Int) + 1).toNat = y + 1 by omega]
                                         exact y2)
                                      | (obtain ⟨nd, b1, b2⟩ := hsf (by omega)
                                         have b3 : nod μ0 q.toNat = μ0 507 nd := by unfold nod; rw [b1, Int.toNat_natCast]
                                         rcases b2 (by omega) with ⟨b4, b5, b6⟩ | ⟨b4, b5, b6⟩
                                         · first
                                             | (rw [eq1]; exact b5)
                                             | (obtain ⟨y, y1, y2⟩ := b6 (by omega)
                                                rw [m13, y1, show ((y : Int) + 1).toNat = y + 1 by omega]
                                                exact y2)
                                         · first
                                             | (rw [eq1]; exact b6)
                                             | omega)) (by
                                    subst eμ11 eμ10
                                    obtain ⟨m, hm1, hm2⟩ := hrun
                                    have hI9 : (μ 4412 q.toNat).toNat = NS9 μ0 q.toNat := by unfold NS9; rw [m12]
                                    refine ⟨m + 1, by omega, ?_⟩
                                    rw [hI9]
                                    rw [m13, show (μ0 4413 q.toNat + 1).toNat = MS9 μ0 q.toNat + 1 by unfold MS9; omega]
                                    exact rn_opt0 hm2 (by omega) hop (by omega) (by omega) (fun j => by
                                      by_cases h9 : j = NS9 μ0 q.toNat
                                      · rw [h9, uz_n (by omega), uz_s, Int.add_zero]
                                      · rw [uz_n (by omega), uz_n (by omega)]) (fun j h9 => by rw [uz_n (by omega), uz_n (by omega)]) (fun j => by rw [uz_n (by omega), uz_n (by omega)])) (by omega) hP hS (lv_sub hl [3, 0, 4, 5] rfl)
            · have hc9 : 0 < μ0 (4416 + (q.toNat + 1)) pos.toNat := by omega
              refine lv_iconst (v := iZ 1) hx hb dX10_walksPage_201 rfl ?_
              refine lv_goto (tgt := 206) hx hb dX10_walksPage_202 (by decide) ?_
              refine lv_istore (lv' := [(5, .int (iZ (1))), (4, .int (iZ (μ 4412 (q).toNat))), (3, .int (iZ (pos))), (2, .int (iZ (q))), (1, .int (iZ (pp))), (0, .ref h0)]) hx hb dX10_walksPage_206 hl (by decide) rfl (fun ls hl => ?_)
              refine lv_aload_n hx hb dX10_walksPage_208 rfl (lv_at hl 5 rfl) ?_
              refine fz_get (D := (dC, dI)) (ci := 10) (v := .ref (h0 + 6319)) (C := RX10) (T := TX10) (N := 53) hx hb hts inG10 hown hK hP (k := 0) (by decide) (F := mF h0) mE_obj rfl 47 (by decide) (hts _ k1213) (fun _ h9 => h9) rfl dX10_walksPage_209 ?_
              refine lv_iload hx hb dX10_walksPage_212 (lv_at hl 1 rfl) ?_
              refine lv_dup2_11 hx hb dX10_walksPage_214 rfl rfl ?_
              refine fz_ld (k := 6319) (n := 900) hx hb hK hP 0 (by decide) mE_often rfl ⟨by omega, by omega⟩ (by decide) dX10_walksPage_215 ?_
              refine lv_iload hx hb dX10_walksPage_216 (lv_at hl 0 rfl) ?_
              refine fz_if_eq (tgt := 225) (by decide) hx hb dX10_walksPage_218 (by decide) (fun h9 => absurd h9 (by decide)) (fun c218_ => ?_)
              refine lv_iconst (v := iZ 1) hx hb dX10_walksPage_221 rfl ?_
              refine lv_goto (tgt := 226) hx hb dX10_walksPage_222 (by decide) ?_
              refine lv_iadd hx hb dX10_walksPage_226 ?_
              refine lv_topi (fun x9 ex9 => ?_)
              obtain rfl : x9 = iZ ((μ 6319 (μ 4412 (q).toNat).toNat) + 1) := ex9.trans (iZ_add _ _)
              refine fz_st (k := 6319) (n := 900) (i := (μ 4412 (q).toNat)) (z := ((μ 6319 (μ 4412 (q).toNat).toNat) + 1)) hx hb hK hP fA_in hS 0 (by decide) mE_often rfl ⟨by omega, by omega⟩ (by decide) dX10_walksPage_227 (fun H locs hP hS => ?_)
              obtain ⟨μ12, eμ12⟩ : ∃ x : va_M, x = uz μ 6319 (μ 4412 (q).toNat).toNat ((μ 6319 (μ 4412 (q).toNat).toNat) + 1) := ⟨_, rfl⟩
              rw [← eμ12] at hP
              refine lv_aload_n hx hb dX10_walksPage_228 rfl (lv_at hl 5 rfl) ?_
              refine fz_get (D := (dC, dI)) (ci := 10) (v := .ref (h0 + 6320)) (C := RX10) (T := TX10) (N := 53) hx hb hts inG10 hown hK hP (k := 0) (by decide) (F := mF h0) mE_obj rfl 48 (by decide) (hts _ k1214) (fun _ h9 => h9) rfl dX10_walksPage_229 ?_
              refine lv_iload hx hb dX10_walksPage_232 (lv_at hl 1 rfl) ?_
              refine lv_dup2_11 hx hb dX10_walksPage_234 rfl rfl ?_
              refine fz_ld (k := 6320) (n := 900) hx hb hK hP 0 (by decide) mE_passed rfl ⟨by omega, by omega⟩ (by decide) dX10_walksPage_235 ?_
              rw [show μ12 6320 (μ 4412 (q).toNat).toNat = μ 6320 (μ 4412 (q).toNat).toNat from by rw [eμ12, uz_n (by omega)]]
              refine lv_iload hx hb dX10_walksPage_236 (lv_at hl 0 rfl) ?_
              refine fz_if_eq (tgt := 245) (by decide) hx hb dX10_walksPage_238 (by decide) (fun h9 => absurd h9 (by decide)) (fun c238_ => ?_)
              refine lv_iconst (v := iZ 1) hx hb dX10_walksPage_241 rfl ?_
              refine lv_goto (tgt := 246) hx hb dX10_walksPage_242 (by decide) ?_
              refine lv_iadd hx hb dX10_walksPage_246 ?_
              refine lv_topi (fun x9 ex9 => ?_)
              obtain rfl : x9 = iZ ((μ 6320 (μ 4412 (q).toNat).toNat) + 1) := ex9.trans (iZ_add _ _)
              refine fz_st (k := 6320) (n := 900) (i := (μ 4412 (q).toNat)) (z := ((μ 6320 (μ 4412 (q).toNat).toNat) + 1)) hx hb hK hP fA_in hS 0 (by decide) mE_passed rfl ⟨by omega, by omega⟩ (by decide) dX10_walksPage_247 (fun H locs hP hS => ?_)
              obtain ⟨μ13, eμ13⟩ : ∃ x : va_M, x = uz μ12 6320 (μ 4412 (q).toNat).toNat ((μ 6320 (μ 4412 (q).toNat).toNat) + 1) := ⟨_, rfl⟩
              rw [← eμ13] at hP
              refine lv_iload hx hb dX10_walksPage_248 (lv_at hl 0 rfl) ?_
              refine fz_if_eq (tgt := 259) (by decide) hx hb dX10_walksPage_250 (by decide) (fun h9 => absurd h9 (by decide)) (fun c250_ => ?_)
              obtain ⟨fl2, hfl2⟩ : ∃ z : Int, z = fl := ⟨_, rfl⟩
              refine lv_iload_n hx hb dX10_walksPage_253 rfl (lv_at hl 3 rfl) ?_
              refine lv_iconst (v := iZ 1) hx hb dX10_walksPage_254 rfl ?_
              refine lv_iadd hx hb dX10_walksPage_255 ?_
              refine lv_topi (fun x9 ex9 => ?_)
              obtain rfl : x9 = iZ (q + 1) := ex9.trans (iZ_add _ _)
              refine lv_goto (tgt := 267) hx hb dX10_walksPage_256 (by decide) ?_
              refine lv_istore_n (lv' := [(2, .int (iZ (q + 1))), (5, .int (iZ (1))), (4, .int (iZ (μ 4412 (q).toNat))), (3, .int (iZ (pos))), (1, .int (iZ (pp))), (0, .ref h0)]) hx hb dX10_walksPage_267 rfl hl (by decide) rfl (fun ls hl => ?_)
              refine lv_goto (tgt := 43) hx hb dX10_walksPage_268 (by decide) ?_
              exact ih (pos) (q + 1) (fl2) μ13 H locs ls (by omega) (by omega) (by omega) (by
                                    subst eμ13 eμ12
                                    first
                                      | exact fr_uz (fr_uz hf (Or.inr (Or.inr rfl))) (Or.inl rfl)
                                      | exact fr_uz (fr_uz hf (Or.inl rfl)) (Or.inr (Or.inl rfl))
                                      | exact fr_uz hf (Or.inr (Or.inl rfl))) (by
                                    first
                                      | (rw [eq1]; exact hc9)
                                      | (rw [eq1, show (pos + 1).toNat = pos.toNat + 1 by omega]; exact cn2)
                                      | (rw [m13]; exact hc7)) (by
                                    subst eμ13 eμ12
                                    intro k hk
                                    first
                                      | (rw [uz_n (by omega), uz_n (by omega)]; exact htk k hk)
                                      | (rw [uz_n (by omega)]; exact htk k hk)
                                      | (rw [uz_n (by omega)]
                                         by_cases h9 : k = pos.toNat
                                         · subst h9; rw [uz_s]; omega
                                         · rw [uz_n (by omega)]; exact htk k (by omega))) (by
                                    subst eμ13 eμ12
                                    intro x hx
                                    have h9 := hof x hx
                                    by_cases hxi : x = (μ 4412 q.toNat).toNat
                                    · first
                                        | (rw [hxi, uz_s]; omega)
                                        | (rw [hxi, uz_n (by omega), uz_s]; omega)
                                        | (rw [uz_n (by omega)]; omega)
                                    · first
                                        | (rw [uz_n (by omega), uz_n (by omega)]; omega)
                                        | (rw [uz_n (by omega)]; omega)) (by
                                    intro h9
                                    first
                                      | omega
                                      | (clear hbk
                                         rw [m13]
                                         obtain ⟨y, y1, y2⟩ := sf_back (G := Gs w) w 0 0 true hRS hT.2 hB.1 (fun z hz => Or.inl hz) q.toNat (μ0 4412 q.toNat).toNat (by omega) (by omega) hend (by omega) (by unfold nod at hop hnl hnd4; omega)
                                         rw [y1, show ((y : Int) + 1).toNat = y + 1 by omega]
                                         exact y2)
                                      | (obtain ⟨nd, b1, b2⟩ := hsf (by omega)
                                         have b3 : nod μ0 q.toNat = μ0 507 nd := by unfold nod; rw [b1, Int.toNat_natCast]
                                         rcases b2 (by omega) with ⟨b4, b5, b6⟩ | ⟨b4, b5, b6⟩
                                         · first
                                             | (rw [eq1]; exact b5)
                                             | (obtain ⟨y, y1, y2⟩ := b6 (by omega)
                                                rw [m13, y1, show ((y : Int) + 1).toNat = y + 1 by omega]
                                                exact y2)
                                         · first
                                             | (rw [eq1]; exact b6)
                                             | omega)) (by
                                    subst eμ13 eμ12
                                    obtain ⟨m, hm1, hm2⟩ := hrun
                                    have hI9 : (μ 4412 q.toNat).toNat = NS9 μ0 q.toNat := by unfold NS9; rw [m12]
                                    refine ⟨m + 1, by omega, ?_⟩
                                    rw [hI9]
                                    rw [eq1]
                                    exact rn_opt1 hm2 (by omega) hop (by omega) (by omega) (fun j => by
                                      by_cases h9 : j = NS9 μ0 q.toNat
                                      · rw [if_pos h9, h9, uz_n (by omega), uz_s]
                                      · rw [if_neg h9, uz_n (by omega), uz_n (by omega)]) (fun j h9 => by rw [uz_n (by omega), uz_n (by omega)]) (fun j => by rw [uz_n (by omega), uz_n (by omega)])) (by omega) hP hS (lv_sub hl [3, 0, 4, 5] rfl)
        · have hend : μ0 4414 q.toNat = 1 := by omega
          refine lv_aload_n hx hb dX10_walksPage_104 rfl (lv_at hl 4 rfl) ?_
          refine lv_iload_n hx hb dX10_walksPage_105 rfl (lv_at hl 2 rfl) ?_
          refine va_calli (va_runV (As := [.int (iZ (q))]) (rest := []) ⟨hx, hb, hml, hown, hts⟩ (m_isOption l dC dI cI cZ cII cIII h0 H.size μ (q) (by first | assumption | omega | exact ⟨by omega, by omega⟩) (by omega)) (cwV 1 hts (gV_G k1520 k1522 ks_yX10_isOption k13 k1523) rfl rfl rfl (by decide +kernel) ⟨by show 1 + 1 ≤ _; omega, by show 8 + (2 + 11) + (14) ≤ _; omega⟩) ⟨fun a U g mk q => by obtain ⟨q0, q1, qP, qK⟩ := q; exact ⟨q0, q1, qP, va_K.moved (u := U) (U := U.calling g mk a) (Vm.Alike.refl U.vm) qK⟩, va_recv hK hP (ci := 10) (q0 := 0) rfl ((fw_get (by decide)).trans (by rw [mE_obj]; rfl)), fun U hU hW => ⟨rfl, by rw [hU], by rw [hU]; exact hP, va_K.moved hW.alike hK⟩⟩ rfl rfl hl.1 rfl (lv_room (Nat.le_of_ble_eq_true rfl)) dX10_walksPage_106 ⟨hRc, hRs⟩) hS (fun q _ h => fA_le hS.1 q h) (fA_le hS.1) (fun r9 u9 t9 H1 locs ht9 hvm9 hw9 hB9 hz9 hk9 hS => ?_)
          obtain ⟨μ14, r15⟩ := u9
          obtain ⟨hP, -⟩ := hB9
          rw [ht9] at hP
          generalize H1 = H at hP hS ⊢
          obtain ⟨e9, hw9⟩ := hw9
          have e9 : r9 = iZ r15 := e9
          subst e9
          simp only at hP hw9
          have hμ14 := hw9; clear hw9
          rw [hμ14.1] at hP; have hμ14 := hμ14.2
          have h2 := hμ14
          rw [mn] at h2
          have h2b := if_01 h2
          refine fz_if_ne (tgt := 134) (by constructor <;> omega) hx hb dX10_walksPage_109 (by decide) (fun c109_ => ?_) (fun c109_ => ?_)
          · have hop := if_get h2 (by omega)
            have hc9 : 0 < μ0 (4416 + (q.toNat + 1)) pos.toNat := by
              rw [hw1] at hcan
              unfold wF at hcan
              rw [if_neg hnl, if_neg (by omega), if_pos hop] at hcan
              exact hcan
            refine lv_iconst (v := iZ 0) hx hb dX10_walksPage_134 rfl ?_
            refine lv_istore (lv' := [(5, .int (iZ (0))), (4, .int (iZ (μ 4412 (q).toNat))), (3, .int (iZ (pos))), (2, .int (iZ (q))), (1, .int (iZ (pp))), (0, .ref h0)]) hx hb dX10_walksPage_135 hl (by decide) rfl (fun ls hl => ?_)
            refine lv_aload_n hx hb dX10_walksPage_137 rfl (lv_at hl 5 rfl) ?_
            refine fz_get (D := (dC, dI)) (ci := 10) (v := .ref (h0 + 6320)) (C := RX10) (T := TX10) (N := 53) hx hb hts inG10 hown hK hP (k := 0) (by decide) (F := mF h0) mE_obj rfl 48 (by decide) (hts _ k1214) (fun _ h9 => h9) rfl dX10_walksPage_138 ?_
            refine lv_iload hx hb dX10_walksPage_141 (lv_at hl 1 rfl) ?_
            refine lv_dup2_11 hx hb dX10_walksPage_143 rfl rfl ?_
            refine fz_ld (k := 6320) (n := 900) hx hb hK hP 0 (by decide) mE_passed rfl ⟨by omega, by omega⟩ (by decide) dX10_walksPage_144 ?_
            refine lv_iload hx hb dX10_walksPage_145 (lv_at hl 0 rfl) ?_
            refine fz_if_eq (tgt := 154) (by decide) hx hb dX10_walksPage_147 (by decide) (fun c147_ => ?_) (fun h9 => absurd h9 (by decide))
            refine lv_iconst (v := iZ 0) hx hb dX10_walksPage_154 rfl ?_
            refine lv_iadd hx hb dX10_walksPage_155 ?_
            refine lv_topi (fun x9 ex9 => ?_)
            obtain rfl : x9 = iZ ((μ 6320 (μ 4412 (q).toNat).toNat) + 0) := ex9.trans (iZ_add _ _)
            refine fz_st (k := 6320) (n := 900) (i := (μ 4412 (q).toNat)) (z := ((μ 6320 (μ 4412 (q).toNat).toNat) + 0)) hx hb hK hP fA_in hS 0 (by decide) mE_passed rfl ⟨by omega, by omega⟩ (by decide) dX10_walksPage_156 (fun H locs hP hS => ?_)
            obtain ⟨μ16, eμ16⟩ : ∃ x : va_M, x = uz μ 6320 (μ 4412 (q).toNat).toNat ((μ 6320 (μ 4412 (q).toNat).toNat) + 0) := ⟨_, rfl⟩
            rw [← eμ16] at hP
            refine lv_iload hx hb dX10_walksPage_157 (lv_at hl 0 rfl) ?_
            refine fz_if_eq (tgt := 173) (by decide) hx hb dX10_walksPage_159 (by decide) (fun c159_ => ?_) (fun h9 => absurd h9 (by decide))
            obtain ⟨fl2, hfl2⟩ : ∃ z : Int, z = fl := ⟨_, rfl⟩
            refine lv_iload_n hx hb dX10_walksPage_173 rfl (lv_at hl 3 rfl) ?_
            refine lv_iconst (v := iZ 1) hx hb dX10_walksPage_174 rfl ?_
            refine lv_iadd hx hb dX10_walksPage_175 ?_
            refine lv_topi (fun x9 ex9 => ?_)
            obtain rfl : x9 = iZ (q + 1) := ex9.trans (iZ_add _ _)
            refine lv_istore_n (lv' := [(2, .int (iZ (q + 1))), (5, .int (iZ (0))), (4, .int (iZ (μ 4412 (q).toNat))), (3, .int (iZ (pos))), (1, .int (iZ (pp))), (0, .ref h0)]) hx hb dX10_walksPage_176 rfl hl (by decide) rfl (fun ls hl => ?_)
            refine lv_goto (tgt := 268) hx hb dX10_walksPage_177 (by decide) ?_
            refine lv_goto (tgt := 43) hx hb dX10_walksPage_268 (by decide) ?_
            exact ih (pos) (q + 1) (fl2) μ16 H locs ls (by omega) (by omega) (by omega) (by
                                subst eμ16
                                first
                                  | exact fr_uz (fr_uz hf (Or.inr (Or.inr rfl))) (Or.inl rfl)
                                  | exact fr_uz (fr_uz hf (Or.inl rfl)) (Or.inr (Or.inl rfl))
                                  | exact fr_uz hf (Or.inr (Or.inl rfl))) (by
                                first
                                  | (rw [eq1]; exact hc9)
                                  | (rw [eq1, show (pos + 1).toNat = pos.toNat + 1 by omega]; exact cn2)
                                  | (rw [m13]; exact hc7)) (by
                                subst eμ16
                                intro k hk
                                first
                                  | (rw [uz_n (by omega), uz_n (by omega)]; exact htk k hk)
                                  | (rw [uz_n (by omega)]; exact htk k hk)
                                  | (rw [uz_n (by omega)]
                                     by_cases h9 : k = pos.toNat
                                     · subst h9; rw [uz_s]; omega
                                     · rw [uz_n (by omega)]; exact htk k (by omega))) (by
                                subst eμ16
                                intro x hx
                                have h9 := hof x hx
                                by_cases hxi : x = (μ 4412 q.toNat).toNat
                                · first
                                    | (rw [hxi, uz_s]; omega)
                                    | (rw [hxi, uz_n (by omega), uz_s]; omega)
                                    | (rw [uz_n (by omega)]; omega)
                                · first
                                    | (rw [uz_n (by omega), uz_n (by omega)]; omega)
                                    | (rw [uz_n (by omega)]; omega)) (by
                                intro h9
                                first
                                  | omega
                                  | (clear hbk
                                     rw [m13]
                                     obtain ⟨y, y1, y2⟩ := sf_back (G := Gs w) w 0 0 true hRS hT.2 hB.1 (fun z hz => Or.inl hz) q.toNat (μ0 4412 q.toNat).toNat (by omega) (by omega) hend (by omega) (by unfold nod at hop hnl hnd4; omega)
                                     rw [y1, show ((y : Int) + 1).toNat = y + 1 by omega]
                                     exact y2)
                                  | (obtain ⟨nd, b1, b2⟩ := hsf (by omega)
                                     have b3 : nod μ0 q.toNat = μ0 507 nd := by unfold nod; rw [b1, Int.toNat_natCast]
                                     rcases b2 (by omega) with ⟨b4, b5, b6⟩ | ⟨b4, b5, b6⟩
                                     · first
                                         | (rw [eq1]; exact b5)
                                         | (obtain ⟨y, y1, y2⟩ := b6 (by omega)
                                            rw [m13, y1, show ((y : Int) + 1).toNat = y + 1 by omega]
                                            exact y2)
                                     · first
                                         | (rw [eq1]; exact b6)
                                         | omega)) (by
                                subst eμ16
                                obtain ⟨m, hm1, hm2⟩ := hrun
                                have hI9 : (μ 4412 q.toNat).toNat = NS9 μ0 q.toNat := by unfold NS9; rw [m12]
                                refine ⟨m + 1, by omega, ?_⟩
                                rw [hI9]
                                rw [eq1]
                                exact rn_oend hm2 (by omega) hop (by omega) (fun j => by rw [uz_n (by omega)]) (fun j h9 => by rw [uz_n (by omega)]) (fun j => by rw [uz_n (by omega)])) (by omega) hP hS (lv_sub hl [3, 0, 4, 5] rfl)
          · have hop := if_not h2 (by omega)
            have hc8 : 0 < μ0 (4416 + (μ0 4413 q.toNat + 1).toNat) pos.toNat ∨ 0 < μ0 (4416 + (q.toNat + 1)) pos.toNat := by
              rw [hw1] at hcan
              unfold wF at hcan
              rw [if_neg hnl, if_neg (by omega), if_neg hop] at hcan
              omega
            have hfl1 : fl = 1 := by
              rcases hfl with h | h
              · obtain ⟨nd, b1, b2⟩ := hsf h
                have b3 : nod μ0 q.toNat = μ0 507 nd := by unfold nod; rw [b1, Int.toNat_natCast]
                rcases b2 (by omega) with ⟨b4, _⟩ | ⟨b4, b5, _⟩ <;> omega
              · exact h
            refine lv_aload_n hx hb dX10_walksPage_112 rfl (lv_at hl 4 rfl) ?_
            refine fz_get (D := (dC, dI)) (ci := 10) (v := .ref (h0 + 4415)) (C := RX10) (T := TX10) (N := 53) hx hb hts inG10 hown hK hP (k := 0) (by decide) (F := mF h0) mE_obj rfl 43 (by decide) (hts _ k1209) (fun _ h9 => h9) rfl dX10_walksPage_113 ?_
            refine lv_aload_n hx hb dX10_walksPage_116 rfl (lv_at hl 4 rfl) ?_
            refine fz_get (D := (dC, dI)) (ci := 10) (v := .ref (h0 + 4413)) (C := RX10) (T := TX10) (N := 53) hx hb hts inG10 hown hK hP (k := 0) (by decide) (F := mF h0) mE_obj rfl 41 (by decide) (hts _ k1207) (fun _ h9 => h9) rfl dX10_walksPage_117 ?_
            refine lv_iload_n hx hb dX10_walksPage_120 rfl (lv_at hl 2 rfl) ?_
            refine fz_ld (k := 4413) (n := 1900) hx hb hK hP 0 (by decide) mE_other rfl ⟨by omega, by omega⟩ (by decide) dX10_walksPage_121 ?_
            refine lv_iconst (v := iZ 1) hx hb dX10_walksPage_122 rfl ?_
            refine lv_iadd hx hb dX10_walksPage_123 ?_
            refine lv_topi (fun x9 ex9 => ?_)
            obtain rfl : x9 = iZ ((μ 4413 (q).toNat) + 1) := ex9.trans (iZ_add _ _)
            refine fz_ald (k := 4415) (n := 1900) (k2 := (4416 + ((μ 4413 (q).toNat) + 1).toNat)) hx hb hK hP 2 rfl (by decide) mE_can rfl ⟨by omega, by omega⟩ (by decide) (if_pos (by omega)) dX10_walksPage_124 ?_
            refine lv_iload_n hx hb dX10_walksPage_125 rfl (lv_at hl 1 rfl) ?_
            refine fz_ld (k := (4416 + ((μ 4413 (q).toNat) + 1).toNat)) (n := 62) hx hb hK hP 0 (by omega) (mE_canR (by omega)) rfl ⟨by omega, by omega⟩ (by decide) dX10_walksPage_126 ?_
            rw [show μ (4416 + ((μ 4413 (q).toNat) + 1).toNat) (pos).toNat = μ0 (4416 + (μ0 4413 q.toNat + 1).toNat) pos.toNat from (by rw [m13]; exact hf _ _ (by unfold WKF; omega))]
            refine fz_if_le (tgt := 134) (by constructor <;> omega) hx hb dX10_walksPage_127 (by decide) (fun c127_ => ?_) (fun c127_ => ?_)
            · have hc9 : 0 < μ0 (4416 + (q.toNat + 1)) pos.toNat := by omega
              refine lv_iconst (v := iZ 0) hx hb dX10_walksPage_134 rfl ?_
              refine lv_istore (lv' := [(5, .int (iZ (0))), (4, .int (iZ (μ 4412 (q).toNat))), (3, .int (iZ (pos))), (2, .int (iZ (q))), (1, .int (iZ (pp))), (0, .ref h0)]) hx hb dX10_walksPage_135 hl (by decide) rfl (fun ls hl => ?_)
              refine lv_aload_n hx hb dX10_walksPage_137 rfl (lv_at hl 5 rfl) ?_
              refine fz_get (D := (dC, dI)) (ci := 10) (v := .ref (h0 + 6320)) (C := RX10) (T := TX10) (N := 53) hx hb hts inG10 hown hK hP (k := 0) (by decide) (F := mF h0) mE_obj rfl 48 (by decide) (hts _ k1214) (fun _ h9 => h9) rfl dX10_walksPage_138 ?_
              refine lv_iload hx hb dX10_walksPage_141 (lv_at hl 1 rfl) ?_
              refine lv_dup2_11 hx hb dX10_walksPage_143 rfl rfl ?_
              refine fz_ld (k := 6320) (n := 900) hx hb hK hP 0 (by decide) mE_passed rfl ⟨by omega, by omega⟩ (by decide) dX10_walksPage_144 ?_
              refine lv_iload hx hb dX10_walksPage_145 (lv_at hl 0 rfl) ?_
              refine fz_if_eq (tgt := 154) (by decide) hx hb dX10_walksPage_147 (by decide) (fun c147_ => ?_) (fun h9 => absurd h9 (by decide))
              refine lv_iconst (v := iZ 0) hx hb dX10_walksPage_154 rfl ?_
              refine lv_iadd hx hb dX10_walksPage_155 ?_
              refine lv_topi (fun x9 ex9 => ?_)
              obtain rfl : x9 = iZ ((μ 6320 (μ 4412 (q).toNat).toNat) + 0) := ex9.trans (iZ_add _ _)
              refine fz_st (k := 6320) (n := 900) (i := (μ 4412 (q).toNat)) (z := ((μ 6320 (μ 4412 (q).toNat).toNat) + 0)) hx hb hK hP fA_in hS 0 (by decide) mE_passed rfl ⟨by omega, by omega⟩ (by decide) dX10_walksPage_156 (fun H locs hP hS => ?_)
              obtain ⟨μ17, eμ17⟩ : ∃ x : va_M, x = uz μ 6320 (μ 4412 (q).toNat).toNat ((μ 6320 (μ 4412 (q).toNat).toNat) + 0) := ⟨_, rfl⟩
              rw [← eμ17] at hP
              refine lv_iload hx hb dX10_walksPage_157 (lv_at hl 0 rfl) ?_
              refine fz_if_eq (tgt := 173) (by decide) hx hb dX10_walksPage_159 (by decide) (fun c159_ => ?_) (fun h9 => absurd h9 (by decide))
              obtain ⟨fl2, hfl2⟩ : ∃ z : Int, z = fl := ⟨_, rfl⟩
              refine lv_iload_n hx hb dX10_walksPage_173 rfl (lv_at hl 3 rfl) ?_
              refine lv_iconst (v := iZ 1) hx hb dX10_walksPage_174 rfl ?_
              refine lv_iadd hx hb dX10_walksPage_175 ?_
              refine lv_topi (fun x9 ex9 => ?_)
              obtain rfl : x9 = iZ (q + 1) := ex9.trans (iZ_add _ _)
              refine lv_istore_n (lv' := [(2, .int (iZ (q + 1))), (5, .int (iZ (0))), (4, .int (iZ (μ 4412 (q).toNat))), (3, .int (iZ (pos))), (1, .int (iZ (pp))), (0, .ref h0)]) hx hb dX10_walksPage_176 rfl hl (by decide) rfl (fun ls hl => ?_)
              refine lv_goto (tgt := 268) hx hb dX10_walksPage_177 (by decide) ?_
              refine lv_goto (tgt := 43) hx hb dX10_walksPage_268 (by decide) ?_
              exact ih (pos) (q + 1) (fl2) μ17 H locs ls (by omega) (by omega) (by omega) (by
                                    subst eμ17
                                    first
                                      | exact fr_uz (fr_uz hf (Or.inr (Or.inr rfl))) (Or.inl rfl)
                                      | exact fr_uz (fr_uz hf (Or.inl rfl)) (Or.inr (Or.inl rfl))
                                      | exact fr_uz hf (Or.inr (Or.inl rfl))) (by
                                    first
                                      | (rw [eq1]; exact hc9)
                                      | (rw [eq1, show (pos + 1).toNat = pos.toNat + 1 by omega]; exact cn2)
                                      | (rw [m13]; exact hc7)) (by
                                    subst eμ17
                                    intro k hk
                                    first
                                      | (rw [uz_n (by omega), uz_n (by omega)]; exact htk k hk)
                                      | (rw [uz_n (by omega)]; exact htk k hk)
                                      | (rw [uz_n (by omega)]
                                         by_cases h9 : k = pos.toNat
                                         · subst h9; rw [uz_s]; omega
                                         · rw [uz_n (by omega)]; exact htk k (by omega))) (by
                                    subst eμ17
                                    intro x hx
                                    have h9 := hof x hx
                                    by_cases hxi : x = (μ 4412 q.toNat).toNat
                                    · first
                                        | (rw [hxi, uz_s]; omega)
                                        | (rw [hxi, uz_n (by omega), uz_s]; omega)
                                        | (rw [uz_n (by omega)]; omega)
                                    · first
                                        | (rw [uz_n (by omega), uz_n (by omega)]; omega)
                                        | (rw [uz_n (by omega)]; omega)) (by
                                    intro h9
                                    first
                                      | omega
                                      | (clear hbk
                                         rw [m13]
                                         obtain ⟨y, y1, y2⟩ := sf_back (G := Gs w) w 0 0 true hRS hT.2 hB.1 (fun z hz => Or.inl hz) q.toNat (μ0 4412 q.toNat).toNat (by omega) (by omega) hend (by omega) (by unfold nod at hop hnl hnd4; omega)
                                         rw [y1, show ((y : Int) + 1).toNat = y + 1 by omega]
                                         exact y2)
                                      | (obtain ⟨nd, b1, b2⟩ := hsf (by omega)
                                         have b3 : nod μ0 q.toNat = μ0 507 nd := by unfold nod; rw [b1, Int.toNat_natCast]
                                         rcases b2 (by omega) with ⟨b4, b5, b6⟩ | ⟨b4, b5, b6⟩
                                         · first
                                             | (rw [eq1]; exact b5)
                                             | (obtain ⟨y, y1, y2⟩ := b6 (by omega)
                                                rw [m13, y1, show ((y : Int) + 1).toNat = y + 1 by omega]
                                                exact y2)
                                         · first
                                             | (rw [eq1]; exact b6)
                                             | omega)) (by
                                    subst eμ17
                                    obtain ⟨m, hm1, hm2⟩ := hrun
                                    have hI9 : (μ 4412 q.toNat).toNat = NS9 μ0 q.toNat := by unfold NS9; rw [m12]
                                    refine ⟨m + 1, by omega, ?_⟩
                                    rw [hI9]
                                    rw [eq1]
                                    exact rn_rend0 hm2 (by omega) hnl hop (by omega) (by unfold MS9; rw [show (μ0 4413 q.toNat).toNat + 1 = (μ0 4413 q.toNat + 1).toNat by omega]; omega) (fun j => by rw [uz_n (by omega)]) (fun j => by
                                      by_cases h9 : j = NS9 μ0 q.toNat
                                      · rw [h9, uz_s, Int.add_zero]
                                      · rw [uz_n (by omega)]) (fun j => by rw [uz_n (by omega)])) (by omega) hP hS (lv_sub hl [3, 0, 4, 5] rfl)
            · have hc7 : 0 < μ0 (4416 + (μ0 4413 q.toNat + 1).toNat) pos.toNat := by omega
              refine lv_iconst (v := iZ 1) hx hb dX10_walksPage_130 rfl ?_
              refine lv_goto (tgt := 135) hx hb dX10_walksPage_131 (by decide) ?_
              refine lv_istore (lv' := [(5, .int (iZ (1))), (4, .int (iZ (μ 4412 (q).toNat))), (3, .int (iZ (pos))), (2, .int (iZ (q))), (1, .int (iZ (pp))), (0, .ref h0)]) hx hb dX10_walksPage_135 hl (by decide) rfl (fun ls hl => ?_)
              refine lv_aload_n hx hb dX10_walksPage_137 rfl (lv_at hl 5 rfl) ?_
              refine fz_get (D := (dC, dI)) (ci := 10) (v := .ref (h0 + 6320)) (C := RX10) (T := TX10) (N := 53) hx hb hts inG10 hown hK hP (k := 0) (by decide) (F := mF h0) mE_obj rfl 48 (by decide) (hts _ k1214) (fun _ h9 => h9) rfl dX10_walksPage_138 ?_
              refine lv_iload hx hb dX10_walksPage_141 (lv_at hl 1 rfl) ?_
              refine lv_dup2_11 hx hb dX10_walksPage_143 rfl rfl ?_
              refine fz_ld (k := 6320) (n := 900) hx hb hK hP 0 (by decide) mE_passed rfl ⟨by omega, by omega⟩ (by decide) dX10_walksPage_144 ?_
              refine lv_iload hx hb dX10_walksPage_145 (lv_at hl 0 rfl) ?_
              refine fz_if_eq (tgt := 154) (by decide) hx hb dX10_walksPage_147 (by decide) (fun h9 => absurd h9 (by decide)) (fun c147_ => ?_)
              refine lv_iconst (v := iZ 1) hx hb dX10_walksPage_150 rfl ?_
              refine lv_goto (tgt := 155) hx hb dX10_walksPage_151 (by decide) ?_
              refine lv_iadd hx hb dX10_walksPage_155 ?_
              refine lv_topi (fun x9 ex9 => ?_)
              obtain rfl : x9 = iZ ((μ 6320 (μ 4412 (q).toNat).toNat) + 1) := ex9.trans (iZ_add _ _)
              refine fz_st (k := 6320) (n := 900) (i := (μ 4412 (q).toNat)) (z := ((μ 6320 (μ 4412 (q).toNat).toNat) + 1)) hx hb hK hP fA_in hS 0 (by decide) mE_passed rfl ⟨by omega, by omega⟩ (by decide) dX10_walksPage_156 (fun H locs hP hS => ?_)
              obtain ⟨μ18, eμ18⟩ : ∃ x : va_M, x = uz μ 6320 (μ 4412 (q).toNat).toNat ((μ 6320 (μ 4412 (q).toNat).toNat) + 1) := ⟨_, rfl⟩
              rw [← eμ18] at hP
              refine lv_iload hx hb dX10_walksPage_157 (lv_at hl 0 rfl) ?_
              refine fz_if_eq (tgt := 173) (by decide) hx hb dX10_walksPage_159 (by decide) (fun h9 => absurd h9 (by decide)) (fun c159_ => ?_)
              obtain ⟨fl2, hfl2⟩ : ∃ z : Int, z = 0 := ⟨_, rfl⟩
              have hbk : True := trivial
              refine lv_aload_n hx hb dX10_walksPage_162 rfl (lv_at hl 5 rfl) ?_
              refine fz_get (D := (dC, dI)) (ci := 10) (v := .ref (h0 + 4413)) (C := RX10) (T := TX10) (N := 53) hx hb hts inG10 hown hK hP (k := 0) (by decide) (F := mF h0) mE_obj rfl 41 (by decide) (hts _ k1207) (fun _ h9 => h9) rfl dX10_walksPage_163 ?_
              refine lv_iload_n hx hb dX10_walksPage_166 rfl (lv_at hl 3 rfl) ?_
              refine fz_ld (k := 4413) (n := 1900) hx hb hK hP 0 (by decide) mE_other rfl ⟨by omega, by omega⟩ (by decide) dX10_walksPage_167 ?_
              rw [show μ18 4413 (q).toNat = μ 4413 (q).toNat from by rw [eμ18, uz_n (by omega)]]
              refine lv_iconst (v := iZ 1) hx hb dX10_walksPage_168 rfl ?_
              refine lv_iadd hx hb dX10_walksPage_169 ?_
              refine lv_topi (fun x9 ex9 => ?_)
              obtain rfl : x9 = iZ ((μ 4413 (q).toNat) + 1) := ex9.trans (iZ_add _ _)
              refine lv_goto (tgt := 176) hx hb dX10_walksPage_170 (by decide) ?_
              refine lv_istore_n (lv' := [(2, .int (iZ ((μ 4413 (q).toNat) + 1))), (5, .int (iZ (1))), (4, .int (iZ (μ 4412 (q).toNat))), (3, .int (iZ (pos))), (1, .int (iZ (pp))), (0, .ref h0)]) hx hb dX10_walksPage_176 rfl hl (by decide) rfl (fun ls hl => ?_)
              refine lv_goto (tgt := 268) hx hb dX10_walksPage_177 (by decide) ?_
              refine lv_goto (tgt := 43) hx hb dX10_walksPage_268 (by decide) ?_
              exact ih (pos) ((μ 4413 (q).toNat) + 1) (fl2) μ18 H locs ls (by omega) (by omega) (by omega) (by
                                    subst eμ18
                                    first
                                      | exact fr_uz (fr_uz hf (Or.inr (Or.inr rfl))) (Or.inl rfl)
                                      | exact fr_uz (fr_uz hf (Or.inl rfl)) (Or.inr (Or.inl rfl))
                                      | exact fr_uz hf (Or.inr (Or.inl rfl))) (by
                                    first
                                      | (rw [eq1]; exact hc9)
                                      | (rw [eq1, show (pos + 1).toNat = pos.toNat + 1 by omega]; exact cn2)
                                      | (rw [m13]; exact hc7)) (by
                                    subst eμ18
                                    intro k hk
                                    first
                                      | (rw [uz_n (by omega), uz_n (by omega)]; exact htk k hk)
                                      | (rw [uz_n (by omega)]; exact htk k hk)
                                      | (rw [uz_n (by omega)]
                                         by_cases h9 : k = pos.toNat
                                         · subst h9; rw [uz_s]; omega
                                         · rw [uz_n (by omega)]; exact htk k (by omega))) (by
                                    subst eμ18
                                    intro x hx
                                    have h9 := hof x hx
                                    by_cases hxi : x = (μ 4412 q.toNat).toNat
                                    · first
                                        | (rw [hxi, uz_s]; omega)
                                        | (rw [hxi, uz_n (by omega), uz_s]; omega)
                                        | (rw [uz_n (by omega)]; omega)
                                    · first
                                        | (rw [uz_n (by omega), uz_n (by omega)]; omega)
                                        | (rw [uz_n (by omega)]; omega)) (by
                                    intro h9
                                    first
                                      | omega
                                      | (clear hbk
                                         rw [m13]
                                         obtain ⟨y, y1, y2⟩ := sf_back (G := Gs w) w 0 0 true hRS hT.2 hB.1 (fun z hz => Or.inl hz) q.toNat (μ0 4412 q.toNat).toNat (by omega) (by omega) hend (by omega) (by unfold nod at hop hnl hnd4; omega)
                                         rw [y1, show ((y : Int) + 1).toNat = y + 1 by omega]
                                         exact y2)
                                      | (obtain ⟨nd, b1, b2⟩ := hsf (by omega)
                                         have b3 : nod μ0 q.toNat = μ0 507 nd := by unfold nod; rw [b1, Int.toNat_natCast]
                                         rcases b2 (by omega) with ⟨b4, b5, b6⟩ | ⟨b4, b5, b6⟩
                                         · first
                                             | (rw [eq1]; exact b5)
                                             | (obtain ⟨y, y1, y2⟩ := b6 (by omega)
                                                rw [m13, y1, show ((y : Int) + 1).toNat = y + 1 by omega]
                                                exact y2)
                                         · first
                                             | (rw [eq1]; exact b6)
                                             | omega)) (by
                                    subst eμ18
                                    obtain ⟨m, hm1, hm2⟩ := hrun
                                    have hI9 : (μ 4412 q.toNat).toNat = NS9 μ0 q.toNat := by unfold NS9; rw [m12]
                                    refine ⟨m + 1, by omega, ?_⟩
                                    rw [hI9]
                                    rw [m13, show (μ0 4413 q.toNat + 1).toNat = MS9 μ0 q.toNat + 1 by unfold MS9; omega]
                                    exact rn_rend1 hm2 (by omega) hnl hop (by omega) (by unfold MS9; rw [show (μ0 4413 q.toNat).toNat + 1 = (μ0 4413 q.toNat + 1).toNat by omega]; omega) (RS_end w 0 0 hRS q.toNat (Nat.zero_le _) (by omega) (by omega)) (fun j => by rw [uz_n (by omega)]) (fun j => by
                                      by_cases h9 : j = NS9 μ0 q.toNat
                                      · rw [if_pos h9, h9, uz_s]
                                      · rw [if_neg h9, uz_n (by omega)]) (fun j => by rw [uz_n (by omega)])) (by omega) hP hS (lv_sub hl [3, 0, 4, 5] rfl)
      · have hlf := if_get h1 (by omega)
        rw [hw1] at hcan
        obtain ⟨cn1, cn2⟩ := w_leaf hcan hlf
        obtain ⟨fl2, hfl2⟩ : ∃ z : Int, z = 1 := ⟨_, rfl⟩
        refine lv_aload_n hx hb dX10_walksPage_67 rfl (lv_at hl 4 rfl) ?_
        refine fz_get (D := (dC, dI)) (ci := 10) (v := .ref (h0 + 6321)) (C := RX10) (T := TX10) (N := 53) hx hb hts inG10 hown hK hP (k := 0) (by decide) (F := mF h0) mE_obj rfl 49 (by decide) (hts _ k1215) (fun _ h9 => h9) rfl dX10_walksPage_68 ?_
        refine lv_iload_n hx hb dX10_walksPage_71 rfl (lv_at hl 1 rfl) ?_
        refine lv_iload hx hb dX10_walksPage_72 (lv_at hl 0 rfl) ?_
        refine fz_st (k := 6321) (n := 60) (i := pos) (z := (μ 4412 (q).toNat)) hx hb hK hP fA_in hS 0 (by decide) mE_takerOf rfl ⟨by omega, by omega⟩ (by decide) dX10_walksPage_74 (fun H locs hP hS => ?_)
        obtain ⟨μ19, eμ19⟩ : ∃ x : va_M, x = uz μ 6321 (pos).toNat (μ 4412 (q).toNat) := ⟨_, rfl⟩
        rw [← eμ19] at hP
        refine lv_aload_n hx hb dX10_walksPage_75 rfl (lv_at hl 4 rfl) ?_
        refine fz_get (D := (dC, dI)) (ci := 10) (v := .ref (h0 + 6319)) (C := RX10) (T := TX10) (N := 53) hx hb hts inG10 hown hK hP (k := 0) (by decide) (F := mF h0) mE_obj rfl 47 (by decide) (hts _ k1213) (fun _ h9 => h9) rfl dX10_walksPage_76 ?_
        refine lv_iload hx hb dX10_walksPage_79 (lv_at hl 0 rfl) ?_
        refine lv_dup2_11 hx hb dX10_walksPage_81 rfl rfl ?_
        refine fz_ld (k := 6319) (n := 900) hx hb hK hP 0 (by decide) mE_often rfl ⟨by omega, by omega⟩ (by decide) dX10_walksPage_82 ?_
        rw [show μ19 6319 (μ 4412 (q).toNat).toNat = μ 6319 (μ 4412 (q).toNat).toNat from by rw [eμ19, uz_n (by omega)]]
        refine lv_iconst (v := iZ 1) hx hb dX10_walksPage_83 rfl ?_
        refine lv_iadd hx hb dX10_walksPage_84 ?_
        refine lv_topi (fun x9 ex9 => ?_)
        obtain rfl : x9 = iZ ((μ 6319 (μ 4412 (q).toNat).toNat) + 1) := ex9.trans (iZ_add _ _)
        refine fz_st (k := 6319) (n := 900) (i := (μ 4412 (q).toNat)) (z := ((μ 6319 (μ 4412 (q).toNat).toNat) + 1)) hx hb hK hP fA_in hS 0 (by decide) mE_often rfl ⟨by omega, by omega⟩ (by decide) dX10_walksPage_85 (fun H locs hP hS => ?_)
        obtain ⟨μ20, eμ20⟩ : ∃ x : va_M, x = uz μ19 6319 (μ 4412 (q).toNat).toNat ((μ 6319 (μ 4412 (q).toNat).toNat) + 1) := ⟨_, rfl⟩
        rw [← eμ20] at hP
        refine lv_iinc (v := iZ (pos + 1)) (lv' := [(3, .int (iZ (pos + 1))), (4, .int (iZ (μ 4412 (q).toNat))), (2, .int (iZ (q))), (1, .int (iZ (pp))), (0, .ref h0)]) hx hb dX10_walksPage_86 hl (k := 1) rfl (iZ_add _ _) (by decide) rfl (fun ls hl => ?_)
        refine lv_iinc (v := iZ (q + 1)) (lv' := [(2, .int (iZ (q + 1))), (3, .int (iZ (pos + 1))), (4, .int (iZ (μ 4412 (q).toNat))), (1, .int (iZ (pp))), (0, .ref h0)]) hx hb dX10_walksPage_89 hl (k := 2) rfl (iZ_add _ _) (by decide) rfl (fun ls hl => ?_)
        refine lv_goto (tgt := 268) hx hb dX10_walksPage_92 (by decide) ?_
        refine lv_goto (tgt := 43) hx hb dX10_walksPage_268 (by decide) ?_
        exact ih (pos + 1) (q + 1) (fl2) μ20 H locs ls (by omega) (by omega) (by omega) (by
                        subst eμ20 eμ19
                        first
                          | exact fr_uz (fr_uz hf (Or.inr (Or.inr rfl))) (Or.inl rfl)
                          | exact fr_uz (fr_uz hf (Or.inl rfl)) (Or.inr (Or.inl rfl))
                          | exact fr_uz hf (Or.inr (Or.inl rfl))) (by
                        first
                          | (rw [eq1]; exact hc9)
                          | (rw [eq1, show (pos + 1).toNat = pos.toNat + 1 by omega]; exact cn2)
                          | (rw [m13]; exact hc7)) (by
                        subst eμ20 eμ19
                        intro k hk
                        first
                          | (rw [uz_n (by omega), uz_n (by omega)]; exact htk k hk)
                          | (rw [uz_n (by omega)]; exact htk k hk)
                          | (rw [uz_n (by omega)]
                             by_cases h9 : k = pos.toNat
                             · subst h9; rw [uz_s]; omega
                             · rw [uz_n (by omega)]; exact htk k (by omega))) (by
                        subst eμ20 eμ19
                        intro x hx
                        have h9 := hof x hx
                        by_cases hxi : x = (μ 4412 q.toNat).toNat
                        · first
                            | (rw [hxi, uz_s]; omega)
                            | (rw [hxi, uz_n (by omega), uz_s]; omega)
                            | (rw [uz_n (by omega)]; omega)
                        · first
                            | (rw [uz_n (by omega), uz_n (by omega)]; omega)
                            | (rw [uz_n (by omega)]; omega)) (by
                        intro h9
                        first
                          | omega
                          | (clear hbk
                             rw [m13]
                             obtain ⟨y, y1, y2⟩ := sf_back (G := Gs w) w 0 0 true hRS hT.2 hB.1 (fun z hz => Or.inl hz) q.toNat (μ0 4412 q.toNat).toNat (by omega) (by omega) hend (by omega) (by unfold nod at hop hnl hnd4; omega)
                             rw [y1, show ((y : Int) + 1).toNat = y + 1 by omega]
                             exact y2)
                          | (obtain ⟨nd, b1, b2⟩ := hsf (by omega)
                             have b3 : nod μ0 q.toNat = μ0 507 nd := by unfold nod; rw [b1, Int.toNat_natCast]
                             rcases b2 (by omega) with ⟨b4, b5, b6⟩ | ⟨b4, b5, b6⟩
                             · first
                                 | (rw [eq1]; exact b5)
                                 | (obtain ⟨y, y1, y2⟩ := b6 (by omega)
                                    rw [m13, y1, show ((y : Int) + 1).toNat = y + 1 by omega]
                                    exact y2)
                             · first
                                 | (rw [eq1]; exact b6)
                                 | omega)) (by
                        subst eμ20 eμ19
                        obtain ⟨m, hm1, hm2⟩ := hrun
                        have hI9 : (μ 4412 q.toNat).toNat = NS9 μ0 q.toNat := by unfold NS9; rw [m12]
                        refine ⟨m + 1, by omega, ?_⟩
                        rw [hI9]
                        rw [eq1, show (pos + 1).toNat = pos.toNat + 1 by omega]
                        exact rn_leaf hm2 (by omega) hlf (fun j => by
                          by_cases h9 : j = NS9 μ0 q.toNat
                          · rw [if_pos h9, h9, uz_s]
                          · rw [if_neg h9, uz_n (by omega), uz_n (by omega)]) (fun j => by rw [uz_n (by omega), uz_n (by omega)]) (fun j => by
                          by_cases h9 : j = pos.toNat
                          · rw [if_pos h9, h9, uz_n (by omega), uz_s]
                            unfold NS9
                            omega
                          · rw [if_neg h9, uz_n (by omega), uz_n (by omega)])) (by omega) hP hS (lv_sub hl [1, 0, 3, 4] rfl)
set_option maxHeartbeats 4000000 in
set_option maxRecDepth 100000 in
theorem m_walksPage2 (l : Launch) (dC : Nat → ClassId) (dI : Nat → Nat → Nat) (cI cZ cII cIII : ClassId) (h0 sz : Nat) (μ : va_M) (pp : Int) (Wk : Rw) (hQ : RQ μ) (hpp : 0 ≤ pp ∧ pp < μ 0 10) (hWP : wyP μ Wk) (hB9 : skB Wk) : Met l yX10_walksPage (Cond.code yX10_walksPage cX10_walksPage 6 (some .boolean) :: wsG) ({ frames := 8, cells := 0, slots := 0, locals := 190 } : Room) (va_Pc [.ref h0, .int (iZ (pp))] (fun U => U.heap.size = sz ∧ va_P (dC, dI) vwCl (fw (mE cI cZ cII cIII h0) h0 6325 μ) U.heap ∧ va_K (dC, dI) vwCl (mT cI cZ cII cIII) U)) (va_Qi (fun (r9 : Int32) (u : va_M × Int) => r9 = iZ u.2 ∧ (fun (u : va_M) (r : Int) => fr WKP μ u ∧ u 0 0 = μ 0 0 ∧ ((r = 0 ∧ ∃ F, wkR (wEi 0) (lfY (cdP μ pp) (μ 15 pp.toNat).toNat) (enY (μ 15 pp.toNat).toNat) (μ 15 pp.toNat).toNat Wk F ∧ F 0 0 = 0) ∨ (r = 1 ∧ wkdR μ u Wk pp))) u.1 u.2) (fun u t => va_P (dC, dI) vwCl (fw (mE cI cZ cII cIII h0) h0 6325 u.1) t.heap ∧ va_K (dC, dI) vwCl (mT cI cZ cII cIII) t) (fA h0 6325 sz)) 0 0 (fA h0 6325 sz) := by
  refine Met.ofW (cc := cX10_walksPage) (maxL := 6) (ret := (some .boolean)) (by decide) rfl ?_
  intro p e s m args below meth c s₁ B hml hv
  obtain ⟨rfl, hsz, hP, hK⟩ := hv
  have hx := B.exec
  have hb := B.bytes
  have hr := B.returns
  have hts : ∀ w ∈ wsG, w.before _ s = true := hG_of (atoms_spec (ws := (Cond.code yX10_walksPage cX10_walksPage 6 (some .boolean) :: wsG)) B.pre)
  have hown : s.vm.findClass RX10 = some m.cls := findClass_of_methodNamed B.named
  have hlocks := B.notSynchronized
  subst hsz
  have hS : va_S (fA h0 6325 s.heap.size) s.heap s.heap [] := va_S.rf
  have hl := lv_entry ([.ref h0, .int (iZ (pp))]) (n := 6) (Nat.le_of_ble_eq_true rfl)
  rw [lg_entry_eq]
  generalize (lg_sl ([.ref h0, .int (iZ (pp))]) ++ List.replicate (6 - (lg_sl ([.ref h0, .int (iZ (pp))])).length) Slot.unset).toArray = ls at hl ⊢
  have hl : lv_has ls 6 [(0, .ref h0), (1, .int (iZ (pp)))] := hl
  have hQc := hQ
  obtain ⟨k10, ⟨kT, kTb, kTw⟩, kS3, kPg, kw, kwB, kwT⟩ := hQc
  obtain ⟨p1, p2, p3, pw, pw1, pw2, pw3⟩ := kPg pp.toNat (by omega)
  refine lv_aload_n hx hb dX10_walksPage_0 rfl (lv_at hl 0 rfl) ?_
  refine lv_iload_n hx hb dX10_walksPage_1 rfl (lv_at hl 1 rfl) ?_
  refine va_calli (va_runV (As := [.int (iZ (pp))]) (rest := []) ⟨hx, hb, hml, hown, hts⟩ (m_isFit2 l dC dI cI cZ cII cIII h0 s.heap.size μ (pp) (Wk) (by exact hQ) (by exact hpp) (by exact hWP)) (cwV 1 hts (gV_G k1496 k1498 ks_yX10_isFit k13 k1499) rfl rfl rfl (by decide +kernel) ⟨Nat.le_of_ble_eq_true rfl, Nat.le_of_ble_eq_true rfl⟩) ⟨fun a U g mk q => by obtain ⟨q0, q1, qP, qK⟩ := q; exact ⟨q0, q1, qP, va_K.moved (u := U) (U := U.calling g mk a) (Vm.Alike.refl U.vm) qK⟩, va_recv hK hP (ci := 10) (q0 := 0) rfl ((fw_get (by decide)).trans (by rw [mE_obj]; rfl)), fun U hU hW => ⟨rfl, by rw [hU], by rw [hU]; exact hP, va_K.moved hW.alike hK⟩⟩ rfl rfl hl.1 rfl (lv_room (Nat.le_of_ble_eq_true rfl)) dX10_walksPage_2 ⟨Nat.le_of_ble_eq_true rfl, Nat.le_of_ble_eq_true rfl⟩) hS (fun q _ h => fA_le hS.1 q h) (fA_le hS.1) (fun r9 u9 t9 H1 locs ht9 hvm9 hw9 hB9 hz9 hk9 hS => ?_)
  obtain ⟨μa, ra⟩ := u9
  obtain ⟨hP, -⟩ := hB9
  rw [ht9] at hP
  generalize H1 = H at hP hS ⊢
  obtain ⟨e9, hw9⟩ := hw9
  have e9 : r9 = iZ ra := e9
  subst e9
  simp only at hP hw9
  have hμa := hw9; clear hw9
  obtain ⟨aR2, a2, aP, a5, a6⟩ := hμa
  obtain ⟨a1, ⟨aS, aR⟩, a4, aK⟩ := aR2
  have aT : TR μa 0 Wk := TR_PS hWP.1.1 (fr_mono a1 (fun _ _ h => SW_PS h)) (by omega)
  have aB : skB Wk := hB9
  have aO := stOK_of aT aB.1 aB.2.1 aS aR
  have a15 : μa 15 pp.toNat = μ 15 pp.toNat := a1 _ _ (by unfold SW SF CF; omega)
  refine fz_if_ne (tgt := 10) (by constructor <;> omega) hx hb dX10_walksPage_5 (by decide) (fun c5_ => ?_) (fun c5_ => ?_)
  · refine lv_iconst (v := iZ 0) hx hb dX10_walksPage_10 rfl ?_
    refine lv_istore_n (lv' := [(2, .int (iZ (0))), (0, .ref h0), (1, .int (iZ (pp)))]) hx hb dX10_walksPage_11 rfl hl (by decide) rfl (fun ls hl => ?_)
    refine LX10_walksPage_12b hx hb hml hown hts hK (Nat.le_of_ble_eq_true rfl) (Nat.le_of_ble_eq_true rfl) (Nat.le_of_ble_eq_true rfl) (Nat.le_of_ble_eq_true rfl) (μa) (pp)  ?_ _ (0) μa H locs ls (by omega) (by exact fr_rfl) (by intro x hx; omega) (Nat.lt_succ_self _) hP hS (lv_sub hl [0, 2, 1] rfl)
    · intro i_21 μ21_ H locs ls q1_21 q2_21 hP hS hl
      have hl : lv_has ls 6 [(1, .int (iZ (pp))), (0, .ref h0)] := hl
      have bO := stOK_WK aO q1_21
      have b39 : μ21_ 0 39 = rS Wk := (q1_21 0 39 (by unfold WKF; omega)).trans aS
      have bO1 := bO.1
      have bT : TR μ21_ 0 Wk := TR_fr aT q1_21 (fun x => by unfold WKF; omega) (by unfold WKF; omega)
      have bR : RS μ21_ Wk 0 0 := RS_fr Wk 0 0 aR (fun x => ⟨q1_21 _ _ (by unfold WKF; omega), q1_21 _ _ (by unfold WKF; omega), q1_21 _ _ (by unfold WKF; omega)⟩)
      have bF : ∀ c : Nat, (c : Int) ≤ μ 15 pp.toNat → cFix μ21_ (μ 15 pp.toNat) pp.toNat c := fun c hc => cFix_WK aO (a4 c hc) q1_21 (by omega)
      have b4 : 0 < μ21_ (4416 + 0) 0 := by rw [q1_21 _ _ (by unfold WKF; omega)]; exact a5 (by omega)
      refine lv_iconst (v := iZ 0) hx hb dX10_walksPage_39 rfl ?_
      refine lv_istore_n (lv' := [(2, .int (iZ (0))), (1, .int (iZ (pp))), (0, .ref h0)]) hx hb dX10_walksPage_40 rfl hl (by decide) rfl (fun ls hl => ?_)
      refine lv_iconst (v := iZ 0) hx hb dX10_walksPage_41 rfl ?_
      refine lv_istore_n (lv' := [(3, .int (iZ (0))), (2, .int (iZ (0))), (1, .int (iZ (pp))), (0, .ref h0)]) hx hb dX10_walksPage_42 rfl hl (by decide) rfl (fun ls hl => ?_)
      refine LX10_walksPage_43b hx hb hml hown hts hK (Nat.le_of_ble_eq_true rfl) (Nat.le_of_ble_eq_true rfl) (Nat.le_of_ble_eq_true rfl) (Nat.le_of_ble_eq_true rfl) (μ21_) (pp) (μ 15 pp.toNat) (Wk) (by exact bO) (by exact bR) (by exact bT) (by exact aB) (by exact b39) (by omega) (by omega) (by exact bF) ?_ _ (0) (0) (1) μ21_ H locs ls (by omega) (by omega) (by exact Or.inr rfl) (by exact fr_rfl) (by exact b4) (by intro k hk; omega) (by intro x hx; rw [(q2_21 x hx).1]; omega) (by intro h; omega) (by exact ⟨0, by omega, fun _ => 0, fun _ => 0, fun _ => 0, rfl, fun j hj => (q2_21 j hj).1, fun j hj _ => (q2_21 j hj).2, fun j hj => absurd hj (Nat.not_lt_zero j), fun j hj => absurd hj (Nat.not_lt_zero j)⟩) (Nat.lt_succ_self _) hP hS (lv_sub hl [0, 1, 2, 3] rfl)
      · intro pos_22 q_22 fl_22 μ22_ H locs ls q3_22 q4_22 q5_22 q6_22 hP hS hl
        have hl : lv_has ls 6 [] := hl
        refine lv_iconst (v := iZ 1) hx hb dX10_walksPage_271 rfl ?_
        exact W.zret (v := iZ (1)) hx hb hr (by decide +kernel) (fun t9 ht9 hW9 => ⟨⟨iZ (1), (μ22_, 1), rfl, ⟨rfl, (by
                        dsimp only
                        have ff : fr WKF μa μ22_ := fr_trans q1_21 q3_22
                        have hb := μ21_
                        have bs39 : (μ21_ 0 39).toNat = sL Wk := by rw [b39, rS_sL, Int.toNat_natCast]
                        obtain ⟨m, hm1, th, pa, tk, e1, e2, e3, e4, e5⟩ := q6_22
                        rw [bs39] at e1 e5
                        have u0 : μ22_ (4416 + 0) 0 = μ21_ (4416 + 0) 0 := q3_22 _ _ (by unfold WKF; omega)
                        have bc : ∀ c x : Nat, x ≤ sL Wk → μ21_ (4416 + x) c = μa (4416 + x) c := fun c x hx => q1_21 _ _ (by have h9 := bO1; have h8 := bO.2.1; unfold WKF; omega)
                        refine ⟨fr_trans (fr_mono a1 (fun _ _ h => Or.inl h)) (fr_mono ff (fun x y h => Or.inr h)), (ff 0 0 (by unfold WKF; omega)).trans (a1 0 0 (by unfold SW SF CF; omega)), Or.inr ⟨rfl, th, pa, tk, ⟨by rw [u0, bc 0 0 (Nat.zero_le _)]; exact a5 (by omega), rF μ21_, ⟨wk_cg (lfY_O _ _) (fun c _ x hx => (bc c x hx).symm) aK, fun c x hc hx => ?_⟩, u0, fun _ => ⟨KS μ21_, MS9 μ21_, NS9 μ21_, m, _, hm1, PC_ref Wk 0 0 aB.1 bT.2 bR, e1, e5⟩⟩, e2, fun j hj h4 => e3 j hj ((q3_22 507 j (by unfold WKF; omega)).symm.trans h4), fun j hj => e4 j (by omega), q4_22, q5_22⟩⟩
                        exact ((bF c (by omega)).1 x (by omega)).1)⟩, by rw [ht9]; exact hP, va_K.moved hW9.alike hK⟩, hS.F ht9⟩) hS.2.2 dX10_walksPage_272
  · refine lv_iconst (v := iZ 0) hx hb dX10_walksPage_8 rfl ?_
    exact W.zret (v := iZ (0)) hx hb hr (by decide +kernel) (fun t9 ht9 hW9 => ⟨⟨iZ (0), (μa, 0), rfl, ⟨rfl, (by
                dsimp only
                exact ⟨fr_mono a1 (fun _ _ h => Or.inl h), a1 0 0 (by unfold SW SF CF; omega), Or.inl ⟨rfl, _, aK, a6 (by omega)⟩⟩)⟩, by rw [ht9]; exact hP, va_K.moved hW9.alike hK⟩, hS.F ht9⟩) hS.2.2 dX10_walksPage_9

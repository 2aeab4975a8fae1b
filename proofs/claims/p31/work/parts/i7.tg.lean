/-! a whole row tidied: what its line is, row by row -/
/-- the same row, options and repeats without a value -/
def rnv : Rw → Rw
  | .leaf => .leaf
  | .inner _ k v l r => .inner 0 k (if k < 3 then v else -1) l (rnv r)
theorem rnv_L : ∀ w : Rw, sL (rnv w) = sL w
  | .leaf => rfl
  | .inner z k v l r => by rw [rnv, sL_in, sL_in, rnv_L r]
theorem RTq_nv : ∀ w : Rw, RTq w (rnv w)
  | .leaf => trivial
  | .inner z k v l r => by
    refine ⟨rfl, ?_, RTq_nv r⟩
    by_cases h : k < 3
    · exact Or.inl ⟨h, (if_pos h).symm, rfl⟩
    · exact Or.inr ⟨by omega, if_neg h, TQ_refl l⟩
theorem sG_3 {k : Nat} (h : 3 ≤ k) (v v2 : Int) : sG k v = sG k v2 := by
  unfold sG
  rw [if_neg (by omega), if_neg (by omega), if_neg (by omega), if_neg (by omega)]
/-- room for whatever tidying makes of a row -/
def cpT (w : Rw) (L rm : Int) : Prop := ∀ y : Rw, RTq w y → L - sL w + sL y ≤ rm
theorem cpT_lf {z k : Nat} {v : Int} {l r : Rw} {L rm : Int} (hk : k < 3) (h : cpT (.inner z k v l r) L rm) : cpT r L rm := fun y hy => by
  have h9 := h (.inner 0 k v l y) ⟨rfl, Or.inl ⟨hk, rfl, rfl⟩, hy⟩
  rw [sL_in, sL_in] at h9
  omega
theorem cpT_in {z k : Nat} {v : Int} {l r : Rw} {L rm : Int} (hk : 3 ≤ k) (h : cpT (.inner z k v l r) L rm) : cpT l L rm := fun y hy => by
  have h9 := h (.inner 0 k (-1) y (rnv r)) ⟨rfl, Or.inr ⟨hk, rfl, RTq_is hy⟩, RTq_nv r⟩
  rw [sL_in, sL_in, rnv_L, if_neg (by omega), if_neg (by omega)] at h9
  omega
theorem cpT_st {z k : Nat} {v : Int} {l r lx : Rw} {L L1 rm : Int} (hk : 3 ≤ k) (h : cpT (.inner z k v l r) L rm) (hq : TQ l lx) (hL : L1 + sL l = L + sL lx) : ∀ y : Rw, TQ lx y → L1 - sL lx + sL y ≤ rm := fun y hy => by
  have h9 := h (.inner 0 k (-1) y (rnv r)) ⟨rfl, Or.inr ⟨hk, rfl, TQ_trans hq hy⟩, RTq_nv r⟩
  rw [sL_in, sL_in, rnv_L, if_neg (by omega), if_neg (by omega)] at h9
  omega
theorem cpT_rs {z k : Nat} {v : Int} {l r lx : Rw} {L L1 rm : Int} (hk : 3 ≤ k) (h : cpT (.inner z k v l r) L rm) (hq : TQ l lx) (hL : L1 + sL l = L + sL lx) : cpT r L1 rm := fun y hy => by
  have h9 := h (.inner 0 k (-1) lx y) ⟨rfl, Or.inr ⟨hk, rfl, hq⟩, hy⟩
  rw [sL_in, sL_in, if_neg (by omega), if_neg (by omega)] at h9
  omega
theorem rWF_r {z k : Nat} {v : Int} {l r lx : Rw} (h : rWF (.inner z k v l r)) (hk : 3 ≤ k) (h1 : rWF lx) (h2 : lx ≠ .leaf) : rWF (.inner 0 k v lx r) := by
  obtain ⟨a1, a2, a3, a4, a5, a6, a7, a8⟩ := h
  exact ⟨a1, fun h => by omega, fun _ => h2, a4, a5, a6, h1, a8⟩
/-- where a repeat or an option ends, and the other way round -/
theorem cl_mt {μ : va_M} {q rm pp z k : Nat} {v : Int} {l r : Rw} (hG : rG μ q rm) (hw : rWF (.inner z k v l r)) (hA : SA μ (q + 1) (.inner z k v l r) pp) (hk : 3 ≤ k) (hle : (pp : Int) + sL (Std.DTreeMap.Internal.Impl.inner z k v l r : Rw) ≤ μ q 5) : μ (q + 2) pp = ((pp + 1 + sL l : Nat) : Int) ∧ μ (q + 2) (pp + 1 + sL l) = pp := by
  have hs : sL (Std.DTreeMap.Internal.Impl.inner z k v l r : Rw) = 2 + sL l + sL r := by rw [sL_in, if_neg (by omega)]
  obtain ⟨d, -, m1, m2, -, -⟩ := fi_step (v := .inner z k v l r) (p1 := pp) (i := pp) (k := 0) hG hw (by rw [Int.toNat_natCast]; exact hA) (by omega) (by rw [sO_0]; omega) (by omega) hle
  rw [Int.toNat_natCast] at m1
  rw [sO_in, if_neg (by omega), sO_0, sO_0] at m2
  have e1 : μ (q + 2) pp = ((pp + 1 + sL l : Nat) : Int) := by omega
  have hg := sG_b (rWF_0 _ hw).1
  have hk4 := hw.1
  have hc : μ (q + 1) pp = 513 ∨ μ (q + 1) pp = 514 := by
    rw [hA.1]
    by_cases h3 : k = 3
    · exact Or.inl (hg.2.1 h3)
    · exact Or.inr (hg.2.2 (by omega))
  obtain ⟨m, n1, n2, n3, n4, n5, n6⟩ := (rG_at hG (i := pp) (by omega)).1.2.1 hc
  obtain rfl : m = pp + 1 + sL l := by omega
  exact ⟨e1, n6⟩
/-- the segment with one item more ahead -/
theorem sgN_lf {μ u : va_M} {c p L L2 z k : Nat} {v : Int} {l r x : Rw} (hk : k < 3) (hl : l = .leaf) (hA : SA μ c (.inner z k v l r) p) (h : sgN μ u c (p + 1) L r x L2) : sgN μ u c p L (.inner z k v l r) (.inner 0 k v l x) L2 := by
  obtain ⟨h1, h2, h3, h4⟩ := h
  have e1 : sL (Std.DTreeMap.Internal.Impl.inner z k v l r : Rw) = 1 + sL r := by rw [sL_in, if_pos hk]
  have e2 : sL (Std.DTreeMap.Internal.Impl.inner 0 k v l x : Rw) = 1 + sL x := by rw [sL_in, if_pos hk]
  refine ⟨⟨(h3 p (by omega)).trans hA.1, fun h => by omega, by rw [if_pos hk]; exact h1⟩, by omega, fun j hj => h3 j (by omega), fun t ht => ?_⟩
  have h9 := h4 t (by omega)
  rw [e1, e2, show p + (1 + sL x) + t = p + 1 + sL x + t by omega, show p + (1 + sL r) + t = p + 1 + sL r + t by omega]
  exact h9
theorem sgN_gr {μ u y : va_M} {c p L L1 L2 z k : Nat} {v : Int} {l r lx x : Rw} (hk : 3 ≤ k) (hA : SA μ c (.inner z k v l r) p) (hL : p + sL (Std.DTreeMap.Internal.Impl.inner z k v l r : Rw) ≤ L) (h : sgN μ u c (p + 1) L l lx L1) (g : sgN u y c (p + (2 + sL lx)) L1 r x L2) : sgN μ y c p L (.inner z k v l r) (.inner 0 k (-1) lx x) L2 := by
  obtain ⟨h1, h2, h3, h4⟩ := h
  obtain ⟨g1, g2, g3, g4⟩ := g
  obtain ⟨a1, a2, a3⟩ := hA
  have e1 : sL (Std.DTreeMap.Internal.Impl.inner z k v l r : Rw) = 2 + sL l + sL r := by rw [sL_in, if_neg (by omega)]
  have e2 : sL (Std.DTreeMap.Internal.Impl.inner 0 k (-1) lx x : Rw) = 2 + sL lx + sL x := by rw [sL_in, if_neg (by omega)]
  refine ⟨⟨?_, fun _ => ⟨SA_to _ _ _ h1 (fun d hd => g3 _ (by omega)), ?_⟩, by rw [if_neg (by omega)]; exact g1⟩, by omega, fun j hj => (g3 j (by omega)).trans (h3 j (by omega)), fun t ht => ?_⟩
  · rw [g3 p (by omega), h3 p (by omega), a1]
    exact sG_3 hk _ _
  · have h9 := h4 0 (by omega)
    rw [g3 _ (by omega)]
    have e3 : p + 1 + sL lx + 0 = p + 1 + sL lx := rfl
    have e4 : p + 1 + sL l + 0 = p + 1 + sL l := rfl
    rw [e3, e4] at h9
    rw [h9]
    exact (a2 hk).2
  · have h9 := g4 t (by omega)
    have h8 := h4 (1 + sL r + t) (by omega)
    rw [e1, e2, show p + (2 + sL lx + sL x) + t = p + (2 + sL lx) + sL x + t by omega, h9, show p + (2 + sL lx) + sL r + t = p + 1 + sL lx + (1 + sL r + t) by omega, h8]
    congr 1
    omega
/-- the rest's line, behind a segment -/
theorem sgN_rs {μ u : va_M} {c p L L1 z k : Nat} {v : Int} {l r lx : Rw} (hk : 3 ≤ k) (hA : SA μ c (.inner z k v l r) p) (hL : p + sL (Std.DTreeMap.Internal.Impl.inner z k v l r : Rw) ≤ L) (h : sgN μ u c (p + 1) L l lx L1) : SA u c r (p + (2 + sL lx)) ∧ u c (p + 1 + sL lx) = 515 ∧ SA u c (.inner 0 k v lx r) p := by
  obtain ⟨h1, h2, h3, h4⟩ := h
  obtain ⟨a1, a2, a3⟩ := hA
  rw [if_neg (by omega)] at a3
  have e1 : sL (Std.DTreeMap.Internal.Impl.inner z k v l r : Rw) = 2 + sL l + sL r := by rw [sL_in, if_neg (by omega)]
  have b1 : SA u c r (p + (2 + sL lx)) := SA_to _ _ _ a3 (fun d hd => by
    have h8 := h4 (1 + d) (by omega)
    rw [show p + (2 + sL lx) + d = p + 1 + sL lx + (1 + d) by omega, h8]
    congr 1
    omega)
  have h9 := h4 0 (by omega)
  have e3 : p + 1 + sL lx + 0 = p + 1 + sL lx := rfl
  have e4 : p + 1 + sL l + 0 = p + 1 + sL l := rfl
  rw [e3, e4] at h9
  have b2 : u c (p + 1 + sL lx) = 515 := h9.trans (a2 hk).2
  exact ⟨b1, b2, (h3 p (by omega)).trans a1, fun _ => ⟨h1, b2⟩, by rw [if_neg (by omega)]; exact b1⟩
/-- no more steps than nodes -/
theorem tAl_n : ∀ (w x : Rw) (n : Nat), rWF w → rAd w → tAl w x n → n + rI w ≤ rN w ∧ rI x = rI w
  | .leaf, x, n, _, _, ⟨h1, h2⟩ => by
    subst h1 h2
    exact ⟨Nat.le_refl _, rfl⟩
  | .inner z k v l r, x, n, hw, hA, ⟨r2, n1, h1, h2⟩ => by
    obtain ⟨i1, i2⟩ := tAl_n r r2 n1 hw.2.2.2.2.2.2.2 hA.2.2.2 h1
    rw [rN_in, rI_in]
    rcases h2 with ⟨a, e1, e2⟩ | ⟨a, lx, l2, n2, n3, e1, e2, e3, e4, e5⟩
    · rw [e1, rI_in]
      exact ⟨by omega, by omega⟩
    · obtain ⟨j1, j2⟩ := tAl_n l lx n2 hw.2.2.2.2.2.2.1 hA.2.2.1 e1
      have hq := RTq_is (tAl_q l lx n2 hw.2.2.2.2.2.2.1 hA.2.2.1 e1)
      obtain ⟨t1, t2, _⟩ := hq.1 hw.2.2.2.2.2.2.1 hA.2.2.1
      have h3 := (tSt_TQ n3 lx l2 t1 t2 e2).2
      rw [e4, rI_in]
      exact ⟨by omega, by omega⟩
theorem tdy_n {w u : Rw} {n : Nat} (hw : rWF w) (hA : rAd w) (h : tdy w u n) : n ≤ rN w := by
  obtain ⟨x, n1, n2, t1, t2, t3, t4⟩ := h
  obtain ⟨i1, i2⟩ := tAl_n w x n1 hw hA t1
  have hq := RTq_is (tAl_q w x n1 hw hA t1)
  obtain ⟨s1, s2, _⟩ := hq.1 hw hA
  have h3 := (tSt_TQ n2 x u s1 s2 t2).2
  omega

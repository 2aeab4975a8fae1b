/-! the class's line: where twins stand, what stands ahead of a repeat or behind it; what joining makes of it -/
theorem sG_dl {k : Nat} {v : Int} {l : Rw} (h : iW0 k v l) : (k < 3 → dl (sG k v) = 0) ∧ (3 ≤ k → dl (sG k v) = 1) := by
  obtain ⟨b1, b2, b3⟩ := sG_b h
  refine ⟨fun hk => ?_, fun hk => ?_⟩
  · have h1 := b1 hk
    exact dl_0 h1.2
  · have h4 := h.1
    unfold dl
    by_cases h3 : k = 3
    · rw [b2 h3]; rfl
    · rw [b3 (by omega)]; rfl
theorem SA_Dp {μ : va_M} {c : Nat} : ∀ (w : Rw) (p : Nat), rW0 w → SA μ c w p → Dp (μ c) (p + sL w) = Dp (μ c) p ∧ ∀ j : Nat, j ≤ sL w → Dp (μ c) p ≤ Dp (μ c) (p + j)
  | .leaf, p, _, _ => ⟨rfl, fun j hj => by
    have e : sL (Std.DTreeMap.Internal.Impl.leaf : Rw) = 0 := rfl
    obtain rfl : j = 0 := by omega
    exact Int.le_refl _⟩
  | .inner z k v l r, p, ⟨w1, w2, w3⟩, ⟨s1, s2, s3⟩ => by
    obtain ⟨g1, g2⟩ := sG_dl w1
    have hs := Dp_s (μ c) p
    rw [s1] at hs
    by_cases hk : k < 3
    · rw [if_pos hk] at s3
      obtain ⟨i1, i2⟩ := SA_Dp r (p + 1) w3 s3
      rw [sL_in, if_pos hk]
      have h0 := g1 hk
      refine ⟨by rw [show p + (1 + sL r) = p + 1 + sL r by omega]; omega, fun j hj => ?_⟩
      by_cases h9 : j = 0
      · rw [h9]; exact Int.le_refl _
      · have h8 := i2 (j - 1) (by omega)
        rw [show p + 1 + (j - 1) = p + j by omega] at h8
        omega
    · rw [if_neg hk] at s3
      obtain ⟨s4, s5⟩ := s2 (by omega)
      obtain ⟨j1, j2⟩ := SA_Dp l (p + 1) w2 s4
      obtain ⟨i1, i2⟩ := SA_Dp r (p + (2 + sL l)) w3 s3
      rw [sL_in, if_neg hk]
      have h0 := g2 (by omega)
      have hc := Dp_s (μ c) (p + 1 + sL l)
      rw [s5] at hc
      have hd : dl 515 = -1 := rfl
      have he : Dp (μ c) (p + (2 + sL l)) = Dp (μ c) p := by
        rw [show p + (2 + sL l) = p + 1 + sL l + 1 by omega]
        omega
      refine ⟨by rw [show p + (2 + sL l + sL r) = p + (2 + sL l) + sL r by omega]; omega, fun j hj => ?_⟩
      by_cases h9 : j = 0
      · rw [h9]; exact Int.le_refl _
      · by_cases h7 : j ≤ 1 + sL l
        · have h8 := j2 (j - 1) (by omega)
          rw [show p + 1 + (j - 1) = p + j by omega] at h8
          omega
        · have h8 := i2 (j - (2 + sL l)) (by omega)
          rw [show p + (2 + sL l) + (j - (2 + sL l)) = p + j by omega] at h8
          omega
/-- where a line is as deep as its begin, an item begins or the line ends -/
theorem SA_bn {μ : va_M} {c : Nat} : ∀ (w : Rw) (p j : Nat), rW0 w → SA μ c w p → j ≤ sL w → Dp (μ c) (p + j) = Dp (μ c) p → ∃ a : Nat, a ≤ rI w ∧ sO w a = j
  | .leaf, p, j, _, _, hj, _ => ⟨0, Nat.le_refl _, by
    have e : sL (Std.DTreeMap.Internal.Impl.leaf : Rw) = 0 := rfl
    rw [sO_0]; omega⟩
  | .inner z k v l r, p, j, ⟨w1, w2, w3⟩, ⟨s1, s2, s3⟩, hj, hD => by
    obtain ⟨g1, g2⟩ := sG_dl w1
    have hs := Dp_s (μ c) p
    rw [s1] at hs
    by_cases h9 : j = 0
    · exact ⟨0, Nat.zero_le _, by rw [sO_0, h9]⟩
    · by_cases hk : k < 3
      · rw [if_pos hk] at s3
        rw [sL_in, if_pos hk] at hj
        have h0 := g1 hk
        obtain ⟨a, a1, a2⟩ := SA_bn r (p + 1) (j - 1) w3 s3 (by omega) (by rw [show p + 1 + (j - 1) = p + j by omega]; omega)
        exact ⟨a + 1, by rw [rI_in]; omega, by rw [sO_in, if_pos hk]; omega⟩
      · rw [if_neg hk] at s3
        rw [sL_in, if_neg hk] at hj
        obtain ⟨s4, s5⟩ := s2 (by omega)
        obtain ⟨j1, j2⟩ := SA_Dp l (p + 1) w2 s4
        have h0 := g2 (by omega)
        have hc := Dp_s (μ c) (p + 1 + sL l)
        rw [s5] at hc
        have hd : dl 515 = -1 := rfl
        have he : Dp (μ c) (p + (2 + sL l)) = Dp (μ c) p := by
          rw [show p + (2 + sL l) = p + 1 + sL l + 1 by omega]
          omega
        by_cases h7 : j ≤ 1 + sL l
        · exfalso
          have h8 := j2 (j - 1) (by omega)
          rw [show p + 1 + (j - 1) = p + j by omega] at h8
          omega
        · obtain ⟨a, a1, a2⟩ := SA_bn r (p + (2 + sL l)) (j - (2 + sL l)) w3 s3 (by omega) (by rw [show p + (2 + sL l) + (j - (2 + sL l)) = p + j by omega]; omega)
          exact ⟨a + 1, by rw [rI_in]; omega, by rw [sO_in, if_neg hk]; omega⟩
theorem sO_S {w : Rw} {k z k2 : Nat} {v : Int} {l r : Rw} (h : rdrop k w = .inner z k2 v l r) : sO w (k + 1) = sO w k + (if k2 < 3 then 1 else 2 + sL l) := by
  rw [sO_add, h, sO_in, sO_0]; omega
/-- an item that is a repeat, in the line -/
theorem rp_at {μ : va_M} {c : Nat} {v : Rw} {p k : Nat} (hv0 : rWF v) (hvA : SA μ c v p) (hk : k < rI v) (h4 : μ c (p + sO v k) = 514) : ∃ (z : Nat) (v2 : Int) (l r : Rw), rdrop k v = .inner z 4 v2 l r ∧ rWF l ∧ rWF r := by
  obtain ⟨z, k2, v2, l, r, e⟩ := rI_pos (w := rdrop k v) (by rw [rdrop_I]; omega)
  have hs := SA_drop k v p hvA
  have hW := rdrop_WF k v hv0
  have hw := rWF_0 _ hW
  rw [e] at hs hW hw
  obtain ⟨b1, b2, b3⟩ := sG_b hw.1
  have h1 := hs.1
  rw [h4] at h1
  have hk5 := hw.1.1
  by_cases h3 : k2 < 3
  · have := b1 h3; omega
  · by_cases h5 : k2 = 3
    · have := b2 h5; omega
    · obtain rfl : k2 = 4 := by omega
      exact ⟨z, v2, l, r, e, hW.2.2.2.2.2.2.1, hW.2.2.2.2.2.2.2⟩
theorem rp_ln {μ : va_M} {c : Nat} {v : Rw} {p k z : Nat} {v2 : Int} {l r : Rw} (hvA : SA μ c v p) (hv0 : rWF v) (e : rdrop k v = .inner z 4 v2 l r) : μ c (p + sO v k) = 514 ∧ SA μ c l (p + sO v k + 1) ∧ μ c (p + sO v k + 1 + sL l) = 515 ∧ sO v (k + 1) = sO v k + (2 + sL l) ∧ SA μ c r (p + sO v (k + 1)) := by
  have hs := SA_drop k v p hvA
  have hw := rWF_0 _ (rdrop_WF k v hv0)
  have h5 := sO_S e
  rw [e] at hs hw
  rw [if_neg (by omega)] at h5
  obtain ⟨b1, b2, b3⟩ := sG_b hw.1
  obtain ⟨s1, s2, s3⟩ := hs
  rw [if_neg (by omega)] at s3
  exact ⟨s1.trans (b3 rfl), (s2 (by omega)).1, (s2 (by omega)).2, h5, by rw [h5, ← Nat.add_assoc]; exact s3⟩
theorem tw_line {μ : va_M} {c : Nat} {v : Rw} {p k : Nat} (hv0 : rWF v) (hvA : SA μ c v p) : twn v k ↔ (k + 1 < rI v ∧ μ c (p + sO v k) = 514 ∧ μ c (p + sO v (k + 1)) = 514 ∧ sO v (k + 1) + sO v (k + 1) = sO v k + sO v (k + 2) ∧ ∀ t : Nat, sO v k + t < sO v (k + 1) → sAl (μ c (p + sO v k + t)) (μ c (p + sO v (k + 1) + t))) := by
  constructor
  · rintro ⟨za, va, la, ra, zb, vb, lb, rb, e1, e2, h⟩
    obtain ⟨a1, a2, a3, a4, _⟩ := rp_ln hvA hv0 e1
    obtain ⟨b1, b2, b3, b4, _⟩ := rp_ln hvA hv0 e2
    have hw1 := rWF_0 _ (rdrop_WF k v hv0)
    have hw2 := rWF_0 _ (rdrop_WF (k + 1) v hv0)
    have hI := rdrop_I (k + 1) v
    rw [e1] at hw1
    rw [e2] at hw2
    rw [e2, rI_in] at hI
    have hL := ralk_sL _ _ hw1.2.1 hw2.2.1 h
    have b4 : sO v (k + 2) = sO v (k + 1) + (2 + sL lb) := b4
    refine ⟨by omega, a1, b1, by omega, fun t ht => ?_⟩
    by_cases t0 : t = 0
    · rw [t0, Nat.add_zero, Nat.add_zero, a1, b1]; exact sAl_rf _
    · by_cases t1 : t = 1 + sL la
      · rw [t1, show p + sO v k + (1 + sL la) = p + sO v k + 1 + sL la by omega, show p + sO v (k + 1) + (1 + sL la) = p + sO v (k + 1) + 1 + sL lb by omega, a3, b3]; exact sAl_rf _
      · have h9 := ralk_sA la lb _ _ hw1.2.1 hw2.2.1 h a2 b2 (t - 1) (by omega)
        rw [show p + sO v k + 1 + (t - 1) = p + sO v k + t by omega, show p + sO v (k + 1) + 1 + (t - 1) = p + sO v (k + 1) + t by omega] at h9
        exact h9
  · rintro ⟨h1, h2, h3, h4, h5⟩
    obtain ⟨za, va, la, ra, e1, w1, _⟩ := rp_at hv0 hvA (by omega) h2
    obtain ⟨zb, vb, lb, rb, e2, w2, _⟩ := rp_at hv0 hvA h1 h3
    obtain ⟨a1, a2, a3, a4, _⟩ := rp_ln hvA hv0 e1
    obtain ⟨b1, b2, b3, b4, _⟩ := rp_ln hvA hv0 e2
    refine ⟨za, va, la, ra, zb, vb, lb, rb, e1, e2, sA_ralk la lb _ _ (rWF_0 _ w1) (rWF_0 _ w2) a2 b2 a3 b3 (fun t ht => ?_)⟩
    have h9 := h5 (1 + t) (by omega)
    rw [show p + sO v k + (1 + t) = p + sO v k + 1 + t by omega, show p + sO v (k + 1) + (1 + t) = p + sO v (k + 1) + 1 + t by omega] at h9
    exact h9
theorem nx_ln {μ : va_M} {c : Nat} {v l : Rw} {p q a : Nat} (hl0 : rWF l) (hv0 : rWF v) (hvA : SA μ c v p) (hlA : SA μ c l q) (ha : a ≤ rI v) : nxt l (rdrop a v) ↔ (sO v a + sL l ≤ sL v ∧ ∀ t : Nat, t < sL l → sAl (μ c (q + t)) (μ c (p + sO v a + t))) := by
  have hs := SA_drop a v p hvA
  have hwv := rWF_0 _ (rdrop_WF a v hv0)
  have hwl := rWF_0 _ hl0
  have hq := qdrop_L a v
  constructor
  · intro h
    have h1 := (nxt_ralk l _ h).1
    have hW := rpre_W (rI l) _ .leaf hwv trivial
    have h2 := ralk_sL _ _ hwl hW h1
    rw [rpre_sL] at h2
    have h3 := sO_le (rdrop a v) (rI l)
    exact ⟨by omega, fun t ht => ralk_sA _ _ _ _ hwl hW h1 hlA (rpre_SA _ _ _ hs) t ht⟩
  · rintro ⟨h1, h2⟩
    exact sA_nx l _ q (p + sO v a) (p + sL v) hwl hwv hlA hs (Or.inl (by omega)) (by omega) h2
theorem tb_line {μ : va_M} {c : Nat} {v : Rw} {p k z : Nat} {v2 : Int} {l r : Rw} (hv0 : rWF v) (hvA : SA μ c v p) (e : rdrop k v = .inner z 4 v2 l r) : nxt l (rdrop (k + 1) v) ↔ (sO v (k + 1) + sL l ≤ sL v ∧ ∀ t : Nat, t < sL l → sAl (μ c (p + sO v k + 1 + t)) (μ c (p + sO v (k + 1) + t))) := by
  have hW := rdrop_WF k v hv0
  have hI := rdrop_I k v
  rw [e] at hW hI
  rw [rI_in] at hI
  exact nx_ln hW.2.2.2.2.2.2.1 hv0 hvA (rp_ln hvA hv0 e).2.1 (by omega)
theorem ta_line {μ : va_M} {c : Nat} {v : Rw} {p k z : Nat} {v2 : Int} {l r : Rw} (hv0 : rWF v) (hvA : SA μ c v p) (e : rdrop k v = .inner z 4 v2 l r) : (rI l ≤ k ∧ nxt l (rdrop (k - rI l) v)) ↔ (sL l ≤ sO v k ∧ ∀ t : Nat, t < sL l → sAl (μ c (p + (sO v k - sL l) + t)) (μ c (p + sO v k + 1 + t))) := by
  have hW := rdrop_WF k v hv0
  have hI := rdrop_I k v
  rw [e] at hW hI
  rw [rI_in] at hI
  have hl0 := hW.2.2.2.2.2.2.1
  have hwl := rWF_0 _ hl0
  have hwv := rWF_0 _ hv0
  obtain ⟨a1, a2, a3, a4, _⟩ := rp_ln hvA hv0 e
  constructor
  · rintro ⟨h1, h2⟩
    have h3 := (nx_ln hl0 hv0 hvA a2 (by omega)).mp h2
    have hx := (nxt_ralk l _ h2).1
    have hW2 := rpre_W (rI l) _ .leaf (rWF_0 _ (rdrop_WF (k - rI l) v hv0)) trivial
    have h4 := ralk_sL _ _ hwl hW2 hx
    rw [rpre_sL] at h4
    have h5 := sO_add (k - rI l) (rI l) v
    rw [show k - rI l + rI l = k by omega] at h5
    refine ⟨by omega, fun t ht => ?_⟩
    have h6 := h3.2 t ht
    rw [show sO v k - sL l = sO v (k - rI l) by omega]
    exact sAl_s h6
  · rintro ⟨h1, h2⟩
    have d1 := (SA_Dp l _ hwl a2).1
    have d2 := Dp_al (f := μ c) (a := p + sO v k + 1) (b := p + (sO v k - sL l)) (n := sL l) (fun t ht => sAl_s (h2 t ht))
    rw [show p + (sO v k - sL l) + sL l = p + sO v k by omega] at d2
    have d3 := (SA_Dp _ p (rpre_W k v .leaf hwv trivial) (rpre_SA k v p hvA)).1
    rw [rpre_sL] at d3
    have hle := sO_le v k
    obtain ⟨a, b1, b2⟩ := SA_bn v p (sO v k - sL l) hwv hvA (by omega) (by omega)
    have h3 : nxt l (rdrop a v) := (nx_ln hl0 hv0 hvA a2 b1).mpr ⟨by omega, fun t ht => by rw [b2]; exact sAl_s (h2 t ht)⟩
    have hx := (nxt_ralk l _ h3).1
    have hW2 := rpre_W (rI l) _ .leaf (rWF_0 _ (rdrop_WF a v hv0)) trivial
    have h4 := ralk_sL _ _ hwl hW2 hx
    rw [rpre_sL] at h4
    have h5 := sO_add a (rI l) v
    have h6 := nxt_I _ _ h3
    rw [rdrop_I] at h6
    have h7 : a + rI l = k := by
      by_cases c1 : a + rI l < k
      · have x1 := sO_lt v (a + rI l) (by omega)
        have x2 := sO_mono v (a + rI l + 1) k (by omega)
        omega
      · by_cases c2 : k < a + rI l
        · have x1 := sO_lt v k (by omega)
          have x2 := sO_mono v (k + 1) (a + rI l) (by omega)
          omega
        · omega
    exact ⟨by omega, by rw [show k - rI l = a by omega]; exact h3⟩
/-- a repeat's line in the place of some items -/
theorem rtk_SA {μ u : va_M} {c cu : Nat} {w x : Rw} {p a b : Nat} (hS : SA μ c w p) (hn : a ≤ rI w) (h1 : ∀ t : Nat, t < sO w a → u cu (p + t) = μ c (p + t)) (h2 : u cu (p + sO w a) = 514) (h3 : SA u cu x (p + sO w a + 1)) (h4 : u cu (p + sO w a + 1 + sL x) = 515) (h5 : ∀ t : Nat, sO w b + t < sL w → u cu (p + sO w a + 2 + sL x + t) = μ c (p + sO w b + t)) : SA u cu (rtk w a x b) p ∧ sL (rtk w a x b) + sO w b = sO w a + 2 + sL x + sL w := by
  have q := qdrop_L b w
  have e1 : (if (4 : Nat) < 3 then 1 else 2 + sL x) = 2 + sL x := rfl
  refine ⟨rpre_SAx a w p hn (SA_to _ p p (rpre_SA a w p hS) (fun d hd => by rw [rpre_sL] at hd; exact h1 d hd)) ⟨h2, fun _ => ⟨h3, h4⟩, ?_⟩, ?_⟩
  · rw [e1]
    refine SA_to _ _ _ (SA_drop b w p hS) (fun d hd => ?_)
    have := h5 d (by omega)
    rw [← this]
    congr 1
    omega
  · unfold rtk
    rw [rpre_sLx a w _ hn, sL_in, e1]
    omega

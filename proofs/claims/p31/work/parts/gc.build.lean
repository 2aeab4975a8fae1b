
/-! laying, told whole: build -/
theorem at_sg {μ : va_M} {q : Nat} {w : Rw} {i : Int} (h : rwL μ q w) (h0 : 0 ≤ i) (hi : i < μ q 5) : μ (q + 1) i.toNat = rsg (sub w i.toNat) ∧ (μ (q + 1) i.toNat = 513 ↔ rk (sub w i.toNat) = 3) := by
  have hl := h.2.2
  rcases sub_e h.1 h.2.1 (show i.toNat ≤ sL w by omega) with ⟨e, e2⟩ | ⟨z, k, v, l, r, e1, e2, e3, e4, e5, e6, e7⟩
  · have e3 : μ (q + 1) i.toNat = 515 := by
      rcases e2 with e2 | e2
      · omega
      · exact e2
    rw [e, e3]
    exact ⟨rfl, fun h => absurd h (by decide), fun h => absurd h (by decide)⟩
  · rw [e1, e6]
    refine ⟨rfl, ?_⟩
    show sG k v = 513 ↔ k = 3
    obtain ⟨g1, g2, g3⟩ := sG_b e2
    have hk4 := e2.1
    constructor
    · intro h
      by_cases a : k < 3
      · have := g1 a; omega
      · by_cases b : k = 3
        · exact b
        · have := g3 (by omega); omega
    · exact g2
theorem at_it {μ : va_M} {q rm : Nat} {w : Rw} {i : Int} (hG : rG μ q rm) (h : rwL μ q w) (h0 : 0 ≤ i) (hi : i < μ q 5 ∧ μ (q + 1) i.toNat ≠ 515) : (rit (sub w i.toNat)).length = (μ (q + 2) i.toNat + 1 - i).toNat ∧ (∀ t : Nat, t < (rit (sub w i.toNat)).length → (rit (sub w i.toNat))[t]? = some (μ (q + 1) (i.toNat + t))) ∧ μ (q + 2) i.toNat + 1 = i + rd (sub w i.toNat) ∧ i.toNat + rd (sub w i.toNat) ≤ sL w := by
  obtain ⟨z, k, v, l, r, d, e1, e2, e3, e4, e5, e6, e7, e8, e9, e10⟩ := at_in hG h h0 hi
  rw [e1]
  have hd : rd (.inner z k v l r : Rw) = d := by rw [e5]; rfl
  have hlen : (rit (.inner z k v l r : Rw)).length = d := by
    show (lI k v l).length = d
    rw [lI_len]
    exact hd
  refine ⟨by omega, fun t ht => ?_, by rw [hd]; exact e6, by omega⟩
  have hs : SA μ (q + 1) (.inner z k v l .leaf : Rw) i.toNat := ⟨e4.1, e4.2.1, trivial⟩
  have e0 : sL (.leaf : Rw) = 0 := rfl
  have h9 := SA_lsg _ _ hs t (by rw [sL_in, ← e5, e0]; omega)
  rw [lsg_in, show lI k v l ++ lsg (.leaf : Rw) = lI k v l from List.append_nil _] at h9
  exact h9
theorem zip_at {μ : va_M} {c c2 p p2 n : Nat} {x y : Rw} (h1 : SA μ c x p) (h2 : SA μ c2 y p2) (hx : n ≤ sL x) (hy : n ≤ sL y) (hn : n = sL x ∨ n = sL y) : (List.zipWith sFu (lsg x) (lsg y)).length = n ∧ ∀ t : Nat, t < n → (List.zipWith sFu (lsg x) (lsg y))[t]? = some (sFu (μ c (p + t)) (μ c2 (p2 + t))) :=
  ⟨by rw [List.length_zipWith, lsg_len, lsg_len]; omega, fun t ht => by rw [List.getElem?_zipWith, SA_lsg x p h1 t (by omega), SA_lsg y p2 h2 t (by omega)]⟩
theorem at_hs {μ : va_M} {q : Nat} {w : Rw} {i : Int} (h : rwL μ q w) (h0 : 0 ≤ i ∧ i ≤ μ q 5) (hx : hsd (sub w i.toNat) = true) : i < μ q 5 ∧ μ (q + 1) i.toNat ≠ 515 := by
  by_cases he : μ q 5 ≤ i ∨ μ (q + 1) i.toNat = 515
  · rw [at_lf h h0 he] at hx
    cases hx
  · exact ⟨by omega, fun e => he (Or.inr e)⟩
theorem at_m {μ : va_M} {q q2 : Nat} {w b : Rw} {i j : Int} (h1 : rwL μ q w) (h2 : rwL μ q2 b) (hv : vis μ q q2 i j) (hl : μ q 5 ≤ 1100 ∧ μ q2 5 ≤ 1100) : wmin lay (sub w i.toNat) (sub b j.toNat) < 1000000 := by
  have hB := at_B h1 h2 hv hl
  have hl9 := layB (sub w i.toNat) (sub b j.toNat)
  have q1 := rL_N (sub w i.toNat)
  have q2 := rL_N (sub b j.toNat)
  rw [lay_c] at hl9
  omega
/-- way 2, at its places -/
theorem at_w2 {μ : va_M} {q q2 rm : Nat} {w b : Rw} {i j : Int} (hG : rG μ q rm) (h1 : rwL μ q w) (h2 : rwL μ q2 b) (hv : vis μ q q2 i j) (hl : μ q 5 ≤ 1100 ∧ μ q2 5 ≤ 1100) (hz : wayOf (sub w i.toNat) (sub b j.toNat) = 2) : i < μ q 5 ∧ (μ (q + 1) i.toNat = 513 ∨ μ (q + 1) i.toNat = 514) ∧ sMat μ (q + 1) (i + 1) (μ q 5) (q2 + 1) j (μ q2 5) (μ (q + 2) i.toNat - i - 1) ∧ μ (q + 2) i.toNat + 1 = i + rd (sub w i.toNat) ∧ μ (q + 2) i.toNat - i - 1 = sL (rl (sub w i.toNat)) ∧ (List.zipWith sFu (lsg (rl (sub w i.toNat))) (lsg (sub b j.toNat))).length = (μ (q + 2) i.toNat - i - 1).toNat ∧ ∀ t : Nat, t < (List.zipWith sFu (lsg (rl (sub w i.toNat))) (lsg (sub b j.toNat))).length → (List.zipWith sFu (lsg (rl (sub w i.toNat))) (lsg (sub b j.toNat)))[t]? = some (sFu (μ (q + 1) ((i + 1).toNat + t)) (μ (q2 + 1) (j.toNat + t))) := by
  have l1 := h1.2.2
  have l2 := h2.2.2
  have hm := at_m h1 h2 hv hl
  obtain ⟨⟨⟨v1, v2⟩, v3, v4⟩, -⟩ := hv
  have hx := (way_hsd.1 (Or.inr (Or.inl hz))).1
  have hi := at_hs h1 ⟨v1, v2⟩ hx
  obtain ⟨z, k, v, l, r, d, e1, e2, e3, e4, e5, e6, e7, e8, e9, e10⟩ := at_in hG h1 v1 hi
  rw [e1] at hz hm ⊢
  obtain ⟨k3, hnx⟩ := way2_c hz hm
  have hrl : rl (.inner z k v l r : Rw) = l := rfl
  have hrd : rd (.inner z k v l r : Rw) = d := by rw [e5]; rfl
  rw [hrl, hrd]
  have hd2 : d = 2 + sL l := by omega
  obtain ⟨c1, c2, c3⟩ := at_end h2 ⟨v3, v4⟩
  have hW := sub_W b j.toNat h2.1
  have hal : SA μ (q + 1) l (i + 1).toNat := by rw [show (i + 1).toNat = i.toNat + 1 by omega]; exact (e4.2.1 k3).1
  obtain ⟨m1, m2, m3⟩ := nx_sA e2.2.1 hW hal c2 hnx
  have hmt := (mt_r (p := i + 1) (n1 := μ q 5) (n2 := μ q2 5) (n := μ (q + 2) i.toNat - i - 1) e2.2.1 h2 ⟨by omega, v3, v4⟩ hal (by omega) (by omega) rfl rfl).mpr hnx
  obtain ⟨z1, z2⟩ := zip_at (n := sL l) hal c2 (Nat.le_refl _) m2 (Or.inl rfl)
  exact ⟨hi.1, by omega, hmt, e6, by omega, by omega, fun t ht => z2 t (by omega)⟩
theorem at_w3 {μ : va_M} {q q2 rm2 : Nat} {w b : Rw} {i j : Int} (hG2 : rG μ q2 rm2) (h1 : rwL μ q w) (h2 : rwL μ q2 b) (hv : vis μ q q2 i j) (hl : μ q 5 ≤ 1100 ∧ μ q2 5 ≤ 1100) (hz : wayOf (sub w i.toNat) (sub b j.toNat) = 3) : j < μ q2 5 ∧ μ (q2 + 1) j.toNat = 514 ∧ sMat μ (q + 1) i (μ q 5) (q2 + 1) (j + 1) (μ q2 5) (μ (q2 + 2) j.toNat - j - 1) ∧ μ (q2 + 2) j.toNat + 1 = j + rd (sub b j.toNat) ∧ μ (q2 + 2) j.toNat - j - 1 = sL (rl (sub b j.toNat)) ∧ (List.zipWith sFu (lsg (sub w i.toNat)) (lsg (rl (sub b j.toNat)))).length = (μ (q2 + 2) j.toNat - j - 1).toNat ∧ ∀ t : Nat, t < (List.zipWith sFu (lsg (sub w i.toNat)) (lsg (rl (sub b j.toNat)))).length → (List.zipWith sFu (lsg (sub w i.toNat)) (lsg (rl (sub b j.toNat))))[t]? = some (sFu (μ (q + 1) (i.toNat + t)) (μ (q2 + 1) ((j + 1).toNat + t))) := by
  have l1 := h1.2.2
  have l2 := h2.2.2
  have hm := at_m h1 h2 hv hl
  obtain ⟨⟨⟨v1, v2⟩, v3, v4⟩, -⟩ := hv
  have hy := (way_hsd.1 (Or.inr (Or.inr hz))).2
  have hj := at_hs h2 ⟨v3, v4⟩ hy
  obtain ⟨z, k, v, l, r, d, e1, e2, e3, e4, e5, e6, e7, e8, e9, e10⟩ := at_in hG2 h2 v3 hj
  rw [e1] at hz hm ⊢
  obtain ⟨k4, hnx⟩ := way3_c hz hm
  have hrl : rl (.inner z k v l r : Rw) = l := rfl
  have hrd : rd (.inner z k v l r : Rw) = d := by rw [e5]; rfl
  rw [hrl, hrd]
  have hd2 : d = 2 + sL l := by omega
  obtain ⟨c1, c2, c3⟩ := at_end h1 ⟨v1, v2⟩
  have hW := sub_W w i.toNat h1.1
  have hal : SA μ (q2 + 1) l (j + 1).toNat := by rw [show (j + 1).toNat = j.toNat + 1 by omega]; exact (e4.2.1 (by omega)).1
  obtain ⟨m1, m2, m3⟩ := nx_sA e2.2.1 hW hal c2 hnx
  have hmt := (mt_r (p := j + 1) (n1 := μ q2 5) (n2 := μ q 5) (n := μ (q2 + 2) j.toNat - j - 1) e2.2.1 h1 ⟨by omega, v1, v2⟩ hal (by omega) (by omega) rfl rfl).mpr hnx
  obtain ⟨z1, z2⟩ := zip_at (n := sL l) c2 hal m2 (Nat.le_refl _) (Or.inr rfl)
  exact ⟨hj.1, by omega, ⟨by have := hmt.1; omega, fun t9 ht9 => sAl_s (hmt.2 t9 ht9)⟩, e6, by omega, by omega, fun t ht => z2 t (by omega)⟩
/-- what the cells tell is a good way -/
theorem wOK_v {μ : va_M} {q q2 rm rm2 : Nat} {w b : Rw} {i j : Int} (hG : rG μ q rm) (hG2 : rG μ q2 rm2) (h1 : rwL μ q w) (h2 : rwL μ q2 b) (hv : vis μ q q2 i j) (hl : μ q 5 ≤ 1100 ∧ μ q2 5 ≤ 1100) : wOK μ q q2 i j (wayOf (sub w i.toNat) (sub b j.toNat)) := by
  have hm := at_m h1 h2 hv hl
  have hv0 := hv
  obtain ⟨⟨⟨v1, v2⟩, v3, v4⟩, -⟩ := hv
  have l1 := h1.2.2
  have l2 := h2.2.2
  unfold wOK
  by_cases hne : hsd (sub w i.toNat) = true ∨ hsd (sub b j.toNat) = true
  · obtain ⟨g1, g2, _, _⟩ := way_is hne hm
    obtain ⟨s1, s2, s3⟩ := way_hsd (w := sub w i.toNat) (b := sub b j.toNat)
    have hcases : wayOf (sub w i.toNat) (sub b j.toNat) = 1 ∨ wayOf (sub w i.toNat) (sub b j.toNat) = 2 ∨ wayOf (sub w i.toNat) (sub b j.toNat) = 3 ∨ wayOf (sub w i.toNat) (sub b j.toNat) = 4 ∨ wayOf (sub w i.toNat) (sub b j.toNat) = 5 := by omega
    rcases hcases with hy | hy | hy | hy | hy
    · obtain ⟨t1, t2⟩ := s1 (Or.inl hy)
      have hi := at_hs h1 ⟨v1, v2⟩ t1
      have hj := at_hs h2 ⟨v3, v4⟩ t2
      obtain ⟨z, k, v, l, r, d, e1, e2, e3, e4, e5, e6, e7, e8, e9, e10⟩ := at_in hG h1 v1 hi
      obtain ⟨z2, k2, v2', l2', r2, d2, f1, f2, f3, f4, f5, f6, f7, f8, f9, f10⟩ := at_in hG2 h2 v3 hj
      rw [hy]
      rw [e1, f1] at hy hm
      have hc := way1_c hy hm
      refine Or.inr (Or.inl ⟨rfl, ⟨hi.1, hj.1⟩, ?_⟩)
      rw [e3, f3]
      unfold mtC at hc
      by_cases hk : k < 3
      · rw [if_pos hk] at hc
        have hal : ialk k v l k2 v2' l2' := by
          by_cases hB9 : ialkB k v l k2 v2' l2' = true
          · exact ialkB_is.mp hB9
          · rw [if_neg hB9] at hc; omega
        exact Or.inl ⟨by omega, (sG_al e2.1 f2.1).mpr (hal.imp (fun q => q) (fun q => ⟨q.1, q.2.1, q.2.2.1⟩))⟩
      · rw [if_neg hk] at hc
        by_cases h4 : k = 4 ∧ k2 = 4
        · exact Or.inr ⟨by omega, by omega⟩
        · rw [if_neg h4] at hc; omega
    · obtain ⟨a1, a2, a3, -⟩ := at_w2 hG h1 h2 hv0 hl hy
      rw [hy]
      exact Or.inr (Or.inr (Or.inl ⟨rfl, a1, a2, a3⟩))
    · obtain ⟨a1, a2, a3, -⟩ := at_w3 hG2 h1 h2 hv0 hl hy
      rw [hy]
      exact Or.inr (Or.inr (Or.inr (Or.inl ⟨rfl, a1, a2, a3⟩)))
    · have hi := at_hs h1 ⟨v1, v2⟩ (s2 hy)
      rw [hy]
      exact Or.inr (Or.inr (Or.inr (Or.inr (Or.inl ⟨rfl, hi.1, hi.2⟩))))
    · have hj := at_hs h2 ⟨v3, v4⟩ (s3 hy)
      rw [hy]
      exact Or.inr (Or.inr (Or.inr (Or.inr (Or.inr ⟨rfl, hj.1, hj.2⟩))))
  · have hx : sub w i.toNat = .leaf := by
      cases h : sub w i.toNat with
      | leaf => rfl
      | inner z k v l r => exact absurd (Or.inl (by rw [h]; rfl)) hne
    have hy : sub b j.toNat = .leaf := by
      cases h : sub b j.toNat with
      | leaf => rfl
      | inner z k v l r => exact absurd (Or.inr (by rw [h]; rfl)) hne
    refine Or.inl ⟨by rw [hx, hy]; rfl, ?_, ?_⟩
    · rcases sub_e h1.1 h1.2.1 (show i.toNat ≤ sL w by omega) with ⟨-, e⟩ | ⟨z, k, v, l, r, e1, -⟩
      · exact e.imp (fun h => by omega) (fun h => h)
      · rw [hx] at e1; cases e1
    · rcases sub_e h2.1 h2.2.1 (show j.toNat ≤ sL b by omega) with ⟨-, e⟩ | ⟨z, k, v, l, r, e1, -⟩
      · exact e.imp (fun h => by omega) (fun h => h)
      · rw [hy] at e1; cases e1
theorem LK_v {μ : va_M} {q q2 rm rm2 : Nat} {w b : Rw} (hG : rG μ q rm) (hG2 : rG μ q2 rm2) (h1 : rwL μ q w) (h2 : rwL μ q2 b) (hl : μ q 5 ≤ 1100 ∧ μ q2 5 ≤ 1100) (h : LKv μ q q2 w b) : LK μ q q2 := by
  refine ⟨h.1, fun i2 j2 hv => ?_⟩
  rw [h.2 i2 j2 hv]
  have c := enc_16 (sub w i2.toNat) (sub b j2.toNat)
  refine ⟨?_, by rw [c.2.2.1]; exact wOK_v hG hG2 h1 h2 hv hl⟩
  obtain ⟨⟨⟨a1, a2⟩, a3, a4⟩, -⟩ := hv
  have b1 := (sub_A w 0 i2.toNat h1.2.1 (by have := h1.2.2; omega)).2.1
  have b2 := (sub_A b 0 j2.toNat h2.2.1 (by have := h2.2.2; omega)).2.1
  have d1 := rL_sL (sub w i2.toNat) (sub_W w _ h1.1)
  have d2 := rL_sL (sub b j2.toNat) (sub_W b _ h2.1)
  have e1 := h1.2.2
  have e2 := h2.2.2
  unfold bnd
  omega
/-- where the putting together is: what is put, and what is still to come -/
def bT (μ : va_M) (q3 rm3 : Nat) (w b : Rw) (T : List Int) : Prop := ∃ (M : List Int) (f : Nat), outT μ q3 rm3 M ∧ (sL w - (μ 41 4).toNat) + (sL b - (μ 41 5).toNat) < f ∧ T = M ++ BLD w b f (μ 41 4).toNat (μ 41 5).toNat (μ 41 6).toNat
theorem bT_turn {μ : va_M} {q3 rm3 z o : Nat} {w b x y : Rw} {T : List Int} (h : bT μ q3 rm3 w b T) (hi : (μ 41 4).toNat < sL w ∨ (μ 41 5).toNat < sL b) (hx : sub w (μ 41 4).toNat = x) (hy : sub b (μ 41 5).toNat = y) (hz : wayOf x y = z) (ho : (μ 41 6).toNat = o) : ∃ (M : List Int) (f : Nat), outT μ q3 rm3 M ∧ (sL w - (μ 41 4).toNat) + (sL b - (μ 41 5).toNat) < f + 1 ∧ T = M ++ (pC o z (rk x) ++ (BX x y z (oC o z (rk x)) ++ BLD w b f ((μ 41 4).toNat + Bi x y z) ((μ 41 5).toNat + Bj x y z) (Bo x y z (oC o z (rk x))))) := by
  obtain ⟨M, f, h1, h2, h3⟩ := h
  obtain ⟨f0, rfl⟩ : ∃ f0, f = f0 + 1 := ⟨f - 1, by omega⟩
  rw [BLD_S hi hx hy hz, ho] at h3
  exact ⟨M, f0, h1, h2, h3⟩
theorem bT_mk {u : va_M} {q3 rm3 f i j o : Nat} {w b : Rw} {T M : List Int} (h : outT u q3 rm3 M) (e : T = M ++ BLD w b f i j o) (h4 : (u 41 4).toNat = i) (h5 : (u 41 5).toNat = j) (h6 : (u 41 6).toNat = o) (hr : (sL w - i) + (sL b - j) < f) : bT u q3 rm3 w b T := ⟨M, f, h, by rw [h4, h5]; exact hr, by rw [h4, h5, h6]; exact e⟩
theorem te_4 {w b x y : Rw} {f i j c : Nat} {T M : List Int} (h : T = M ++ (BX x y 4 c ++ BLD w b f (i + Bi x y 4) (j + Bj x y 4) (Bo x y 4 c))) : T = M ++ ((if c = 0 ∧ rk x ≠ 3 then [513] else []) ++ rit x) ++ BLD w b f (i + rd x) j (if c = 0 ∧ rk x ≠ 3 then 4 else c) := by
  rw [h, List.append_assoc]
  rfl
theorem te_5 {w b x y : Rw} {f i j c : Nat} {T M : List Int} (h : T = M ++ (BX x y 5 c ++ BLD w b f (i + Bi x y 5) (j + Bj x y 5) (Bo x y 5 c))) : T = M ++ ((if c = 0 ∧ rk y ≠ 3 then [513] else []) ++ rit y) ++ BLD w b f i (j + rd y) (if c = 0 ∧ rk y ≠ 3 then 5 else c) := by
  rw [h, List.append_assoc]
  rfl
theorem te_2 {w b x y : Rw} {f i j c : Nat} {T M : List Int} (h : T = M ++ (BX x y 2 c ++ BLD w b f (i + Bi x y 2) (j + Bj x y 2) (Bo x y 2 c))) : T = (M ++ [rsg x] ++ List.zipWith sFu (lsg (rl x)) (lsg y) ++ [515]) ++ BLD w b f (i + rd x) (j + sL (rl x)) 0 := by
  rw [h]
  show M ++ ((rsg x :: (List.zipWith sFu (lsg (rl x)) (lsg y) ++ [515])) ++ BLD w b f (i + rd x) (j + sL (rl x)) 0) = _
  simp only [List.append_assoc, List.cons_append, List.nil_append]
theorem te_3 {w b x y : Rw} {f i j c : Nat} {T M : List Int} (h : T = M ++ (BX x y 3 c ++ BLD w b f (i + Bi x y 3) (j + Bj x y 3) (Bo x y 3 c))) : T = (M ++ [514] ++ List.zipWith sFu (lsg x) (lsg (rl y)) ++ [515]) ++ BLD w b f (i + sL (rl y)) (j + rd y) 0 := by
  rw [h]
  show M ++ ((514 :: (List.zipWith sFu (lsg x) (lsg (rl y)) ++ [515])) ++ BLD w b f (i + sL (rl y)) (j + rd y) 0) = _
  simp only [List.append_assoc, List.cons_append, List.nil_append]
theorem te_1 {w b x y : Rw} {f i j c z : Nat} {T M : List Int} (hz : z ≠ 2 ∧ z ≠ 3 ∧ z ≠ 4 ∧ z ≠ 5) (h : T = M ++ (BX x y z c ++ BLD w b f (i + Bi x y z) (j + Bj x y z) (Bo x y z c))) : T = (M ++ [sFu (rsg x) (rsg y)]) ++ BLD w b f (i + 1) (j + 1) 0 := by
  obtain ⟨h2, h3, h4, h5⟩ := hz
  have e1 : BX x y z c = [sFu (rsg x) (rsg y)] := by unfold BX; rw [if_neg h4, if_neg h5, if_neg h2, if_neg h3]
  have e2 : Bi x y z = 1 := by unfold Bi; rw [if_neg h4, if_neg h5, if_neg h2, if_neg h3]
  have e3 : Bj x y z = 1 := by unfold Bj; rw [if_neg h4, if_neg h5, if_neg h2, if_neg h3]
  have e4 : Bo x y z c = 0 := by unfold Bo; rw [if_neg h4, if_neg h5]
  rw [h, e1, e2, e3, e4, List.append_assoc]
theorem oP_eq {g s : Int} {o k : Nat} (h : g.toNat = o) (h0 : 0 ≤ g) (h3 : s = 513 ↔ k = 3) : (if o = 0 ∧ k ≠ 3 then [513] else [] : List Int) = (if g = 0 ∧ s ≠ 513 then [513] else []) := by
  by_cases c : o = 0 ∧ k ≠ 3
  · rw [if_pos c, if_pos ⟨by omega, fun e => c.2 (h3.mp e)⟩]
  · rw [if_neg c, if_neg (fun q => c ⟨by omega, fun e => q.2 (h3.mpr e)⟩)]
theorem oP_o {oc k q : Nat} {u6 g6 : Int} (h : g6.toNat = oc) (p6 : (if oc = 0 ∧ k ≠ 3 then [513] else [] : List Int) = [513] → u6 = (q : Int)) (p7 : (if oc = 0 ∧ k ≠ 3 then [513] else [] : List Int) = [] → u6 = g6) : u6.toNat = if oc = 0 ∧ k ≠ 3 then q else oc := by
  by_cases c : oc = 0 ∧ k ≠ 3
  · rw [if_pos c] at p6
    rw [if_pos c, p6 rfl, Int.toNat_natCast]
  · rw [if_neg c] at p7
    rw [if_neg c, p7 rfl]
    exact h
theorem pC_z {o q k : Nat} (h : ¬ (o ≠ 0 ∧ (q ≠ o ∨ (q = 4 ∧ k = 3)))) : pC o q k = [] ∧ oC o q k = o := ⟨if_neg h, if_neg h⟩
theorem pC_y {o q k : Nat} (h : o ≠ 0 ∧ (q ≠ o ∨ (q = 4 ∧ k = 3))) : pC o q k = [515] ∧ oC o q k = 0 := ⟨if_pos h, if_pos h⟩
/-- where the putting together is, behind the end of what was open -/
def cT (μ : va_M) (q3 rm3 : Nat) (w b : Rw) (z : Nat) (T : List Int) : Prop := ∃ (M : List Int) (f : Nat), outT μ q3 rm3 M ∧ (sL w - (μ 41 4).toNat) + (sL b - (μ 41 5).toNat) < f + 1 ∧ wayOf (sub w (μ 41 4).toNat) (sub b (μ 41 5).toNat) = z ∧ T = M ++ (BX (sub w (μ 41 4).toNat) (sub b (μ 41 5).toNat) z (μ 41 6).toNat ++ BLD w b f ((μ 41 4).toNat + Bi (sub w (μ 41 4).toNat) (sub b (μ 41 5).toNat) z) ((μ 41 5).toNat + Bj (sub w (μ 41 4).toNat) (sub b (μ 41 5).toNat) z) (Bo (sub w (μ 41 4).toNat) (sub b (μ 41 5).toNat) z (μ 41 6).toNat))
theorem cT_same {μ : va_M} {q3 rm3 z : Nat} {w b : Rw} {T : List Int} (h : bT μ q3 rm3 w b T) (hi : (μ 41 4).toNat < sL w ∨ (μ 41 5).toNat < sL b) (hz : wayOf (sub w (μ 41 4).toNat) (sub b (μ 41 5).toNat) = z) (hc : ¬ ((μ 41 6).toNat ≠ 0 ∧ (z ≠ (μ 41 6).toNat ∨ (z = 4 ∧ rk (sub w (μ 41 4).toNat) = 3)))) : cT μ q3 rm3 w b z T := by
  obtain ⟨M, f, h1, h2, h3⟩ := bT_turn h hi rfl rfl hz rfl
  obtain ⟨e1, e2⟩ := pC_z hc
  rw [e1, e2, List.nil_append] at h3
  exact ⟨M, f, h1, h2, hz, h3⟩
theorem cT_close {μ u : va_M} {q3 rm3 z : Nat} {w b : Rw} {T : List Int} (h : bT μ q3 rm3 w b T) (hi : (μ 41 4).toNat < sL w ∨ (μ 41 5).toNat < sL b) (hz : wayOf (sub w (μ 41 4).toNat) (sub b (μ 41 5).toNat) = z) (hc : (μ 41 6).toNat ≠ 0 ∧ (z ≠ (μ 41 6).toNat ∨ (z = 4 ∧ rk (sub w (μ 41 4).toNat) = 3))) (h4 : u 41 4 = μ 41 4) (h5 : u 41 5 = μ 41 5) (h6 : u 41 6 = 0) (hp : ∀ M : List Int, outT μ q3 rm3 M → outT u q3 rm3 (M ++ [515])) : cT u q3 rm3 w b z T := by
  obtain ⟨M, f, h1, h2, h3⟩ := bT_turn h hi rfl rfl hz rfl
  obtain ⟨e1, e2⟩ := pC_y hc
  rw [e1, e2] at h3
  refine ⟨M ++ [515], f, hp M h1, by rw [h4, h5]; exact h2, by rw [h4, h5]; exact hz, ?_⟩
  rw [h4, h5, h6, List.append_assoc]
  exact h3
theorem tn_2 {x : Int} (h : x.toNat = 2) : x = 2 := by omega
theorem tn_3 {x : Int} (h : x.toNat = 3) : x = 3 := by omega
theorem tn_n {x : Int} {n : Nat} (h : ¬ x.toNat = n) : x ≠ (n : Int) := fun e => h (by rw [e]; rfl)
theorem cl9_0 : cl9 0 = [] := rfl
theorem cl9_n {o : Nat} (h : o ≠ 0) : cl9 o = [515] := if_neg h
set_option maxHeartbeats 40000000 in
set_option maxRecDepth 100000 in
theorem LX0_build_w4 {p : Program} {l : Launch} {e : Env} {R : Room} {s : State} {m : MethodId} {args : Array Value} {below : List Frame} {meth : Method} {c : Code} {cells slots : Nat} {Q : State → Prop} {dC : Nat → ClassId} {dI : Nat → Nat → Nat} {h0 : Nat} {cI cZ cII cIII : ClassId} (hx : p.tables.exec = Jvm.exec) (hb : c.code = cX0_build) (hml : c.maxLocals = 6) (hown : s.vm.findClass RX0 = some m.cls) (hts : ∀ w ∈ wsG, w.before args s = true) (hK : va_K (dC, dI) vwCl (sT cI cZ cII cIII) s) (hM : xM s) (hRf : 4 ≤ R.frames) (hRl : 87 ≤ R.locals) (hRc : cells ≤ R.cells) (hRs : slots ≤ R.slots) (μ0 : va_M) (q : Nat) (rm : Nat) (q2 : Nat) (rm2 : Nat) (q3 : Nat) (rm3 : Nat) (w9 : Rw) (b9 : Rw) (hq : rowB q rm) (hq2 : rowB q2 rm2) (hq3 : rowB q3 rm3) (ha3 : apart q3 q) (ha32 : apart q3 q2) (hG : rG μ0 q rm) (hG2 : rG μ0 q2 rm2) (h96 : rm2 = 96) (hLK : LK μ0 q q2) (hLKv : LKv μ0 q q2 w9 b9) (hw9 : rwL μ0 q w9) (hb9 : rwL μ0 q2 b9) (hF9 : rWF w9 ∧ rWF b9 ∧ rPg b9 ∧ rN w9 + rN b9 ≤ 1800) (n9 : Nat) (tu : Int) (μ : va_M)  (hf : fr (BQ q3) μ0 μ) (hv1 : vis μ q q2 (μ 41 4) (μ 41 5)) (hww : wOK μ q q2 (μ 41 4) (μ 41 5) 4) (ho1 : outS μ q3 rm3 (Dp (μ (q + 1)) (μ 41 4).toNat + gI (μ 41 6))) (hg1 : gOK (μ 41 6)) (hne : μ 41 4 < μ q 5 ∨ μ 41 5 < μ q2 5) (ht : 0 ≤ tu ∧ tu ≤ μ 41 4 + μ 41 5) (hcT : cT μ q3 rm3 w9 b9 (4 : Int).toNat (lsg (lrow w9 b9))) (hm9 : (1000000 - tu).toNat < n9 + 1) (ih : ∀ (tu : Int) (μ : va_M) (H : Heap) (locs : List Loc) (ls : Array Slot), (0 ≤ tu ∧ tu ≤ μ 41 4 + μ 41 5) → (fr (BQ q3) μ0 μ) → (bS μ q q2 q3 rm3) → (bT μ q3 rm3 w9 b9 (lsg (lrow w9 b9))) → (1000000 - tu).toNat < n9 → va_P (dC, dI) vwCl (fw (sE cI cZ cII cIII h0) h0 233 μ) H → va_S (fA h0 233 s.heap.size) s.heap H locs → lv_has ls 6 [(4, .int (iZ (tu))), (3, .ref (h0 + q3)), (2, .ref (h0 + q2)), (1, .ref (h0 + q)), (0, .ref (h0 + 41))] → W p l e R s m args below meth c H locs cells slots Q (F0 m 22 ls [])) :
    ∀ (H : Heap) (locs : List Loc) (ls : Array Slot), va_P (dC, dI) vwCl (fw (sE cI cZ cII cIII h0) h0 233 μ) H → va_S (fA h0 233 s.heap.size) s.heap H locs → lv_has ls 6 [(5, .int (iZ (4))), (4, .int (iZ (tu))), (3, .ref (h0 + q3)), (2, .ref (h0 + q2)), (1, .ref (h0 + q)), (0, .ref (h0 + 41))] → W p l e R s m args below meth c H locs cells slots Q (F0 m 126 ls []) := by
  intro H locs ls hP hS hl
  have hrm := rG_rc hq hG
  have hrm2 := rG_rc hq2 hG2
  have hqb := rowB_c hq
  have hqb2 := rowB_c hq2
  have hqb3 := rowB_c hq3
  have xa : ag μ0 μ q := ag_BQ hq ha3 hf
  have xa2 : ag μ0 μ q2 := ag_BQ hq2 ha32 hf
  have x5 := ag_5 xa
  have x25 := ag_5 xa2
  have xst : μ 41 3 = μ0 41 3 := BQ_41 hq3 (by decide) hf
  have hG1 : rG μ q rm := rG_fr hG xa
  have hG21 : rG μ q2 rm2 := rG_fr hG2 xa2
  have hv0 := hv1.1
  have hgb := gI_b (μ 41 6)
  have hg2 : 0 ≤ μ 41 6 ∧ μ 41 6 ≤ 5 := by unfold gOK at hg1; omega
  have xw9 : rwL μ q w9 := rwL_ag hw9 xa
  have xb9 : rwL μ q2 b9 := rwL_ag hb9 xa2
  have lw9 := xw9.2.2
  have lb9 := xb9.2.2
  have hLp : μ q 5 ≤ 1100 ∧ μ q2 5 ≤ 1100 := ⟨by omega, by omega⟩
  obtain ⟨M_, f_, oM_, rm_, hwz, Te_⟩ := hcT
  obtain ⟨x9, hx9⟩ : ∃ x, sub w9 (μ 41 4).toNat = x := ⟨_, rfl⟩
  obtain ⟨y9, hy9⟩ : ∃ y, sub b9 (μ 41 5).toNat = y := ⟨_, rfl⟩
  rw [hx9, hy9] at hwz Te_
  have hwz : wayOf x9 y9 = 4 := hwz
  have Te_ : lsg (lrow w9 b9) = M_ ++ (BX x9 y9 4 (μ 41 6).toNat ++ BLD w9 b9 f_ ((μ 41 4).toNat + Bi x9 y9 4) ((μ 41 5).toNat + Bj x9 y9 4) (Bo x9 y9 4 (μ 41 6).toNat)) := Te_
  have ci_ := at_hs xw9 ⟨hv0.1.1, hv0.1.2⟩ (by rw [hx9]; exact way_hsd.2.1 hwz)
  have it_ := at_it hG1 xw9 hv0.1.1 ci_
  have sg_ := (at_sg xw9 hv0.1.1 ci_.1).2
  rw [hx9] at it_ sg_
  obtain ⟨it1_, it2_, it3_, it4_⟩ := it_
  have Te2_ := te_4 Te_
  have hw9a : ((4 : Int) = 4 ∧ μ 41 4 < μ q 5 ∧ μ (q + 1) (μ 41 4).toNat ≠ 515) ∨ ((4 : Int) = 5 ∧ μ 41 5 < μ q2 5 ∧ μ (q2 + 1) (μ 41 5).toNat ≠ 515) := Or.inl ⟨rfl, ci_⟩
  clear hww hne
  refine lv_iload hx hb dX0_build_126 (lv_at hl 0 rfl) ?_
  refine lv_iconst (v := iZ 4) hx hb dX0_build_128 rfl ?_
  refine fz_icmp_eq (tgt := 138) (by decide) (by decide) hx hb dX0_build_129 (by decide) (fun c129_ => ?_) (fun h9 => absurd h9 (by decide))
  refine lv_aload_n hx hb dX0_build_138 rfl (lv_at hl 5 rfl) ?_
  refine lv_aload_n hx hb dX0_build_139 rfl (lv_at hl 4 rfl) ?_
  refine lv_aload_n hx hb dX0_build_140 rfl (lv_at hl 3 rfl) ?_
  refine lv_iload hx hb dX0_build_141 (lv_at hl 0 rfl) ?_
  refine lv_aload_n hx hb dX0_build_143 rfl (lv_at hl 2 rfl) ?_
  refine va_callv (va_runV (As := [.ref (h0 + q), .ref (h0 + q2), .int (iZ (4)), .ref (h0 + q3)]) (rest := []) ⟨hx, hb, hml, hown, hts⟩ (s_YleaveOutT l dC dI cI cZ cII cIII h0 H.size μ (q) (rm) (q2) (rm2) (q3) (rm3) (4) (M_) ((rit x9)) ((if (μ 41 6).toNat = 0 ∧ rk x9 ≠ 3 then [513] else [])) (hq) (hq2) (hq3) (by exact ha3) (by exact ha32) (by exact hG1) (by exact hG21) (by exact h96) (by exact ⟨hv1, hg1, ho1⟩) (by exact hw9a) (by exact oM_) (by
            intro _
            exact ⟨it1_, it2_, oP_eq rfl (by omega) sg_⟩) (by
            intro h9
            omega)) (cwV 4 hts (gV_G k820 k822 ks_yX0_leaveOut k7 k823) rfl rfl rfl (by decide +kernel) ⟨by show 3 + 1 ≤ _; omega, by show 8 + (8 + 11) + (59) ≤ _; omega⟩) ⟨fun a U g mk q => by obtain ⟨q0, q1, qP, qK, qM⟩ := q; exact ⟨q0, q1, qP, va_K.moved (u := U) (U := U.calling g mk a) (Vm.Alike.refl U.vm) qK, qM⟩, va_recv hK hP (ci := 0) (q0 := 41) rfl ((fw_get (by decide)).trans (by rw [sE_41])), fun U hU hW => ⟨rfl, by rw [hU], by rw [hU]; exact hP, va_K.moved hW.alike hK, xM_warm hW hM⟩⟩ rfl rfl hl.1 rfl (lv_room (Nat.le_of_ble_eq_true rfl)) dX0_build_144 ⟨hRc, hRs⟩) hS (fun q _ h => fA_le hS.1 q h) (fA_le hS.1) (fun u9 t9 H1 locs ht9 hvm9 hw9 hB9 hz9 hk9 hS => ?_)
  obtain ⟨hP, -⟩ := hB9
  rw [ht9] at hP
  generalize H1 = H at hP hS ⊢
  obtain ⟨μl, eμl⟩ : ∃ x : va_M, x = u9 := ⟨_, rfl⟩
  rw [← eμl] at hP hw9
  have hμl := hw9; clear hw9
  obtain ⟨f2_, b2_, i2_, T2_, p4_, p5_, p6_, p7_⟩ := hμl
  obtain ⟨r1_, r2_⟩ := p4_ rfl
  have BT_ : bT μl q3 rm3 w9 b9 (lsg (lrow w9 b9)) := bT_mk T2_ Te2_ (by omega) (by omega) (oP_o rfl (fun h => (p6_ h).trans rfl) p7_) (by omega)
  refine lv_goto (tgt := 159) hx hb dX0_build_147 (by decide) ?_
  refine lv_iinc (v := iZ (tu + 1)) (lv' := [(4, .int (iZ (tu + 1))), (5, .int (iZ (4))), (3, .ref (h0 + q3)), (2, .ref (h0 + q2)), (1, .ref (h0 + q)), (0, .ref (h0 + 41))]) hx hb dX0_build_159 hl (k := 1) rfl (iZ_add _ _) (by decide) rfl (fun ls hl => ?_)
  refine lv_goto (tgt := 22) hx hb dX0_build_162 (by decide) ?_
  exact ih (tu + 1) μl H locs ls (by omega) (by exact fr_trans hf f2_) (by exact b2_) (by exact BT_) (by omega) hP hS (lv_sub hl [0, 2, 3, 4, 5] rfl)

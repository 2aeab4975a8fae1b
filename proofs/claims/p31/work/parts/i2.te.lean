/-! twins, in the words that the class's loop knows -/
theorem tw_st {μ : va_M} {q rm k : Nat} {v : Rw} {p1 i rn : Int} (hG : rG μ q rm) (hv0 : rWF v) (hvA : SA μ (q + 1) v p1.toNat) (hp : 0 ≤ p1) (hi : i = p1 + sO v k) (hlt : i < p1 + sL v) (hle : p1 + sL v ≤ μ q 5) (hrn : rn = μ (q + 2) i.toNat + 1) : rn = p1 + sO v (k + 1) ∧ k < rI v ∧ (twn v k ↔ (rn < p1 + sL v ∧ μ (q + 1) i.toNat = 514 ∧ μ (q + 1) rn.toNat = 514 ∧ rn - i = μ (q + 2) rn.toNat + 1 - rn ∧ ∀ t : Nat, (t : Int) < rn - i → sAl (μ (q + 1) (i.toNat + t)) (μ (q + 1) (rn.toNat + t)))) ∧ (rn < p1 + sL v → μ (q + 2) rn.toNat + 1 = p1 + sO v (k + 2)) := by
  obtain ⟨dd, hkr, mt9, sO9, dd2, -⟩ := fi_step (k := k) hG hv0 hvA hp hi hlt hle
  have en9 : rn = p1 + sO v (k + 1) := by omega
  have e1_ : p1.toNat + sO v k = i.toNat := by omega
  have e2_ : p1.toNat + sO v (k + 1) = rn.toNat := by omega
  have h8 : rn < p1 + sL v → μ (q + 2) rn.toNat + 1 = p1 + sO v (k + 2) ∧ k + 1 < rI v := fun h => by
    obtain ⟨de, hkr2, mt8, sO8, de2, -⟩ := fi_step (k := k + 1) hG hv0 hvA hp en9 h hle
    have sO8 : sO v (k + 2) = sO v (k + 1) + de := sO8
    exact ⟨by omega, hkr2⟩
  refine ⟨en9, hkr, ?_, fun h => (h8 h).1⟩
  rw [tw_line hv0 hvA, e1_, e2_]
  constructor
  · rintro ⟨y1, y2, y3, y4, y5⟩
    have s2 := sO_lt v (k + 1) y1
    have s3 := sO_le v (k + 1 + 1)
    have h9 := (h8 (by omega)).1
    exact ⟨by omega, y2, y3, by omega, fun t ht => y5 t (by omega)⟩
  · rintro ⟨y1, y2, y3, y4, y5⟩
    obtain ⟨h9, h7⟩ := h8 y1
    exact ⟨h7, y2, y3, by omega, fun t ht => y5 t (by omega)⟩
/-- none ahead, none here: none up to the next one -/
theorem no_S {P : Nat → Prop} {k : Nat} (h : ∀ j : Nat, j < k → ¬ P j) (h2 : ¬ P k) : ∀ j : Nat, j < k + 1 → ¬ P j := fun j hj h9 => by
  by_cases h8 : j < k
  · exact h j h8 h9
  · obtain rfl : j = k := by omega
    exact h2 h9
theorem tw_all {v : Rw} {k : Nat} (h : ∀ j : Nat, j < k → ¬ twn v j) (hk : sL v ≤ sO v k) : tw0 v := fun j h9 => by
  by_cases h8 : j < k
  · exact h j h8 h9
  · have h7 := twn_I h9
    have h6 := sO_mono v k j (by omega)
    have h5 := sO_lt v j (by omega)
    have h4 := sO_le v (j + 1)
    omega
theorem ta_all {v : Rw} {k : Nat} (h : ∀ j : Nat, j < k → ¬ tka v j) (hk : sL v ≤ sO v k) : ta0 v := fun j h9 => by
  by_cases h8 : j < k
  · exact h j h8 h9
  · have h7 := tka_I h9
    have h6 := sO_mono v k j (by omega)
    have h5 := sO_lt v j (by omega)
    have h4 := sO_le v (j + 1)
    omega
theorem tb_all {v : Rw} {k : Nat} (h : ∀ j : Nat, j < k → ¬ tkb v j) (hk : sL v ≤ sO v k) : tb0 v := fun j h9 => by
  by_cases h8 : j < k
  · exact h j h8 h9
  · have h7 := tkb_I h9
    have h6 := sO_mono v k j (by omega)
    have h5 := sO_lt v j (by omega)
    have h4 := sO_le v (j + 1)
    omega
/-- a repeat, with what stands ahead of it and behind it, in the words that the class's loops know -/
theorem tk_st {μ : va_M} {q rm k : Nat} {v : Rw} {p1 i sg : Int} (hG : rG μ q rm) (hv0 : rWF v) (hvA : SA μ (q + 1) v p1.toNat) (hp : 0 ≤ p1) (hi : i = p1 + sO v k) (hlt : i < p1 + sL v) (hle : p1 + sL v ≤ μ q 5) (hsg : sg = μ (q + 2) i.toNat - i - 1) : k < rI v ∧ μ (q + 2) i.toNat + 1 = p1 + sO v (k + 1) ∧ (μ (q + 1) i.toNat ≠ 514 → ¬ tka v k ∧ ¬ tkb v k) ∧ (μ (q + 1) i.toNat = 514 → ∃ (z : Nat) (v2 : Int) (l r : Rw), rdrop k v = .inner z 4 v2 l r ∧ sg = sL l ∧ (tka v k ↔ (p1 ≤ i - sg ∧ ∀ t : Nat, (t : Int) < sg → sAl (μ (q + 1) ((i - sg).toNat + t)) (μ (q + 1) ((i + 1).toNat + t)))) ∧ (tkb v k ↔ (μ (q + 2) i.toNat + 1 + sg ≤ p1 + sL v ∧ ∀ t : Nat, (t : Int) < sg → sAl (μ (q + 1) ((i + 1).toNat + t)) (μ (q + 1) ((μ (q + 2) i.toNat + 1).toNat + t))))) := by
  obtain ⟨dd, hkr, mt9, sO9, dd2, -⟩ := fi_step (k := k) hG hv0 hvA hp hi hlt hle
  have e1_ : p1.toNat + sO v k = i.toNat := by omega
  have hno : ∀ (z : Nat) (v2 : Int) (l r : Rw), rdrop k v = .inner z 4 v2 l r → μ (q + 1) i.toNat = 514 := fun z v2 l r e => by
    have h := (rp_ln hvA hv0 e).1
    rw [e1_] at h
    exact h
  refine ⟨hkr, by omega, fun h => ⟨?_, ?_⟩, fun h => ?_⟩
  · rintro ⟨z, v2, l, r, e, _, _⟩
    exact h (hno z v2 l r e)
  · rintro ⟨z, v2, l, r, e, _⟩
    exact h (hno z v2 l r e)
  · obtain ⟨z, v2, l, r, e, _, _⟩ := rp_at hv0 hvA hkr (by rw [e1_]; exact h)
    have a4 := (rp_ln hvA hv0 e).2.2.2.1
    have es : sg = sL l := by omega
    have e2_ : p1.toNat + sO v k + 1 = (i + 1).toNat := by omega
    have e3_ : p1.toNat + sO v (k + 1) = (μ (q + 2) i.toNat + 1).toNat := by omega
    have ka : tka v k ↔ (rI l ≤ k ∧ nxt l (rdrop (k - rI l) v)) := ⟨fun ⟨z5, v5, l5, r5, e5, g1, g2⟩ => by
      rw [e] at e5
      cases e5
      exact ⟨g1, g2⟩, fun ⟨g1, g2⟩ => ⟨z, v2, l, r, e, g1, g2⟩⟩
    have kb : tkb v k ↔ nxt l (rdrop (k + 1) v) := ⟨fun ⟨z5, v5, l5, r5, e5, g2⟩ => by
      rw [e] at e5
      cases e5
      exact g2, fun g2 => ⟨z, v2, l, r, e, g2⟩⟩
    refine ⟨z, v2, l, r, e, es, ?_, ?_⟩
    · rw [ka, ta_line hv0 hvA e]
      constructor
      · rintro ⟨h1, h2⟩
        have e4_ : p1.toNat + (sO v k - sL l) = (i - sg).toNat := by omega
        rw [e4_, e2_] at h2
        exact ⟨by omega, fun t ht => h2 t (by omega)⟩
      · rintro ⟨h1, h2⟩
        have e4_ : p1.toNat + (sO v k - sL l) = (i - sg).toNat := by omega
        rw [e4_, e2_]
        exact ⟨by omega, fun t ht => h2 t (by omega)⟩
    · rw [kb, tb_line hv0 hvA e, e2_, e3_]
      constructor
      · rintro ⟨h1, h2⟩
        exact ⟨by omega, fun t ht => h2 t (by omega)⟩
      · rintro ⟨h1, h2⟩
        exact ⟨by omega, fun t ht => h2 t (by omega)⟩

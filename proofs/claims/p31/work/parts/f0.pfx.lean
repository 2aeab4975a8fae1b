
/-! what both sides hold of a page, given out -/
theorem pf_ex {T : List Tk} {Ss : List (List Int)} {μ ν : va_M} (h : LRt T Ss μ ν) (a : Int) : ∃ (S : List Int) (l : List (Nat × Nat × Nat)) (w : Rw), 0 ≤ a ∧ a < ν 0 10 → Ss[a.toNat]? = some S ∧ pf9 μ ν a.toNat T S l w := by
  by_cases ha : 0 ≤ a ∧ a < ν 0 10
  · have e0 := h.1.2.1
    have e6 := h.1.1.2.2.2.2.2.1
    have hs := List.getElem?_eq_getElem (show a.toNat < Ss.length by omega)
    obtain ⟨l, w, hw⟩ := h.2 a.toNat _ hs
    exact ⟨_, l, w, fun _ => ⟨hs, hw⟩⟩
  · exact ⟨[], [], .leaf, fun q => absurd q ha⟩
theorem aL_SA {μ : va_M} {c : Nat} : ∀ (w : Rw) (p : Nat), rW0 w → SA μ c w p → aL (μ c) (p + sL w) = aL (μ c) p + rL w
  | .leaf, p, _, _ => (Int.add_zero _).symm
  | .inner z k v l r, p, ⟨h1, h2, h3⟩, ⟨s1, s2, s3⟩ => by
    obtain ⟨g1, g2, g3⟩ := sG_b h1
    rw [sL_in, rL_in]
    unfold rL1
    by_cases hk : k < 3
    · rw [if_pos hk] at s3 ⊢
      have i1 := aL_SA r (p + 1) h3 s3
      have e0 := aL_s (μ c) p
      have g := g1 hk
      rw [s1, if_pos g] at e0
      rw [if_pos hk, h1.2.1 hk, show p + (1 + sL r) = p + 1 + sL r by omega, i1, e0]
      show _ = _ + ((1 + ((rL (.leaf : Rw) : Nat) : Int)) + _)
      have e1 : rL (.leaf : Rw) = 0 := rfl
      rw [e1]
      omega
    · rw [if_neg hk] at s3 ⊢
      obtain ⟨u1, u2⟩ := s2 (by omega)
      have i1 := aL_SA l (p + 1) h2 u1
      have i2 := aL_SA r (p + (2 + sL l)) h3 s3
      have e0 := aL_s (μ c) p
      have e1 := aL_s (μ c) (p + 1 + sL l)
      have hg : ¬ (0 ≤ sG k v ∧ sG k v ≤ 512) := by
        have := h1.1
        by_cases h : k = 3
        · rw [g2 h]; decide
        · rw [g3 (by omega)]; decide
      rw [s1, if_neg hg] at e0
      rw [u2, if_neg (by decide)] at e1
      rw [if_neg hk, show p + (2 + sL l + sL r) = p + (2 + sL l) + sL r by omega, i2, show p + (2 + sL l) = p + 1 + sL l + 1 by omega, e1, i1, e0]
      omega
theorem sz_is {μ : va_M} {q rm : Nat} {z k d : Nat} {v : Int} {l r : Rw} {i : Nat} (hG : rG μ q rm) (hi : (i : Int) + d ≤ μ q 5) (hW : iW0 k v l ∧ rW0 l) (hS : SA μ (q + 1) (.inner z k v l r : Rw) i) (hd : d = (if k < 3 then 1 else 2 + sL l)) : μ (q + 3) (i + d) - μ (q + 3) i = rL1 k l := by
  have h := aL_SA (μ := μ) (c := q + 1) (.inner z k v l .leaf : Rw) i ⟨hW.1, hW.2, trivial⟩ ⟨hS.1, hS.2.1, trivial⟩
  rw [sL_in, rL_in, ← hd] at h
  have e1 : rL (.leaf : Rw) = 0 := rfl
  have e2 : sL (.leaf : Rw) = 0 := rfl
  rw [e1, e2] at h
  have h : aL (μ (q + 1)) (i + d) = aL (μ (q + 1)) i + (rL1 k l + ((0 : Nat) : Int)) := h
  rw [rG_ah hG (i := i + d) (by omega), rG_ah hG (i := i) (by omega), h]
  omega

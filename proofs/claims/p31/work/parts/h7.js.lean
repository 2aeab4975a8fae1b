/-! what is kept of each skeleton, once more -/
def JWq (w : Rw) : Prop := rWF w ∧ rAd w ∧ ∃ (L : Nat) (f : Nat → Nat), 1 ≤ L ∧ QL w L (fun _ => True) f (fun _ => 100) False ∧ ∀ e : Nat, e < L → f e ≤ 60
theorem JWq_W {w : Rw} (h : JWq w) : JW w := by
  obtain ⟨h1, h2, L, f, h3, h4, h5⟩ := h
  exact ⟨h1, h2, L, f, h3, QL_PL w h4, h5⟩
theorem JWq_n {w : Rw} (h : JWq w) : 120 * (rN w + pV w) ≤ 413 * rL w + 9480 := by
  obtain ⟨h1, h2, L, f, h3, h4, h5⟩ := h
  exact QL_N h3 h1 h2 h5 h4
/-- its signs have room -/
theorem JWq_s {w : Rw} (h : JWq w) (hL : rL w ≤ 160) : 2 * rN w ≤ rL w + 1100 := by
  have := JWq_n h
  omega
theorem JWq_0 : JWq .leaf := ⟨trivial, trivial, 1, fun _ => 0, Nat.le_refl _, trivial, fun _ _ => Nat.zero_le _⟩
theorem pg_100 {w : Rw} (h : rPage w) (hH : pH w) : pgH w 100 := pgH_is w 100 h.1 h.2.1.1 h.2.1.2 hH.2 h.2.2 (fun _ _ _ _ _ _ => Or.inr (by omega))
theorem JWq_pg {w : Rw} (h : rPage w) (hH : pH w) : JWq w :=
  ⟨h.1, h.2.1.2, 1, fun _ => rT w, Nat.le_refl _, QL_pg w h.1 h.2.1.1 trivial (Nat.le_refl _) (pg_100 h hH) (Nat.le_refl _) (fun h => h.elim), fun _ _ => h.2.2⟩
theorem JWq_lay {w b : Rw} (h : JWq w) (hN : rN w + rN b ≤ 1800) (hb9 : rPage b) (hH : pH b) : JWq (lrow w b) := by
  obtain ⟨h1, h2, L, f, h3, h4, h5⟩ := h
  have x1 := (lay_WF _ 0 w b (Nat.lt_succ_self _) hN h1 hb9.1 hb9.2.1.1).2
  have x2 := lay_Ad hN h1 hb9.1 hb9.2.1.1 h2 hb9.2.1.2
  have x3 := QL_lay hN h1 hb9.1 hb9.2.1.1 hH (pg_100 hb9 hH) hb9.2.2 h3 h4
  refine ⟨x1, x2, L + 1, uqd f L (rT b), by omega, QL_mono _ (fun _ _ => trivial) (fun _ _ => Nat.le_refl _) (fun _ _ _ => Nat.le_refl _) (fun h => h) x3, fun e he => ?_⟩
  by_cases hE : e = L
  · rw [hE, uqd_s]; exact hb9.2.2
  · rw [uqd_n (by omega)]
    exact h5 e (by omega)
theorem JWq_TQ {w u : Rw} (h : TQ w u) (h9 : JWq w) : JWq u := by
  obtain ⟨h1, h2, L, f, h3, h4, h5⟩ := h9
  obtain ⟨t1, t2, _⟩ := h.1 h1 h2
  exact ⟨t1, t2, L, f, h3, (h.2 h1 h2).1 L _ f (fun _ => 100) False False h3 (fun e he => ⟨by have := h5 e he; show f e ≤ 100; omega, Nat.le_refl _⟩) h4 (fun h => h.elim), h5⟩
/-- a page's row, folded -/
theorem Lf_Sm : ∀ w : Rw, (∀ (m z k : Nat) (v : Int) (l r : Rw), rdrop m w = .inner z k v l r → k < 3) → rSm w ∧ (rWF w → pHc w)
  | .leaf, _ => ⟨trivial, fun _ => trivial⟩
  | .inner z k v l r, h => by
    have h0 := h 0 z k v l r rfl
    obtain ⟨i1, i2⟩ := Lf_Sm r (fun m z5 k5 v5 l5 r5 e => h (m + 1) z5 k5 v5 l5 r5 e)
    refine ⟨⟨Or.inl h0, i1⟩, fun hw => ⟨fun h => by omega, ?_, i2 hw.2.2.2.2.2.2.2⟩⟩
    rw [hw.2.1 h0]
    trivial
theorem page_H {t : List (Nat × Nat × Nat)} {w x : Rw} (hw : rWF w) (hq : rAq w) (hl : ∀ (m z k : Nat) (v : Int) (l r : Rw), rdrop m w = .inner z k v l r → k < 3) (hs : fSt t w x) (he : fEnd x) : pH x := by
  obtain ⟨a1, a2⟩ := Lf_Sm w hl
  obtain ⟨_, _, _, b4, b5⟩ := pF_st t w x hw hq (Or.inl a1) (pIV_Sm a1) (a2 hw) hs
  exact ⟨pJ_end he b4, b5⟩

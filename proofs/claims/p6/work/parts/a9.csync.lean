/-! what holds of both sides between the law's calls -/
theorem rG_0 {μ : va_M} {q rm : Nat} (hrm : 1 ≤ rm) (hz : ∀ x y, q ≤ x → x < q + 6 → μ x y = 0) : rG μ q rm := by
  refine ⟨fun i => ?_, fun y => ?_, Or.inl (hz _ _ (by omega) (by omega)), .leaf, trivial, Nat.zero_le _, ⟨hz _ _ (by omega) (by omega), hz _ _ (by omega) (by omega), hz _ _ (by omega) (by omega)⟩, trivial, trivial⟩
  · rw [hz _ _ (by omega) (by omega)]; decide
  · rw [hz _ _ (by omega) (by omega)]
    constructor <;> omega
theorem sI_0 {x y : Nat} (h : ¬ ((x = 1 ∧ y = 6) ∨ ((113 ≤ x ∧ (x - 113) % 15 = 10) ∧ y = 0) ∨ (x = 41 ∧ y = 3))) : sI x y = 0 := by
  unfold sI
  rw [if_neg (by omega), if_neg (by omega)]
theorem CI_start {u : va_M} (hf : fr (fun x _ => x = 110) sI u) (h5 : ∀ j : Nat, j < 60 → u 110 j = 516) : CI [] (nz u) := by
  have e : ∀ x y, ¬ ((x = 1 ∧ y = 6) ∨ ((113 ≤ x ∧ (x - 113) % 15 = 10) ∧ y = 0) ∨ (x = 41 ∧ y = 3)) → x ≠ 110 → u x y = 0 := fun x y h1 h2 => (hf x y h2).trans (sI_0 h1)
  have hr : ∀ q rm, rowB q rm → q ≠ 104 → 1 ≤ rm → rG u q rm := fun q rm h1 h2 h3 => rG_0 h3 (fun x y q1 q2 => e x y (by
    rcases h1 with ⟨a, b⟩ | ⟨a, b⟩ | ⟨i, a, b, c⟩ | ⟨i, a, b, c⟩ <;> omega) (by
    rcases h1 with ⟨a, b⟩ | ⟨a, b⟩ | ⟨i, a, b, c⟩ | ⟨i, a, b, c⟩ <;> omega))
  have hz : ∀ x y, u x y = 0 → 0 ≤ u x y ∧ u x y ≤ 0 := fun x y h => by rw [h]; decide
  refine CI_nz ⟨⟨⟨⟨e 1 3 (by omega) (by omega), Nat.zero_le _⟩, fun k a h => by simp at h⟩, fun j => by rw [e 2 j (by omega) (by omega)]; decide, by rw [e 1 1 (by omega) (by omega)]; decide, by rw [e 0 2 (by omega) (by omega)]; decide⟩, fun i hi => ⟨⟨by rw [e _ 2 (by omega) (by omega), e _ 5 (by omega) (by omega)]; decide, fun j => by rw [e _ j (by omega) (by omega)]; decide, fun j => by rw [e _ j (by omega) (by omega)]; decide, hr _ 96 (rowB_L hi rfl) (by omega) (by decide)⟩, by rw [e _ 1 (by omega) (by omega)]; decide⟩, hr 6 1100 rowB_6 (by decide) (by decide), hr 12 1100 rowB_12 (by decide) (by decide), ⟨by rw [e 18 3 (by omega) (by omega), e 18 4 (by omega) (by omega)]; decide, fun k hk => ⟨fun i => by rw [e _ i (by omega) (by omega)]; decide, .leaf, trivial, trivial, e 36 k (by omega) (by omega), Nat.zero_le _⟩⟩, fun j => by rw [e 46 j (by omega) (by omega), e 47 j (by omega) (by omega)]; decide, ?_⟩
  refine ⟨by rw [e 48 6 (by omega) (by omega), e 48 7 (by omega) (by omega)]; decide, fun j => by rw [e 49 j (by omega) (by omega)]; decide, fun j hj => by rw [e 51 j (by omega) (by omega)]; constructor <;> omega, fun j => by rw [e 77 j (by omega) (by omega)]; decide, fun j => by rw [e 78 j (by omega) (by omega)]; decide, fun k hk i => by rw [e _ i (by omega) (by omega)]; decide, fun i hi => rG_0 (by decide) (fun x y q1 q2 => e x y (by omega) (by omega))⟩
theorem mI_0 {x y : Nat} (h : ¬ (x = 0 ∧ y = 5)) : mI x y = 0 := by unfold mI; rw [if_neg h]
theorem TR_mI (t : Nat) : TR mI t .leaf := ⟨mI_0 (by omega), trivial⟩
theorem RI_start : RI JS mI := by
  have h0 : JS .leaf := JS_ok.1
  refine ⟨⟨by rw [mI_0 (by decide)]; decide, ⟨[], ⟨mI_0 (by decide), Nat.zero_le _, fun k a h => by simp at h⟩, fun k a h => by simp at h⟩, fun j _ => by rw [mI_0 (by omega)]; decide, fun i hi => ?_, .leaf, (JS_ok.2.1 _ h0).1, TR_mI 0⟩, ⟨.leaf, h0, (JS_ok.2.1 _ h0).1, TR_mI 0⟩, by rw [mI_0 (by decide)]; decide, Or.inl (mI_0 (by decide)), fun k _ => Or.inl (mI_0 (by omega)), fun k h1 h2 => ?_⟩
  · rw [mI_0 (by decide)] at hi
    omega
  · rw [mI_0 (by decide)] at h2
    omega
/-- what page changes leaves the reference as it is to be -/
theorem RI_page {ν v : va_M} {T T0 : List Tk} {pp : Nat} (h : RI JS ν) (hpp : ν 0 10 = pp) (h8 : ν 0 10 < 8) (hf : fr (PGs pp T0.length) ν v) (hT0 : tabR ν T0) (hT : tabR v T) (hW : tabW T) (hle : T0.length ≤ T.length) (h3 : ∀ j : Nat, j < 201 → inR (v 3 j)) (h10 : v 0 10 = ν 0 10 ∨ (v 0 10 = ν 0 10 + 1 ∧ pgQ v pp)) : RI JS v := by
  obtain ⟨⟨a1, -, -, a5, w0, a6, a7⟩, ⟨w, w1, w2, w3⟩, b1, b2, b3, b4⟩ := h
  have hp8 : pp < 8 := by omega
  have hn : ∀ x y, (x = 0 ∧ (y = 22 ∨ y = 23)) ∨ (7 ≤ x ∧ x < 15 ∧ x ≠ 7 + pp) ∨ (x = 15 ∧ y ≠ pp) ∨ (x = 505 ∧ y ≠ pp) ∨ (507 ≤ x ∧ x < 532 ∧ x ≠ 524 + pp) ∨ (578 ≤ x ∧ x < 603 ∧ x ≠ 595 + pp) ∨ (649 ≤ x ∧ x < 674 ∧ x ≠ 666 + pp) ∨ (x = 719 ∧ y < 25 ∧ y ≠ 17 + pp) ∨ x = 721 → v x y = ν x y := fun x y q => hf x y (by unfold PGs PGf PR PN FF FQ FP P8 PT; omega)
  have hTR : ∀ t (w : Rw), t < 25 → t ≠ 17 + pp → TR ν t w → TR v t w := fun t w q1 q2 q => ⟨(hn _ _ (by omega)).trans q.1, RA_kept q.2 (fun x _ _ => ⟨hn _ _ (by omega), hn _ _ (by omega), hn _ _ (by omega)⟩)⟩
  have e9 : ν 0 9 ≤ v 0 9 := by have q1 := hT0.1; have q2 := hT.1; omega
  refine ⟨⟨by rcases h10 with q | ⟨q, -⟩ <;> omega, ⟨T, hT, hW⟩, h3, fun i hi => ?_, w0, a6, hTR 0 w0 (by omega) (by omega) a7⟩, ⟨w, w1, w2, hTR 0 w (by omega) (by omega) w3⟩, by rw [hn 0 23 (by omega)]; exact b1, by rw [hn 0 22 (by omega)]; exact b2, fun k hk => by rw [hn 721 k (by omega)]; exact b3 k hk, fun k h1 h2 => ?_⟩
  · by_cases hip : i = pp
    · subst hip
      rcases h10 with q | ⟨-, q⟩
      · omega
      · exact q
    · have hiv : (i : Int) < ν 0 10 := by rcases h10 with q | ⟨q, -⟩ <;> omega
      obtain ⟨c1, c2, c3, w4, c4, c5, c6⟩ := a5 i hiv
      refine ⟨by rw [hn 15 i (by omega)]; exact c1, by rw [hn 505 i (by omega)]; exact c2, fun k hk => ?_, w4, c4, c5, hTR _ _ (by omega) (by omega) c6⟩
      rw [hn 15 i (by omega)] at hk
      rw [hn (7 + i) k (by omega)]
      have := c3 k hk
      omega
  · rw [hn 0 23 (by omega)] at h2
    obtain ⟨w4, c1, c2, c3⟩ := b4 k h1 h2
    exact ⟨w4, c1, c2, hTR k w4 (by omega) (by omega) c3⟩
theorem pgQ_of {v : va_M} {pp : Nat} {T : List Tk} {S : List Int} (h : pgR v pp T S) (hT : tabR v T) : pgQ v pp := by
  obtain ⟨h1, h2, h3, h4, h5, h6, h7⟩ := h
  refine ⟨by omega, ⟨h6, h7⟩, fun k hk => ?_, h5⟩
  have hl : k < S.length := by omega
  obtain ⟨c1, c2, c3⟩ := h4 k _ (List.getElem?_eq_getElem hl)
  have := hT.1
  rw [c1]
  omega


/-! the pages' tokens that went through the deepest item of a row -/
def Clm (a : St) (p L : Nat) (V : Nat → Prop) (f : Nat → Nat) : Prop := a.1 ≤ p ∧ ∃ eF eM : Nat, eF ≤ eM ∧ eM < L ∧ V eF ∧ V eM ∧ a.2.1 ≤ f eM ∧ a.2.2.1 ≤ f eF ∧ ∀ e : Nat, e ≤ eF → a.2.2.2 ≤ f e
theorem Clm_sle {a b : St} {p L : Nat} {V : Nat → Prop} {f : Nat → Nat} (h : sle a b = true) (hc : Clm b p L V f) : Clm a p L V f := by
  obtain ⟨s1, s2, s3, s4⟩ := sle_is h
  obtain ⟨c1, eF, eM, c2, c3, c4, c5, c6, c7, c8⟩ := hc
  exact ⟨by (first | ((try clear c8); (try clear c7); (try clear c6); (try clear c5); (try clear c4); (try clear c3); (try clear c2); (try clear s4); (try clear s3); (try clear s2); (try clear h); omega) | omega), eF, eM, c2, c3, c4, c5, by (first | ((try clear c8); (try clear c7); (try clear c5); (try clear c4); (try clear c3); (try clear c2); (try clear c1); (try clear s4); (try clear s3); (try clear s1); (try clear h); omega) | omega), by (first | ((try clear c8); (try clear c6); (try clear c5); (try clear c4); (try clear c3); (try clear c2); (try clear c1); (try clear s4); (try clear s2); (try clear s1); (try clear h); omega) | omega), fun e he => Nat.le_trans s4 (c8 e he)⟩
theorem Clm_has {l : List St} {b : St} {p L : Nat} {V : Nat → Prop} {f : Nat → Nat} (h : hasS l b = true) (hc : Clm b p L V f) : ∃ a : St, a ∈ l ∧ Clm a p L V f := by
  obtain ⟨a, h1, h2⟩ := hasS_is h
  exact ⟨a, h1, Clm_sle h2 hc⟩
theorem Clm_mono {a : St} {p p2 L L2 : Nat} {V V2 : Nat → Prop} {f g : Nat → Nat} (hp : p ≤ p2) (hL : L ≤ L2) (hV : ∀ e : Nat, V e → V2 e) (hf : ∀ e : Nat, e < L → f e ≤ g e) (hc : Clm a p L V f) : Clm a p2 L2 V2 g := by
  obtain ⟨c1, eF, eM, c2, c3, c4, c5, c6, c7, c8⟩ := hc
  exact ⟨by (first | ((try clear c8); (try clear c7); (try clear c6); (try clear c5); (try clear c4); (try clear c3); (try clear c2); (try clear hf); (try clear hL); omega) | omega), eF, eM, c2, by (first | ((try clear c8); (try clear c7); (try clear c6); (try clear c5); (try clear c4); (try clear c2); (try clear c1); (try clear hf); (try clear hp); omega) | omega), hV _ c4, hV _ c5, Nat.le_trans c6 (hf _ c3), Nat.le_trans c7 (hf _ (by (first | ((try clear c8); (try clear c7); (try clear c6); (try clear c5); (try clear c4); (try clear c1); (try clear hf); (try clear hL); (try clear hp); omega) | omega))), fun e he => Nat.le_trans (c8 e he) (hf _ (by (first | ((try clear c8); (try clear c7); (try clear c6); (try clear c5); (try clear c4); (try clear c1); (try clear hf); (try clear hL); (try clear hp); omega) | omega)))⟩
/-- two copies, the first one's page the earlier -/
theorem Clm_fol {a b : St} {p L T : Nat} {V V2 : Nat → Prop} {f g1 g2 : Nat → Nat} (hV : ∀ e : Nat, V2 e → V e) (hp1 : ∀ e : Nat, e < L → p ≤ g1 e) (hp2 : ∀ e : Nat, e < L → p ≤ g2 e) (h9 : ∀ e : Nat, e < L → e < T → g1 e + g2 e ≤ f e) (h8 : ∀ e : Nat, e < L → T ≤ e → g1 e = g2 e ∧ g1 e ≤ f e ∧ (V2 e → 2 * g1 e ≤ f e))
    (ha1 : a.1 ≤ p) (hb1 : b.1 ≤ p) {eF eM eF2 eM2 : Nat} (c2 : eF ≤ eM) (c3 : eM < L) (c4 : V2 eF) (c5 : V2 eM) (c6 : a.2.1 ≤ g1 eM) (c7 : a.2.2.1 ≤ g1 eF) (c8 : ∀ e : Nat, e ≤ eF → a.2.2.2 ≤ g1 e) (d2 : eF2 ≤ eM2) (d3 : eM2 < L) (d5 : V2 eM2) (d6 : b.2.1 ≤ g2 eM2) (d8 : ∀ e : Nat, e ≤ eF2 → b.2.2.2 ≤ g2 e) (hle : eF ≤ eF2) (hT : eF < T) : Clm (folS a b) p L V f := by
  have hs : mxN a.1 b.1 ≤ p := by rw [mxN_is]; (first | ((try clear hs); (try clear hT); (try clear hle); (try clear d8); (try clear d6); (try clear d3); (try clear d2); (try clear c8); (try clear c7); (try clear c6); (try clear c3); (try clear c2); (try clear h8); (try clear h9); (try clear hp2); (try clear hp1); omega) | omega)
  have hF : a.2.2.1 + mxN b.2.2.2 (mxN a.1 b.1) ≤ f eF := by
    have x1 := h9 eF (by (first | ((try clear x1); (try clear hF); (try clear hs); (try clear hT); (try clear hle); (try clear d8); (try clear d6); (try clear d3); (try clear d2); (try clear c8); (try clear c7); (try clear c6); (try clear hb1); (try clear ha1); (try clear h8); (try clear h9); (try clear hp2); (try clear hp1); omega) | omega)) hT
    have x2 := d8 eF hle
    have x3 := hp2 eF (by (first | ((try clear x3); (try clear x2); (try clear x1); (try clear hF); (try clear hs); (try clear hT); (try clear hle); (try clear d8); (try clear d6); (try clear d3); (try clear d2); (try clear c8); (try clear c7); (try clear c6); (try clear hb1); (try clear ha1); (try clear h8); (try clear h9); (try clear hp2); (try clear hp1); omega) | omega))
    rw [mxN_is b.2.2.2]
    (first | ((try clear hF); (try clear hT); (try clear hle); (try clear d8); (try clear d6); (try clear d3); (try clear d2); (try clear c8); (try clear c6); (try clear c3); (try clear c2); (try clear hb1); (try clear ha1); (try clear h8); (try clear h9); (try clear hp2); (try clear hp1); omega) | omega)
  have hM1 : a.2.1 + mxN a.1 b.1 ≤ f eM := by
    by_cases hT2 : eM < T
    · have x1 := h9 eM c3 hT2
      have x3 := hp2 eM c3
      (first | ((try clear hT2); (try clear hM1); (try clear hF); (try clear hT); (try clear hle); (try clear d8); (try clear d6); (try clear d3); (try clear d2); (try clear c8); (try clear c7); (try clear c3); (try clear c2); (try clear hb1); (try clear ha1); (try clear h8); (try clear h9); (try clear hp2); (try clear hp1); omega) | omega)
    · have x1 := h8 eM c3 (by (first | ((try clear x1); (try clear hM1); (try clear hF); (try clear hs); (try clear hT); (try clear hle); (try clear d8); (try clear d6); (try clear d3); (try clear d2); (try clear c8); (try clear c7); (try clear c6); (try clear c3); (try clear c2); (try clear hb1); (try clear ha1); (try clear h8); (try clear h9); (try clear hp2); (try clear hp1); omega) | omega))
      have x2 := x1.2.2 c5
      have x3 := hp1 eM c3
      (first | ((try clear hT2); (try clear hM1); (try clear hF); (try clear hT); (try clear hle); (try clear d8); (try clear d6); (try clear d3); (try clear d2); (try clear c8); (try clear c7); (try clear c3); (try clear c2); (try clear hb1); (try clear ha1); (try clear h8); (try clear h9); (try clear hp2); (try clear hp1); omega) | omega)
  have hM2 : b.2.1 + mxN a.1 b.1 ≤ f eM2 := by
    by_cases hT2 : eM2 < T
    · have x1 := h9 eM2 d3 hT2
      have x3 := hp1 eM2 d3
      (first | ((try clear hT2); (try clear hM2); (try clear hM1); (try clear hF); (try clear hT); (try clear hle); (try clear d8); (try clear d3); (try clear d2); (try clear c8); (try clear c7); (try clear c6); (try clear c3); (try clear c2); (try clear hb1); (try clear ha1); (try clear h8); (try clear h9); (try clear hp2); (try clear hp1); omega) | omega)
    · have x1 := h8 eM2 d3 (by (first | ((try clear x1); (try clear hM2); (try clear hM1); (try clear hF); (try clear hs); (try clear hT); (try clear hle); (try clear d8); (try clear d6); (try clear d3); (try clear d2); (try clear c8); (try clear c7); (try clear c6); (try clear c3); (try clear c2); (try clear hb1); (try clear ha1); (try clear h8); (try clear h9); (try clear hp2); (try clear hp1); omega) | omega))
      have x2 := x1.2.2 d5
      have x3 := hp2 eM2 d3
      (first | ((try clear hT2); (try clear hM2); (try clear hM1); (try clear hF); (try clear hT); (try clear hle); (try clear d8); (try clear d3); (try clear d2); (try clear c8); (try clear c7); (try clear c6); (try clear c3); (try clear c2); (try clear hb1); (try clear ha1); (try clear h8); (try clear h9); (try clear hp2); (try clear hp1); omega) | omega)
  have ht : ∀ e : Nat, e ≤ eF → a.2.2.2 + b.2.2.2 ≤ f e := fun e he => by
    have x1 := h9 e (by (first | ((try clear x1); (try clear ht); (try clear hM2); (try clear hM1); (try clear hF); (try clear hs); (try clear hT); (try clear hle); (try clear d8); (try clear d6); (try clear d3); (try clear d2); (try clear c8); (try clear c7); (try clear c6); (try clear hb1); (try clear ha1); (try clear h8); (try clear h9); (try clear hp2); (try clear hp1); omega) | omega)) (by (first | ((try clear x1); (try clear ht); (try clear hM2); (try clear hM1); (try clear hF); (try clear hs); (try clear hle); (try clear d8); (try clear d6); (try clear d3); (try clear d2); (try clear c8); (try clear c7); (try clear c6); (try clear c3); (try clear c2); (try clear hb1); (try clear ha1); (try clear h8); (try clear h9); (try clear hp2); (try clear hp1); omega) | omega))
    have x2 := c8 e he
    have x3 := d8 e (by (first | ((try clear x3); (try clear x2); (try clear x1); (try clear ht); (try clear hM2); (try clear hM1); (try clear hF); (try clear hs); (try clear hT); (try clear d8); (try clear d6); (try clear d3); (try clear d2); (try clear c8); (try clear c7); (try clear c6); (try clear c3); (try clear c2); (try clear hb1); (try clear ha1); (try clear h8); (try clear h9); (try clear hp2); (try clear hp1); omega) | omega))
    (first | ((try clear he); (try clear ht); (try clear hM2); (try clear hM1); (try clear hF); (try clear hs); (try clear hT); (try clear hle); (try clear d8); (try clear d6); (try clear d3); (try clear d2); (try clear c8); (try clear c7); (try clear c6); (try clear c3); (try clear c2); (try clear hb1); (try clear ha1); (try clear h8); (try clear h9); (try clear hp2); (try clear hp1); omega) | omega)
  refine ⟨hs, eF, ?_⟩
  show ∃ eM : Nat, eF ≤ eM ∧ eM < L ∧ V eF ∧ V eM ∧ mxN (mxN (a.2.1 + mxN a.1 b.1) (b.2.1 + mxN a.1 b.1)) (a.2.2.1 + mxN b.2.2.2 (mxN a.1 b.1)) ≤ f eM ∧ a.2.2.1 + mxN b.2.2.2 (mxN a.1 b.1) ≤ f eF ∧ ∀ e : Nat, e ≤ eF → a.2.2.2 + b.2.2.2 ≤ f e
  generalize a.2.1 + mxN a.1 b.1 = A at hM1 ⊢
  generalize b.2.1 + mxN a.1 b.1 = B at hM2 ⊢
  generalize a.2.2.1 + mxN b.2.2.2 (mxN a.1 b.1) = C at hF ⊢
  rw [mxN_is (mxN A B) C, mxN_is A B]
  by_cases h1 : max A B ≤ C
  · exact ⟨eF, Nat.le_refl _, by (first | ((try clear h1); (try clear ht); (try clear hM2); (try clear hM1); (try clear hF); (try clear hs); (try clear hT); (try clear hle); (try clear d8); (try clear d6); (try clear d3); (try clear d2); (try clear c8); (try clear c7); (try clear c6); (try clear hb1); (try clear ha1); (try clear h8); (try clear h9); (try clear hp2); (try clear hp1); omega) | omega), hV _ c4, hV _ c4, by (first | ((try clear ht); (try clear hM2); (try clear hM1); (try clear hs); (try clear hT); (try clear hle); (try clear d8); (try clear d6); (try clear d3); (try clear d2); (try clear c8); (try clear c7); (try clear c6); (try clear c3); (try clear c2); (try clear hb1); (try clear ha1); (try clear h8); (try clear h9); (try clear hp2); (try clear hp1); omega) | omega), hF, ht⟩
  · by_cases h2 : B ≤ A
    · exact ⟨eM, c2, c3, hV _ c4, hV _ c5, by (first | ((try clear ht); (try clear hM2); (try clear hF); (try clear hs); (try clear hT); (try clear hle); (try clear d8); (try clear d6); (try clear d3); (try clear d2); (try clear c8); (try clear c7); (try clear c6); (try clear c3); (try clear c2); (try clear hb1); (try clear ha1); (try clear h8); (try clear h9); (try clear hp2); (try clear hp1); omega) | omega), hF, ht⟩
    · exact ⟨eM2, by (first | ((try clear h2); (try clear h1); (try clear ht); (try clear hM2); (try clear hM1); (try clear hF); (try clear hs); (try clear hT); (try clear d8); (try clear d6); (try clear d3); (try clear c8); (try clear c7); (try clear c6); (try clear c3); (try clear c2); (try clear hb1); (try clear ha1); (try clear h8); (try clear h9); (try clear hp2); (try clear hp1); omega) | omega), d3, hV _ c4, hV _ d5, by (first | ((try clear ht); (try clear hM1); (try clear hF); (try clear hs); (try clear hT); (try clear hle); (try clear d8); (try clear d6); (try clear d3); (try clear d2); (try clear c8); (try clear c7); (try clear c6); (try clear c3); (try clear c2); (try clear hb1); (try clear ha1); (try clear h8); (try clear h9); (try clear hp2); (try clear hp1); omega) | omega), hF, ht⟩
/-- a repeat round a row -/
theorem Clm_rep {a b : St} {n p L T : Nat} {V V2 : Nat → Prop} {f g1 g2 : Nat → Nat} (hf : ∀ e : Nat, e < L → f e ≤ 60) (hV : ∀ e : Nat, V2 e → V e) (hp1 : ∀ e : Nat, e < L → p ≤ g1 e) (hp2 : ∀ e : Nat, e < L → p ≤ g2 e) (h9 : ∀ e : Nat, e < L → e < T → g1 e + g2 e ≤ f e) (h8 : ∀ e : Nat, e < L → T ≤ e → g1 e = g2 e ∧ g1 e ≤ f e ∧ (V2 e → 2 * g1 e ≤ f e))
    (ha : a ∈ tR n) (hb9 : b ∈ tR n) (h1 : Clm a p L V2 g1) (h2 : Clm b p L V2 g2) : ∃ c : St, c ∈ tP (n + 1) ∧ Clm c p L V f := by
  obtain ⟨_, _, k3, k4, _, _⟩ := ckS_is (tR_n ha)
  obtain ⟨c1, eF, eM, c2, c3, c4, c5, c6, c7, c8⟩ := h1
  obtain ⟨d1, eF2, eM2, d2, d3, d4, d5, d6, d7, d8⟩ := h2
  by_cases hT : T ≤ eF ∧ T ≤ eF2
  · have x1 := h8 eM c3 (by (first | ((try clear x1); (try clear d8); (try clear d7); (try clear d6); (try clear d5); (try clear d4); (try clear d3); (try clear d2); (try clear d1); (try clear c8); (try clear c7); (try clear c6); (try clear c5); (try clear c4); (try clear c3); (try clear c1); (try clear k4); (try clear k3); (try clear h8); (try clear h9); (try clear hp2); (try clear hp1); (try clear hf); omega) | omega))
    have x2 := x1.2.2 c5
    have x3 := (h8 eF (by (first | ((try clear x3); (try clear x2); (try clear x1); (try clear hT); (try clear d8); (try clear d7); (try clear d6); (try clear d5); (try clear d4); (try clear d3); (try clear d2); (try clear d1); (try clear c8); (try clear c7); (try clear c6); (try clear c5); (try clear c4); (try clear c1); (try clear k4); (try clear k3); (try clear h8); (try clear h9); (try clear hp2); (try clear hp1); (try clear hf); omega) | omega)) hT.1).2.2 c4
    have x4 := hf eM c3
    have hc : Clm (dblS a) p L V f := ⟨c1, eF, eM, c2, c3, hV _ c4, hV _ c5, by show 2 * a.2.1 ≤ f eM; (first | ((try clear x4); (try clear x3); (try clear hT); (try clear d8); (try clear d7); (try clear d6); (try clear d5); (try clear d4); (try clear d3); (try clear d2); (try clear d1); (try clear c8); (try clear c7); (try clear c5); (try clear c4); (try clear c3); (try clear c2); (try clear c1); (try clear k4); (try clear k3); (try clear h8); (try clear h9); (try clear hp2); (try clear hp1); (try clear hf); omega) | omega), by show 2 * a.2.2.1 ≤ f eF; (first | ((try clear x4); (try clear x2); (try clear x1); (try clear hT); (try clear d8); (try clear d7); (try clear d6); (try clear d5); (try clear d4); (try clear d3); (try clear d2); (try clear d1); (try clear c8); (try clear c6); (try clear c5); (try clear c4); (try clear c3); (try clear c2); (try clear c1); (try clear k4); (try clear k3); (try clear h8); (try clear h9); (try clear hp2); (try clear hp1); (try clear hf); omega) | omega), fun e he => by
      have y1 := c8 e he
      show a.2.2.2 ≤ f e
      by_cases hT2 : e < T
      · have := h9 e (by (first | ((try clear hT2); (try clear y1); (try clear x4); (try clear x3); (try clear x2); (try clear x1); (try clear hT); (try clear d8); (try clear d7); (try clear d6); (try clear d5); (try clear d4); (try clear d3); (try clear d2); (try clear d1); (try clear c8); (try clear c7); (try clear c6); (try clear c5); (try clear c4); (try clear c1); (try clear k4); (try clear k3); (try clear h8); (try clear h9); (try clear hp2); (try clear hp1); (try clear hf); omega) | omega)) hT2; (first | ((try clear hT2); (try clear he); (try clear x4); (try clear x3); (try clear x2); (try clear x1); (try clear hT); (try clear d8); (try clear d7); (try clear d6); (try clear d5); (try clear d4); (try clear d3); (try clear d2); (try clear d1); (try clear c8); (try clear c7); (try clear c6); (try clear c5); (try clear c4); (try clear c3); (try clear c2); (try clear c1); (try clear k4); (try clear k3); (try clear h8); (try clear h9); (try clear hp2); (try clear hp1); (try clear hf); omega) | omega)
      · have := h8 e (by (first | ((try clear hT2); (try clear y1); (try clear x4); (try clear x3); (try clear x2); (try clear x1); (try clear hT); (try clear d8); (try clear d7); (try clear d6); (try clear d5); (try clear d4); (try clear d3); (try clear d2); (try clear d1); (try clear c8); (try clear c7); (try clear c6); (try clear c5); (try clear c4); (try clear c1); (try clear k4); (try clear k3); (try clear h8); (try clear h9); (try clear hp2); (try clear hp1); (try clear hf); omega) | omega)) (by (first | ((try clear y1); (try clear he); (try clear x4); (try clear x3); (try clear x2); (try clear x1); (try clear hT); (try clear d8); (try clear d7); (try clear d6); (try clear d5); (try clear d4); (try clear d3); (try clear d2); (try clear d1); (try clear c8); (try clear c7); (try clear c6); (try clear c5); (try clear c4); (try clear c3); (try clear c2); (try clear c1); (try clear k4); (try clear k3); (try clear h8); (try clear h9); (try clear hp2); (try clear hp1); (try clear hf); omega) | omega)); (first | ((try clear hT2); (try clear he); (try clear x4); (try clear x3); (try clear x2); (try clear x1); (try clear hT); (try clear d8); (try clear d7); (try clear d6); (try clear d5); (try clear d4); (try clear d3); (try clear d2); (try clear d1); (try clear c8); (try clear c7); (try clear c6); (try clear c5); (try clear c4); (try clear c3); (try clear c2); (try clear c1); (try clear k4); (try clear k3); (try clear h8); (try clear h9); (try clear hp2); (try clear hp1); (try clear hf); omega) | omega)⟩
    exact Clm_has (k3 a ha (by (first | ((try clear x3); (try clear hT); (try clear d8); (try clear d7); (try clear d6); (try clear d5); (try clear d4); (try clear d3); (try clear d2); (try clear d1); (try clear c8); (try clear c7); (try clear c5); (try clear c4); (try clear c3); (try clear c2); (try clear c1); (try clear k4); (try clear k3); (try clear h8); (try clear h9); (try clear hp2); (try clear hp1); (try clear hf); omega) | omega))) hc
  · by_cases hle : eF ≤ eF2
    · have hc := Clm_fol (a := a) (b := b) (f := f) hV hp1 hp2 h9 h8 c1 d1 c2 c3 c4 c5 c6 c7 c8 d2 d3 d5 d6 d8 hle (by (first | ((try clear hc); (try clear d8); (try clear d7); (try clear d6); (try clear d5); (try clear d4); (try clear d3); (try clear d2); (try clear d1); (try clear c8); (try clear c7); (try clear c6); (try clear c5); (try clear c4); (try clear c3); (try clear c2); (try clear c1); (try clear k4); (try clear k3); (try clear h8); (try clear h9); (try clear hp2); (try clear hp1); (try clear hf); omega) | omega))
      have hc2 := hc
      obtain ⟨_, e1, e2, q2, q3, _, _, q6, _, q8⟩ := hc
      exact Clm_has (k4 a b ha hb9 (Nat.le_trans q6 (hf _ q3)) (Nat.le_trans (q8 e1 (Nat.le_refl _)) (hf _ (by (first | ((try clear q8); (try clear q6); (try clear hc2); (try clear hc); (try clear hle); (try clear hT); (try clear d8); (try clear d7); (try clear d6); (try clear d5); (try clear d4); (try clear d3); (try clear d2); (try clear d1); (try clear c8); (try clear c7); (try clear c6); (try clear c5); (try clear c4); (try clear c3); (try clear c2); (try clear c1); (try clear k4); (try clear k3); (try clear h8); (try clear h9); (try clear hp2); (try clear hp1); (try clear hf); omega) | omega))))) hc2
    · have hc := Clm_fol (a := b) (b := a) (f := f) (g1 := g2) (g2 := g1) hV hp2 hp1 (fun e he hT2 => by have := h9 e he hT2; (first | ((try clear hT2); (try clear he); (try clear hc); (try clear hle); (try clear hT); (try clear d8); (try clear d7); (try clear d6); (try clear d5); (try clear d4); (try clear d3); (try clear d2); (try clear d1); (try clear c8); (try clear c7); (try clear c6); (try clear c5); (try clear c4); (try clear c3); (try clear c2); (try clear c1); (try clear k4); (try clear k3); (try clear h8); (try clear h9); (try clear hp2); (try clear hp1); (try clear hf); omega) | omega)) (fun e he hT2 => by have := h8 e he hT2; exact ⟨this.1.symm, by (first | ((try clear hT2); (try clear he); (try clear hc); (try clear hle); (try clear hT); (try clear d8); (try clear d7); (try clear d6); (try clear d5); (try clear d4); (try clear d3); (try clear d2); (try clear d1); (try clear c8); (try clear c7); (try clear c6); (try clear c5); (try clear c4); (try clear c3); (try clear c2); (try clear c1); (try clear k4); (try clear k3); (try clear h8); (try clear h9); (try clear hp2); (try clear hp1); (try clear hf); omega) | omega), fun hv => by have := this.2.2 hv; (first | ((try clear hT2); (try clear he); (try clear hc); (try clear hle); (try clear hT); (try clear d8); (try clear d7); (try clear d6); (try clear d5); (try clear d4); (try clear d3); (try clear d2); (try clear d1); (try clear c8); (try clear c7); (try clear c6); (try clear c5); (try clear c4); (try clear c3); (try clear c2); (try clear c1); (try clear k4); (try clear k3); (try clear h8); (try clear h9); (try clear hp2); (try clear hp1); (try clear hf); omega) | omega)⟩) d1 c1 d2 d3 d4 d5 d6 d7 d8 c2 c3 c5 c6 c8 (by (first | ((try clear hc); (try clear hT); (try clear d8); (try clear d7); (try clear d6); (try clear d5); (try clear d4); (try clear d3); (try clear d2); (try clear d1); (try clear c8); (try clear c7); (try clear c6); (try clear c5); (try clear c4); (try clear c3); (try clear c2); (try clear c1); (try clear k4); (try clear k3); (try clear h8); (try clear h9); (try clear hp2); (try clear hp1); (try clear hf); omega) | omega)) (by (first | ((try clear hc); (try clear d8); (try clear d7); (try clear d6); (try clear d5); (try clear d4); (try clear d3); (try clear d2); (try clear d1); (try clear c8); (try clear c7); (try clear c6); (try clear c5); (try clear c4); (try clear c3); (try clear c2); (try clear c1); (try clear k4); (try clear k3); (try clear h8); (try clear h9); (try clear hp2); (try clear hp1); (try clear hf); omega) | omega))
      have hc2 := hc
      obtain ⟨_, e1, e2, q2, q3, _, _, q6, _, q8⟩ := hc
      exact Clm_has (k4 b a hb9 ha (Nat.le_trans q6 (hf _ q3)) (Nat.le_trans (q8 e1 (Nat.le_refl _)) (hf _ (by (first | ((try clear q8); (try clear q6); (try clear hc2); (try clear hc); (try clear hle); (try clear hT); (try clear d8); (try clear d7); (try clear d6); (try clear d5); (try clear d4); (try clear d3); (try clear d2); (try clear d1); (try clear c8); (try clear c7); (try clear c6); (try clear c5); (try clear c4); (try clear c3); (try clear c2); (try clear c1); (try clear k4); (try clear k3); (try clear h8); (try clear h9); (try clear hp2); (try clear hp1); (try clear hf); omega) | omega))))) hc2
/-- the deepest item of a row, and what stands beside it -/
def KRw (w : Rw) (L : Nat) (V : Nat → Prop) (f : Nat → Nat) : Prop := ∃ (fi : Nat → Nat) (p q : Nat), p + q = pV w ∧ (∀ e : Nat, e < L → fi e + q ≤ f e) ∧ ((∃ a : St, a ∈ tP (rH w - 1) ∧ Clm a p L V fi) ∨ (p = 0 ∧ ¬ rNO w ∧ ∃ a : St, a ∈ tO (rH w - 1) ∧ Clm a 0 L V fi))
theorem KRw_row {w : Rw} {L : Nat} {V : Nat → Prop} {f : Nat → Nat} (h : KRw w L V f) (hv : 1 ≤ pV w) : ∃ a : St, a ∈ tR (rH w - 1) ∧ Clm a (pV w) L V f := by
  obtain ⟨fi, p, q, h1, h2, h3⟩ := h
  rcases h3 with ⟨a, h3, h4⟩ | ⟨h5, _, a, h3, h4⟩
  · obtain ⟨k1, _⟩ := ckS_is (n := rH w - 1) (by have := tP_n h3; (first | ((try clear k1); (try clear h4); (try clear h3); (try clear h5); (try clear h2); (try clear h1); (try clear fi); omega) | omega))
    exact Clm_has (k1 a h3) (Clm_mono (by (first | ((try clear k1); (try clear h4); (try clear h3); (try clear h5); (try clear h2); (try clear fi); omega) | omega)) (Nat.le_refl _) (fun _ h => h) (fun e he => by have := h2 e he; (first | ((try clear he); (try clear k1); (try clear h4); (try clear h3); (try clear h5); (try clear h2); (try clear h1); omega) | omega)) h4)
  · obtain ⟨_, k2, _⟩ := ckS_is (tO_n h3)
    obtain ⟨c1, eF, eM, c2, c3, c4, c5, c6, c7, c8⟩ := h4
    refine Clm_has (k2 a h3) ⟨by show a.1 + 1 ≤ pV w; (first | ((try clear c8); (try clear c7); (try clear c6); (try clear c5); (try clear c4); (try clear c3); (try clear c2); (try clear k2); (try clear h4); (try clear h3); (try clear h2); omega) | omega), eF, eM, c2, c3, c4, c5, ?_, ?_, fun e he => ?_⟩
    · have := h2 eM c3
      show a.2.1 + 1 ≤ f eM
      (first | ((try clear he); (try clear c8); (try clear c7); (try clear c5); (try clear c4); (try clear c3); (try clear c2); (try clear c1); (try clear k2); (try clear h4); (try clear h3); (try clear h2); omega) | omega)
    · have := h2 eF (by (first | ((try clear he); (try clear c8); (try clear c7); (try clear c6); (try clear c5); (try clear c4); (try clear c1); (try clear k2); (try clear h4); (try clear h3); (try clear h5); (try clear h2); (try clear h1); omega) | omega))
      show a.2.2.1 + 1 ≤ f eF
      (first | ((try clear he); (try clear c8); (try clear c6); (try clear c5); (try clear c4); (try clear c3); (try clear c2); (try clear c1); (try clear k2); (try clear h4); (try clear h3); (try clear h2); omega) | omega)
    · have x1 := h2 e (by (first | ((try clear x1); (try clear c8); (try clear c7); (try clear c6); (try clear c5); (try clear c4); (try clear c1); (try clear k2); (try clear h4); (try clear h3); (try clear h5); (try clear h2); (try clear h1); omega) | omega))
      have x2 := c8 e he
      show a.2.2.2 + 1 ≤ f e
      (first | ((try clear he); (try clear c8); (try clear c7); (try clear c6); (try clear c5); (try clear c4); (try clear c3); (try clear c2); (try clear c1); (try clear k2); (try clear h4); (try clear h3); (try clear h2); omega) | omega)
theorem NN_6 {n : Nat} (h : NN n ≤ 60) : n ≤ 6 := by
  by_cases h9 : n ≤ 6
  · exact h9
  · have h8 := NN_mono (a := 7) (b := n) (by (first | ((try clear h8); (try clear h); omega) | omega))
    have h7 : NN 7 = 96 := rfl
    (first | ((try clear h9); omega) | omega)
theorem KRw_is : ∀ (w : Rw) {L : Nat} {V : Nat → Prop} {f : Nat → Nat}, rWF w → rAd w → (∀ e : Nat, e < L → f e ≤ 60) → PL w L V f → w ≠ .leaf → KRw w L V f
  | .leaf, _, _, _, _, _, _, _, h => absurd rfl h
  | .inner z k v l r, L, V, f, hw, hA, hf, ⟨f1, f2, h1, h2, h3⟩, _ => by
    have hf1 : ∀ e : Nat, e < L → f1 e ≤ 60 := fun e he => by have := h1 e he; have := hf e he; omega
    have hwl := hw.2.2.2.2.2.2.1
    have hS := PL_S (Std.DTreeMap.Internal.Impl.inner z k v l .leaf) (L := L) (V := V) (f := f1) ⟨f1, fun _ => 0, fun e _ => Nat.le_refl _, trivial, h3⟩
    have hpi : pV (Std.DTreeMap.Internal.Impl.inner z k v l .leaf : Rw) = (if k < 3 then 1 else if k = 3 then 0 else pV l) := rfl
    rw [hpi] at hS
    -- the item
    have hit : (∃ a : St, a ∈ tP (rH l) ∧ Clm a (if k < 3 then 1 else if k = 3 then 0 else pV l) L V f1) ∨ ((if k < 3 then 1 else if k = 3 then 0 else pV l) = 0 ∧ k = 3 ∧ ∃ a : St, a ∈ tO (rH l) ∧ Clm a 0 L V f1) := by
      rcases h3 with ⟨a, b, e, c, d⟩ | ⟨a, b, e, c, d, g9⟩ | ⟨a, b, L2, c, d, e⟩ | ⟨a, b, T, g1, g2, V2, c, d, d2, g9, g8⟩
      · left
        rw [hw.2.1 a, if_pos a]
        exact ⟨(1, 1, 1, 1), List.mem_singleton.mpr rfl, Nat.le_refl _, e, e, Nat.le_refl _, c, d, d, b e c, b e c, fun e2 he2 => b e2 (by (first | ((try clear g8); (try clear g9); (try clear d2); (try clear V2); (try clear g2); (try clear g1); (try clear b); (try clear L2); omega) | omega))⟩
      · right
        rw [if_neg (by (first | ((try clear g8); (try clear g9); (try clear d2); (try clear V2); (try clear g2); (try clear g1); (try clear b); (try clear L2); omega) | omega)), if_pos a]
        refine ⟨rfl, a, ?_⟩
        have x1 := NN_T l hwl b hA.2.2.1
        have x2 := hf1 e c
        have x3 := rH_0 (hw.2.2.1 (by (first | ((try clear x3); (try clear x2); (try clear x1); (try clear g8); (try clear g9); (try clear d2); (try clear V2); (try clear g2); (try clear g1); (try clear b); (try clear L2); omega) | omega)))
        have x4 := NN_6 (n := rH l) (by (first | ((try clear x4); (try clear x3); (try clear g8); (try clear d2); (try clear V2); (try clear g2); (try clear g1); (try clear b); (try clear L2); omega) | omega))
        obtain ⟨_, _, _, _, _, k6⟩ := ckS_is (n := rH l - 1) (by (first | ((try clear k6); (try clear x2); (try clear x1); (try clear g8); (try clear g9); (try clear d2); (try clear V2); (try clear g2); (try clear g1); (try clear b); (try clear L2); omega) | omega))
        rw [show rH l - 1 + 1 = rH l by (first | ((try clear k6); (try clear x2); (try clear x1); (try clear g8); (try clear g9); (try clear d2); (try clear V2); (try clear g2); (try clear g1); (try clear b); (try clear L2); omega) | omega)] at k6
        exact Clm_has (k6 (by (first | ((try clear k6); (try clear x4); (try clear x3); (try clear g8); (try clear d2); (try clear V2); (try clear g2); (try clear g1); (try clear b); (try clear L2); omega) | omega))) ⟨Nat.le_refl _, e, e, Nat.le_refl _, c, d, d, by show NN (rH l) ≤ f1 e; (first | ((try clear k6); (try clear x4); (try clear x3); (try clear x2); (try clear g8); (try clear d2); (try clear V2); (try clear g2); (try clear g1); (try clear b); (try clear L2); omega) | omega), by show NN (rH l) ≤ f1 e; (first | ((try clear k6); (try clear x4); (try clear x3); (try clear x2); (try clear g8); (try clear d2); (try clear V2); (try clear g2); (try clear g1); (try clear b); (try clear L2); omega) | omega), fun e2 _ => Nat.zero_le _⟩
      · right
        rw [if_neg (by (first | ((try clear g8); (try clear g9); (try clear d2); (try clear V2); (try clear g2); (try clear g1); (try clear b); omega) | omega)), if_pos a]
        refine ⟨rfl, a, ?_⟩
        have hne := hw.2.2.1 (by (first | ((try clear hne); (try clear g8); (try clear g9); (try clear d2); (try clear V2); (try clear g2); (try clear g1); (try clear b); omega) | omega))
        obtain ⟨fi, p, q, q1, q2, q3⟩ := KRw_is l hwl hA.2.2.1 (fun e2 he2 => hf1 e2 (by (first | ((try clear q3); (try clear q2); (try clear q); (try clear fi); (try clear hne); (try clear g8); (try clear g9); (try clear d2); (try clear V2); (try clear g2); (try clear g1); (try clear b); omega) | omega))) e hne
        have x3 := rH_0 hne
        rcases q3 with ⟨x, q3, q4⟩ | ⟨_, q3, _⟩
        · obtain ⟨_, _, _, _, k5, _⟩ := ckS_is (n := rH l - 1) (by have := tP_n q3; (first | ((try clear k5); (try clear q3); (try clear q4); (try clear x); (try clear x3); (try clear q2); (try clear fi); (try clear hne); (try clear g8); (try clear g9); (try clear d2); (try clear V2); (try clear g2); (try clear g1); (try clear b); omega) | omega))
          have k6 := k5 x q3
          rw [show rH l - 1 + 1 = rH l by (first | ((try clear k6); (try clear k5); (try clear q3); (try clear q4); (try clear x); (try clear q2); (try clear fi); (try clear hne); (try clear g8); (try clear g9); (try clear d2); (try clear V2); (try clear g2); (try clear g1); (try clear b); omega) | omega)] at k6
          obtain ⟨c1, eF, eM, c2, c3, c4, c5, c6, c7, c8⟩ := q4
          exact Clm_has k6 ⟨Nat.le_refl _, eF, eM, c2, by (first | ((try clear c8); (try clear c7); (try clear c6); (try clear c5); (try clear c4); (try clear c2); (try clear c1); (try clear k6); (try clear k5); (try clear q3); (try clear q4); (try clear x3); (try clear q2); (try clear hne); (try clear g8); (try clear g9); (try clear d2); (try clear V2); (try clear g2); (try clear g1); (try clear b); omega) | omega), c4, c5, by have := q2 eM c3; show x.2.1 ≤ f1 eM; (first | ((try clear c8); (try clear c7); (try clear c5); (try clear c4); (try clear c3); (try clear c2); (try clear c1); (try clear k6); (try clear k5); (try clear q3); (try clear q4); (try clear x3); (try clear q2); (try clear hne); (try clear g8); (try clear g9); (try clear d2); (try clear V2); (try clear g2); (try clear g1); (try clear b); omega) | omega), by have := q2 eF (by (first | ((try clear c8); (try clear c7); (try clear c6); (try clear c5); (try clear c4); (try clear c1); (try clear k6); (try clear k5); (try clear q3); (try clear q4); (try clear x3); (try clear q2); (try clear hne); (try clear g8); (try clear g9); (try clear d2); (try clear V2); (try clear g2); (try clear g1); (try clear b); omega) | omega)); show x.2.2.1 ≤ f1 eF; (first | ((try clear c8); (try clear c6); (try clear c5); (try clear c4); (try clear c3); (try clear c2); (try clear c1); (try clear k6); (try clear k5); (try clear q3); (try clear q4); (try clear x3); (try clear q2); (try clear hne); (try clear g8); (try clear g9); (try clear d2); (try clear V2); (try clear g2); (try clear g1); (try clear b); omega) | omega), fun e2 he2 => by have := q2 e2 (by (first | ((try clear c8); (try clear c7); (try clear c6); (try clear c5); (try clear c4); (try clear c1); (try clear k6); (try clear k5); (try clear q3); (try clear q4); (try clear x3); (try clear q2); (try clear hne); (try clear g8); (try clear g9); (try clear d2); (try clear V2); (try clear g2); (try clear g1); (try clear b); omega) | omega)); have := c8 e2 he2; show x.2.2.2 ≤ f1 e2; (first | ((try clear he2); (try clear c8); (try clear c7); (try clear c6); (try clear c5); (try clear c4); (try clear c3); (try clear c2); (try clear c1); (try clear k6); (try clear k5); (try clear q3); (try clear q4); (try clear x3); (try clear q2); (try clear hne); (try clear g8); (try clear g9); (try clear d2); (try clear V2); (try clear g2); (try clear g1); (try clear b); omega) | omega)⟩
        · exact absurd b q3
      · left
        rw [if_neg (by (first | ((try clear g8); (try clear g9); (try clear d2); (try clear V2); (try clear g2); (try clear g1); (try clear b); (try clear L2); omega) | omega)), if_neg (by (first | ((try clear g8); (try clear g9); (try clear d2); (try clear V2); (try clear g2); (try clear g1); (try clear b); (try clear L2); omega) | omega))]
        have hne := hw.2.2.1 (by (first | ((try clear hne); (try clear g8); (try clear g9); (try clear d2); (try clear V2); (try clear g2); (try clear g1); (try clear b); (try clear L2); omega) | omega))
        have hv := PL_S1 l d b
        have hg1 : ∀ e : Nat, e < L → g1 e ≤ f1 e := fun e he => by
          by_cases hT : e < T
          · have := g9 e he hT; (first | ((try clear hT); (try clear he); (try clear hg1); (try clear hne); (try clear g8); (try clear g9); (try clear d2); (try clear V2); (try clear b); (try clear L2); omega) | omega)
          · exact (g8 e he (by (first | ((try clear he); (try clear hg1); (try clear hne); (try clear g8); (try clear g9); (try clear d2); (try clear V2); (try clear g2); (try clear g1); (try clear b); (try clear L2); omega) | omega))).2.1
        have hg2 : ∀ e : Nat, e < L → g2 e ≤ f1 e := fun e he => by
          by_cases hT : e < T
          · have := g9 e he hT; (first | ((try clear hT); (try clear he); (try clear hg2); (try clear hg1); (try clear hne); (try clear g8); (try clear g9); (try clear d2); (try clear V2); (try clear b); (try clear L2); omega) | omega)
          · have := g8 e he (by (first | ((try clear he); (try clear hg2); (try clear hg1); (try clear hne); (try clear g8); (try clear g9); (try clear d2); (try clear V2); (try clear g2); (try clear g1); (try clear b); (try clear L2); omega) | omega)); (first | ((try clear hT); (try clear he); (try clear hg2); (try clear hg1); (try clear hne); (try clear g8); (try clear g9); (try clear d2); (try clear b); (try clear L2); omega) | omega)
        obtain ⟨x, x1, x2⟩ := KRw_row (KRw_is l hwl hA.2.2.1 (fun e he => Nat.le_trans (hg1 e he) (hf1 e he)) d hne) hv
        obtain ⟨y, y1, y2⟩ := KRw_row (KRw_is l hwl hA.2.2.1 (fun e he => Nat.le_trans (hg2 e he) (hf1 e he)) d2 hne) hv
        have x3 := rH_0 hne
        have h9 := Clm_rep hf1 c (fun e he => PL_S l d e he) (fun e he => PL_S l d2 e he) g9 g8 x1 y1 x2 y2
        rw [show rH l - 1 + 1 = rH l by (first | ((try clear h9); (try clear y2); (try clear y1); (try clear y); (try clear x2); (try clear x1); (try clear x); (try clear hg2); (try clear hg1); (try clear hne); (try clear g8); (try clear g9); (try clear d2); (try clear V2); (try clear g2); (try clear g1); (try clear b); (try clear L2); omega) | omega)] at h9
        exact h9
    have epv : pV (Std.DTreeMap.Internal.Impl.inner z k v l r : Rw) = (if k < 3 then 1 else if k = 3 then 0 else pV l) + pV r := rfl
    by_cases hm : rH r ≤ 1 + rH l
    · have hH : rH (Std.DTreeMap.Internal.Impl.inner z k v l r : Rw) - 1 = rH l := by rw [rH_in, Nat.max_eq_left hm]; (first | ((try clear hH); (try clear hm); (try clear epv); omega) | omega)
      refine ⟨f1, (if k < 3 then 1 else if k = 3 then 0 else pV l), pV r, epv.symm, fun e he => ?_, ?_⟩
      · have x1 := h1 e he
        have x2 := PL_S r h2 e he
        (first | ((try clear he); (try clear hH); (try clear hm); (try clear epv); omega) | omega)
      · rw [hH]
        exact hit.elim Or.inl (fun h => Or.inr ⟨h.1, fun h9 => h9.1 h.2.1, h.2.2⟩)
    · have hH : rH (Std.DTreeMap.Internal.Impl.inner z k v l r : Rw) = rH r := by rw [rH_in, Nat.max_eq_right (by (first | ((try clear hH); (try clear epv); omega) | omega))]
      have hne : r ≠ .leaf := fun h => by
        rw [h] at hm
        have : rH (Std.DTreeMap.Internal.Impl.leaf : Rw) = 0 := rfl
        (first | ((try clear h); (try clear hne); (try clear hH); (try clear epv); omega) | omega)
      obtain ⟨fi, p, q, q1, q2, q3⟩ := KRw_is r hw.2.2.2.2.2.2.2 hA.2.2.2 (fun e he => by have := h1 e he; have := hf e he; (first | ((try clear he); (try clear q3); (try clear q2); (try clear q); (try clear fi); (try clear hne); (try clear hH); (try clear hm); (try clear epv); omega) | omega)) h2 hne
      refine ⟨fi, p, q + (if k < 3 then 1 else if k = 3 then 0 else pV l), by rw [epv]; (first | ((try clear q3); (try clear q2); (try clear fi); (try clear hne); (try clear hH); (try clear hm); (try clear epv); omega) | omega), fun e he => ?_, by rw [hH]; exact q3.elim Or.inl (fun h => Or.inr ⟨h.1, fun h9 => h.2.1 h9.2, h.2.2⟩)⟩
      have x1 := h1 e he
      have x2 := q2 e he
      have x3 := hS e he
      (first | ((try clear he); (try clear q3); (try clear q2); (try clear hne); (try clear hH); (try clear hm); omega) | omega)
/-- fifteen deep at most -/
theorem PL_H {w : Rw} {L : Nat} {V : Nat → Prop} {f : Nat → Nat} (hw : rWF w) (hA : rAd w) (hf : ∀ e : Nat, e < L → f e ≤ 60) (h : PL w L V f) : rH w ≤ 16 := by
  by_cases hne : w = .leaf
  · rw [hne]; exact Nat.zero_le _
  · obtain ⟨fi, p, q, q1, q2, q3⟩ := KRw_is w hw hA hf h hne
    rcases q3 with ⟨a, q3, _⟩ | ⟨_, _, a, q3, _⟩
    · have := tP_n q3; (first | ((try clear q3); (try clear q2); (try clear fi); (try clear hne); (try clear hf); omega) | omega)
    · have := tO_n q3; (first | ((try clear q3); (try clear q2); (try clear fi); (try clear hne); (try clear hf); omega) | omega)

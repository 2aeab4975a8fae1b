/-! feed and page on both sides -/
theorem by_rng (X : Int32) : 0 ≤ (X &&& iZ 255).toInt ∧ (X &&& iZ 255).toInt ≤ 255 := by
  have e : (X &&& iZ 255).toInt = (X.toBitVec &&& 255#32).toInt := by
    show (X &&& iZ 255).toBitVec.toInt = _
    rw [Int32.toBitVec_and]
    rfl
  have h1 : (X.toBitVec &&& 255#32).toNat ≤ 255 := by rw [BitVec.toNat_and]; exact Nat.and_le_right
  have h2 := BitVec.toInt_eq_toNat_of_lt (x := X.toBitVec &&& 255#32) (by omega)
  omega
theorem bz_r (x j : Int) : 0 ≤ bz x j ∧ bz x j ≤ 255 := by_rng _
theorem CI_feed {T : List Tk} {μ u : va_M} (h : CI T μ) (hf : fr (fun x y => (x = 1 ∧ y = 1) ∨ x = 2) μ u) (h1 : 0 ≤ u 1 1 ∧ u 1 1 ≤ 400) (h2 : tpB u) : CI T u := by
  obtain ⟨⟨⟨a1, a2, a3, a4⟩, a5, a6, a7, a8, a9, a10⟩, a11⟩ := h
  exact ⟨⟨⟨tabC_fr a1 (hf 1 3 (by omega)) (fun y => hf 3 y (by omega)), h2, h1, by rw [hf 0 2 (by omega)]; exact a4⟩, lv_fr a5 (fun x y q _ => hf _ _ (by omega)), rG_fr a6 (fun x y q1 q2 => hf _ _ (by omega)), rG_fr a7 (fun x y q1 q2 => hf _ _ (by omega)), pst_fr2 a8 (fun x y q1 q2 => hf _ _ (by omega)), aB_fr a9 (fun x y q => hf _ _ (by omega)), ord_fr a10 (fun x y q1 q2 => hf _ _ (by omega))⟩, fun x y q n => by rw [hf x y (by unfold Zc at q; omega)]; exact a11 x y q n⟩
theorem RI_feed {ν v : va_M} (h : RI JS ν) (hf : fr (fun x y => (x = 0 ∧ (y = 0 ∨ y = 2)) ∨ x = 2) ν v) : RI JS v := by
  obtain ⟨⟨a1, ⟨T, a2, a3⟩, a4, a5, w0, a6, a7⟩, ⟨w, w1, w2, w3⟩, b1, b2, b3, b4⟩ := h
  have hTR : ∀ t (w : Rw), TR ν t w → TR v t w := fun t w q => ⟨(hf _ _ (by omega)).trans q.1, RA_kept q.2 (fun x _ _ => ⟨hf _ _ (by omega), hf _ _ (by omega), hf _ _ (by omega)⟩)⟩
  refine ⟨⟨by rw [hf 0 10 (by omega)]; exact a1, ⟨T, tabR_fr a2 hf (by omega) (fun k => ⟨by omega, by omega, by omega⟩), a3⟩, fun j hj => by rw [hf 3 j (by omega)]; exact a4 j hj, fun i hi => ?_, w0, a6, hTR _ _ a7⟩, ⟨w, w1, w2, hTR _ _ w3⟩, by rw [hf 0 23 (by omega)]; exact b1, by rw [hf 0 22 (by omega)]; exact b2, fun k hk => by rw [hf 721 k (by omega)]; exact b3 k hk, fun k h1 h2 => ?_⟩
  · rw [hf 0 10 (by omega)] at hi
    obtain ⟨c1, c2, c3, w4, c4, c5, c6⟩ := a5 i hi
    refine ⟨by rw [hf 15 i (by omega)]; exact c1, by rw [hf 505 i (by omega)]; exact c2, fun k hk => ?_, w4, c4, c5, hTR _ _ c6⟩
    rw [hf 15 i (by omega)] at hk
    rw [hf (7 + i) k (by omega), hf 0 9 (by omega)]
    exact c3 k hk
  · rw [hf 0 23 (by omega)] at h2
    obtain ⟨w4, c1, c2, c3⟩ := b4 k h1 h2
    exact ⟨w4, c1, c2, hTR _ _ c3⟩

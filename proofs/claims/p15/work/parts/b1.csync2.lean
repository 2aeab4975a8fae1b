/-! feed and page on both sides -/
theorem by_rng (X : Int32) : 0 ≤ (X &&& iZ 255).toInt ∧ (X &&& iZ 255).toInt ≤ 255 := by
  have e : (X &&& iZ 255).toInt = (X.toBitVec &&& 255#32).toInt := by
    show (X &&& iZ 255).toBitVec.toInt = _
    rw [Int32.toBitVec_and]
    rfl
  have h1 : (X.toBitVec &&& 255#32).toNat ≤ 255 := by rw [BitVec.toNat_and]; exact Nat.and_le_right
  have h2 := BitVec.toInt_eq_toNat_of_lt (x := X.toBitVec &&& 255#32) (by omega)
  omega
theorem bz_r (x j : Int) : 0 ≤ bz x j ∧ bz x j ≤ 255 := by_rng _
theorem CI_feed {T : List Tk} {μ u : va_M} (h : CI T μ) (hf : fr (fun x y => (x = 1 ∧ y = 1) ∨ x = 2) μ u) (h1 : 0 ≤ u 1 1 ∧ u 1 1 ≤ 400) (h2 : tpB u) : CI T u := by
  obtain ⟨⟨⟨a1, a2, a3, a4⟩, a5, a6, a7, a8, a9, a10⟩, a11⟩ := h
  exact ⟨⟨⟨tabC_fr a1 (hf 1 3 (by omega)) (fun y => hf 3 y (by omega)), h2, h1, by rw [hf 0 2 (by omega)]; exact a4⟩, lv_fr a5 (fun x y q _ => hf _ _ (by omega)), rG_fr a6 (fun x y q1 q2 => hf _ _ (by omega)), rG_fr a7 (fun x y q1 q2 => hf _ _ (by omega)), pst_fr2 a8 (fun x y q1 q2 => hf _ _ (by omega)), aB_fr a9 (fun x y q => hf _ _ (by omega)), ord_fr a10 (fun x y q1 q2 => hf _ _ (by omega))⟩, fun x y q n => by rw [hf x y (by unfold Zc at q; omega)]; exact a11 x y q n⟩
theorem RI_feed {ν v : va_M} (h : RI JS ν) (hf : fr (fun x y => (x = 0 ∧ (y = 0 ∨ y = 2)) ∨ x = 2) ν v) : RI JS v := by
  obtain ⟨⟨a1, ⟨T, a2, a3⟩, a4, a5, w0, a6, a7⟩, ⟨w, w1, w2, w3⟩, b1, b2, b3, b4⟩ := h
  have hTR : ∀ t (w : Rw), TR ν t w → TR v t w := fun t w q => ⟨(hf _ _ (by omega)).trans q.1, RA_kept q.2 (fun x _ _ => ⟨hf _ _ (by omega), hf _ _ (by omega), hf _ _ (by omega)⟩)⟩
  refine ⟨⟨by rw [hf 0 10 (by omega)]; exact a1, ⟨T, tabR_fr a2 hf (by omega) (fun k => ⟨by omega, by omega, by omega⟩), a3⟩, fun j hj => by rw [hf 3 j (by omega)]; exact a4 j hj, fun i hi => ?_, w0, a6, hTR _ _ a7⟩, ⟨w, w1, w2, hTR _ _ w3⟩, by rw [hf 0 23 (by omega)]; exact b1, by rw [hf 0 22 (by omega)]; exact b2, fun k hk => by rw [hf 721 k (by omega)]; exact b3 k hk, fun k h1 h2 => ?_⟩
  · rw [hf 0 10 (by omega)] at hi
    obtain ⟨c1, c2, c3, w4, c4, c5, c6⟩ := a5 i hi
    refine ⟨by rw [hf 15 i (by omega)]; exact c1, by rw [hf 505 i (by omega)]; exact c2, fun k hk => ?_, w4, c4, c5, hTR _ _ c6⟩
    rw [hf 15 i (by omega)] at hk
    rw [hf (7 + i) k (by omega), hf 0 9 (by omega)]
    exact c3 k hk
  · rw [hf 0 23 (by omega)] at h2
    obtain ⟨w4, c1, c2, c3⟩ := b4 k h1 h2
    exact ⟨w4, c1, c2, hTR _ _ c3⟩
theorem LV_feed {μ ν u v : va_M} {a1 a2 a3 a4 a5 r r2 : Int} (h : LV μ ν) (hc : (μ 1 1 + 20 > 400 → u = μ ∧ r = -1) ∧ (μ 1 1 + 20 ≤ 400 → u 1 1 = μ 1 1 + 20 ∧ r = μ 1 1 + 20 ∧ fr (fun x y => (x = 1 ∧ y = 1) ∨ x = 2) μ u ∧ ∀ j : Nat, u 2 j = if μ 1 1 ≤ j ∧ (j : Int) < μ 1 1 + 20 then bz (argO a1 a2 a3 a4 a5 (j - μ 1 1)) ((j - μ 1 1) % 4) else μ 2 j)) (hm : (ν 0 2 + 20 > 400 → v = uz ν 0 0 0 ∧ r2 = -1) ∧ (ν 0 2 + 20 ≤ 400 → v 0 2 = ν 0 2 + 20 ∧ r2 = ν 0 2 + 20 ∧ v 0 0 = 0 ∧ fr (fun x y => (x = 0 ∧ (y = 0 ∨ y = 2)) ∨ x = 2) ν v ∧ ∀ j : Nat, j < 400 → v 2 j = if ν 0 2 ≤ j ∧ (j : Int) < ν 0 2 + 20 then bz (argO a1 a2 a3 a4 a5 (j - ν 0 2)) ((j - ν 0 2) % 4) else ν 2 j)) : r = r2 ∧ LV u v := by
  obtain ⟨T, h1, h2, h3, h4, h5, h6, h7⟩ := h
  obtain ⟨c1, c2⟩ := hc
  obtain ⟨m1, m2⟩ := hm
  have hB := h1.1.1.2.1
  have hl := h1.1.1.2.2.1
  by_cases hq : μ 1 1 + 20 > 400
  · obtain ⟨rfl, rfl⟩ := c1 hq
    obtain ⟨rfl, rfl⟩ := m1 (by omega)
    refine ⟨rfl, T, h1, RI_PS h2 (fr_uz fr_rfl (by unfold PS; omega)), tabR_fr h3 (P := PS) (fr_uz fr_rfl (by unfold PS; omega)) (PS_n (by omega)) (fun k => ⟨PS_n (by omega), PS_n (by omega), PS_n (by omega)⟩), h4, by rw [uz_n (by omega)]; exact h5, by rw [uz_n (by omega)]; exact h6, fun j hj => by rw [uz_n (by omega)]; exact h7 j hj⟩
  · obtain ⟨d1, d2, d3, d4⟩ := c2 (by omega)
    obtain ⟨e1, e2, e3, e4, e5⟩ := m2 (by omega)
    refine ⟨by omega, T, CI_feed h1 d3 (by omega) (fun j => ?_), RI_feed h2 e4, tabR_fr h3 e4 (by omega) (fun k => ⟨by omega, by omega, by omega⟩), h4, by omega, by rw [d3 0 2 (by omega), e4 0 10 (by omega)]; exact h6, fun j hj => ?_⟩
    · rw [d4 j]
      split
      · exact bz_r _ _
      · exact hB j
    · rw [d4 j, e5 j hj, h5, h7 j hj]
/-- what the class's page leaves, with the tokens T that were known -/
def PGC (T : List Tk) (μ : va_M) (n : Int) (u : va_M) : Prop := (u 1 1 = 0 ∧ (∀ y, u 2 y = μ 2 y) ∧ (0 ≤ n ∧ n ≤ μ 1 1 ∧ μ 0 2 < 8) ∧ ((∃ (T2 : List Tk) (S2 : List Int), pg (bC μ n) n 0 T [] = some (T2, S2) ∧ CI T2 u ∧ u 0 2 = μ 0 2 + 1) ∨ (pg (bC μ n) n 0 T [] = none ∧ CI T u ∧ u 0 2 = μ 0 2))) ∨ (CI T u ∧ SY μ u ∧ ¬ (0 ≤ n ∧ n ≤ μ 1 1 ∧ μ 0 2 < 8))
theorem LV_page {T : List Tk} {μ ν u v : va_M} {n : Int} (h1 : CI T μ) (h2 : RI JS ν) (h3 : tabR ν T) (h4 : tabW T) (h5 : μ 1 1 = ν 0 2) (h6 : μ 0 2 = ν 0 10) (h7 : ∀ j : Nat, j < 400 → μ 2 j = ν 2 j) (hc : PGC T μ n u) (hm : ((n < 0 ∨ ν 0 2 < n ∨ ν 0 10 = 8) → fr (fun x y => (x = 0 ∧ y = 0) ∨ x = 1) ν v ∧ (v 0 0 = 1 ∨ v 0 0 = 2)) ∧ (0 ≤ n → n ≤ ν 0 2 → ν 0 10 < 8 → v 0 0 = 0 ∧ v 0 2 = 0 ∧ (∀ j : Nat, j < 201 → inR (v 3 j)) ∧ (pg (bAn ν n) n 0 T [] = none → v 0 10 = ν 0 10 ∧ tabR v T ∧ fr (PGf (ν 0 10).toNat T.length) ν v) ∧ ∀ (T2 : List Tk) (S : List Int), pg (bAn ν n) n 0 T [] = some (T2, S) → v 0 10 = ν 0 10 + 1 ∧ tabR v T2 ∧ tabW T2 ∧ T.length ≤ T2.length ∧ pgR v (ν 0 10).toNat T2 S ∧ fr (PGs (ν 0 10).toNat T.length) ν v)) : LV u v := by
  have hl := h1.1.1.2.2.1
  have hlc := CI_lc h1
  obtain ⟨m1, m2⟩ := hm
  rcases hc with ⟨c1, c2, c3, c4⟩ | ⟨c1, c2, c3⟩
  · obtain ⟨n1, n2, n3, n4, n5⟩ := m2 c3.1 (by omega) (by omega)
    have hb9 : bC μ n = bAn ν n := by
      funext k
      unfold bC bAn
      by_cases hk : n ≤ k
      · rw [if_pos hk, if_pos hk]
      · rw [if_neg hk, if_neg hk]
        exact h7 _ (by omega)
    have hx2 : ∀ j : Nat, fr (PGs (ν 0 10).toNat T.length) ν v → v 2 j = ν 2 j := fun j hf => hf 2 j (by unfold PGs PGf PR PN FF FQ FP P8 PT; omega)
    rw [hb9] at c4
    rcases c4 with ⟨T2, S2, d1, d2, d3⟩ | ⟨d1, d2, d3⟩
    · obtain ⟨k1, k2, k3, k4, k5, k6⟩ := n5 T2 S2 d1
      exact ⟨T2, d2, RI_page h2 (by omega) (by omega) k6 h3 k2 k3 k4 n3 (Or.inr ⟨k1, pgQ_of k5 k2⟩), k2, k3, by omega, by omega, fun j hj => by rw [c2 j, hx2 j k6]; exact h7 j hj⟩
    · obtain ⟨k1, k2, k3⟩ := n4 d1
      have k6 : fr (PGs (ν 0 10).toNat T.length) ν v := fr_mono k3 (fun _ _ q => Or.inl q)
      exact ⟨T, d2, RI_page h2 (by omega) (by omega) k6 h3 k2 h4 (Nat.le_refl _) n3 (Or.inl k1), k2, h4, by omega, by omega, fun j hj => by rw [c2 j, hx2 j k6]; exact h7 j hj⟩
  · obtain ⟨n1, n2⟩ := m1 (by omega)
    have g1 : fr PS ν v := fr_mono n1 (fun x y q => by unfold PS; omega)
    refine LV_ps (μ := u) (ν := ν) ⟨T, c1, h2, h3, h4, by rw [c2 1 1 (by omega)]; exact h5, by rw [c2 0 2 (by omega)]; exact h6, fun j hj => by rw [c2 2 j (by omega)]; exact h7 j hj⟩ ⟨g1, by omega⟩


/-! what holds of both sides between the law's calls: tape, tokens, pages -/
theorem cdT_pre {T R : List Tk} {e : Int} (h0 : 0 ≤ e) (h1 : e < T.length) : cdT (T ++ R) e = cdT T e := by
  have h2 : e.toNat < T.length := by omega
  have h3 := List.getElem?_append_left (l₂ := R) h2
  unfold cdT kdT
  rw [h3]
theorem pgo_pre {b : Int → Int} {n : Int} : ∀ (f : Nat) (a : Int) (T : List Tk) (S : List Int) (T2 : List Tk) (S2 : List Int), pgo b n f a T S = some (T2, S2) → ∃ R, T2 = T ++ R
  | 0, _, _, _, _, _, h => by rw [pgo] at h; cases h
  | f + 1, a, T, S, T2, S2, h => by
    rw [pgo] at h
    split at h
    · split at h
      · cases h
      · cases h; exact ⟨[], (List.append_nil _).symm⟩
    · split at h
      · exact pgo_pre f _ _ _ _ _ h
      · split at h
        · cases h
        · split at h
          · cases h
          · split at h
            · cases h
            · split at h
              · exact pgo_pre f _ _ _ _ _ h
              · split at h
                · cases h
                · obtain ⟨R, e⟩ := pgo_pre f _ _ _ _ _ h
                  exact ⟨_ :: R, by rw [e, List.append_assoc]; rfl⟩
theorem pg_pre {b : Int → Int} {n a : Int} {T : List Tk} {S : List Int} {T2 : List Tk} {S2 : List Int} (h : pg b n a T S = some (T2, S2)) : ∃ R, T2 = T ++ R := pgo_pre _ _ _ _ _ _ h
/-- the pages' tokens stand on both sides -/
def PT9 (T : List Tk) (Ss : List (List Int)) (μ ν : va_M) : Prop := μ 0 2 = Ss.length ∧ ∀ (i : Nat) (S : List Int), Ss[i]? = some S → (1 ≤ S.length ∧ S.length ≤ 60) ∧ (∀ (k : Nat) (e : Int), S[k]? = some e → 0 ≤ e ∧ e < T.length) ∧ lfT μ (113 + i * 15) T S ∧ ν 15 i = S.length ∧ ∀ (k : Nat) (e : Int), S[k]? = some e → ν (7 + i) k = e
theorem PT9_fr {T : List Tk} {Ss : List (List Int)} {μ ν u v : va_M} (h : PT9 T Ss μ ν) (hl : Ss.length ≤ 8) (h0 : u 0 2 = μ 0 2) (hc : ∀ x y, 113 ≤ x → (x - 113) % 15 < 9 → u x y = μ x y) (hm : ∀ x y, 7 ≤ x → x < 16 → v x y = ν x y) : PT9 T Ss u v := by
  refine ⟨h0.trans h.1, fun i S hS => ?_⟩
  have hi := (List.getElem?_eq_some_iff.mp hS).1
  obtain ⟨a1, a2, ⟨a3, a4⟩, a5, a6⟩ := h.2 i S hS
  exact ⟨a1, a2, ⟨by rw [hc _ _ (by omega) (by omega)]; exact a3, fun k e hk => by rw [hc _ _ (by omega) (by omega), hc _ _ (by omega) (by omega)]; exact a4 k e hk⟩, by rw [hm _ _ (by omega) (by omega)]; exact a5, fun k e hk => by rw [hm _ _ (by omega) (by omega)]; exact a6 k e hk⟩
/-- both sides between two calls of the law -/
def LQ0 (T : List Tk) (μ ν : va_M) : Prop := CI T μ ∧ RI JS ν ∧ tabR ν T ∧ (tabW T ∧ tabV T) ∧ μ 1 1 = ν 0 2 ∧ μ 0 2 = ν 0 10 ∧ ∀ j : Nat, j < 400 → μ 2 j = ν 2 j
def LQt (T : List Tk) (Ss : List (List Int)) (μ ν : va_M) : Prop := LQ0 T μ ν ∧ PT9 T Ss μ ν
def LQ (μ ν : va_M) : Prop := ∃ (T : List Tk) (Ss : List (List Int)), LQt T Ss μ ν
theorem LQt_8 {T : List Tk} {Ss : List (List Int)} {μ ν : va_M} (h : LQt T Ss μ ν) : Ss.length ≤ 8 := by
  have h1 := CI_lc h.1.1
  have h2 := h.2.1
  omega
theorem LQ_start {u : va_M} (hf : fr (fun x _ => x = 110) sI u) (h5 : ∀ j : Nat, j < 60 → u 110 j = 516) : LQ (nz u) mI := by
  have hc := CI_start hf h5
  have e : ∀ x y, ¬ Zc x y → ¬ ((x = 1 ∧ y = 6) ∨ ((113 ≤ x ∧ (x - 113) % 15 = 10) ∧ y = 0) ∨ (x = 41 ∧ y = 3)) → x ≠ 110 → nz u x y = 0 := fun x y h0 h1 h2 => (nz_n h0).trans ((hf x y h2).trans (sI_0 h1))
  have e2 : nz u 0 2 = 0 := e 0 2 (by unfold Zc; omega) (by omega) (by omega)
  refine ⟨[], [], ⟨hc, RI_start, ⟨mI_0 (by decide), Nat.zero_le _, fun k a h => by simp at h⟩, ⟨fun k a h => by simp at h, tabV_nil⟩, (e 1 1 (by unfold Zc; omega) (by omega) (by omega)).trans (mI_0 (by decide)).symm, e2.trans (mI_0 (by decide)).symm, fun j _ => (e 2 j (by unfold Zc; omega) (by omega) (by omega)).trans (mI_0 (by omega)).symm⟩, e2, fun i S h => by simp at h⟩
theorem LQt_c {T : List Tk} {Ss : List (List Int)} {μ ν u : va_M} (h : LQt T Ss μ ν) (hu : CI T u ∧ SZ μ u) : LQt T Ss u ν := by
  have h8 := LQt_8 h
  obtain ⟨⟨h1, h2, h3, h4, h5, h6, h7⟩, h9⟩ := h
  obtain ⟨k1, k2⟩ := hu
  exact ⟨⟨k1, h2, h3, h4, by rw [k2 1 1 (by omega)]; exact h5, by rw [k2 0 2 (by omega)]; exact h6, fun j hj => by rw [k2 2 j (by omega)]; exact h7 j hj⟩, PT9_fr h9 h8 (k2 0 2 (by omega)) (fun x y q1 q2 => k2 x y (by omega)) (fun x y _ _ => rfl)⟩
theorem LQt_m {T : List Tk} {Ss : List (List Int)} {μ ν v : va_M} (h : LQt T Ss μ ν) (hg : GE JS ν v) : LQt T Ss μ v := by
  have h8 := LQt_8 h
  obtain ⟨⟨h1, h2, h3, h4, h5, h6, h7⟩, h9⟩ := h
  obtain ⟨g1, g2, -⟩ := hg
  exact ⟨⟨h1, g2, tabR_fr h3 g1 (KF_n (by omega)) (fun k => ⟨KF_n (by omega), KF_n (by omega), KF_n (by omega)⟩), h4, by rw [g1 0 2 (KF_n (by omega))]; exact h5, by rw [g1 0 10 (KF_n (by omega))]; exact h6, fun j hj => by rw [g1 2 j (KF_n (by omega))]; exact h7 j hj⟩, PT9_fr h9 h8 rfl (fun x y _ _ => rfl) (fun x y q1 q2 => g1 x y (KF_n (by omega)))⟩
theorem LQt_ps {T : List Tk} {Ss : List (List Int)} {μ ν v : va_M} (h : LQt T Ss μ ν) (hg : fr PS ν v ∧ (v 0 0 = 0 ∨ v 0 0 = 1 ∨ v 0 0 = 2)) : LQt T Ss μ v := LQt_m h (GE_PS h.1.2.1 hg)
theorem LQt_uz {T : List Tk} {Ss : List (List Int)} {μ ν v : va_M} {r : Int} {P : Prop} (h : LQt T Ss μ ν) (hg : v = uz ν 0 0 0 ∧ P) : LQt T Ss μ v := LQt_ps h (by rw [hg.1]; exact ⟨fr_uz fr_rfl (by unfold PS; omega), Or.inl uz_s⟩)
theorem LQt_feed {T : List Tk} {Ss : List (List Int)} {μ ν u v : va_M} {a1 a2 a3 a4 a5 r r2 : Int} (h : LQt T Ss μ ν) (hc : (μ 1 1 + 20 > 400 → u = μ ∧ r = -1) ∧ (μ 1 1 + 20 ≤ 400 → u 1 1 = μ 1 1 + 20 ∧ r = μ 1 1 + 20 ∧ fr (fun x y => (x = 1 ∧ y = 1) ∨ x = 2) μ u ∧ ∀ j : Nat, u 2 j = if μ 1 1 ≤ j ∧ (j : Int) < μ 1 1 + 20 then bz (argO a1 a2 a3 a4 a5 (j - μ 1 1)) ((j - μ 1 1) % 4) else μ 2 j)) (hm : (ν 0 2 + 20 > 400 → v = uz ν 0 0 0 ∧ r2 = -1) ∧ (ν 0 2 + 20 ≤ 400 → v 0 2 = ν 0 2 + 20 ∧ r2 = ν 0 2 + 20 ∧ v 0 0 = 0 ∧ fr (fun x y => (x = 0 ∧ (y = 0 ∨ y = 2)) ∨ x = 2) ν v ∧ ∀ j : Nat, j < 400 → v 2 j = if ν 0 2 ≤ j ∧ (j : Int) < ν 0 2 + 20 then bz (argO a1 a2 a3 a4 a5 (j - ν 0 2)) ((j - ν 0 2) % 4) else ν 2 j)) : r = r2 ∧ LQt T Ss u v := by
  have h8 := LQt_8 h
  obtain ⟨⟨h1, h2, h3, h4, h5, h6, h7⟩, h9⟩ := h
  obtain ⟨c1, c2⟩ := hc
  obtain ⟨m1, m2⟩ := hm
  have hB := h1.1.1.2.1
  have hl := h1.1.1.2.2.1
  by_cases hq : μ 1 1 + 20 > 400
  · obtain ⟨rfl, rfl⟩ := c1 hq
    obtain ⟨rfl, rfl⟩ := m1 (by omega)
    refine ⟨rfl, ⟨h1, RI_PS h2 (fr_uz fr_rfl (by unfold PS; omega)), tabR_fr h3 (P := PS) (fr_uz fr_rfl (by unfold PS; omega)) (PS_n (by omega)) (fun k => ⟨PS_n (by omega), PS_n (by omega), PS_n (by omega)⟩), h4, by rw [uz_n (by omega)]; exact h5, by rw [uz_n (by omega)]; exact h6, fun j hj => by rw [uz_n (by omega)]; exact h7 j hj⟩, PT9_fr h9 h8 rfl (fun x y _ _ => rfl) (fun x y q1 q2 => uz_n (by omega))⟩
  · obtain ⟨d1, d2, d3, d4⟩ := c2 (by omega)
    obtain ⟨e1, e2, e3, e4, e5⟩ := m2 (by omega)
    refine ⟨by omega, ⟨CI_feed h1 d3 (by omega) (fun j => ?_), RI_feed h2 e4, tabR_fr h3 e4 (by omega) (fun k => ⟨by omega, by omega, by omega⟩), h4, by omega, by rw [d3 0 2 (by omega), e4 0 10 (by omega)]; exact h6, fun j hj => ?_⟩, PT9_fr h9 h8 (d3 0 2 (by omega)) (fun x y q1 q2 => d3 x y (by omega)) (fun x y q1 q2 => e4 x y (by omega))⟩
    · rw [d4 j]
      split
      · exact bz_r _ _
      · exact hB j
    · rw [d4 j, e5 j hj, h5, h7 j hj]
/-- what the class's page leaves, with the tokens T that were known -/
def PQC (T : List Tk) (μ : va_M) (n : Int) (u : va_M) : Prop := (u 1 1 = 0 ∧ (∀ y, u 2 y = μ 2 y) ∧ (0 ≤ n ∧ n ≤ μ 1 1 ∧ μ 0 2 < 8) ∧ ((∃ (T2 : List Tk) (S2 : List Int), pg (bC μ n) n 0 T [] = some (T2, S2) ∧ CI T2 u ∧ u 0 2 = μ 0 2 + 1 ∧ lfT u (113 + (μ 0 2).toNat * 15) T2 S2 ∧ ∀ x y, 113 ≤ x → (x - 113) % 15 < 9 → (x < 113 + (μ 0 2).toNat * 15 ∨ 113 + (μ 0 2).toNat * 15 + 15 ≤ x) → u x y = μ x y) ∨ (pg (bC μ n) n 0 T [] = none ∧ CI T u ∧ u 0 2 = μ 0 2 ∧ ∀ x y, 113 ≤ x → (x - 113) % 15 < 9 → u x y = μ x y))) ∨ (CI T u ∧ SZ μ u ∧ ¬ (0 ≤ n ∧ n ≤ μ 1 1 ∧ μ 0 2 < 8))
theorem PT9_page {T R : List Tk} {Ss : List (List Int)} {S2 : List Int} {μ ν u v : va_M} (h : PT9 T Ss μ ν) (hl : Ss.length < 8) (h0 : u 0 2 = μ 0 2 + 1) (h1 : lfT u (113 + (μ 0 2).toNat * 15) (T ++ R) S2) (hc : ∀ x y, 113 ≤ x → (x - 113) % 15 < 9 → (x < 113 + (μ 0 2).toNat * 15 ∨ 113 + (μ 0 2).toNat * 15 + 15 ≤ x) → u x y = μ x y) (h2 : pgR v Ss.length (T ++ R) S2) (hm : ∀ x y, ((7 ≤ x ∧ x < 15 ∧ x ≠ 7 + Ss.length) ∨ (x = 15 ∧ y ≠ Ss.length)) → v x y = ν x y) : PT9 (T ++ R) (Ss ++ [S2]) u v := by
  have e0 := h.1
  have e1 : (μ 0 2).toNat = Ss.length := by omega
  rw [e1] at h1 hc
  refine ⟨by rw [List.length_append, List.length_singleton]; omega, fun i S hS => ?_⟩
  have hi := (List.getElem?_eq_some_iff.mp hS).1
  rw [List.length_append, List.length_singleton] at hi
  by_cases hi2 : i < Ss.length
  · rw [List.getElem?_append_left hi2] at hS
    obtain ⟨a1, a2, ⟨a3, a4⟩, a5, a6⟩ := h.2 i S hS
    refine ⟨a1, fun k e hk => ?_, ⟨by rw [hc _ _ (by omega) (by omega) (by omega)]; exact a3, fun k e hk => ?_⟩, by rw [hm _ _ (by omega)]; exact a5, fun k e hk => by rw [hm _ _ (by omega)]; exact a6 k e hk⟩
    · have := a2 k e hk
      rw [List.length_append]
      omega
    · obtain ⟨b1, b2⟩ := a2 k e hk
      rw [hc _ _ (by omega) (by omega) (by omega), hc _ _ (by omega) (by omega) (by omega), cdT_pre b1 b2]
      exact a4 k e hk
  · obtain rfl : i = Ss.length := by omega
    rw [List.getElem?_append_right (Nat.le_refl _), Nat.sub_self] at hS
    cases hS
    obtain ⟨b1, b2, b3, b4, b5⟩ := h2
    exact ⟨⟨b1, b2⟩, fun k e hk => (b4 k e hk).2, h1, b3, fun k e hk => (b4 k e hk).1⟩
theorem LQt_page {T : List Tk} {Ss : List (List Int)} {μ ν u v : va_M} {n : Int} (h : LQt T Ss μ ν) (hc : PQC T μ n u) (hm : ((n < 0 ∨ ν 0 2 < n ∨ ν 0 10 = 8) → fr (fun x y => (x = 0 ∧ y = 0) ∨ x = 1) ν v ∧ (v 0 0 = 1 ∨ v 0 0 = 2)) ∧ (0 ≤ n → n ≤ ν 0 2 → ν 0 10 < 8 → v 0 0 = 0 ∧ v 0 2 = 0 ∧ (∀ j : Nat, j < 201 → inR (v 3 j)) ∧ (pg (bAn ν n) n 0 T [] = none → v 0 10 = ν 0 10 ∧ tabR v T ∧ fr (PGf (ν 0 10).toNat T.length) ν v) ∧ ∀ (T2 : List Tk) (S : List Int), pg (bAn ν n) n 0 T [] = some (T2, S) → v 0 10 = ν 0 10 + 1 ∧ tabR v T2 ∧ tabW T2 ∧ T.length ≤ T2.length ∧ pgR v (ν 0 10).toNat T2 S ∧ fr (PGs (ν 0 10).toNat T.length) ν v)) : LQ u v := by
  have h8 := LQt_8 h
  have hh := h
  obtain ⟨⟨h1, h2, h3, ⟨h4, h4v⟩, h5, h6, h7⟩, h9⟩ := h
  have hl := h1.1.1.2.2.1
  have hlc := CI_lc h1
  have e0 := h9.1
  obtain ⟨m1, m2⟩ := hm
  rcases hc with ⟨c1, c2, c3, c4⟩ | ⟨c1, c2, c3⟩
  · obtain ⟨n1, n2, n3, n4, n5⟩ := m2 c3.1 (by omega) (by omega)
    have hb9 : bC μ n = bAn ν n := by
      funext k
      unfold bC bAn
      by_cases hk : n ≤ k
      · rw [if_pos hk, if_pos hk]
      · rw [if_neg hk, if_neg hk]
        exact h7 _ (by omega)
    have hx2 : ∀ j : Nat, fr (PGs (ν 0 10).toNat T.length) ν v → v 2 j = ν 2 j := fun j hf => hf 2 j (by unfold PGs PGf PR PN FF FQ FP P8 PT; omega)
    have e1 : (ν 0 10).toNat = Ss.length := by omega
    have hx7 : fr (PGs (ν 0 10).toNat T.length) ν v → ∀ x y, ((7 ≤ x ∧ x < 15 ∧ x ≠ 7 + Ss.length) ∨ (x = 15 ∧ y ≠ Ss.length)) → v x y = ν x y := fun hf x y q => hf x y (by unfold PGs PGf PR PN FF FQ FP P8 PT; omega)
    rw [hb9] at c4
    rcases c4 with ⟨T2, S2, d1, d2, d3, d4, d5⟩ | ⟨d1, d2, d3, d4⟩
    · obtain ⟨k1, k2, k3, k4, k5, k6⟩ := n5 T2 S2 d1
      have k9 := hx7 k6
      refine ⟨T2, Ss ++ [S2], ⟨d2, RI_page h2 (by omega) (by omega) k6 h3 k2 k3 k4 n3 (Or.inr ⟨k1, pgQ_of k5 k2⟩), k2, ⟨k3, pg_V d1 h4v⟩, by omega, by omega, fun j hj => by rw [c2 j, hx2 j k6]; exact h7 j hj⟩, ?_⟩
      obtain ⟨R, rfl⟩ := pg_pre d1
      rw [e1] at k5
      exact PT9_page h9 (by omega) d3 d4 d5 k5 k9
    · obtain ⟨k1, k2, k3⟩ := n4 d1
      have k6 : fr (PGs (ν 0 10).toNat T.length) ν v := fr_mono k3 (fun _ _ q => Or.inl q)
      have k9 := hx7 k6
      refine ⟨T, Ss, ⟨d2, RI_page h2 (by omega) (by omega) k6 h3 k2 h4 (Nat.le_refl _) n3 (Or.inl k1), k2, ⟨h4, h4v⟩, by omega, by omega, fun j hj => by rw [c2 j, hx2 j k6]; exact h7 j hj⟩, d3.trans h9.1, fun i S hS => ?_⟩
      have hi := (List.getElem?_eq_some_iff.mp hS).1
      obtain ⟨a1, a2, ⟨a3, a4⟩, a5, a6⟩ := h9.2 i S hS
      exact ⟨a1, a2, ⟨by rw [d4 _ _ (by omega) (by omega)]; exact a3, fun k e hk => by rw [d4 _ _ (by omega) (by omega), d4 _ _ (by omega) (by omega)]; exact a4 k e hk⟩, by rw [k9 _ _ (by omega)]; exact a5, fun k e hk => by rw [k9 _ _ (by omega)]; exact a6 k e hk⟩
  · obtain ⟨n1, n2⟩ := m1 (by omega)
    have g1 : fr PS ν v := fr_mono n1 (fun x y q => by unfold PS; omega)
    exact ⟨T, Ss, LQt_ps (LQt_c hh ⟨c1, c2⟩) ⟨g1, by omega⟩⟩

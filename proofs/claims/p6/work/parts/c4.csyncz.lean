
/-! what holds of both sides between the law's calls: tape, tokens, pages -/
theorem cdT_pre {T R : List Tk} {e : Int} (h0 : 0 ≤ e) (h1 : e < T.length) : cdT (T ++ R) e = cdT T e := by
  have h2 : e.toNat < T.length := by omega
  have h3 := List.getElem?_append_left (l₂ := R) h2
  unfold cdT kdT
  rw [h3]
theorem pgo_pre {b : Int → Int} {n : Int} : ∀ (f : Nat) (a : Int) (T : List Tk) (S : List Int) (T2 : List Tk) (S2 : List Int), pgo b n f a T S = some (T2, S2) → ∃ R, T2 = T ++ R
  | 0, _, _, _, _, _, h => by rw [pgo] at h; cases h
  | f + 1, a, T, S, T2, S2, h => by
    rw [pgo] at h
    split at h
    · split at h
      · cases h
      · cases h; exact ⟨[], (List.append_nil _).symm⟩
    · split at h
      · exact pgo_pre f _ _ _ _ _ h
      · split at h
        · cases h
        · split at h
          · cases h
          · split at h
            · cases h
            · split at h
              · exact pgo_pre f _ _ _ _ _ h
              · split at h
                · cases h
                · obtain ⟨R, e⟩ := pgo_pre f _ _ _ _ _ h
                  exact ⟨_ :: R, by rw [e, List.append_assoc]; rfl⟩
theorem pg_pre {b : Int → Int} {n a : Int} {T : List Tk} {S : List Int} {T2 : List Tk} {S2 : List Int} (h : pg b n a T S = some (T2, S2)) : ∃ R, T2 = T ++ R := pgo_pre _ _ _ _ _ _ h
/-- the pages' tokens stand on both sides -/
def PT9 (T : List Tk) (Ss : List (List Int)) (μ ν : va_M) : Prop := μ 0 2 = Ss.length ∧ ∀ (i : Nat) (S : List Int), Ss[i]? = some S → (1 ≤ S.length ∧ S.length ≤ 60) ∧ (∀ (k : Nat) (e : Int), S[k]? = some e → 0 ≤ e ∧ e < T.length) ∧ lfT μ (113 + i * 15) T S ∧ ν 15 i = S.length ∧ ∀ (k : Nat) (e : Int), S[k]? = some e → ν (7 + i) k = e
theorem PT9_fr {T : List Tk} {Ss : List (List Int)} {μ ν u v : va_M} (h : PT9 T Ss μ ν) (hl : Ss.length ≤ 8) (h0 : u 0 2 = μ 0 2) (hc : ∀ x y, 113 ≤ x → (x - 113) % 15 < 9 → u x y = μ x y) (hm : ∀ x y, 7 ≤ x → x < 16 → v x y = ν x y) : PT9 T Ss u v := by
  refine ⟨h0.trans h.1, fun i S hS => ?_⟩
  have hi := (List.getElem?_eq_some_iff.mp hS).1
  obtain ⟨a1, a2, ⟨a3, a4⟩, a5, a6⟩ := h.2 i S hS
  exact ⟨a1, a2, ⟨by rw [hc _ _ (by omega) (by omega)]; exact a3, fun k e hk => by rw [hc _ _ (by omega) (by omega), hc _ _ (by omega) (by omega)]; exact a4 k e hk⟩, by rw [hm _ _ (by omega) (by omega)]; exact a5, fun k e hk => by rw [hm _ _ (by omega) (by omega)]; exact a6 k e hk⟩
/-- both sides between two calls of the law -/
def LQ0 (T : List Tk) (μ ν : va_M) : Prop := CI T μ ∧ RI JS ν ∧ tabR ν T ∧ (tabW T ∧ tabV T) ∧ μ 1 1 = ν 0 2 ∧ μ 0 2 = ν 0 10 ∧ ∀ j : Nat, j < 400 → μ 2 j = ν 2 j
def LQt (T : List Tk) (Ss : List (List Int)) (μ ν : va_M) : Prop := LQ0 T μ ν ∧ PT9 T Ss μ ν
theorem LQt_8 {T : List Tk} {Ss : List (List Int)} {μ ν : va_M} (h : LQt T Ss μ ν) : Ss.length ≤ 8 := by
  have h1 := CI_lc h.1.1
  have h2 := h.2.1
  omega
theorem LQt_c {T : List Tk} {Ss : List (List Int)} {μ ν u : va_M} (h : LQt T Ss μ ν) (hu : CI T u ∧ SZ μ u) : LQt T Ss u ν := by
  have h8 := LQt_8 h
  obtain ⟨⟨h1, h2, h3, h4, h5, h6, h7⟩, h9⟩ := h
  obtain ⟨k1, k2⟩ := hu
  exact ⟨⟨k1, h2, h3, h4, by rw [k2 1 1 (by omega)]; exact h5, by rw [k2 0 2 (by omega)]; exact h6, fun j hj => by rw [k2 2 j (by omega)]; exact h7 j hj⟩, PT9_fr h9 h8 (k2 0 2 (by omega)) (fun x y q1 q2 => k2 x y (by omega)) (fun x y _ _ => rfl)⟩
theorem LQt_m {T : List Tk} {Ss : List (List Int)} {μ ν v : va_M} (h : LQt T Ss μ ν) (hg : GE JS ν v) : LQt T Ss μ v := by
  have h8 := LQt_8 h
  obtain ⟨⟨h1, h2, h3, h4, h5, h6, h7⟩, h9⟩ := h
  obtain ⟨g1, g2, -⟩ := hg
  exact ⟨⟨h1, g2, tabR_fr h3 g1 (KF_n (by omega)) (fun k => ⟨KF_n (by omega), KF_n (by omega), KF_n (by omega)⟩), h4, by rw [g1 0 2 (KF_n (by omega))]; exact h5, by rw [g1 0 10 (KF_n (by omega))]; exact h6, fun j hj => by rw [g1 2 j (KF_n (by omega))]; exact h7 j hj⟩, PT9_fr h9 h8 rfl (fun x y _ _ => rfl) (fun x y q1 q2 => g1 x y (KF_n (by omega)))⟩
theorem LQt_feed {T : List Tk} {Ss : List (List Int)} {μ ν u v : va_M} {a1 a2 a3 a4 a5 r r2 : Int} (h : LQt T Ss μ ν) (hc : (μ 1 1 + 20 > 400 → u = μ ∧ r = -1) ∧ (μ 1 1 + 20 ≤ 400 → u 1 1 = μ 1 1 + 20 ∧ r = μ 1 1 + 20 ∧ fr (fun x y => (x = 1 ∧ y = 1) ∨ x = 2) μ u ∧ ∀ j : Nat, u 2 j = if μ 1 1 ≤ j ∧ (j : Int) < μ 1 1 + 20 then bz (argO a1 a2 a3 a4 a5 (j - μ 1 1)) ((j - μ 1 1) % 4) else μ 2 j)) (hm : (ν 0 2 + 20 > 400 → v = uz ν 0 0 0 ∧ r2 = -1) ∧ (ν 0 2 + 20 ≤ 400 → v 0 2 = ν 0 2 + 20 ∧ r2 = ν 0 2 + 20 ∧ v 0 0 = 0 ∧ fr (fun x y => (x = 0 ∧ (y = 0 ∨ y = 2)) ∨ x = 2) ν v ∧ ∀ j : Nat, j < 400 → v 2 j = if ν 0 2 ≤ j ∧ (j : Int) < ν 0 2 + 20 then bz (argO a1 a2 a3 a4 a5 (j - ν 0 2)) ((j - ν 0 2) % 4) else ν 2 j)) : r = r2 ∧ LQt T Ss u v := by
  have h8 := LQt_8 h
  obtain ⟨⟨h1, h2, h3, h4, h5, h6, h7⟩, h9⟩ := h
  obtain ⟨c1, c2⟩ := hc
  obtain ⟨m1, m2⟩ := hm
  have hB := h1.1.1.2.1
  have hl := h1.1.1.2.2.1
  by_cases hq : μ 1 1 + 20 > 400
  · obtain ⟨rfl, rfl⟩ := c1 hq
    obtain ⟨rfl, rfl⟩ := m1 (by omega)
    refine ⟨rfl, ⟨h1, RI_PS h2 (fr_uz fr_rfl (by unfold PS; omega)), tabR_fr h3 (P := PS) (fr_uz fr_rfl (by unfold PS; omega)) (PS_n (by omega)) (fun k => ⟨PS_n (by omega), PS_n (by omega), PS_n (by omega)⟩), h4, by rw [uz_n (by omega)]; exact h5, by rw [uz_n (by omega)]; exact h6, fun j hj => by rw [uz_n (by omega)]; exact h7 j hj⟩, PT9_fr h9 h8 rfl (fun x y _ _ => rfl) (fun x y q1 q2 => uz_n (by omega))⟩
  · obtain ⟨d1, d2, d3, d4⟩ := c2 (by omega)
    obtain ⟨e1, e2, e3, e4, e5⟩ := m2 (by omega)
    refine ⟨by omega, ⟨CI_feed h1 d3 (by omega) (fun j => ?_), RI_feed h2 e4, tabR_fr h3 e4 (by omega) (fun k => ⟨by omega, by omega, by omega⟩), h4, by omega, by rw [d3 0 2 (by omega), e4 0 10 (by omega)]; exact h6, fun j hj => ?_⟩, PT9_fr h9 h8 (d3 0 2 (by omega)) (fun x y q1 q2 => d3 x y (by omega)) (fun x y q1 q2 => e4 x y (by omega))⟩
    · rw [d4 j]
      split
      · exact bz_r _ _
      · exact hB j
    · rw [d4 j, e5 j hj, h5, h7 j hj]
theorem PT9_page {T R : List Tk} {Ss : List (List Int)} {S2 : List Int} {μ ν u v : va_M} (h : PT9 T Ss μ ν) (hl : Ss.length < 8) (h0 : u 0 2 = μ 0 2 + 1) (h1 : lfT u (113 + (μ 0 2).toNat * 15) (T ++ R) S2) (hc : ∀ x y, 113 ≤ x → (x - 113) % 15 < 9 → (x < 113 + (μ 0 2).toNat * 15 ∨ 113 + (μ 0 2).toNat * 15 + 15 ≤ x) → u x y = μ x y) (h2 : pgR v Ss.length (T ++ R) S2) (hm : ∀ x y, ((7 ≤ x ∧ x < 15 ∧ x ≠ 7 + Ss.length) ∨ (x = 15 ∧ y ≠ Ss.length)) → v x y = ν x y) : PT9 (T ++ R) (Ss ++ [S2]) u v := by
  have e0 := h.1
  have e1 : (μ 0 2).toNat = Ss.length := by omega
  rw [e1] at h1 hc
  refine ⟨by rw [List.length_append, List.length_singleton]; omega, fun i S hS => ?_⟩
  have hi := (List.getElem?_eq_some_iff.mp hS).1
  rw [List.length_append, List.length_singleton] at hi
  by_cases hi2 : i < Ss.length
  · rw [List.getElem?_append_left hi2] at hS
    obtain ⟨a1, a2, ⟨a3, a4⟩, a5, a6⟩ := h.2 i S hS
    refine ⟨a1, fun k e hk => ?_, ⟨by rw [hc _ _ (by omega) (by omega) (by omega)]; exact a3, fun k e hk => ?_⟩, by rw [hm _ _ (by omega)]; exact a5, fun k e hk => by rw [hm _ _ (by omega)]; exact a6 k e hk⟩
    · have := a2 k e hk
      rw [List.length_append]
      omega
    · obtain ⟨b1, b2⟩ := a2 k e hk
      rw [hc _ _ (by omega) (by omega) (by omega), hc _ _ (by omega) (by omega) (by omega), cdT_pre b1 b2]
      exact a4 k e hk
  · obtain rfl : i = Ss.length := by omega
    rw [List.getElem?_append_right (Nat.le_refl _), Nat.sub_self] at hS
    cases hS
    obtain ⟨b1, b2, b3, b4, b5⟩ := h2
    exact ⟨⟨b1, b2⟩, fun k e hk => (b4 k e hk).2, h1, b3, fun k e hk => (b4 k e hk).1⟩


/-! both sides between the law's calls: the pages folded -/
theorem kdT_pre {T R : List Tk} {e : Int} (h0 : 0 ≤ e) (h1 : e < T.length) : kdT (T ++ R) e = kdT T e := by
  have h2 : e.toNat < T.length := by omega
  have h3 := List.getElem?_append_left (l₂ := R) h2
  unfold kdT
  rw [h3]
theorem rowT_pre {T R : List Tk} : ∀ S : List Int, (∀ (k : Nat) (e : Int), S[k]? = some e → 0 ≤ e ∧ e < T.length) → rowT (T ++ R) S = rowT T S
  | [], _ => rfl
  | e :: S, h => by
    obtain ⟨h0, h1⟩ := h 0 e rfl
    rw [rowT, rowT, kdT_pre h0 h1, rowT_pre S (fun k x hk => h (k + 1) x hk)]
/-- one page, folded, on both sides (its steps aside) -/
def pf9 (μ ν : va_M) (i : Nat) (T : List Tk) (S : List Int) (l : List (Nat × Nat × Nat)) (w : Rw) : Prop := (rowS μ (113 + i * 15 + 3) w ∧ μ (113 + i * 15 + 3) 7 = 0 ∧ μ (113 + i * 15) 5 = l.length) ∧ fldR ν i T S l w
def PF9 (T : List Tk) (Ss : List (List Int)) (μ ν : va_M) : Prop := ∀ (i : Nat) (S : List Int), Ss[i]? = some S → ∃ (l : List (Nat × Nat × Nat)) (w : Rw), pf9 μ ν i T S l w
theorem fSt_len : ∀ (l : List (Nat × Nat × Nat)) (w x : Rw), fSt l w x → rI x + l.length ≤ rI w
  | [], w, x, h => by
    have h : x = w := h
    subst h
    exact Nat.le_refl _
  | s :: t, w, x, ⟨h1, h2⟩ => by
    have h3 := fSt_len t _ x h2
    have h4 := rput_Il h1.1
    rw [List.length_cons]
    omega
theorem rowT_I (T : List Tk) : ∀ S : List Int, rI (rowT T S) = S.length
  | [] => rfl
  | e :: S => by rw [rowT, rI_in, rowT_I T S, List.length_cons]; omega
theorem fldR_fr {ν v : va_M} {i : Nat} {T : List Tk} {S : List Int} {l : List (Nat × Nat × Nat)} {w : Rw} (h : fldR ν i T S l w) (hi : i < 8) (hS : S.length ≤ 60) (hm : ∀ x y, (x = 505 ∧ y = i) ∨ (17 + i * 61 ≤ x ∧ x < 17 + i * 61 + 61) ∨ x = 524 + i ∨ x = 595 + i ∨ x = 666 + i ∨ (x = 719 ∧ y = 17 + i) → v x y = ν x y) : fldR v i T S l w := by
  obtain ⟨a1, a2, ⟨a3, a4⟩, a5, a6, a7, a8⟩ := h
  have hl := fSt_len l _ w a5
  rw [rowT_I] at hl
  refine ⟨a1, a2, ⟨by rw [hm _ _ (by omega)]; exact a3, RA_kept a4 (fun x _ _ => ⟨hm _ _ (by omega), hm _ _ (by omega), hm _ _ (by omega)⟩)⟩, a5, a6, by rw [hm _ _ (by omega)]; exact a7, fun k s hk => ?_⟩
  have h8 := (List.getElem?_eq_some_iff.mp hk).1
  rw [hm _ _ (by omega), hm _ _ (by omega), hm _ _ (by omega)]
  exact a8 k s hk
theorem PF9_fr {T : List Tk} {Ss : List (List Int)} {μ ν u v : va_M} (h9 : PT9 T Ss μ ν) (h : PF9 T Ss μ ν) (hl : Ss.length ≤ 8) (hc : ∀ x y, 113 ≤ x → (x - 113) % 15 < 9 → u x y = μ x y) (hm : ∀ x y, (16 ≤ x ∧ x < 506) ∨ (524 ≤ x ∧ x < 532) ∨ (595 ≤ x ∧ x < 603) ∨ (666 ≤ x ∧ x < 674) ∨ (x = 719 ∧ 17 ≤ y ∧ y < 25) → v x y = ν x y) : PF9 T Ss u v := fun i S hS => by
  have hi := (List.getElem?_eq_some_iff.mp hS).1
  obtain ⟨l, w, ⟨a1, a2, a3⟩, a4⟩ := h i S hS
  exact ⟨l, w, ⟨rowS_fr9 a1 (fun x y q1 q2 => hc _ _ (by omega) (by omega)), by rw [hc _ _ (by omega) (by omega)]; exact a2, by rw [hc _ _ (by omega) (by omega)]; exact a3⟩, fldR_fr a4 (by omega) (h9.2 i S hS).1.2 (fun x y q => hm _ _ (by omega))⟩
def LRt (T : List Tk) (Ss : List (List Int)) (μ ν : va_M) : Prop := LQt T Ss μ ν ∧ PF9 T Ss μ ν
def LR9 (μ ν : va_M) : Prop := ∃ (T : List Tk) (Ss : List (List Int)), LRt T Ss μ ν
theorem LR_start {u : va_M} (hf : fr (fun x _ => x = 110) sI u) (h5 : ∀ j : Nat, j < 60 → u 110 j = 516) : LR9 (nz u) mI := by
  have hc := CI_start hf h5
  have e : ∀ x y, ¬ Zc x y → ¬ ((x = 1 ∧ y = 6) ∨ ((113 ≤ x ∧ (x - 113) % 15 = 10) ∧ y = 0) ∨ (x = 41 ∧ y = 3)) → x ≠ 110 → nz u x y = 0 := fun x y h0 h1 h2 => (nz_n h0).trans ((hf x y h2).trans (sI_0 h1))
  have e2 : nz u 0 2 = 0 := e 0 2 (by unfold Zc; omega) (by omega) (by omega)
  exact ⟨[], [], ⟨⟨hc, RI_start, ⟨mI_0 (by decide), Nat.zero_le _, fun k a h => by simp at h⟩, ⟨fun k a h => by simp at h, tabV_nil⟩, (e 1 1 (by unfold Zc; omega) (by omega) (by omega)).trans (mI_0 (by decide)).symm, e2.trans (mI_0 (by decide)).symm, fun j _ => (e 2 j (by unfold Zc; omega) (by omega) (by omega)).trans (mI_0 (by omega)).symm⟩, e2, fun i S h => by simp at h⟩, fun i S h => by simp at h⟩
theorem LRt_c {T : List Tk} {Ss : List (List Int)} {μ ν u : va_M} (h : LRt T Ss μ ν) (hu : CI T u ∧ SZ μ u) : LRt T Ss u ν := ⟨LQt_c h.1 hu, PF9_fr h.1.2 h.2 (LQt_8 h.1) (fun x y q1 q2 => hu.2 x y (by omega)) (fun x y _ => rfl)⟩
theorem LRt_m {T : List Tk} {Ss : List (List Int)} {μ ν v : va_M} (h : LRt T Ss μ ν) (hg : GE JS ν v) : LRt T Ss μ v := ⟨LQt_m h.1 hg, PF9_fr h.1.2 h.2 (LQt_8 h.1) (fun x y _ _ => rfl) (fun x y q => hg.1 x y (KF_n (by omega)))⟩
theorem LRt_ps {T : List Tk} {Ss : List (List Int)} {μ ν v : va_M} (h : LRt T Ss μ ν) (hg : fr PS ν v ∧ (v 0 0 = 0 ∨ v 0 0 = 1 ∨ v 0 0 = 2)) : LRt T Ss μ v := LRt_m h (GE_PS h.1.1.2.1 hg)
theorem LRt_feed {T : List Tk} {Ss : List (List Int)} {μ ν u v : va_M} {a1 a2 a3 a4 a5 r r2 : Int} (h : LRt T Ss μ ν) (hc : (μ 1 1 + 20 > 400 → u = μ ∧ r = -1) ∧ (μ 1 1 + 20 ≤ 400 → u 1 1 = μ 1 1 + 20 ∧ r = μ 1 1 + 20 ∧ fr (fun x y => (x = 1 ∧ y = 1) ∨ x = 2) μ u ∧ ∀ j : Nat, u 2 j = if μ 1 1 ≤ j ∧ (j : Int) < μ 1 1 + 20 then bz (argO a1 a2 a3 a4 a5 (j - μ 1 1)) ((j - μ 1 1) % 4) else μ 2 j)) (hm : (ν 0 2 + 20 > 400 → v = uz ν 0 0 0 ∧ r2 = -1) ∧ (ν 0 2 + 20 ≤ 400 → v 0 2 = ν 0 2 + 20 ∧ r2 = ν 0 2 + 20 ∧ v 0 0 = 0 ∧ fr (fun x y => (x = 0 ∧ (y = 0 ∨ y = 2)) ∨ x = 2) ν v ∧ ∀ j : Nat, j < 400 → v 2 j = if ν 0 2 ≤ j ∧ (j : Int) < ν 0 2 + 20 then bz (argO a1 a2 a3 a4 a5 (j - ν 0 2)) ((j - ν 0 2) % 4) else ν 2 j)) : r = r2 ∧ LRt T Ss u v := by
  have h0 := LQt_feed h.1 hc hm
  refine ⟨h0.1, h0.2, PF9_fr h.1.2 h.2 (LQt_8 h.1) (fun x y q1 q2 => ?_) (fun x y q => ?_)⟩
  · by_cases hq : μ 1 1 + 20 > 400
    · rw [(hc.1 hq).1]
    · exact (hc.2 (by omega)).2.2.1 x y (by omega)
  · by_cases hq : ν 0 2 + 20 > 400
    · rw [(hm.1 hq).1, uz_n (by omega)]
    · exact (hm.2 (by omega)).2.2.2.1 x y (by omega)
/-- what the class's page leaves, with the tokens T that were known -/
def PRC (T : List Tk) (μ : va_M) (n : Int) (u : va_M) : Prop := (u 1 1 = 0 ∧ (∀ y, u 2 y = μ 2 y) ∧ (0 ≤ n ∧ n ≤ μ 1 1 ∧ μ 0 2 < 8) ∧ ((∃ (T2 : List Tk) (S2 : List Int), pg (bC μ n) n 0 T [] = some (T2, S2) ∧ CI T2 u ∧ u 0 2 = μ 0 2 + 1 ∧ lfT u (113 + (μ 0 2).toNat * 15) T2 S2 ∧ (∀ x y, 113 ≤ x → (x - 113) % 15 < 9 → (x < 113 + (μ 0 2).toNat * 15 ∨ 113 + (μ 0 2).toNat * 15 + 15 ≤ x) → u x y = μ x y) ∧ ∃ (l9 : List (Nat × Nat × Nat)) (w9 : Rw), fldC u (113 + (μ 0 2).toNat * 15) (rowT T2 S2) l9 w9) ∨ (pg (bC μ n) n 0 T [] = none ∧ CI T u ∧ u 0 2 = μ 0 2 ∧ ∀ x y, 113 ≤ x → (x - 113) % 15 < 9 → u x y = μ x y))) ∨ (CI T u ∧ SZ μ u ∧ ¬ (0 ≤ n ∧ n ≤ μ 1 1 ∧ μ 0 2 < 8))
theorem LRt_page {T : List Tk} {Ss : List (List Int)} {μ ν u v : va_M} {n : Int} (h : LRt T Ss μ ν) (hc : PRC T μ n u) (hm : ((n < 0 ∨ ν 0 2 < n ∨ ν 0 10 = 8) → fr (fun x y => (x = 0 ∧ y = 0) ∨ x = 1) ν v ∧ (v 0 0 = 1 ∨ v 0 0 = 2)) ∧ (0 ≤ n → n ≤ ν 0 2 → ν 0 10 < 8 → v 0 0 = 0 ∧ v 0 2 = 0 ∧ (∀ j : Nat, j < 201 → inR (v 3 j)) ∧ (pg (bAn ν n) n 0 T [] = none → v 0 10 = ν 0 10 ∧ tabR v T ∧ fr (PGf (ν 0 10).toNat T.length) ν v) ∧ ∀ (T2 : List Tk) (S : List Int), pg (bAn ν n) n 0 T [] = some (T2, S) → v 0 10 = ν 0 10 + 1 ∧ tabR v T2 ∧ tabW T2 ∧ T.length ≤ T2.length ∧ pgR v (ν 0 10).toNat T2 S ∧ fr (PGs (ν 0 10).toNat T.length) ν v ∧ ∃ (l9 : List (Nat × Nat × Nat)) (w : Rw), fldR v (ν 0 10).toNat T2 S l9 w)) : LR9 u v := by
  have h8 := LQt_8 h.1
  have hh := h
  obtain ⟨⟨⟨h1, h2, h3, ⟨h4, h4v⟩, h5, h6, h7⟩, h9⟩, hF⟩ := h
  have hl := h1.1.1.2.2.1
  have hlc := CI_lc h1
  have e0 := h9.1
  obtain ⟨m1, m2⟩ := hm
  rcases hc with ⟨c1, c2, c3, c4⟩ | ⟨c1, c2, c3⟩
  · obtain ⟨n1, n2, n3, n4, n5⟩ := m2 c3.1 (by omega) (by omega)
    have hb9 : bC μ n = bAn ν n := by
      funext k
      unfold bC bAn
      by_cases hk : n ≤ k
      · rw [if_pos hk, if_pos hk]
      · rw [if_neg hk, if_neg hk]
        exact h7 _ (by omega)
    have hx2 : ∀ j : Nat, fr (PGs (ν 0 10).toNat T.length) ν v → v 2 j = ν 2 j := fun j hf => hf 2 j (by unfold PGs PGf PR PN FF FQ FP P8 PT; omega)
    have e1 : (ν 0 10).toNat = Ss.length := by omega
    have e2 : (μ 0 2).toNat = Ss.length := by omega
    have hx7 : fr (PGs (ν 0 10).toNat T.length) ν v → ∀ x y, ((7 ≤ x ∧ x < 15 ∧ x ≠ 7 + Ss.length) ∨ (x = 15 ∧ y ≠ Ss.length)) → v x y = ν x y := fun hf x y q => hf x y (by unfold PGs PGf PR PN FF FQ FP P8 PT; omega)
    have hx9 : fr (PGs (ν 0 10).toNat T.length) ν v → ∀ i, i < Ss.length → ∀ x y, (x = 505 ∧ y = i) ∨ (17 + i * 61 ≤ x ∧ x < 17 + i * 61 + 61) ∨ x = 524 + i ∨ x = 595 + i ∨ x = 666 + i ∨ (x = 719 ∧ y = 17 + i) → v x y = ν x y := fun hf i hi x y q => hf x y (by unfold PGs PGf PR PN FF FQ FP P8 PT; omega)
    rw [hb9] at c4
    rcases c4 with ⟨T2, S2, d1, d2, d3, d4, d5, l9, w9, d6⟩ | ⟨d1, d2, d3, d4⟩
    · obtain ⟨k1, k2, k3, k4, k5, k6, l8, w8, k7⟩ := n5 T2 S2 d1
      have k9 := hx7 k6
      have k8 := hx9 k6
      refine ⟨T2, Ss ++ [S2], ⟨⟨d2, RI_page h2 (by omega) (by omega) k6 h3 k2 k3 k4 n3 (Or.inr ⟨k1, pgQ_of k5 k2⟩), k2, ⟨k3, pg_V d1 h4v⟩, by omega, by omega, fun j hj => by rw [c2 j, hx2 j k6]; exact h7 j hj⟩, ?_⟩, fun i S hS => ?_⟩
      · obtain ⟨R, rfl⟩ := pg_pre d1
        rw [e1] at k5
        exact PT9_page h9 (by omega) d3 d4 d5 k5 k9
      · have hi := (List.getElem?_eq_some_iff.mp hS).1
        rw [List.length_append, List.length_singleton] at hi
        by_cases hi2 : i < Ss.length
        · rw [List.getElem?_append_left hi2] at hS
          obtain ⟨l, w, ⟨a1, a2, a3⟩, a4⟩ := hF i S hS
          have hT := (h9.2 i S hS).2.1
          obtain ⟨R, rfl⟩ := pg_pre d1
          have hd : ∀ x y, 113 + i * 15 ≤ x → x < 113 + i * 15 + 9 → u x y = μ x y := fun x y q1 q2 => d5 _ _ (by omega) (by omega) (by omega)
          refine ⟨l, w, ⟨rowS_fr9 a1 (fun x y q1 q2 => hd _ _ (by omega) (by omega)), by rw [hd _ _ (by omega) (by omega)]; exact a2, by rw [hd _ _ (by omega) (by omega)]; exact a3⟩, ?_⟩
          have a5 := fldR_fr a4 (by omega) (h9.2 i S hS).1.2 (k8 i hi2)
          obtain ⟨b1, b2, b3, b4, b5⟩ := a5
          exact ⟨b1, b2, b3, by rw [rowT_pre S hT]; exact b4, b5⟩
        · obtain rfl : i = Ss.length := by omega
          rw [List.getElem?_append_right (Nat.le_refl _), Nat.sub_self] at hS
          cases hS
          rw [e2] at d6
          rw [e1] at k7
          obtain ⟨f1, f2, f3, f4, f5, f6⟩ := d6
          obtain ⟨g1, g2⟩ := fSt_u _ _ _ _ _ f1 f2 k7.2.2.2.1 k7.2.2.2.2.1
          rw [← g1, ← g2] at k7
          exact ⟨l9, w9, ⟨f3, f4, f5⟩, k7⟩
    · obtain ⟨k1, k2, k3⟩ := n4 d1
      have k6 : fr (PGs (ν 0 10).toNat T.length) ν v := fr_mono k3 (fun _ _ q => Or.inl q)
      have k9 := hx7 k6
      have k8 := hx9 k6
      refine ⟨T, Ss, ⟨⟨d2, RI_page h2 (by omega) (by omega) k6 h3 k2 h4 (Nat.le_refl _) n3 (Or.inl k1), k2, ⟨h4, h4v⟩, by omega, by omega, fun j hj => by rw [c2 j, hx2 j k6]; exact h7 j hj⟩, d3.trans h9.1, fun i S hS => ?_⟩, fun i S hS => ?_⟩
      · have hi := (List.getElem?_eq_some_iff.mp hS).1
        obtain ⟨a1, a2, ⟨a3, a4⟩, a5, a6⟩ := h9.2 i S hS
        exact ⟨a1, a2, ⟨by rw [d4 _ _ (by omega) (by omega)]; exact a3, fun k e hk => by rw [d4 _ _ (by omega) (by omega), d4 _ _ (by omega) (by omega)]; exact a4 k e hk⟩, by rw [k9 _ _ (by omega)]; exact a5, fun k e hk => by rw [k9 _ _ (by omega)]; exact a6 k e hk⟩
      · have hi := (List.getElem?_eq_some_iff.mp hS).1
        obtain ⟨l, w, ⟨a1, a2, a3⟩, a4⟩ := hF i S hS
        exact ⟨l, w, ⟨rowS_fr9 a1 (fun x y q1 q2 => d4 _ _ (by omega) (by omega)), by rw [d4 _ _ (by omega) (by omega)]; exact a2, by rw [d4 _ _ (by omega) (by omega)]; exact a3⟩, fldR_fr a4 (by omega) (h9.2 i S hS).1.2 (k8 i hi)⟩
  · obtain ⟨n1, n2⟩ := m1 (by omega)
    have g1 : fr PS ν v := fr_mono n1 (fun x y q => by unfold PS; omega)
    exact ⟨T, Ss, LRt_ps (LRt_c hh ⟨c1, c2⟩) ⟨g1, by omega⟩⟩

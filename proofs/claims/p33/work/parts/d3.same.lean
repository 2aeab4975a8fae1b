
/-! common: both sides answer alike -/
theorem pt_same {T : List Tk} {Ss : List (List Int)} {μ ν : va_M} (h : PT9 T Ss μ ν) (p : Nat) (hp : (p : Int) < μ 0 2) : μ (113 + p * 15) 2 = ν 15 p ∧ ∀ k : Nat, k < (μ (113 + p * 15) 2).toNat → μ (113 + p * 15 + 1) k = ν (7 + p) k := by
  have e0 := h.1
  have hi : p < Ss.length := by omega
  obtain ⟨-, -, ⟨a3, a4⟩, a5, a6⟩ := h.2 p _ (List.getElem?_eq_getElem hi)
  refine ⟨a3.trans a5.symm, fun k hk => ?_⟩
  have hk2 : k < (Ss[p]).length := by omega
  have b1 := (a4 k _ (List.getElem?_eq_getElem hk2)).1
  have b2 := a6 k _ (List.getElem?_eq_getElem hk2)
  exact b1.trans b2.symm
theorem com_cd0 {A B : Prop} {cd : Int} {X : Prop} (hsp : cd = cd2 A B ∧ X) (h : iZ cd = 0) : cd = 0 := cd2_z hsp.1 h
theorem com_same {T : List Tk} {Ss : List (List Int)} {μ ν v : va_M} {pg ot cd z q : Int} (h : LQt T Ss μ ν) (hsp : cd = cd2 ((0 ≤ pg ∧ pg < μ 0 2) ∧ 0 ≤ ot ∧ ot < μ 0 2) True ∧ (cd = 0 → z = lc9 (μ ((113 + (pg).toNat * 15) + 1)) (μ ((113 + (ot).toNat * 15) + 1)) (μ (113 + (pg).toNat * 15) 2).toNat (μ (113 + (ot).toNat * 15) 2).toNat))
    (hm9 : (fr PS ν v ∧ (v 0 0 = 0 ∨ v 0 0 = 1 ∨ v 0 0 = 2)) ∧ v 0 0 = cd2 ((0 ≤ pg ∧ pg < ν 0 10) ∧ 0 ≤ ot ∧ ot < ν 0 10) True ∧ (cd2 ((0 ≤ pg ∧ pg < ν 0 10) ∧ 0 ≤ ot ∧ ot < ν 0 10) True = 0 → q = lc9 (ν (7 + pg.toNat)) (ν (7 + ot.toNat)) (ν 15 pg.toNat).toNat (ν 15 ot.toNat).toNat)) : v 0 0 = cd ∧ (cd = 0 → q = z) := by
  obtain ⟨⟨-, -, -, -, -, e6, -⟩, hp⟩ := h
  obtain ⟨-, m1, m2⟩ := hm9
  obtain ⟨s1, s2⟩ := hsp
  rw [e6] at s1
  refine ⟨m1.trans s1.symm, fun h0 => ?_⟩
  have hc := s1.symm.trans h0
  obtain ⟨⟨⟨c1, c2⟩, c3, c4⟩, -⟩ := cd2_of hc
  obtain ⟨p1, p2⟩ := pt_same hp pg.toNat (by omega)
  obtain ⟨r1, r2⟩ := pt_same hp ot.toNat (by omega)
  rw [m2 hc, s2 h0, ← p1, ← r1]
  exact congrArg Int.ofNat (lc9_eq _ _ p2 r2).symm

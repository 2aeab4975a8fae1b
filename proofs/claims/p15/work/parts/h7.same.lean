
/-! pageOf, pageNode: both sides answer alike -/
theorem nod_cd0 {A B : Prop} {cd : Int} {X : Prop} (hsp : cd = cd2 A B ∧ X) (h : iZ cd = 0) : cd = 0 := cd2_z hsp.1 h
theorem pgo_same {T : List Tk} {Ss : List (List Int)} {μ ν v : va_M} {pg wh cd z q : Int} {wp : Rw} (h : LRt T Ss μ ν) (hsp : cd = cd2 (0 ≤ pg ∧ pg < μ 0 2) (0 ≤ wh ∧ wh ≤ 4) ∧ (cd = 0 → z = pgV (μ (113 + (pg).toNat * 15) 2) wp wh))
    (hm9 : (fr PS ν v ∧ (v 0 0 = 0 ∨ v 0 0 = 1 ∨ v 0 0 = 2)) ∧ v 0 0 = cd2 (0 ≤ pg ∧ pg < ν 0 10) (0 ≤ wh ∧ wh ≤ 4) ∧ (cd2 (0 ≤ pg ∧ pg < ν 0 10) (0 ≤ wh ∧ wh ≤ 4) = 0 → q = pgV (ν 15 pg.toNat) wp wh)) : v 0 0 = cd ∧ (cd = 0 → q = z) := by
  have e6 := h.1.1.2.2.2.2.2.1
  have hp := h.1.2
  obtain ⟨-, m1, m2⟩ := hm9
  obtain ⟨s1, s2⟩ := hsp
  rw [e6] at s1
  refine ⟨m1.trans s1.symm, fun h0 => ?_⟩
  have hc := s1.symm.trans h0
  obtain ⟨⟨c1, c2⟩, -⟩ := cd2_of hc
  have hi : pg.toNat < Ss.length := by have := hp.1; omega
  obtain ⟨-, -, ⟨a3, -⟩, a5, -⟩ := hp.2 pg.toNat _ (List.getElem?_eq_getElem hi)
  rw [m2 hc, s2 h0, a3, a5]
theorem pgn_same {T : List Tk} {Ss : List (List Int)} {μ ν v : va_M} {pg nd9 wh cd z q : Int} {wp : Rw} (h : LRt T Ss μ ν) (hsp : cd = cd2 ((0 ≤ pg ∧ pg < μ 0 2) ∧ 0 ≤ nd9 ∧ nd9 < rN wp) (0 ≤ wh ∧ wh ≤ 5) ∧ (cd = 0 → z = ofV wp nd9.toNat wh))
    (hm9 : (fr PS ν v ∧ (v 0 0 = 0 ∨ v 0 0 = 1 ∨ v 0 0 = 2)) ∧ v 0 0 = cd2 ((0 ≤ pg ∧ pg < ν 0 10) ∧ 0 ≤ nd9 ∧ nd9 < rN wp) (0 ≤ wh ∧ wh ≤ 5) ∧ (cd2 ((0 ≤ pg ∧ pg < ν 0 10) ∧ 0 ≤ nd9 ∧ nd9 < rN wp) (0 ≤ wh ∧ wh ≤ 5) = 0 → q = ofV wp nd9.toNat wh)) : v 0 0 = cd ∧ (cd = 0 → q = z) := by
  have e6 := h.1.1.2.2.2.2.2.1
  obtain ⟨-, m1, m2⟩ := hm9
  obtain ⟨s1, s2⟩ := hsp
  rw [e6] at s1
  refine ⟨m1.trans s1.symm, fun h0 => ?_⟩
  rw [m2 (s1.symm.trans h0), s2 h0]

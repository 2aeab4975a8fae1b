
/-! nearest: both sides answer alike -/
theorem near_same {T : List Tk} {Ss : List (List Int)} {μ ν v : va_M} {pg cd z q : Int} {Ws : Nat → Rw} (h : LRt T Ss μ ν) (hsp : cd = cd2 (0 ≤ pg ∧ pg < μ 0 2) True ∧ (cd = 0 → z = (nr9 (cNr Ws (pg).toNat) (pg).toNat (μ 0 2).toNat).1))
    (hm9 : (fr PS ν v ∧ (v 0 0 = 0 ∨ v 0 0 = 1 ∨ v 0 0 = 2)) ∧ v 0 0 = cd2 (0 ≤ pg ∧ pg < ν 0 10) True ∧ (cd2 (0 ≤ pg ∧ pg < ν 0 10) True = 0 → q = (nr9 (cNr Ws pg.toNat) pg.toNat (ν 0 10).toNat).1)) : v 0 0 = cd ∧ (cd = 0 → q = z) := by
  have e6 := h.1.1.2.2.2.2.2.1
  obtain ⟨-, m1, m2⟩ := hm9
  obtain ⟨s1, s2⟩ := hsp
  rw [e6] at s1 s2
  refine ⟨m1.trans s1.symm, fun h0 => ?_⟩
  rw [m2 (s1.symm.trans h0), s2 h0]

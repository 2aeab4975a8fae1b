
/-! token: both sides answer alike -/
theorem tok_cd0 {A B : Prop} {cd : Int} (hsp : (A ∧ cd = 0 ∧ B) ∨ (¬ A ∧ cd = 1)) (h : iZ cd = 0) : cd = 0 := by
  rcases hsp with ⟨-, h1, -⟩ | ⟨-, h1⟩
  · exact h1
  · rw [h1] at h
    exact absurd h (by decide +kernel)
theorem tok_same {T : List Tk} {Ss : List (List Int)} {μ ν v : va_M} {pg kn cd z q : Int} (h : LQt T Ss μ ν)
    (hsp : ((0 ≤ pg ∧ pg < μ 0 2 ∧ 0 ≤ kn ∧ kn < μ (113 + (pg).toNat * 15) 2) ∧ cd = 0 ∧ z = μ (113 + (pg).toNat * 15 + 1) (kn).toNat) ∨ (¬ (0 ≤ pg ∧ pg < μ 0 2 ∧ 0 ≤ kn ∧ kn < μ (113 + (pg).toNat * 15) 2) ∧ cd = 1))
    (hm9 : (fr PS ν v ∧ (v 0 0 = 0 ∨ v 0 0 = 1 ∨ v 0 0 = 2)) ∧ ((0 ≤ pg ∧ pg < ν 0 10 ∧ 0 ≤ kn ∧ kn < ν 15 pg.toNat) → v 0 0 = 0 ∧ q = ν (7 + pg.toNat) kn.toNat) ∧ (¬ (0 ≤ pg ∧ pg < ν 0 10 ∧ 0 ≤ kn ∧ kn < ν 15 pg.toNat) → v 0 0 = 1)) : v 0 0 = cd ∧ (cd = 0 → q = z) := by
  obtain ⟨⟨-, -, -, -, -, e6, -⟩, e0, hp⟩ := h
  obtain ⟨-, hm1, hm2⟩ := hm9
  by_cases hc : 0 ≤ pg ∧ pg < μ 0 2
  · obtain ⟨c1, c2⟩ := hc
    have hi : pg.toNat < Ss.length := by omega
    obtain ⟨-, -, ⟨a3, a4⟩, a5, a6⟩ := hp pg.toNat _ (List.getElem?_eq_getElem hi)
    generalize Ss[pg.toNat] = S at a3 a4 a5 a6
    by_cases hk : 0 ≤ kn ∧ kn < S.length
    · obtain ⟨k1, k2⟩ := hk
      have hkl : kn.toNat < S.length := by omega
      have b1 := (a4 kn.toNat _ (List.getElem?_eq_getElem hkl)).1
      have b2 := a6 kn.toNat _ (List.getElem?_eq_getElem hkl)
      obtain ⟨m1, m2⟩ := hm1 ⟨c1, by rw [← e6]; exact c2, k1, by rw [a5]; exact k2⟩
      rcases hsp with ⟨-, s1, s2⟩ | ⟨s0, -⟩
      · exact ⟨by rw [m1, s1], fun _ => by rw [m2, b2, s2, b1]⟩
      · exact absurd ⟨c1, c2, k1, by rw [a3]; exact k2⟩ s0
    · have m1 := hm2 (fun hh => hk ⟨hh.2.2.1, by rw [← a5]; exact hh.2.2.2⟩)
      rcases hsp with ⟨s0, -, -⟩ | ⟨-, s1⟩
      · exact absurd ⟨s0.2.2.1, by rw [← a3]; exact s0.2.2.2⟩ hk
      · exact ⟨by rw [m1, s1], fun h => absurd (s1.symm.trans h) (by decide)⟩
  · have m1 := hm2 (fun hh => hc ⟨hh.1, by rw [e6]; exact hh.2.1⟩)
    rcases hsp with ⟨s0, -, -⟩ | ⟨-, s1⟩
    · exact absurd ⟨s0.1, s0.2.1⟩ hc
    · exact ⟨by rw [m1, s1], fun h => absurd (s1.symm.trans h) (by decide)⟩

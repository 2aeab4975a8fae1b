
/-! tokenOf: both sides answer alike -/
theorem pw_same {T : List Tk} {Ss : List (List Int)} {μ ν : va_M} (h : PT9 T Ss μ ν) (tk : Int) (e6 : μ 0 2 = ν 0 10) : pwC μ tk (μ 0 2).toNat = pwM ν tk (ν 0 10).toNat := by
  rw [← e6]
  have e0 := h.1
  refine pw9_eq _ (fun p hp => ?_)
  have hi : p < Ss.length := by omega
  obtain ⟨-, -, ⟨a3, a4⟩, a5, a6⟩ := h.2 p _ (List.getElem?_eq_getElem hi)
  refine ⟨a3.trans a5.symm, fun k hk => ?_⟩
  have hk2 : k < (Ss[p]).length := by
    have h3 : (k : Int) < μ (113 + p * 15) 2 := hk
    omega
  have b1 := (a4 k _ (List.getElem?_eq_getElem hk2)).1
  have b2 := a6 k _ (List.getElem?_eq_getElem hk2)
  exact b1.trans b2.symm
theorem tokOf_cd0 {A B : Prop} {cd : Int} {X : Prop} (hsp : cd = cd2 A B ∧ X) (h : iZ cd = 0) : cd = 0 := cd2_z hsp.1 h
theorem tokOf_same {T : List Tk} {Ss : List (List Int)} {μ ν v : va_M} {tk wh cd z q : Int} (h : LQt T Ss μ ν) (hsp : cd = cd2 (0 ≤ tk ∧ tk < μ 1 3) (0 ≤ wh ∧ wh ≤ 8) ∧ (cd = 0 → ∀ te : Tk, T[tk.toNat]? = some te → z = tkA te wh (pwC μ tk (μ 0 2).toNat)))
    (hm9 : (fr PS ν v ∧ (v 0 0 = 0 ∨ v 0 0 = 1 ∨ v 0 0 = 2)) ∧ v 0 0 = cd2 (0 ≤ tk ∧ tk < ν 0 9) (0 ≤ wh ∧ wh ≤ 8) ∧ (cd2 (0 ≤ tk ∧ tk < ν 0 9) (0 ≤ wh ∧ wh ≤ 8) = 0 → ∀ te : Tk, T[tk.toNat]? = some te → q = tkA te wh (pwM ν tk (ν 0 10).toNat))) : v 0 0 = cd ∧ (cd = 0 → q = z) := by
  obtain ⟨⟨h1, -, h3, -, -, e6, -⟩, hp⟩ := h
  obtain ⟨-, m1, m2⟩ := hm9
  obtain ⟨s1, s2⟩ := hsp
  have e1 := h1.1.1.1.1.1
  have e2 := h3.1
  have e13 : μ 1 3 = ν 0 9 := e1.trans e2.symm
  rw [e13] at s1
  refine ⟨m1.trans s1.symm, fun h0 => ?_⟩
  have hc := s1.symm.trans h0
  obtain ⟨⟨c1, c2⟩, -⟩ := cd2_of hc
  have hk : tk.toNat < T.length := by omega
  have ht := List.getElem?_eq_getElem hk
  exact (m2 hc _ ht).trans ((s2 h0 _ ht).trans (by rw [pw_same hp tk e6])).symm

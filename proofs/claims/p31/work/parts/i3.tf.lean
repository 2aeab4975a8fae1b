/-! what a joining makes, in the words that the class's loops know -/
theorem tw_po {μ u : va_M} {q : Nat} {v : Rw} {p1 i nx sg : Int} (hv0 : rWF v) (hvA : SA μ (q + 1) v p1.toNat) (hp : 0 ≤ p1) (hle : p1 + sL v ≤ μ q 5) (h6 : ∃ k9 : Nat, i = p1 + sO v k9 ∧ nx = p1 + sO v (k9 + 1) ∧ nx + sg = p1 + sO v (k9 + 2) ∧ twn v k9 ∧ ∀ j : Nat, j < k9 → ¬ twn v j) (k4 : u q 5 = μ q 5 - sg) (k7 : ∀ j : Nat, (j : Int) < nx → u (q + 1) j = jF (μ (q + 1)) i.toNat nx.toNat sg.toNat j) (k8 : ∀ j : Nat, nx ≤ j → j < μ q 5 - sg → u (q + 1) j = jF (μ (q + 1)) i.toNat nx.toNat sg.toNat (j + sg.toNat)) : ∃ x : Rw, tsW v x ∧ sgN μ u (q + 1) p1.toNat (μ q 5).toNat v x (u q 5).toNat := by
  obtain ⟨k9, i9, nx9, sg9, ⟨za, va, la, ra, zb, vb, lb, rb, x1, x2, x3⟩, n9⟩ := h6
  have a4 := (rp_ln hvA hv0 x1).2.2.2.1
  have b4 : sO v (k9 + 2) = sO v (k9 + 1) + (2 + sL lb) := (rp_ln hvA hv0 x2).2.2.2.1
  have hs4 := ((tw_line hv0 hvA).mp ⟨za, va, la, ra, zb, vb, lb, rb, x1, x2, x3⟩).2.2.2.1
  have hle9 := sO_le v (k9 + 2)
  have e1_ : p1.toNat + sO v k9 = i.toNat := by omega
  have e2_ : p1.toNat + sO v (k9 + 1) = nx.toNat := by omega
  have e3_ : 2 + sL la = sg.toNat := by omega
  refine ⟨_, ⟨k9, za, va, la, ra, zb, vb, lb, rb, x1, x2, x3, n9, rfl⟩, ?_⟩
  have hf := tw_fin (u := u) (c := q + 1) (p := p1.toNat) (L := (μ q 5).toNat) hv0 hvA (by omega) x1 x2 x3 (fun j hj => by rw [e1_, e2_, e3_]; exact k7 j (by omega)) (fun j h8 h9 => by rw [e1_, e2_, e3_]; exact k8 j (by omega) (by omega))
  rw [show (u q 5).toNat = (μ q 5).toNat - (2 + sL la) by omega]
  exact hf
theorem ta_po {μ u : va_M} {q : Nat} {v : Rw} {p1 i sg : Int} (hv0 : rWF v) (hvA : SA μ (q + 1) v p1.toNat) (hp : 0 ≤ p1) (hle : p1 + sL v ≤ μ q 5) (h6 : ∃ k9 : Nat, i = p1 + sO v k9 ∧ sg + 2 = sO v (k9 + 1) - sO v k9 ∧ tka v k9 ∧ ∀ j : Nat, j < k9 → ¬ tka v j) (k4 : u q 5 = μ q 5 - sg) (k7 : ∀ j : Nat, (j : Int) < i - sg → u (q + 1) j = jF (μ (q + 1)) (i + 1).toNat (i - sg).toNat sg.toNat j) (k8 : ∀ j : Nat, i - sg ≤ j → j < μ q 5 - sg → u (q + 1) j = jF (μ (q + 1)) (i + 1).toNat (i - sg).toNat sg.toNat (j + sg.toNat)) : ∃ x : Rw, (tw0 v → tsA v x) ∧ sgN μ u (q + 1) p1.toNat (μ q 5).toNat v x (u q 5).toNat := by
  obtain ⟨k9, i9, sg9, ⟨z, v2, l, r, x1, x2, x3⟩, n9⟩ := h6
  have a4 := (rp_ln hvA hv0 x1).2.2.2.1
  have hl4 := ((ta_line hv0 hvA x1).mp ⟨x2, x3⟩).1
  have hle9 := sO_le v (k9 + 1)
  have e1_ : p1.toNat + sO v k9 + 1 = (i + 1).toNat := by omega
  have e2_ : p1.toNat + (sO v k9 - sL l) = (i - sg).toNat := by omega
  have e3_ : sL l = sg.toNat := by omega
  refine ⟨_, fun h0 => ⟨h0, k9, z, v2, l, r, x1, x2, x3, n9, rfl⟩, ?_⟩
  have hf := ta_fin (u := u) (c := q + 1) (p := p1.toNat) (L := (μ q 5).toNat) hv0 hvA (by omega) x1 x2 x3 (fun j hj => by rw [e1_, e2_, e3_]; exact k7 j (by omega)) (fun j h8 h9 => by rw [e1_, e2_, e3_]; exact k8 j (by omega) (by omega))
  rw [show (u q 5).toNat = (μ q 5).toNat - sL l by omega]
  exact hf
theorem tb_po {μ u : va_M} {q : Nat} {v : Rw} {p1 i nx sg : Int} (hv0 : rWF v) (hvA : SA μ (q + 1) v p1.toNat) (hp : 0 ≤ p1) (hle : p1 + sL v ≤ μ q 5) (h6 : ∃ k9 : Nat, i = p1 + sO v k9 ∧ nx = p1 + sO v (k9 + 1) ∧ sg + 2 = sO v (k9 + 1) - sO v k9 ∧ tkb v k9 ∧ ∀ j : Nat, j < k9 → ¬ tkb v j) (k4 : u q 5 = μ q 5 - sg) (k7 : ∀ j : Nat, (j : Int) < nx → u (q + 1) j = jF (μ (q + 1)) (i + 1).toNat nx.toNat sg.toNat j) (k8 : ∀ j : Nat, nx ≤ j → j < μ q 5 - sg → u (q + 1) j = jF (μ (q + 1)) (i + 1).toNat nx.toNat sg.toNat (j + sg.toNat)) : ∃ x : Rw, (tw0 v → ta0 v → tsB v x) ∧ sgN μ u (q + 1) p1.toNat (μ q 5).toNat v x (u q 5).toNat := by
  obtain ⟨k9, i9, nx9, sg9, ⟨z, v2, l, r, x1, x3⟩, n9⟩ := h6
  have a4 := (rp_ln hvA hv0 x1).2.2.2.1
  have hl4 := ((tb_line hv0 hvA x1).mp x3).1
  have e1_ : p1.toNat + sO v k9 + 1 = (i + 1).toNat := by omega
  have e2_ : p1.toNat + sO v (k9 + 1) = nx.toNat := by omega
  have e3_ : sL l = sg.toNat := by omega
  refine ⟨_, fun h0 h1 => ⟨h0, h1, k9, z, v2, l, r, x1, x3, n9, rfl⟩, ?_⟩
  have hf := tb_fin (u := u) (c := q + 1) (p := p1.toNat) (L := (μ q 5).toNat) hv0 hvA (by omega) x1 x3 (fun j hj => by rw [e1_, e2_, e3_]; exact k7 j (by omega)) (fun j h8 h9 => by rw [e1_, e2_, e3_]; exact k8 j (by omega) (by omega))
  rw [show (u q 5).toNat = (μ q 5).toNat - sL l by omega]
  exact hf
/-- one segment after the other -/
theorem sgN_rf {μ : va_M} {c p L : Nat} {v : Rw} (h : SA μ c v p) : sgN μ μ c p L v v L := ⟨h, rfl, fun _ _ => rfl, fun _ _ => rfl⟩
theorem sgN_tr {μ u y : va_M} {c p L L1 L2 : Nat} {v x w : Rw} (h : sgN μ u c p L v x L1) (h2 : sgN u y c p L1 x w L2) : sgN μ y c p L v w L2 := by
  obtain ⟨a1, a2, a3, a4⟩ := h
  obtain ⟨b1, b2, b3, b4⟩ := h2
  refine ⟨b1, by omega, fun j hj => (b3 j hj).trans (a3 j hj), fun t ht => ?_⟩
  rw [b4 t (by omega)]
  exact a4 t ht
/-- what stands between two turns of tidying a stretch -/
def tRi (μ0 μ : va_M) (q : Nat) (p1 : Int) (v x : Rw) (dn : Int) : Prop := ∃ n : Nat, tSt n v x ∧ dn = n ∧ sgN μ0 μ (q + 1) p1.toNat (μ0 q 5).toNat v x (μ q 5).toNat ∧ μ q 7 = 0
theorem tRi_0 {μ : va_M} {q : Nat} {p1 : Int} {v : Rw} (hvA : SA μ (q + 1) v p1.toNat) (h7 : μ q 7 = 0) : tRi μ μ q p1 v v 0 := ⟨0, rfl, rfl, sgN_rf hvA, h7⟩
theorem tRi_S {μ0 μ u : va_M} {q : Nat} {p1 dn : Int} {v x y : Rw} (h : tRi μ0 μ q p1 v x dn) (h1 : ts1 x y) (h2 : sgN μ u (q + 1) p1.toNat (μ q 5).toNat x y (u q 5).toNat) (h7 : u q 7 = 0) : tRi μ0 u q p1 v y (dn + 1) := by
  obtain ⟨n, a1, a2, a3, a4⟩ := h
  exact ⟨n + 1, tSt_app n v x y a1 h1, by omega, sgN_tr a3 h2, h7⟩
theorem tRi_fr {μ0 μ u : va_M} {q : Nat} {p1 dn : Int} {v x : Rw} (h : tRi μ0 μ q p1 v x dn) (h1 : ∀ y, u (q + 1) y = μ (q + 1) y) (h5 : u q 5 = μ q 5) (h7 : u q 7 = μ q 7) : tRi μ0 u q p1 v x dn := by
  obtain ⟨n, a1, a2, ⟨b1, b2, b3, b4⟩, a4⟩ := h
  exact ⟨n, a1, a2, ⟨SA_fr h1 _ _ b1, by rw [h5]; exact b2, fun j hj => by rw [h1]; exact b3 j hj, fun t ht => by rw [h1]; exact b4 t ht⟩, by rw [h7]; exact a4⟩
/-- what the next turn is told -/
theorem tRi_b {μ0 μ : va_M} {q : Nat} {p1 dn : Int} {v x : Rw} (hv0 : rWF v) (hvd : rAd v) (hp : 0 ≤ p1 ∧ p1 + sL v ≤ μ0 q 5) (h0 : 0 ≤ μ q 5) (h : tRi μ0 μ q p1 v x dn) : rWF x ∧ rAd x ∧ SA μ (q + 1) x p1.toNat ∧ (μ q 5 - sL x = μ0 q 5 - sL v) ∧ (0 ≤ dn ∧ dn ≤ rI v) ∧ TQ v x ∧ μ q 7 = 0 := by
  obtain ⟨n, a1, a2, ⟨b1, b2, b3, b4⟩, a4⟩ := h
  obtain ⟨c1, c2⟩ := tSt_TQ n v x hv0 hvd a1
  obtain ⟨t1, t2, _⟩ := c1.1 hv0 hvd
  exact ⟨t1, t2, b1, by omega, ⟨by omega, by omega⟩, c1, a4⟩
/-- a fold where none can be joined keeps within the room -/
theorem tRi_c {μ0 μ : va_M} {q rm : Nat} {p1 dn : Int} {v x : Rw} (hv0 : rWF v) (hvd : rAd v) (hp : 0 ≤ p1 ∧ p1 + sL v ≤ μ0 q 5) (h0 : 0 ≤ μ q 5) (h : tRi μ0 μ q p1 v x dn) (hcap : ∀ y : Rw, TQ v y → μ0 q 5 - sL v + sL y ≤ rm) (hw : tw0 x) : ∀ so a c : Nat, isFold x a so c → μ q 5 - sL x + sL (rput x a so c) ≤ rm := by
  intro so a c hf
  obtain ⟨t1, t2, t3, t4, t5, t6, _⟩ := tRi_b hv0 hvd hp h0 h
  have h9 := hcap _ (TQ_trans t6 (TQ_put hf (fold_2 t1 t2 hf (fun k za zb va vb la lb ra rb g1 g2 g3 => hw k ⟨za, va, la, ra, zb, vb, lb, rb, g1, g2, g3⟩))))
  omega
/-- a fold of a stretch, told as the others -/
theorem fo_sg {μ u : va_M} {q : Nat} {v x : Rw} {p1 p2 : Int} (hp : 0 ≤ p1) (h2 : p2 = p1 + sL v) (hle : p2 ≤ μ q 5) (hS : SA u (q + 1) x p1.toNat) (h5 : u q 5 = μ q 5 - sL v + sL x) (h3 : ∀ j : Nat, j < p1.toNat → u (q + 1) j = μ (q + 1) j) (h4 : ∀ t : Nat, p2 + t < μ q 5 → u (q + 1) ((u q 5 - (μ q 5 - p2)).toNat + t) = μ (q + 1) (p2.toNat + t)) : sgN μ u (q + 1) p1.toNat (μ q 5).toNat v x (u q 5).toNat := by
  refine ⟨hS, by omega, h3, fun t ht => ?_⟩
  have h9 := h4 t (by omega)
  rw [show (u q 5 - (μ q 5 - p2)).toNat = p1.toNat + sL x by omega, show p2.toNat = p1.toNat + sL v by omega] at h9
  exact h9

/-! what joining makes of the line -/
def jF (f : Nat → Int) (p1 p2 n j : Nat) : Int := if p1 ≤ j ∧ j < p1 + n then sFu (f j) (f (p2 + (j - p1))) else f j
theorem jF_o {f : Nat → Int} {p1 p2 n j : Nat} (h : j < p1 ∨ p1 + n ≤ j) : jF f p1 p2 n j = f j := if_neg (by omega)
theorem jF_i {f : Nat → Int} {p1 p2 n t : Nat} (h : t < n) : jF f p1 p2 n (p1 + t) = sFu (f (p1 + t)) (f (p2 + t)) := by
  unfold jF
  rw [if_pos (by omega), show p1 + t - p1 = t by omega]
theorem sFu_rf (a : Int) : sFu a a = a := if_pos rfl
theorem join_ln {μ μ1 μ2 : va_M} {q : Nat} {p1 p2 n : Int} (hb : (0 ≤ p1 ∧ p1 + n ≤ μ q 5) ∧ (0 ≤ p2 ∧ p2 + n ≤ μ q 5) ∧ 0 ≤ n) (hf1 : fr (fun x y => x = q + 1 ∧ p1.toNat ≤ y ∧ y < p1.toNat + n.toNat) μ μ1) (hv1 : ∀ t : Nat, t < n.toNat → μ1 (q + 1) (p1.toNat + t) = sFu (μ (q + 1) (p1.toNat + t)) (μ (q + 1) (p2.toNat + t))) (h2 : μ2 = uz (uc μ1 (q + 1) (p2 + n).toNat (q + 1) p2.toNat (μ1 q 5 - (p2 + n)).toNat) q 5 (μ1 q 5 - (p2 + n - p2))) : (∀ j : Nat, j < p2.toNat → μ2 (q + 1) j = jF (μ (q + 1)) p1.toNat p2.toNat n.toNat j) ∧ ∀ j : Nat, p2.toNat ≤ j → j < (μ q 5 - n).toNat → μ2 (q + 1) j = jF (μ (q + 1)) p1.toNat p2.toNat n.toNat (j + n.toNat) := by
  obtain ⟨b1, b2, b3⟩ := hb
  have e5 : μ1 q 5 = μ q 5 := hf1 _ _ (by omega)
  rw [e5] at h2
  have d1 : ∀ j, μ1 (q + 1) j = jF (μ (q + 1)) p1.toNat p2.toNat n.toNat j := fun j => by
    by_cases h9 : p1.toNat ≤ j ∧ j < p1.toNat + n.toNat
    · have hv := hv1 (j - p1.toNat) (by omega)
      have hj := jF_i (f := μ (q + 1)) (p1 := p1.toNat) (p2 := p2.toNat) (n := n.toNat) (t := j - p1.toNat) (by omega)
      rw [show p1.toNat + (j - p1.toNat) = j by omega] at hv hj
      rw [hv, hj]
    · rw [hf1 _ _ (fun h => h9 ⟨h.2.1, h.2.2⟩), jF_o (by omega)]
  refine ⟨fun j hj => by rw [h2, uz_n (by omega), uc_n (by omega)]; exact d1 j, fun j h8 h9 => ?_⟩
  rw [h2, uz_n (by omega), uc_s (by omega), ← d1]
  congr 1
  omega
/-- the line of a segment in a row, and what is round it: other items come in its place -/
def sgN (μ u : va_M) (c : Nat) (p L : Nat) (v x : Rw) (L2 : Nat) : Prop := SA u c x p ∧ L2 + sL v = L + sL x ∧ (∀ j : Nat, j < p → u c j = μ c j) ∧ ∀ t : Nat, p + sL v + t < L → u c (p + sL x + t) = μ c (p + sL v + t)
theorem tw_fin {μ u : va_M} {c p L k za zb : Nat} {v : Rw} {va vb : Int} {la lb ra rb : Rw} (hv0 : rWF v) (hvA : SA μ c v p) (hL : p + sL v ≤ L) (e1 : rdrop k v = .inner za 4 va la ra) (e2 : rdrop (k + 1) v = .inner zb 4 vb lb rb) (hal : ralk la lb) (h1 : ∀ j : Nat, j < p + sO v (k + 1) → u c j = jF (μ c) (p + sO v k) (p + sO v (k + 1)) (2 + sL la) j) (h2 : ∀ j : Nat, p + sO v (k + 1) ≤ j → j < L - (2 + sL la) → u c j = jF (μ c) (p + sO v k) (p + sO v (k + 1)) (2 + sL la) (j + (2 + sL la))) : sgN μ u c p L v (rtk v k (rfus la lb) (k + 2)) (L - (2 + sL la)) := by
  obtain ⟨a1, a2, a3, a4, _⟩ := rp_ln hvA hv0 e1
  obtain ⟨b1, b2, b3, b4, _⟩ := rp_ln hvA hv0 e2
  have b4 : sO v (k + 2) = sO v (k + 1) + (2 + sL lb) := b4
  have hw1 := rWF_0 _ (rdrop_WF k v hv0)
  have hw2 := rWF_0 _ (rdrop_WF (k + 1) v hv0)
  have hI := rdrop_I (k + 1) v
  rw [e1] at hw1
  rw [e2] at hw2
  rw [e2, rI_in] at hI
  have hS := ralk_sL _ _ hw1.2.1 hw2.2.1 hal
  have hF := rfus_sL _ _ hw1.2.1 hw2.2.1 hal
  have hle := sO_le v (k + 2)
  have hx := SA_fus la lb (p + sO v k + 1) (p + sO v (k + 1) + 1) (p + sO v k + 1) (u := u) (cu := c) hw1.2.1 hw2.2.1 hal a2 b2 (fun t ht => by
    have h9 := jF_i (f := μ c) (p1 := p + sO v k) (p2 := p + sO v (k + 1)) (n := 2 + sL la) (t := 1 + t) (by omega)
    rw [h1 _ (by omega), show p + sO v k + 1 + t = p + sO v k + (1 + t) by omega, h9, show p + sO v (k + 1) + 1 + t = p + sO v (k + 1) + (1 + t) by omega])
  obtain ⟨y1, y2⟩ := rtk_SA (u := u) (cu := c) (a := k) (b := k + 2) (x := rfus la lb) hvA (by omega) (fun t ht => by rw [h1 _ (by omega), jF_o (by omega)]) (by
    have h9 := jF_i (f := μ c) (p1 := p + sO v k) (p2 := p + sO v (k + 1)) (n := 2 + sL la) (t := 0) (by omega)
    have z1 : p + sO v k + 0 = p + sO v k := rfl
    have z2 : p + sO v (k + 1) + 0 = p + sO v (k + 1) := rfl
    rw [z1, z2, a1, b1, sFu_rf] at h9
    rw [h1 _ (by omega), h9]) hx (by
    have h9 := jF_i (f := μ c) (p1 := p + sO v k) (p2 := p + sO v (k + 1)) (n := 2 + sL la) (t := 1 + sL la) (by omega)
    rw [show p + sO v k + (1 + sL la) = p + sO v k + 1 + sL la by omega, show p + sO v (k + 1) + (1 + sL la) = p + sO v (k + 1) + 1 + sL lb by omega, a3, b3, sFu_rf] at h9
    rw [hF, h1 _ (by omega), h9]) (fun t ht => by
    rw [hF, show p + sO v k + 2 + sL la + t = p + sO v (k + 1) + t by omega, h2 _ (by omega) (by omega), jF_o (by omega)]
    congr 1
    omega)
  refine ⟨y1, by omega, fun j hj => by rw [h1 _ (by omega), jF_o (by omega)], fun t ht => ?_⟩
  rw [h2 _ (by omega) (by omega), jF_o (by omega)]
  congr 1
  omega
theorem tb_fin {μ u : va_M} {c p L k z : Nat} {v : Rw} {v2 : Int} {l r : Rw} (hv0 : rWF v) (hvA : SA μ c v p) (hL : p + sL v ≤ L) (e1 : rdrop k v = .inner z 4 v2 l r) (hn : nxt l (rdrop (k + 1) v)) (h1 : ∀ j : Nat, j < p + sO v (k + 1) → u c j = jF (μ c) (p + sO v k + 1) (p + sO v (k + 1)) (sL l) j) (h2 : ∀ j : Nat, p + sO v (k + 1) ≤ j → j < L - sL l → u c j = jF (μ c) (p + sO v k + 1) (p + sO v (k + 1)) (sL l) (j + sL l)) : sgN μ u c p L v (rtk v k (rfus l (rdrop (k + 1) v)) (k + 1 + rI l)) (L - sL l) := by
  obtain ⟨a1, a2, a3, a4, _⟩ := rp_ln hvA hv0 e1
  have hw1 := rWF_0 _ (rdrop_WF k v hv0)
  have hI := rdrop_I k v
  rw [e1] at hw1
  rw [e1, rI_in] at hI
  have hs := SA_drop (k + 1) v p hvA
  have hwv := rWF_0 _ (rdrop_WF (k + 1) v hv0)
  obtain ⟨n1, n2, _⟩ := nxt_ralk l _ hn
  have hW := rpre_W (rI l) _ .leaf hwv trivial
  have hS := ralk_sL _ _ hw1.2.1 hW n1
  rw [rpre_sL] at hS
  have hF := rfus_sL _ _ hw1.2.1 hW n1
  have hO := sO_add (k + 1) (rI l) v
  have hle := sO_le v (k + 1 + rI l)
  have hx := SA_fus l _ (p + sO v k + 1) (p + sO v (k + 1)) (p + sO v k + 1) (u := u) (cu := c) hw1.2.1 hW n1 a2 (rpre_SA _ _ _ hs) (fun t ht => by
    rw [h1 _ (by omega), jF_i ht])
  rw [← n2] at hx hF
  obtain ⟨y1, y2⟩ := rtk_SA (u := u) (cu := c) (a := k) (b := k + 1 + rI l) (x := rfus l (rdrop (k + 1) v)) hvA (by omega) (fun t ht => by rw [h1 _ (by omega), jF_o (by omega)]) (by rw [h1 _ (by omega), jF_o (by omega), a1]) hx (by rw [hF, h1 _ (by omega), jF_o (by omega), a3]) (fun t ht => by
    rw [hF, show p + sO v k + 2 + sL l + t = p + sO v (k + 1) + t by omega, h2 _ (by omega) (by omega), jF_o (by omega)]
    congr 1
    omega)
  refine ⟨y1, by omega, fun j hj => by rw [h1 _ (by omega), jF_o (by omega)], fun t ht => ?_⟩
  rw [h2 _ (by omega) (by omega), jF_o (by omega)]
  congr 1
  omega
theorem ta_fin {μ u : va_M} {c p L k z : Nat} {v : Rw} {v2 : Int} {l r : Rw} (hv0 : rWF v) (hvA : SA μ c v p) (hL : p + sL v ≤ L) (e1 : rdrop k v = .inner z 4 v2 l r) (hk : rI l ≤ k) (hn : nxt l (rdrop (k - rI l) v)) (h1 : ∀ j : Nat, j < p + (sO v k - sL l) → u c j = jF (μ c) (p + sO v k + 1) (p + (sO v k - sL l)) (sL l) j) (h2 : ∀ j : Nat, p + (sO v k - sL l) ≤ j → j < L - sL l → u c j = jF (μ c) (p + sO v k + 1) (p + (sO v k - sL l)) (sL l) (j + sL l)) : sgN μ u c p L v (rtk v (k - rI l) (rfus l (rdrop (k - rI l) v)) (k + 1)) (L - sL l) := by
  obtain ⟨a1, a2, a3, a4, _⟩ := rp_ln hvA hv0 e1
  have hw1 := rWF_0 _ (rdrop_WF k v hv0)
  have hI := rdrop_I k v
  rw [e1] at hw1
  rw [e1, rI_in] at hI
  have hs := SA_drop (k - rI l) v p hvA
  have hwv := rWF_0 _ (rdrop_WF (k - rI l) v hv0)
  obtain ⟨n1, n2, _⟩ := nxt_ralk l _ hn
  have hW := rpre_W (rI l) _ .leaf hwv trivial
  have hS := ralk_sL _ _ hw1.2.1 hW n1
  rw [rpre_sL] at hS
  have hF := rfus_sL _ _ hw1.2.1 hW n1
  have hO := sO_add (k - rI l) (rI l) v
  rw [show k - rI l + rI l = k by omega] at hO
  have hle := sO_le v (k + 1)
  have hx := SA_fus l _ (p + sO v k + 1) (p + sO v (k - rI l)) (p + sO v (k - rI l) + 1) (u := u) (cu := c) hw1.2.1 hW n1 a2 (rpre_SA _ _ _ hs) (fun t ht => by
    rw [h2 _ (by omega) (by omega), show p + sO v (k - rI l) + 1 + t + sL l = p + sO v k + 1 + t by omega, jF_i ht, show p + (sO v k - sL l) + t = p + sO v (k - rI l) + t by omega])
  rw [← n2] at hx hF
  obtain ⟨y1, y2⟩ := rtk_SA (u := u) (cu := c) (a := k - rI l) (b := k + 1) (x := rfus l (rdrop (k - rI l) v)) hvA (by omega) (fun t ht => by rw [h1 _ (by omega), jF_o (by omega)]) (by
    rw [h2 _ (by omega) (by omega), show p + sO v (k - rI l) + sL l = p + sO v k by omega, jF_o (by omega), a1]) hx (by
    rw [hF, h2 _ (by omega) (by omega), show p + sO v (k - rI l) + 1 + sL l + sL l = p + sO v k + 1 + sL l by omega, jF_o (by omega), a3]) (fun t ht => by
    rw [hF, h2 _ (by omega) (by omega), jF_o (by omega)]
    congr 1
    omega)
  refine ⟨y1, by omega, fun j hj => by rw [h1 _ (by omega), jF_o (by omega)], fun t ht => ?_⟩
  rw [h2 _ (by omega) (by omega), jF_o (by omega)]
  congr 1
  omega

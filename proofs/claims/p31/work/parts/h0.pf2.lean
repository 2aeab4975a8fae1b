/-! folded pages: a repeat that holds one repeat alone holds more than plain items and repeats of one token -/
/-- plain items, repeats of one token -/
def rSm : Rw → Prop
  | .leaf => True
  | .inner _ k _ l r => (k < 3 ∨ (k = 4 ∧ rSg l)) ∧ rSm r
/-- one repeat alone that holds such alone -/
def rRR : Rw → Prop
  | .inner _ k _ l .leaf => k = 4 ∧ rSm l
  | .inner _ _ _ _ (.inner _ _ _ _ _) => False
  | .leaf => False
/-- items of a row stand at a place of another one, alike -/
def aAt (X w : Rw) (q : Nat) : Prop := ∀ m : Nat, m < rI X → halk (rdrop m X) (rdrop (q + m) w)
def aFm (X : Rw) : Prop := ∃ m : Nat, m < rI X ∧ hfirm (rdrop m X)
/-- plain items stand nowhere twice, one behind the other, nor beside a repeat of them -/
def pJ (w : Rw) : Prop := ∀ X : Rw, rSm X → aFm X → (∀ q : Nat, aAt X w q → ¬ aAt X w (q + rI X)) ∧ (2 ≤ rI X → ∀ (p z : Nat) (v : Int) (Y r : Rw), rdrop p w = .inner z 4 v Y r → ralk X Y → (∀ q : Nat, q = p + 1 ∨ q + rI X = p → ¬ aAt X w q) ∧ ∀ (z2 : Nat) (v2 : Int) (Y2 r2 : Rw), rdrop (p + 1) w = .inner z2 4 v2 Y2 r2 → ¬ ralk X Y2)
def pHc : Rw → Prop
  | .leaf => True
  | .inner _ k _ l r => (k = 4 → ¬ rRR l ∧ pJ l ∧ aFm l) ∧ pHc l ∧ pHc r
def pH (w : Rw) : Prop := pJ w ∧ pHc w
theorem alk_Sm : ∀ x y : Rw, ralk x y → rSm x → rSm y
  | .leaf, .leaf, _, _ => trivial
  | .leaf, .inner _ _ _ _ _, h, _ => h.elim
  | .inner _ _ _ _ _, .leaf, h, _ => h.elim
  | .inner z k v l r, .inner z2 k2 v2 l2 r2, h, hs => by
    have e1 := alk_k h.1
    refine ⟨?_, alk_Sm r r2 h.2 hs.2⟩
    rcases hs.1 with a | ⟨a, b⟩
    · exact Or.inl (e1.1.mp a)
    · refine Or.inr ⟨e1.2.2.2.1.mp a, ?_⟩
      rcases h.1 with ⟨c, _⟩ | ⟨_, _, _, c⟩
      · unfold isTx at c; omega
      · exact alk_Sg c b
theorem alk_RR {x y : Rw} (h : ralk x y) (hs : rRR x) : rRR y := by
  cases x with
  | leaf => exact hs.elim
  | inner z k v l r =>
    cases y with
    | leaf => exact h.elim
    | inner z2 k2 v2 l2 r2 =>
      have h1 := alk_k h.1
      have h2 := h.2
      cases r with
      | inner _ _ _ _ _ => exact hs.elim
      | leaf =>
        cases r2 with
        | inner _ _ _ _ _ => exact h2.elim
        | leaf =>
          have hs : k = 4 ∧ rSm l := hs
          refine ⟨h1.2.2.2.1.mp hs.1, ?_⟩
          rcases h.1 with ⟨c, _⟩ | ⟨_, _, _, c⟩
          · unfold isTx at c; (first | ((try clear h2); (try clear h1); (try clear r2); (try clear l2); (try clear v2); (try clear k2); (try clear z2); (try clear r); (try clear v); (try clear z); omega) | omega)
          · exact alk_Sm l l2 c hs.2
theorem pHc_drop : ∀ (m : Nat) (w : Rw), pHc w → pHc (rdrop m w)
  | 0, _, h => h
  | _ + 1, .leaf, h => h
  | m + 1, .inner _ _ _ _ r, h => pHc_drop m r h.2.2
theorem pHc_app : ∀ (m : Nat) (w x : Rw), pHc w → pHc x → pHc (rpre m w x)
  | 0, _, _, _, h => h
  | _ + 1, .leaf, _, _, h => h
  | m + 1, .inner _ _ _ _ r, x, h1, h => ⟨h1.1, h1.2.1, pHc_app m r x h1.2.2 h⟩
theorem sm_at : ∀ (m : Nat) (X : Rw), rSm X → m < rI X → ∃ (z k : Nat) (v : Int) (l r : Rw), rdrop m X = .inner z k v l r ∧ (k < 3 ∨ (k = 4 ∧ rSg l))
  | 0, .leaf, _, h => absurd h (Nat.lt_irrefl 0)
  | _ + 1, .leaf, _, h => absurd h (Nat.not_lt_zero _)
  | 0, .inner z k v l r, hs, _ => ⟨z, k, v, l, r, rfl, hs.1⟩
  | m + 1, .inner z k v l r, hs, h => by
    rw [rI_in] at h
    exact sm_at m r hs.2 (by omega)
theorem sm_no {X F D : Rw} {v : Int} {m z : Nat} (hX : rSm X) (hm : m < rI X) (hF : ¬ rSg F) : ¬ halk (rdrop m X) (.inner z 4 v F D) := by
  obtain ⟨z2, k, v2, l, r, e, hs⟩ := sm_at m X hX hm
  rw [e]
  intro h
  have h : ialk k v2 l 4 v F := h
  have e1 := alk_k h
  rcases hs with hs | ⟨hs, hs2⟩
  · have := e1.1.mp hs
    (first | ((try clear e1); (try clear h); (try clear hs); (try clear r); (try clear v2); (try clear z2); (try clear hF); (try clear hm); omega) | omega)
  · rcases h with ⟨c, _⟩ | ⟨_, _, _, c⟩
    · unfold isTx at c; (first | ((try clear e1); (try clear h); (try clear r); (try clear v2); (try clear z2); (try clear hF); (try clear hm); omega) | omega)
    · exact hF (alk_Sg c hs2)
theorem halk_one {x y : Rw} : halk x y → ∃ (z k : Nat) (v : Int) (l r : Rw) (z2 k2 : Nat) (v2 : Int) (l2 r2 : Rw), x = .inner z k v l r ∧ y = .inner z2 k2 v2 l2 r2 ∧ ialk k v l k2 v2 l2 := by
  intro h
  cases x with
  | leaf => exact h.elim
  | inner z k v l r =>
    cases y with
    | leaf => exact h.elim
    | inner z2 k2 v2 l2 r2 => exact ⟨z, k, v, l, r, z2, k2, v2, l2, r2, rfl, rfl, h⟩
theorem ialk_sy {k k2 : Nat} {v v2 : Int} {l l2 : Rw} (h : ialk k v l k2 v2 l2) : ialk k2 v2 l2 k v l :=
  (ralk_symm (.inner 0 k v l .leaf : Rw) (.inner 0 k2 v2 l2 .leaf : Rw) ⟨h, trivial⟩).1
theorem ialk_tr {k k2 k3 : Nat} {v v2 v3 : Int} {l l2 l3 : Rw} (h : ialk k v l k2 v2 l2) (h2 : ialk k2 v2 l2 k3 v3 l3) : ialk k v l k3 v3 l3 :=
  (ralk_trans (.inner 0 k v l .leaf : Rw) (.inner 0 k2 v2 l2 .leaf : Rw) (.inner 0 k3 v3 l3 .leaf : Rw) ⟨h, trivial⟩ ⟨h2, trivial⟩).1
theorem halk_sy {x y : Rw} (h : halk x y) : halk y x := by
  obtain ⟨z, k, v, l, r, z2, k2, v2, l2, r2, rfl, rfl, a⟩ := halk_one h
  exact ialk_sy a
theorem halk_tr {x y t : Rw} (h : halk x y) (h2 : halk y t) : halk x t := by
  obtain ⟨z, k, v, l, r, z2, k2, v2, l2, r2, rfl, rfl, a⟩ := halk_one h
  cases t with
  | leaf => exact h2.elim
  | inner z3 k3 v3 l3 r3 => exact ialk_tr a h2
theorem alk_at : ∀ (m : Nat) (x y : Rw), ralk x y → m < rI x → halk (rdrop m x) (rdrop m y)
  | _, .leaf, _, _, h => absurd h (Nat.not_lt_zero _)
  | _, .inner _ _ _ _ _, .leaf, h, _ => h.elim
  | 0, .inner _ _ _ _ _, .inner _ _ _ _ _, h, _ => h.1
  | m + 1, .inner z k v l r, .inner z2 k2 v2 l2 r2, h, hm => by
    rw [rI_in] at hm
    exact alk_at m r r2 h.2 (by omega)
theorem alk_dr : ∀ (p : Nat) (x y : Rw), ralk x y → ralk (rdrop p x) (rdrop p y)
  | 0, _, _, h => h
  | _ + 1, .leaf, .leaf, _ => trivial
  | _ + 1, .leaf, .inner _ _ _ _ _, h => h.elim
  | _ + 1, .inner _ _ _ _ _, .leaf, h => h.elim
  | p + 1, .inner _ _ _ _ r, .inner _ _ _ _ r2, h => alk_dr p r r2 h.2
theorem aAt_alk {X w b : Rw} {q : Nat} (h : ralk w b) (ha : aAt X w q) : aAt X b q := fun m hm => by
  have h1 := ha m hm
  obtain ⟨z, k, v, l, r, z2, k2, v2, l2, r2, e1, e2, h3⟩ := halk_one h1
  have h4 := alk_dr (q + m) w b h
  rw [e2] at h4 h1
  generalize rdrop (q + m) b = B at h4 ⊢
  cases B with
  | leaf => exact h4.elim
  | inner z5 k5 v5 l5 r5 => exact halk_tr h1 (show halk _ _ from h4.1)
theorem aAt_X {X Y w : Rw} {q : Nat} (h : ralk X Y) (ha : aAt Y w q) : aAt X w q := fun m hm => by
  have h1 := ralk_rI _ _ h
  exact halk_tr (alk_at m X Y h hm) (ha m (by omega))
theorem pJ_alk {w b : Rw} (h : ralk w b) (hb9 : pJ b) : pJ w := fun X hX hF => by
  obtain ⟨j1, j2⟩ := hb9 X hX hF
  refine ⟨fun q h1 h2 => j1 q (aAt_alk h h1) (aAt_alk h h2), fun hI p z v Y r e hY => ?_⟩
  have h4 := alk_dr p w b h
  rw [e] at h4
  have h5 := alk_dr (p + 1) w b h
  generalize hB : rdrop p b = B at h4
  cases B with
  | leaf => exact h4.elim
  | inner z5 k5 v5 l5 r5 =>
    have e5 := alk_k h4.1
    obtain rfl : k5 = 4 := e5.2.2.2.1.mp rfl
    have hY5 : ralk Y l5 := by
      rcases h4.1 with ⟨a, _⟩ | ⟨_, _, _, a⟩
      · unfold isTx at a; omega
      · exact a
    obtain ⟨i1, i2⟩ := j2 hI p z5 v5 l5 r5 hB (ralk_trans _ _ _ hY hY5)
    refine ⟨fun q hq h1 => i1 q hq (aAt_alk h h1), fun z2 v2 Y2 r2 e2 h2 => ?_⟩
    rw [e2] at h5
    generalize hC : rdrop (p + 1) b = C at h5
    cases C with
    | leaf => exact h5.elim
    | inner z6 k6 v6 l6 r6 =>
      have e6 := alk_k h5.1
      obtain rfl : k6 = 4 := e6.2.2.2.1.mp rfl
      have hY6 : ralk Y2 l6 := by
        rcases h5.1 with ⟨a, _⟩ | ⟨_, _, _, a⟩
        · unfold isTx at a; (first | ((try clear e6); (try clear r6); (try clear l6); (try clear v6); (try clear k6); (try clear z6); (try clear hC); (try clear h2); (try clear e2); (try clear r2); (try clear Y2); (try clear v2); (try clear z2); (try clear i2); (try clear i1); omega) | omega)
        · exact a
      exact i2 z6 v6 l6 r6 hC (ralk_trans _ _ _ h2 hY6)
theorem firm_hk {x y : Rw} (h : halk x y) (hf : hfirm y) : hfirm x := by
  obtain ⟨z5, k5, v5, l5, r5, z6, k6, v6, l6, r6, rfl, rfl, h4⟩ := halk_one h
  have e9 := alk_k h4
  have hf : k6 = 0 ∨ k6 = 4 := hf
  exact hf.elim (fun q => Or.inl (e9.2.1.mpr q)) (fun q => Or.inr (e9.2.2.2.1.mpr q))
theorem aFm_alk {x y : Rw} (h : ralk x y) (hy : aFm y) : aFm x := by
  obtain ⟨m, hm, hf⟩ := hy
  have hI := ralk_rI _ _ h
  exact ⟨m, by (first | ((try clear hf); omega) | omega), firm_hk (alk_at m x y h (by (first | ((try clear hf); omega) | omega))) hf⟩
theorem pHc_alk : ∀ x y : Rw, ralk x y → rWF x → pHc y → pHc x
  | .leaf, _, _, _, _ => trivial
  | .inner _ _ _ _ _, .leaf, h, _, _ => h.elim
  | .inner z k v l r, .inner z2 k2 v2 l2 r2, h, hw, ⟨h1, h2, h3⟩ => by
    have e1 := alk_k h.1
    obtain ⟨f1, f2, f3, f4, f5, f6, f7, f8⟩ := hw
    refine ⟨fun h9 => ?_, ?_, pHc_alk r r2 h.2 f8 h3⟩
    · have hll : ralk l l2 := by
        rcases h.1 with ⟨a, _⟩ | ⟨_, _, _, a⟩
        · unfold isTx at a; omega
        · exact a
      obtain ⟨q1, q2, q3⟩ := h1 (e1.2.2.2.1.mp h9)
      exact ⟨fun hb9 => q1 (alk_RR hll hb9), pJ_alk hll q2, aFm_alk hll q3⟩
    · rcases h.1 with ⟨a, _⟩ | ⟨_, _, _, a⟩
      · unfold isTx at a
        obtain rfl := f2 (by omega)
        trivial
      · exact pHc_alk l l2 a f7 h2
theorem pH_alk (x y : Rw) (h : ralk x y) (hw : rWF x) (hp : pH y) : pH x := ⟨pJ_alk h hp.1, pHc_alk x y h hw hp.2⟩
/-- an item ahead of a place is the same whatever stands behind -/
theorem pre_at : ∀ (m n : Nat) (y x : Rw), m < n → n ≤ rI y → ∃ (z k : Nat) (v : Int) (l r : Rw), rdrop m y = .inner z k v l r ∧ rdrop m (rpre n y x) = .inner z k v l (rpre (n - m - 1) r x)
  | _, 0, _, _, h, _ => absurd h (Nat.not_lt_zero _)
  | _, _ + 1, .leaf, _, _, h => absurd h (Nat.not_succ_le_zero _)
  | 0, n + 1, .inner z k v l r, x, _, _ => ⟨z, k, v, l, r, rfl, rfl⟩
  | m + 1, n + 1, .inner z k v l r, x, h, h2 => by
    rw [rI_in] at h2
    obtain ⟨z3, k3, v3, l3, r3, e1, e2⟩ := pre_at m n r x (by omega) (by omega)
    exact ⟨z3, k3, v3, l3, r3, e1, by rw [show n + 1 - (m + 1) - 1 = n - m - 1 by omega]; exact e2⟩
theorem pre_hk {m n : Nat} {y x u : Rw} (h : m < n) (h2 : n ≤ rI y) : halk u (rdrop m (rpre n y x)) ↔ halk u (rdrop m y) := by
  obtain ⟨z, k, v, l, r, e1, e2⟩ := pre_at m n y x h h2
  rw [e1, e2]
  cases u <;> exact Iff.rfl
theorem pre_dr : ∀ (n : Nat) (y x : Rw), n ≤ rI y → ∀ m : Nat, rdrop (n + m) (rpre n y x) = rdrop m x
  | 0, y, x, _, m => by rw [Nat.zero_add]; rfl
  | n + 1, .leaf, _, h, _ => absurd h (Nat.not_succ_le_zero _)
  | n + 1, .inner z k v l r, x, h, m => by
    rw [rI_in] at h
    rw [show n + 1 + m = (n + m) + 1 by omega]
    exact pre_dr n r x (by omega) m
/-- what folding keeps: a repeat of plain items has none of these beside it -/
def pIV (w : Rw) : Prop := ∀ (p z : Nat) (v : Int) (X r : Rw), rdrop p w = .inner z 4 v X r → rSm X → 2 ≤ rI X → (∀ q : Nat, q = p + 1 ∨ q + rI X = p → ¬ aAt X w q) ∧ ∀ (z2 : Nat) (v2 : Int) (X2 r2 : Rw), rdrop (p + 1) w = .inner z2 4 v2 X2 r2 → ¬ ralk X X2
theorem Sg_I {w : Rw} (h : rSg w) : rI w = 1 := by
  cases w with
  | leaf => exact h.elim
  | inner z k v l r =>
    cases r with
    | leaf => rfl
    | inner _ _ _ _ _ => exact h.elim
theorem pIV_Sm {w : Rw} (h : rSm w) : pIV w := fun p z v X r e hX h2 => by
  exfalso
  have hp : p < rI w := by
    have := rdrop_I p w
    rw [e, rI_in] at this
    omega
  obtain ⟨z2, k, v2, l, r2, e2, hs⟩ := sm_at p w h hp
  rw [e] at e2
  cases e2
  rcases hs with hs | ⟨_, hs⟩
  · (first | ((try clear e2); (try clear r2); (try clear v2); (try clear k); (try clear z2); omega) | omega)
  · have := Sg_I hs
    (first | ((try clear hs); (try clear e2); (try clear r2); (try clear v2); (try clear k); (try clear z2); omega) | omega)
theorem aAt_I {X w : Rw} {q : Nat} (h : aAt X w q) (hX : 0 < rI X) : q + rI X ≤ rI w := by
  have h1 := h (rI X - 1) (by (first | ((try clear h1); omega) | omega))
  obtain ⟨z5, k5, v5, l5, r5, z6, k6, v6, l6, r6, e5, e6, _⟩ := halk_one h1
  have h2 := rdrop_I (q + (rI X - 1)) w
  rw [e6, rI_in] at h2
  (first | ((try clear e6); (try clear e5); (try clear l6); (try clear v6); (try clear k6); (try clear z6); (try clear r5); (try clear l5); (try clear v5); (try clear k5); (try clear z5); (try clear h1); omega) | omega)
/-- twice one behind the other: it could be folded -/
theorem aAt_fo {X w : Rw} {q : Nat} (hF : aFm X) (h1 : aAt X w q) (h2 : aAt X w (q + rI X)) : fo1 w (rI X) q := by
  obtain ⟨m, hm, hf⟩ := hF
  have hI := aAt_I h2 (by (first | ((try clear hI); (try clear hf); omega) | omega))
  exact ⟨by (first | ((try clear hI); (try clear hf); omega) | omega), by (first | ((try clear hf); (try clear hm); omega) | omega), fun m hm => halk_tr (halk_sy (h1 m hm)) (h2 m hm), m, hm, firm_hk (halk_sy (h1 m hm)) hf⟩
theorem pJ_pre {w : Rw} {a so : Nat} (hI : a + so ≤ rI w) (hso : 1 ≤ so) (hno : fno w so a) (hi : pIV w) : pJ (rpre so (rdrop a w) .leaf) := fun X hX hF => by
  have hs : ∀ q : Nat, aAt X (rpre so (rdrop a w) .leaf) q → 0 < rI X → aAt X w (a + q) ∧ q + rI X ≤ so := fun q h h0 => by
    have h1 := aAt_I h h0
    have e0 : rI (.leaf : Rw) = 0 := rfl
    rw [rpre_I _ _ _ (by rw [rdrop_I]; omega), e0] at h1
    refine ⟨fun m hm => ?_, by (first | ((try clear hso); (try clear hI); omega) | omega)⟩
    have h2 := h m hm
    rw [pre_hk (by (first | ((try clear hso); (try clear hI); omega) | omega)) (by rw [rdrop_I]; omega), ← rdrop_add] at h2
    rw [Nat.add_assoc]
    exact h2
  have h0 : 0 < rI X := by
    obtain ⟨m, hm, _⟩ := hF
    (first | ((try clear hso); (try clear hI); omega) | omega)
  refine ⟨fun q h1 h2 => ?_, fun h2I p z v Y r e hY => ?_⟩
  · obtain ⟨a1, a2⟩ := hs q h1 h0
    obtain ⟨b1, b2⟩ := hs _ h2 h0
    rw [← Nat.add_assoc] at b1
    exact hno _ _ (Or.inl (by (first | ((try clear b1); (try clear a2); (try clear a1); (try clear hY); (try clear r); (try clear Y); (try clear v); (try clear z); (try clear h2I); (try clear h2); (try clear h1); (try clear hso); (try clear hI); omega) | omega))) (aAt_fo hF a1 b1)
  · have hp : p < so := by
      have h1 := rdrop_I p (rpre so (rdrop a w) .leaf)
      have e0 : rI (.leaf : Rw) = 0 := rfl
      rw [e, rI_in, rpre_I _ _ _ (by rw [rdrop_I]; (first | ((try clear e0); (try clear h1); (try clear hp); (try clear hY); (try clear Y); (try clear v); (try clear z); (try clear h2I); (try clear h2); (try clear q); omega) | omega)), e0] at h1
      (first | ((try clear e0); (try clear hp); (try clear hY); (try clear Y); (try clear v); (try clear z); (try clear h2I); (try clear h2); (try clear q); (try clear hso); (try clear hI); omega) | omega)
    obtain ⟨z3, k3, v3, l3, r3, e1, e2⟩ := pre_at p so (rdrop a w) .leaf hp (by rw [rdrop_I]; (first | ((try clear e2); (try clear e1); (try clear r3); (try clear l3); (try clear v3); (try clear k3); (try clear z3); (try clear hp); (try clear hY); (try clear r); (try clear Y); (try clear v); (try clear z); (try clear h2I); (try clear h2); (try clear h1); (try clear q); omega) | omega))
    rw [e] at e2
    cases e2
    rw [← rdrop_add] at e1
    have hSY := alk_Sm _ _ hY hX
    have hIY := ralk_rI _ _ hY
    obtain ⟨i1, i2⟩ := hi (a + p) z v Y r3 e1 hSY (by (first | ((try clear i2); (try clear i1); (try clear hSY); (try clear e2); (try clear e1); (try clear r3); (try clear l3); (try clear v3); (try clear k3); (try clear z3); (try clear hp); (try clear hY); (try clear r); (try clear v); (try clear z); (try clear h2); (try clear h1); (try clear q); (try clear hso); (try clear hI); omega) | omega))
    refine ⟨fun q hq h => ?_, fun z2 v2 Y2 r2 e3 h => ?_⟩
    · obtain ⟨b1, b2⟩ := hs q h h0
      exact i1 (a + q) (by (first | ((try clear b2); (try clear b1); (try clear h); (try clear e3); (try clear r2); (try clear Y2); (try clear v2); (try clear z2); (try clear i2); (try clear i1); (try clear hSY); (try clear e2); (try clear e1); (try clear r3); (try clear l3); (try clear v3); (try clear k3); (try clear z3); (try clear hp); (try clear hY); (try clear r); (try clear v); (try clear z); (try clear h2); (try clear h1); (try clear hso); (try clear hI); omega) | omega)) (aAt_X (ralk_symm _ _ hY) b1)
    · have hp1 : p + 1 < so := by
        have h1 := rdrop_I (p + 1) (rpre so (rdrop a w) .leaf)
        have e0 : rI (.leaf : Rw) = 0 := rfl
        rw [e3, rI_in, rpre_I _ _ _ (by rw [rdrop_I]; (first | ((try clear e0); (try clear h1); (try clear hp1); (try clear h); (try clear e3); (try clear Y2); (try clear v2); (try clear z2); (try clear hq); (try clear q); (try clear i2); (try clear i1); (try clear hIY); (try clear hSY); (try clear e2); (try clear e1); (try clear r3); (try clear l3); (try clear v3); (try clear k3); (try clear z3); (try clear hp); (try clear hY); (try clear r); (try clear v); (try clear z); (try clear h2I); (try clear h2); omega) | omega)), e0] at h1
        (first | ((try clear e0); (try clear hp1); (try clear h); (try clear e3); (try clear Y2); (try clear v2); (try clear z2); (try clear hq); (try clear q); (try clear i2); (try clear i1); (try clear hIY); (try clear hSY); (try clear e2); (try clear e1); (try clear r3); (try clear l3); (try clear v3); (try clear k3); (try clear z3); (try clear hY); (try clear r); (try clear v); (try clear z); (try clear h2I); (try clear h2); (try clear hso); (try clear hI); omega) | omega)
      obtain ⟨z4, k4, v4, l4, r4, e4, e5⟩ := pre_at (p + 1) so (rdrop a w) .leaf hp1 (by rw [rdrop_I]; (first | ((try clear e5); (try clear e4); (try clear r4); (try clear l4); (try clear v4); (try clear k4); (try clear z4); (try clear hp1); (try clear h); (try clear e3); (try clear r2); (try clear Y2); (try clear v2); (try clear z2); (try clear hq); (try clear q); (try clear i2); (try clear i1); (try clear hIY); (try clear hSY); (try clear e2); (try clear e1); (try clear r3); (try clear l3); (try clear v3); (try clear k3); (try clear z3); (try clear hp); (try clear hY); (try clear r); (try clear v); (try clear z); (try clear h2I); (try clear h2); (try clear h1); omega) | omega))
      rw [e3] at e5
      cases e5
      rw [← rdrop_add, ← Nat.add_assoc] at e4
      exact i2 z2 v2 Y2 r4 e4 (ralk_trans _ _ _ (ralk_symm _ _ hY) h)
/-- nothing more to be folded -/
theorem pJ_end {w : Rw} (he : fEnd w) (hi : pIV w) : pJ w := fun X hX hF => by
  refine ⟨fun q h1 h2 => he _ _ (aAt_fo hF h1 h2), fun h2I p z v Y r e hY => ?_⟩
  have hSY := alk_Sm _ _ hY hX
  have hIY := ralk_rI _ _ hY
  obtain ⟨i1, i2⟩ := hi p z v Y r e hSY (by omega)
  exact ⟨fun q hq h => i1 q (by omega) (aAt_X (ralk_symm _ _ hY) h), fun z2 v2 Y2 r2 e3 h => i2 z2 v2 Y2 r2 e3 (ralk_trans _ _ _ (ralk_symm _ _ hY) h)⟩
theorem fno_fEx {w : Rw} {so a n : Nat} (hwf : rWF w) (h : fst1 w so a n) : fEx w a so n := by
  obtain ⟨hf, hno, hmx⟩ := h
  have g2 := hf.2.1
  have g3 := hf.2.2.1
  have hN : ∀ x : Nat, (1 < so ∨ (1 = so ∧ x < a)) → x + 1 < rI w → hfirm (rdrop x w) → ¬ halk (rdrop x w) (rdrop (x + 1) w) := fun x hx hx1 hfx hax => by
    refine hno 1 x hx ⟨Nat.le_refl _, by (first | ((try clear hax); (try clear hfx); (try clear hN); (try clear g3); (try clear g2); (try clear hmx); (try clear hno); (try clear hf); omega) | omega), fun m hm => ?_, 0, by (first | ((try clear hm); (try clear hax); (try clear hfx); (try clear hx1); (try clear hN); (try clear g3); (try clear g2); (try clear hmx); (try clear hno); (try clear hf); omega) | omega), by rw [Nat.add_zero]; exact hfx⟩
    obtain rfl : m = 0 := by (first | ((try clear hax); (try clear hfx); (try clear hx1); (try clear hN); (try clear g3); (try clear g2); (try clear hmx); (try clear hno); (try clear hf); omega) | omega)
    rw [Nat.add_zero, Nat.add_zero]
    exact hax
  refine ⟨fun h1 => ⟨fun x hx hx1 hfx => hN x (by (first | ((try clear hfx); (try clear hx1); (try clear hN); (try clear g3); (try clear g2); (try clear hmx); (try clear hno); (try clear hf); omega) | omega)) hx1 hfx, fun hx h9 => ?_⟩, fun h1 => fun x hx hx1 hfx => hN x (by (first | ((try clear hfx); (try clear hx1); (try clear h9); (try clear hN); (try clear g3); (try clear g2); (try clear hmx); (try clear hno); (try clear hf); omega) | omega)) hx1 hfx⟩
  subst h1
  rcases hmx with hmx | hmx
  · (first | ((try clear h9); (try clear hN); (try clear g3); (try clear g2); (try clear hno); (try clear hf); omega) | omega)
  · refine hmx (fun m hm => ?_)
    obtain rfl : m = 0 := by (first | ((try clear h9); (try clear hN); (try clear g3); (try clear g2); (try clear hmx); (try clear hno); (try clear hf); omega) | omega)
    rw [Nat.add_zero, Nat.mul_one, Nat.add_zero]
    exact h9
/-- one fold keeps it -/
theorem pF_put {w : Rw} {a so n : Nat} (hwf : rWF w) (hq : rAq w) (hp : rSm w ∨ rAd w) (hi : pIV w) (hf9 : pHc w) (hs : fst1 w so a n) : (rSm (rput w a so n) ∨ rAd (rput w a so n)) ∧ pIV (rput w a so n) ∧ pHc (rput w a so n) := by
  obtain ⟨hf, hno, hmx⟩ := hs
  have hf0 := hf
  have ho := isFold_o hf
  obtain ⟨g1, g2, g3, g4, mf, g5, g6⟩ := hf
  have g7 : 2 * so ≤ n * so := Nat.mul_le_mul_right _ g2
  have hF := frow_alk (n := n) (by (first | ((try clear hF); (try clear g7); (try clear g6); (try clear g5); (try clear g4); (try clear g3); (try clear g1); (try clear ho); (try clear hf0); (try clear hmx); (try clear hno); (try clear hf); (try clear hp); omega) | omega)) hwf g4 (by (first | ((try clear hF); (try clear g6); (try clear g5); (try clear g4); (try clear g2); (try clear g1); (try clear ho); (try clear hf0); (try clear hmx); (try clear hno); (try clear hf); (try clear hp); omega) | omega)) so 0 (by (first | ((try clear hF); (try clear g7); (try clear g6); (try clear g5); (try clear g4); (try clear g3); (try clear g2); (try clear g1); (try clear ho); (try clear hf0); (try clear hmx); (try clear hno); (try clear hf); (try clear hp); omega) | omega))
  have hFW := frow_WF (n := n) (by (first | ((try clear hFW); (try clear hF); (try clear g7); (try clear g6); (try clear g5); (try clear g4); (try clear g3); (try clear g1); (try clear ho); (try clear hf0); (try clear hmx); (try clear hno); (try clear hf); (try clear hp); omega) | omega)) hwf g4 so 0 (by (first | ((try clear hFW); (try clear hF); (try clear g7); (try clear g6); (try clear g5); (try clear g4); (try clear g3); (try clear g2); (try clear g1); (try clear ho); (try clear hf0); (try clear hmx); (try clear hno); (try clear hf); (try clear hp); omega) | omega))
  rw [Nat.add_zero] at hF
  have hTD := fun hA => (TDr_put hf0 hwf hA).2.1
  have hFI : rI (frow w a so n 0 so) = so := by
    have h1 := ralk_rI _ _ hF
    rw [rpre_I _ _ _ (by rw [rdrop_I]; (first | ((try clear h1); (try clear hFI); (try clear hTD); (try clear hFW); (try clear hF); (try clear g6); (try clear g5); (try clear g4); (try clear g2); (try clear g1); (try clear ho); (try clear hf0); (try clear hmx); (try clear hno); (try clear hf); (try clear hp); omega) | omega))] at h1
    exact h1
  have hFa : ∀ m : Nat, m < so → halk (rdrop m (frow w a so n 0 so)) (rdrop (a + m) w) := fun m hm => by
    have h1 := alk_at m _ _ hF (by rw [hFI]; exact hm)
    rw [pre_hk hm (by rw [rdrop_I]; (first | ((try clear h1); (try clear hm); (try clear hFa); (try clear hTD); (try clear hFW); (try clear hF); (try clear g6); (try clear g5); (try clear g4); (try clear g2); (try clear g1); (try clear ho); (try clear hf0); (try clear hmx); (try clear hno); (try clear hf); (try clear hp); omega) | omega)), ← rdrop_add] at h1
    exact h1
  have hJ1 : pJ (frow w a so n 0 so) := pJ_alk hF (pJ_pre (by (first | ((try clear hFa); (try clear hTD); (try clear hFW); (try clear hF); (try clear g6); (try clear g5); (try clear g4); (try clear g2); (try clear ho); (try clear hf0); (try clear hmx); (try clear hno); (try clear hf); (try clear hp); omega) | omega)) g1 hno hi)
  have hPF1 : pHc (frow w a so n 0 so) := pHc_alk _ _ hF hFW (by
    have h1 := pHc_drop a w hf9
    exact pHc_app so _ _ h1 trivial)
  unfold rput at hTD ⊢
  generalize frow w a so n 0 so = F at hF hFW hTD hFI hFa hPF1 hJ1 ⊢
  have hFm : aFm F := ⟨mf, by rw [hFI]; exact g5, firm_hk (hFa mf g5) g6⟩
  have hD : ∀ i : Nat, rdrop i (rdrop (a + n * so) w) = rdrop (a + n * so + i) w := fun i => (rdrop_add _ _ _).symm
  generalize hDe : rdrop (a + n * so) w = D at hTD hD ⊢
  have haI : a ≤ rI w := by (first | ((try clear haI); (try clear hDe); (try clear hD); (try clear hFa); (try clear hFI); (try clear hTD); (try clear hFW); (try clear hF); (try clear g7); (try clear g6); (try clear g5); (try clear g4); (try clear g2); (try clear g1); (try clear ho); (try clear hf0); (try clear hmx); (try clear hno); (try clear hf); (try clear hp); omega) | omega)
  -- the row as it is now
  have n2 : ∀ i : Nat, rdrop (a + 1 + i) (rpre a w (.inner 0 4 (-1) F D)) = rdrop (a + n * so + i) w := fun i => by
    rw [show a + 1 + i = a + (i + 1) by (first | ((try clear n2); (try clear haI); (try clear hDe); (try clear hD); (try clear hFa); (try clear hFI); (try clear hTD); (try clear hFW); (try clear hF); (try clear g7); (try clear g6); (try clear g5); (try clear g4); (try clear g3); (try clear g2); (try clear g1); (try clear ho); (try clear hf0); (try clear hmx); (try clear hno); (try clear hf); (try clear hp); omega) | omega), pre_dr a w _ haI (i + 1), ← hD]
    rfl
  have n1 : rdrop a (rpre a w (.inner 0 4 (-1) F D)) = .inner 0 4 (-1) F D := by
    have h1 := pre_dr a w (.inner 0 4 (-1) F D) haI 0
    exact h1
  by_cases hSg : rSg F
  · -- tokens: all is plain yet
    have h1 : so = 1 := by rw [← hFI]; exact Sg_I hSg
    have hw : rSm w := by
      rcases hp with h | hA
      · exact h
      · exfalso
        subst h1
        obtain rfl : mf = 0 := by (first | ((try clear h1); (try clear hSg); (try clear n1); (try clear n2); (try clear haI); (try clear hDe); (try clear hD); (try clear hFa); (try clear hFI); (try clear hTD); (try clear hFW); (try clear hF); (try clear g7); (try clear g6); (try clear g4); (try clear g3); (try clear g2); (try clear g1); (try clear ho); (try clear hf0); (try clear hmx); (try clear hno); (try clear hf); (try clear hp); omega) | omega)
        obtain ⟨z, k, v, l, r, e⟩ := rI_pos (w := rdrop a w) (by rw [rdrop_I]; (first | ((try clear r); (try clear v); (try clear k); (try clear z); (try clear h1); (try clear hSg); (try clear n1); (try clear n2); (try clear hDe); (try clear hD); (try clear hFa); (try clear hFI); (try clear hTD); (try clear hFW); (try clear hF); (try clear g7); (try clear g6); (try clear g5); (try clear mf); (try clear g4); (try clear g1); (try clear ho); (try clear hf0); (try clear hmx); (try clear hno); (try clear hf); (try clear hp); omega) | omega))
        have ha1 := g4 1 0 (by (first | ((try clear ha1); (try clear r); (try clear v); (try clear k); (try clear z); (try clear h1); (try clear hSg); (try clear n1); (try clear n2); (try clear haI); (try clear hDe); (try clear hD); (try clear hFa); (try clear hFI); (try clear hTD); (try clear hFW); (try clear hF); (try clear g7); (try clear g6); (try clear g5); (try clear mf); (try clear g4); (try clear g3); (try clear g2); (try clear ho); (try clear hf0); (try clear hmx); (try clear hno); (try clear hf); (try clear hp); omega) | omega)) (by (first | ((try clear ha1); (try clear r); (try clear v); (try clear k); (try clear z); (try clear h1); (try clear hSg); (try clear n1); (try clear n2); (try clear haI); (try clear hDe); (try clear hD); (try clear hFa); (try clear hFI); (try clear hTD); (try clear hFW); (try clear hF); (try clear g7); (try clear g6); (try clear g5); (try clear mf); (try clear g4); (try clear g3); (try clear g1); (try clear ho); (try clear hf0); (try clear hmx); (try clear hno); (try clear hf); (try clear hp); omega) | omega)) (by (first | ((try clear ha1); (try clear r); (try clear v); (try clear k); (try clear z); (try clear h1); (try clear hSg); (try clear n1); (try clear n2); (try clear haI); (try clear hDe); (try clear hD); (try clear hFa); (try clear hFI); (try clear hTD); (try clear hFW); (try clear hF); (try clear g7); (try clear g6); (try clear mf); (try clear g4); (try clear g3); (try clear g2); (try clear g1); (try clear ho); (try clear hf0); (try clear hmx); (try clear hno); (try clear hf); (try clear hp); omega) | omega))
        rw [show a + 0 = a by (first | ((try clear ha1); (try clear r); (try clear v); (try clear k); (try clear z); (try clear h1); (try clear hSg); (try clear n1); (try clear n2); (try clear haI); (try clear hDe); (try clear hD); (try clear hFa); (try clear hFI); (try clear hTD); (try clear hFW); (try clear hF); (try clear g7); (try clear g6); (try clear g5); (try clear mf); (try clear g4); (try clear g3); (try clear g2); (try clear g1); (try clear ho); (try clear hf0); (try clear hmx); (try clear hno); (try clear hf); (try clear hp); omega) | omega), show a + 1 * 1 + 0 = a + 1 by (first | ((try clear ha1); (try clear r); (try clear v); (try clear k); (try clear z); (try clear h1); (try clear hSg); (try clear n1); (try clear n2); (try clear haI); (try clear hDe); (try clear hD); (try clear hFa); (try clear hFI); (try clear hTD); (try clear hFW); (try clear hF); (try clear g7); (try clear g6); (try clear g5); (try clear mf); (try clear g4); (try clear g3); (try clear g2); (try clear g1); (try clear ho); (try clear hf0); (try clear hmx); (try clear hno); (try clear hf); (try clear hp); omega) | omega), e, rdrop_S e] at ha1
        rw [Nat.add_zero, e] at g6
        rw [e, pre_1] at hF
        have hk : k < 3 := alk_Sg hF hSg
        have g6 : k = 0 ∨ k = 4 := g6
        obtain rfl : k = 0 := by (first | ((try clear ha1); (try clear r); (try clear v); (try clear z); (try clear h1); (try clear hSg); (try clear n1); (try clear n2); (try clear haI); (try clear hDe); (try clear hD); (try clear hFa); (try clear hFI); (try clear hTD); (try clear hFW); (try clear hF); (try clear g7); (try clear g5); (try clear mf); (try clear g4); (try clear g3); (try clear g2); (try clear g1); (try clear ho); (try clear hf0); (try clear hmx); (try clear hno); (try clear hf); (try clear hp); omega) | omega)
        have hAa := rAd_drop a w hA
        have hwa := rdrop_WF a w hwf
        rw [e] at hAa hwa
        obtain ⟨z2, k2, v2, l2, r2, er⟩ := rI_pos (w := r) (by
          have h9 := rdrop_I (a + 1) w
          rw [rdrop_S e] at h9
          (first | ((try clear er); (try clear r2); (try clear l2); (try clear v2); (try clear k2); (try clear z2); (try clear hwa); (try clear hAa); (try clear g6); (try clear hk); (try clear ha1); (try clear v); (try clear k); (try clear z); (try clear h1); (try clear hSg); (try clear n1); (try clear n2); (try clear hDe); (try clear hD); (try clear hFa); (try clear hFI); (try clear hTD); (try clear hFW); (try clear hF); (try clear g7); (try clear g5); (try clear mf); (try clear g4); (try clear g1); (try clear ho); (try clear hf0); (try clear hmx); (try clear hno); (try clear hf); (try clear hp); omega) | omega))
        rw [er] at ha1
        have ha1 : ialk 0 v l k2 v2 l2 := ha1
        have hc := alk_crI ha1
        have hv : crI 0 v l = v := by unfold crI; rw [if_pos rfl]
        refine hAa.2.1 (by rw [hv]; exact hwa.2.2.2.2.2.1 (by (first | ((try clear hc); (try clear er); (try clear r2); (try clear z2); (try clear hwa); (try clear hAa); (try clear g6); (try clear hk); (try clear ha1); (try clear r); (try clear k); (try clear z); (try clear h1); (try clear hSg); (try clear n1); (try clear n2); (try clear haI); (try clear hDe); (try clear hD); (try clear hFa); (try clear hFI); (try clear hTD); (try clear hFW); (try clear hF); (try clear g7); (try clear g5); (try clear mf); (try clear g4); (try clear g3); (try clear g2); (try clear g1); (try clear ho); (try clear hf0); (try clear hmx); (try clear hno); (try clear hf); (try clear hp); omega) | omega))) ?_
        rw [hc, er]
        rfl
    have hw2 : rSm (rpre a w (.inner 0 4 (-1) F D)) := by
      have hd : ∀ (m : Nat) (x y : Rw), rSm x → rSm y → rSm (rpre m x y) := by
        intro m
        induction m with
        | zero => intro x y _ hy; exact hy
        | succ m ih =>
          intro x y hx hy
          cases x with
          | leaf => exact hy
          | inner _ _ _ _ r => exact ⟨hx.1, ih r y hx.2 hy⟩
      have hdr : ∀ (m : Nat) (x : Rw), rSm x → rSm (rdrop m x) := by
        intro m
        induction m with
        | zero => intro x hx; exact hx
        | succ m ih =>
          intro x hx
          cases x with
          | leaf => exact hx
          | inner _ _ _ _ r => exact ih r hx.2
      exact hd a w _ hw ⟨Or.inr ⟨rfl, hSg⟩, by rw [← hDe]; exact hdr _ _ hw⟩
    refine ⟨Or.inl hw2, pIV_Sm hw2, pHc_app a w _ hf9 ⟨fun _ => ⟨fun hb9 => ?_, hJ1, hFm⟩, hPF1, by rw [← hDe]; exact pHc_drop _ _ hf9⟩⟩
    obtain ⟨z, k, v, e, hk⟩ := Sg_is hSg hFW
    rw [e] at hb9
    have hb9 : k = 4 ∧ _ := hb9
    (first | ((try clear v); (try clear z); (try clear h1); (try clear hSg); (try clear n1); (try clear n2); (try clear haI); (try clear hDe); (try clear hD); (try clear hFa); (try clear hFI); (try clear hTD); (try clear hFW); (try clear hF); (try clear g7); (try clear g6); (try clear g5); (try clear g4); (try clear g3); (try clear g2); (try clear g1); (try clear ho); (try clear hf0); (try clear hmx); (try clear hno); (try clear hf); (try clear hp); omega) | omega)
  · -- no two tags side by side
    have hA : rAd w := by
      by_cases h1 : so = 1
      · rcases hp with hw | h
        · exfalso
          subst h1
          obtain ⟨z, k, v, l, r, e, hs⟩ := sm_at a w hw (by (first | ((try clear r); (try clear v); (try clear k); (try clear z); (try clear h1); (try clear hSg); (try clear n1); (try clear n2); (try clear hDe); (try clear hD); (try clear hFa); (try clear hFI); (try clear hTD); (try clear hFW); (try clear hF); (try clear g7); (try clear g6); (try clear g5); (try clear g4); (try clear g1); (try clear ho); (try clear hf0); (try clear hmx); (try clear hno); (try clear hf); (try clear hp); omega) | omega))
          rw [e, pre_1] at hF
          obtain rfl : mf = 0 := by (first | ((try clear r); (try clear v); (try clear k); (try clear z); (try clear h1); (try clear hSg); (try clear n1); (try clear n2); (try clear haI); (try clear hDe); (try clear hD); (try clear hFa); (try clear hFI); (try clear hTD); (try clear hFW); (try clear hF); (try clear g7); (try clear g6); (try clear g4); (try clear g3); (try clear g2); (try clear g1); (try clear ho); (try clear hf0); (try clear hmx); (try clear hno); (try clear hf); (try clear hp); omega) | omega)
          rw [Nat.add_zero, e] at g6
          have g6 : k = 0 ∨ k = 4 := g6
          have hk4 : k = 4 ∧ rSg l := by
            rcases hs with hs | hs
            · exfalso
              exact hSg (alk_Sg (ralk_symm _ _ hF) hs)
            · exact hs
          obtain ⟨rfl, hl⟩ := hk4
          have ha1 := g4 1 0 (by (first | ((try clear ha1); (try clear hk4); (try clear g6); (try clear r); (try clear v); (try clear k); (try clear z); (try clear h1); (try clear hSg); (try clear n1); (try clear n2); (try clear haI); (try clear hDe); (try clear hD); (try clear hFa); (try clear hFI); (try clear hTD); (try clear hFW); (try clear hF); (try clear g7); (try clear g5); (try clear mf); (try clear g4); (try clear g3); (try clear g2); (try clear ho); (try clear hf0); (try clear hmx); (try clear hno); (try clear hf); (try clear hp); omega) | omega)) (by (first | ((try clear ha1); (try clear hk4); (try clear g6); (try clear r); (try clear v); (try clear k); (try clear z); (try clear h1); (try clear hSg); (try clear n1); (try clear n2); (try clear haI); (try clear hDe); (try clear hD); (try clear hFa); (try clear hFI); (try clear hTD); (try clear hFW); (try clear hF); (try clear g7); (try clear g5); (try clear mf); (try clear g4); (try clear g3); (try clear g1); (try clear ho); (try clear hf0); (try clear hmx); (try clear hno); (try clear hf); (try clear hp); omega) | omega)) (by (first | ((try clear ha1); (try clear hk4); (try clear g6); (try clear r); (try clear v); (try clear k); (try clear z); (try clear h1); (try clear hSg); (try clear n1); (try clear n2); (try clear haI); (try clear hDe); (try clear hD); (try clear hFa); (try clear hFI); (try clear hTD); (try clear hFW); (try clear hF); (try clear g7); (try clear mf); (try clear g4); (try clear g3); (try clear g2); (try clear g1); (try clear ho); (try clear hf0); (try clear hmx); (try clear hno); (try clear hf); (try clear hp); omega) | omega))
          rw [show a + 0 = a by (first | ((try clear ha1); (try clear hk4); (try clear g6); (try clear r); (try clear v); (try clear k); (try clear z); (try clear h1); (try clear hSg); (try clear n1); (try clear n2); (try clear haI); (try clear hDe); (try clear hD); (try clear hFa); (try clear hFI); (try clear hTD); (try clear hFW); (try clear hF); (try clear g7); (try clear g5); (try clear mf); (try clear g4); (try clear g3); (try clear g2); (try clear g1); (try clear ho); (try clear hf0); (try clear hmx); (try clear hno); (try clear hf); (try clear hp); omega) | omega), show a + 1 * 1 + 0 = a + 1 by (first | ((try clear ha1); (try clear hk4); (try clear g6); (try clear r); (try clear v); (try clear k); (try clear z); (try clear h1); (try clear hSg); (try clear n1); (try clear n2); (try clear haI); (try clear hDe); (try clear hD); (try clear hFa); (try clear hFI); (try clear hTD); (try clear hFW); (try clear hF); (try clear g7); (try clear g5); (try clear mf); (try clear g4); (try clear g3); (try clear g2); (try clear g1); (try clear ho); (try clear hf0); (try clear hmx); (try clear hno); (try clear hf); (try clear hp); omega) | omega), e, rdrop_S e] at ha1
          obtain ⟨z2, k2, v2, l2, r2, er⟩ := rI_pos (w := r) (by
            have h9 := rdrop_I (a + 1) w
            rw [rdrop_S e] at h9
            (first | ((try clear er); (try clear r2); (try clear l2); (try clear v2); (try clear k2); (try clear z2); (try clear ha1); (try clear hk4); (try clear g6); (try clear v); (try clear k); (try clear z); (try clear h1); (try clear hSg); (try clear n1); (try clear n2); (try clear hDe); (try clear hD); (try clear hFa); (try clear hFI); (try clear hTD); (try clear hFW); (try clear hF); (try clear g7); (try clear g5); (try clear mf); (try clear g4); (try clear g1); (try clear ho); (try clear hf0); (try clear hmx); (try clear hno); (try clear hf); (try clear hp); omega) | omega))
          rw [er] at ha1
          have ha1 : ialk 4 v l k2 v2 l2 := ha1
          have hqa := rAq_drop a w hq
          have hwa := rdrop_WF a w hwf
          rw [e] at hqa hwa
          obtain ⟨z5, k5, v5, e5, h5⟩ := Sg_is hl hwa.2.2.2.2.2.2.1
          by_cases h0 : k5 = 0
          · have hc : crI 4 v l = v5 := by
              unfold crI
              rw [if_neg (by (first | ((try clear hc); (try clear h5); (try clear e5); (try clear v5); (try clear z5); (try clear hwa); (try clear hqa); (try clear er); (try clear r2); (try clear l2); (try clear v2); (try clear k2); (try clear z2); (try clear ha1); (try clear hk4); (try clear g6); (try clear r); (try clear v); (try clear k); (try clear z); (try clear h1); (try clear hSg); (try clear n1); (try clear n2); (try clear haI); (try clear hDe); (try clear hD); (try clear hFa); (try clear hFI); (try clear hTD); (try clear hFW); (try clear hF); (try clear g7); (try clear g5); (try clear mf); (try clear g4); (try clear g3); (try clear g2); (try clear g1); (try clear ho); (try clear hf0); (try clear hmx); (try clear hno); (try clear hf); (try clear hp); omega) | omega)), if_pos rfl, e5]
              exact if_pos h0
            have hv5 : 0 ≤ v5 := by
              have h9 := hwa.2.2.2.2.2.2.1
              rw [e5] at h9
              exact h9.2.2.2.2.2.1 (by (first | ((try clear h9); (try clear hv5); (try clear hc); (try clear h5); (try clear e5); (try clear z5); (try clear hwa); (try clear hqa); (try clear er); (try clear r2); (try clear l2); (try clear v2); (try clear k2); (try clear z2); (try clear ha1); (try clear hk4); (try clear g6); (try clear r); (try clear k); (try clear z); (try clear h1); (try clear hSg); (try clear n1); (try clear n2); (try clear haI); (try clear hDe); (try clear hD); (try clear hFa); (try clear hFI); (try clear hTD); (try clear hFW); (try clear hF); (try clear g7); (try clear g5); (try clear mf); (try clear g4); (try clear g3); (try clear g2); (try clear g1); (try clear ho); (try clear hf0); (try clear hmx); (try clear hno); (try clear hf); (try clear hp); omega) | omega))
            have h8 := hqa.2.1 (by rw [hc]; exact hv5) (by rw [alk_crI ha1, er]; rfl)
            (first | ((try clear hv5); (try clear hc); (try clear h5); (try clear e5); (try clear z5); (try clear hwa); (try clear hqa); (try clear er); (try clear r2); (try clear l2); (try clear v2); (try clear k2); (try clear z2); (try clear ha1); (try clear hk4); (try clear g6); (try clear k); (try clear z); (try clear h1); (try clear hSg); (try clear n1); (try clear n2); (try clear haI); (try clear hDe); (try clear hD); (try clear hFa); (try clear hFI); (try clear hTD); (try clear hFW); (try clear hF); (try clear g7); (try clear g5); (try clear mf); (try clear g4); (try clear g3); (try clear g2); (try clear g1); (try clear ho); (try clear hf0); (try clear hmx); (try clear hno); (try clear hf); (try clear hp); omega) | omega)
          · refine hqa.1 rfl ?_
            rw [e5]
            exact Or.inl (by unfold isTx; (first | ((try clear e5); (try clear v5); (try clear z5); (try clear hwa); (try clear hqa); (try clear er); (try clear r2); (try clear l2); (try clear v2); (try clear k2); (try clear z2); (try clear ha1); (try clear hk4); (try clear g6); (try clear r); (try clear v); (try clear k); (try clear z); (try clear h1); (try clear hSg); (try clear n1); (try clear n2); (try clear haI); (try clear hDe); (try clear hD); (try clear hFa); (try clear hFI); (try clear hTD); (try clear hFW); (try clear hF); (try clear g7); (try clear g5); (try clear mf); (try clear g4); (try clear g3); (try clear g2); (try clear g1); (try clear ho); (try clear hf0); (try clear hmx); (try clear hno); (try clear hf); (try clear hp); omega) | omega))
        · exact h
      · refine rAq_end w hwf hq (fun x hx hx1 hfx hax => ?_)
        refine hno 1 x (Or.inl (by (first | ((try clear hax); (try clear hfx); (try clear hx1); (try clear hSg); (try clear n1); (try clear n2); (try clear haI); (try clear hDe); (try clear hD); (try clear hFa); (try clear hTD); (try clear hFW); (try clear hF); (try clear g7); (try clear g6); (try clear g5); (try clear g4); (try clear g3); (try clear g2); (try clear ho); (try clear hf0); (try clear hmx); (try clear hno); (try clear hf); (try clear hp); omega) | omega))) ⟨Nat.le_refl _, by (first | ((try clear hax); (try clear hfx); (try clear h1); (try clear hSg); (try clear n1); (try clear n2); (try clear haI); (try clear hDe); (try clear hD); (try clear hFa); (try clear hFI); (try clear hTD); (try clear hFW); (try clear hF); (try clear g7); (try clear g6); (try clear g5); (try clear g4); (try clear g3); (try clear g2); (try clear g1); (try clear ho); (try clear hf0); (try clear hmx); (try clear hno); (try clear hf); (try clear hp); omega) | omega), fun m hm => ?_, 0, by (first | ((try clear hm); (try clear hax); (try clear hfx); (try clear hx1); (try clear h1); (try clear hSg); (try clear n1); (try clear n2); (try clear haI); (try clear hDe); (try clear hD); (try clear hFa); (try clear hFI); (try clear hTD); (try clear hFW); (try clear hF); (try clear g7); (try clear g6); (try clear g5); (try clear g4); (try clear g3); (try clear g2); (try clear g1); (try clear ho); (try clear hf0); (try clear hmx); (try clear hno); (try clear hf); (try clear hp); omega) | omega), by rw [Nat.add_zero]; exact hfx⟩
        obtain rfl : m = 0 := by (first | ((try clear hax); (try clear hfx); (try clear hx1); (try clear h1); (try clear hSg); (try clear n1); (try clear n2); (try clear haI); (try clear hDe); (try clear hD); (try clear hFa); (try clear hFI); (try clear hTD); (try clear hFW); (try clear hF); (try clear g7); (try clear g6); (try clear g5); (try clear g4); (try clear g3); (try clear g2); (try clear g1); (try clear ho); (try clear hf0); (try clear hmx); (try clear hno); (try clear hf); (try clear hp); omega) | omega)
        rw [Nat.add_zero, Nat.add_zero]
        exact hax
    -- a place alike to plain items holds not the new repeat
    have nR : ∀ (X : Rw) (q : Nat), rSm X → q ≤ a → a < q + rI X → ¬ aAt X (rpre a w (.inner 0 4 (-1) F D)) q := fun X q hX h1 h2 h => by
      have h3 := h (a - q) (by (first | ((try clear h3); (try clear h); (try clear nR); (try clear hSg); (try clear n1); (try clear n2); (try clear haI); (try clear hDe); (try clear hD); (try clear hFa); (try clear hFI); (try clear hTD); (try clear hFW); (try clear hF); (try clear g7); (try clear g6); (try clear g5); (try clear g4); (try clear g3); (try clear g2); (try clear g1); (try clear ho); (try clear hf0); (try clear hmx); (try clear hno); (try clear hf); (try clear hp); omega) | omega))
      rw [show q + (a - q) = a by (first | ((try clear h3); (try clear h); (try clear h2); (try clear nR); (try clear hSg); (try clear n1); (try clear n2); (try clear haI); (try clear hDe); (try clear hD); (try clear hFa); (try clear hFI); (try clear hTD); (try clear hFW); (try clear hF); (try clear g7); (try clear g6); (try clear g5); (try clear g4); (try clear g3); (try clear g2); (try clear g1); (try clear ho); (try clear hf0); (try clear hmx); (try clear hno); (try clear hf); (try clear hp); omega) | omega), n1] at h3
      exact sm_no hX (by (first | ((try clear h3); (try clear h); (try clear nR); (try clear hSg); (try clear n1); (try clear n2); (try clear haI); (try clear hDe); (try clear hD); (try clear hFa); (try clear hFI); (try clear hTD); (try clear hFW); (try clear hF); (try clear g7); (try clear g6); (try clear g5); (try clear g4); (try clear g3); (try clear g2); (try clear g1); (try clear ho); (try clear hf0); (try clear hmx); (try clear hno); (try clear hf); (try clear hp); omega) | omega)) hSg h3
    -- ahead of it all is as before
    have nA : ∀ (X : Rw) (q : Nat), q + rI X ≤ a → (aAt X (rpre a w (.inner 0 4 (-1) F D)) q → aAt X w q) := fun X q h1 h m hm => (pre_hk (by (first | ((try clear h); (try clear nA); (try clear nR); (try clear hSg); (try clear n1); (try clear n2); (try clear haI); (try clear hDe); (try clear hD); (try clear hFa); (try clear hFI); (try clear hTD); (try clear hFW); (try clear hF); (try clear g7); (try clear g6); (try clear g5); (try clear g4); (try clear g3); (try clear g2); (try clear g1); (try clear ho); (try clear hf0); (try clear hmx); (try clear hno); (try clear hf); (try clear hp); omega) | omega)) haI).mp (h m hm)
    have nB : ∀ (X : Rw) (q : Nat), (aAt X (rpre a w (.inner 0 4 (-1) F D)) (a + 1 + q) → aAt X w (a + n * so + q)) := fun X q h m hm => by
      have h3 := h m hm
      rw [show a + 1 + q + m = a + 1 + (q + m) by (first | ((try clear h3); (try clear hm); (try clear h); (try clear nB); (try clear nA); (try clear nR); (try clear hSg); (try clear n1); (try clear n2); (try clear haI); (try clear hDe); (try clear hD); (try clear hFa); (try clear hFI); (try clear hTD); (try clear hFW); (try clear hF); (try clear g7); (try clear g6); (try clear g5); (try clear g4); (try clear g3); (try clear g2); (try clear g1); (try clear ho); (try clear hf0); (try clear hmx); (try clear hno); (try clear hf); (try clear hp); omega) | omega), n2] at h3
      rw [show a + n * so + q + m = a + n * so + (q + m) by (first | ((try clear h3); (try clear hm); (try clear h); (try clear nB); (try clear nA); (try clear nR); (try clear hSg); (try clear n1); (try clear n2); (try clear haI); (try clear hDe); (try clear hD); (try clear hFa); (try clear hFI); (try clear hTD); (try clear hFW); (try clear hF); (try clear g7); (try clear g6); (try clear g5); (try clear g4); (try clear g3); (try clear g2); (try clear g1); (try clear ho); (try clear hf0); (try clear hmx); (try clear hno); (try clear hf); (try clear hp); omega) | omega)]
      exact h3
    -- its own content, where it is plain, stands once ahead in the row
    have hXX : ∀ X : Rw, ralk X F → ∀ e : Nat, e < n → aAt X w (a + e * so) := fun X hX e he m hm => by
      have h0 := ralk_rI _ _ hX
      have h1 := halk_tr (alk_at m X F hX hm) (hFa m (by (first | ((try clear h1); (try clear he); (try clear hXX); (try clear nB); (try clear nA); (try clear nR); (try clear hSg); (try clear n1); (try clear n2); (try clear haI); (try clear hDe); (try clear hD); (try clear hFa); (try clear hTD); (try clear hFW); (try clear hF); (try clear g7); (try clear g6); (try clear g5); (try clear g4); (try clear g3); (try clear g2); (try clear g1); (try clear ho); (try clear hf0); (try clear hmx); (try clear hno); (try clear hf); (try clear hp); omega) | omega)))
      by_cases e0 : e = 0
      · subst e0
        rw [Nat.zero_mul, Nat.add_zero]
        exact h1
      · exact halk_tr h1 (g4 e m (by (first | ((try clear h1); (try clear hm); (try clear he); (try clear hXX); (try clear nB); (try clear nA); (try clear nR); (try clear hSg); (try clear n1); (try clear n2); (try clear haI); (try clear hDe); (try clear hD); (try clear hFa); (try clear hFI); (try clear hTD); (try clear hFW); (try clear hF); (try clear g7); (try clear g6); (try clear g5); (try clear g4); (try clear g3); (try clear g2); (try clear g1); (try clear ho); (try clear hf0); (try clear hmx); (try clear hno); (try clear hf); (try clear hp); omega) | omega)) he (by (first | ((try clear e0); (try clear h1); (try clear he); (try clear hXX); (try clear nB); (try clear nA); (try clear nR); (try clear hSg); (try clear n1); (try clear n2); (try clear haI); (try clear hDe); (try clear hD); (try clear hFa); (try clear hTD); (try clear hFW); (try clear hF); (try clear g7); (try clear g6); (try clear g5); (try clear g4); (try clear g3); (try clear g2); (try clear g1); (try clear ho); (try clear hf0); (try clear hmx); (try clear hno); (try clear hf); (try clear hp); omega) | omega)))
    refine ⟨Or.inr (hTD hA), fun p z v X r e hX h2 => ?_, pHc_app a w _ hf9 ⟨fun _ => ⟨fun hb9 => ?_, hJ1, hFm⟩, hPF1, by rw [← hDe]; exact pHc_drop _ _ hf9⟩⟩
    · by_cases hpa : p < a
      · -- ahead
        obtain ⟨z3, k3, v3, l3, r3, e1, e2⟩ := pre_at p a w (.inner 0 4 (-1) F D) hpa haI
        rw [e] at e2
        cases e2
        obtain ⟨i1, i2⟩ := hi p z v X r3 e1 hX h2
        refine ⟨fun q hq9 h => ?_, fun z2 v2 X2 r2 e3 h => ?_⟩
        · by_cases h9 : q + rI X ≤ a
          · exact i1 q hq9 (nA X q h9 h)
          · exact nR X q hX (by (first | ((try clear h9); (try clear h); (try clear e3); (try clear r2); (try clear X2); (try clear v2); (try clear z2); (try clear i2); (try clear i1); (try clear e2); (try clear e1); (try clear r3); (try clear l3); (try clear v3); (try clear k3); (try clear z3); (try clear hb9); (try clear r); (try clear v); (try clear z); (try clear hXX); (try clear nB); (try clear nA); (try clear nR); (try clear hSg); (try clear n1); (try clear n2); (try clear haI); (try clear hDe); (try clear hD); (try clear hFa); (try clear hFI); (try clear hTD); (try clear hFW); (try clear hF); (try clear g7); (try clear g6); (try clear g5); (try clear g4); (try clear g3); (try clear g2); (try clear g1); (try clear ho); (try clear hf0); (try clear hmx); (try clear hno); (try clear hf); (try clear hp); omega) | omega)) (by (first | ((try clear h); (try clear e3); (try clear r2); (try clear X2); (try clear v2); (try clear z2); (try clear hq9); (try clear i2); (try clear i1); (try clear e2); (try clear e1); (try clear r3); (try clear l3); (try clear v3); (try clear k3); (try clear z3); (try clear hpa); (try clear hb9); (try clear h2); (try clear r); (try clear v); (try clear z); (try clear hXX); (try clear nB); (try clear nA); (try clear nR); (try clear hSg); (try clear n1); (try clear n2); (try clear haI); (try clear hDe); (try clear hD); (try clear hFa); (try clear hFI); (try clear hTD); (try clear hFW); (try clear hF); (try clear g7); (try clear g6); (try clear g5); (try clear g4); (try clear g3); (try clear g2); (try clear g1); (try clear ho); (try clear hf0); (try clear hmx); (try clear hno); (try clear hf); (try clear hp); omega) | omega)) h
        · by_cases h9 : p + 1 < a
          · obtain ⟨z4, k4, v4, l4, r4, e4, e5⟩ := pre_at (p + 1) a w (.inner 0 4 (-1) F D) h9 haI
            rw [e3] at e5
            cases e5
            exact i2 z2 v2 X2 r4 e4 h
          · have hp1 : p + 1 = a := by (first | ((try clear hp1); (try clear h); (try clear e3); (try clear r2); (try clear X2); (try clear v2); (try clear z2); (try clear hq9); (try clear i2); (try clear i1); (try clear e2); (try clear e1); (try clear r3); (try clear l3); (try clear v3); (try clear k3); (try clear z3); (try clear hb9); (try clear h2); (try clear r); (try clear v); (try clear z); (try clear hXX); (try clear nB); (try clear nA); (try clear nR); (try clear hSg); (try clear n1); (try clear n2); (try clear haI); (try clear hDe); (try clear hD); (try clear hFa); (try clear hFI); (try clear hTD); (try clear hFW); (try clear hF); (try clear g7); (try clear g6); (try clear g5); (try clear g4); (try clear g3); (try clear g2); (try clear g1); (try clear ho); (try clear hf0); (try clear hmx); (try clear hno); (try clear hf); (try clear hp); omega) | omega)
            rw [hp1, n1] at e3
            cases e3
            have h8 := hXX X h 0 (by (first | ((try clear h8); (try clear hp1); (try clear h9); (try clear h); (try clear e3); (try clear r2); (try clear X2); (try clear v2); (try clear z2); (try clear hq9); (try clear i2); (try clear i1); (try clear e2); (try clear e1); (try clear r3); (try clear l3); (try clear v3); (try clear k3); (try clear z3); (try clear hpa); (try clear hb9); (try clear h2); (try clear r); (try clear v); (try clear z); (try clear hXX); (try clear nB); (try clear nA); (try clear nR); (try clear hSg); (try clear n1); (try clear n2); (try clear haI); (try clear hDe); (try clear hD); (try clear hFa); (try clear hFI); (try clear hTD); (try clear hFW); (try clear hF); (try clear g7); (try clear g6); (try clear g5); (try clear g4); (try clear g3); (try clear g1); (try clear ho); (try clear hf0); (try clear hmx); (try clear hno); (try clear hf); (try clear hp); omega) | omega))
            rw [Nat.zero_mul, Nat.add_zero, ← hp1] at h8
            exact i1 (p + 1) (Or.inl rfl) h8
      · by_cases hpe : p = a
        · -- the new one
          subst hpe
          rw [n1] at e
          cases e
          refine ⟨fun q hq9 h => ?_, fun z2 v2 X2 r2 e3 h => ?_⟩
          · rcases hq9 with rfl | hq9
            · have h8 := nB F 0 h
              rw [Nat.add_zero] at h8
              rcases hmx with hmx | hmx
              · -- too few are left
                have h7 := h8 (so - 1) (by (first | ((try clear h7); (try clear h8); (try clear h); (try clear e3); (try clear r2); (try clear X2); (try clear v2); (try clear z2); (try clear hq9); (try clear hpe); (try clear hpa); (try clear hb9); (try clear r); (try clear v); (try clear z); (try clear hXX); (try clear nB); (try clear nA); (try clear nR); (try clear hSg); (try clear n1); (try clear n2); (try clear haI); (try clear hDe); (try clear hD); (try clear hFa); (try clear hTD); (try clear hFW); (try clear hF); (try clear g7); (try clear g6); (try clear g5); (try clear g4); (try clear g3); (try clear g2); (try clear g1); (try clear ho); (try clear hf0); (try clear hmx); (try clear hno); (try clear hf); (try clear hp); omega) | omega))
                have h6 : rI (rdrop (p + n * so + (so - 1)) w) = 0 := by
                  rw [rdrop_I, Nat.succ_mul] at *
                  (first | ((try clear h6); (try clear h7); (try clear h8); (try clear h); (try clear e3); (try clear r2); (try clear X2); (try clear v2); (try clear z2); (try clear hq9); (try clear hpe); (try clear hpa); (try clear hb9); (try clear r); (try clear v); (try clear z); (try clear hXX); (try clear nB); (try clear nA); (try clear nR); (try clear hSg); (try clear n1); (try clear n2); (try clear haI); (try clear hDe); (try clear hD); (try clear hFa); (try clear hTD); (try clear hFW); (try clear hF); (try clear g7); (try clear g6); (try clear g5); (try clear g4); (try clear g3); (try clear g2); (try clear g1); (try clear ho); (try clear hf0); (try clear hno); (try clear hf); (try clear hp); omega) | omega)
                obtain ⟨z5, k5, v5, l5, r5, z6, k6, v6, l6, r6, e5, e6, _⟩ := halk_one h7
                rw [e6, rI_in] at h6
                (first | ((try clear e6); (try clear e5); (try clear l6); (try clear v6); (try clear k6); (try clear z6); (try clear r5); (try clear l5); (try clear v5); (try clear k5); (try clear z5); (try clear h7); (try clear h8); (try clear h); (try clear e3); (try clear r2); (try clear X2); (try clear v2); (try clear z2); (try clear hq9); (try clear hpe); (try clear hpa); (try clear hb9); (try clear h2); (try clear r); (try clear v); (try clear z); (try clear hXX); (try clear nB); (try clear nA); (try clear nR); (try clear hSg); (try clear n1); (try clear n2); (try clear haI); (try clear hDe); (try clear hD); (try clear hFa); (try clear hFI); (try clear hTD); (try clear hFW); (try clear hF); (try clear g7); (try clear g6); (try clear g5); (try clear g4); (try clear g3); (try clear g2); (try clear g1); (try clear ho); (try clear hf0); (try clear hmx); (try clear hno); (try clear hf); (try clear hp); omega) | omega)
              · refine hmx (fun m hm => ?_)
                exact halk_tr (halk_sy (hFa m hm)) (h8 m (by (first | ((try clear h8); (try clear h); (try clear e3); (try clear r2); (try clear X2); (try clear v2); (try clear z2); (try clear hq9); (try clear hpe); (try clear hpa); (try clear hb9); (try clear h2); (try clear r); (try clear v); (try clear z); (try clear hXX); (try clear nB); (try clear nA); (try clear nR); (try clear hSg); (try clear n1); (try clear n2); (try clear haI); (try clear hDe); (try clear hD); (try clear hFa); (try clear hTD); (try clear hFW); (try clear hF); (try clear g7); (try clear g6); (try clear g5); (try clear g4); (try clear g3); (try clear g2); (try clear g1); (try clear ho); (try clear hf0); (try clear hmx); (try clear hno); (try clear hf); (try clear hp); omega) | omega)))
            · have h8 := nA F q (by (first | ((try clear h8); (try clear h); (try clear e3); (try clear r2); (try clear X2); (try clear v2); (try clear z2); (try clear hpe); (try clear hpa); (try clear hb9); (try clear h2); (try clear r); (try clear v); (try clear z); (try clear hXX); (try clear nB); (try clear nA); (try clear nR); (try clear hSg); (try clear n1); (try clear n2); (try clear haI); (try clear hDe); (try clear hD); (try clear hFa); (try clear hFI); (try clear hTD); (try clear hFW); (try clear hF); (try clear g7); (try clear g6); (try clear g5); (try clear g4); (try clear g3); (try clear g2); (try clear g1); (try clear ho); (try clear hf0); (try clear hmx); (try clear hno); (try clear hf); (try clear hp); omega) | omega)) h
              refine hno so q (Or.inr ⟨rfl, by (first | ((try clear h8); (try clear h); (try clear e3); (try clear r2); (try clear X2); (try clear v2); (try clear z2); (try clear hpe); (try clear hpa); (try clear hb9); (try clear r); (try clear v); (try clear z); (try clear hXX); (try clear nB); (try clear nA); (try clear nR); (try clear hSg); (try clear n1); (try clear n2); (try clear haI); (try clear hDe); (try clear hD); (try clear hFa); (try clear hFI); (try clear hTD); (try clear hFW); (try clear hF); (try clear g7); (try clear g6); (try clear g5); (try clear g4); (try clear g3); (try clear g2); (try clear g1); (try clear ho); (try clear hf0); (try clear hmx); (try clear hno); (try clear hf); (try clear hp); omega) | omega)⟩) ⟨g1, by (first | ((try clear h8); (try clear h); (try clear e3); (try clear r2); (try clear X2); (try clear v2); (try clear z2); (try clear hpe); (try clear hpa); (try clear hb9); (try clear r); (try clear v); (try clear z); (try clear hXX); (try clear nB); (try clear nA); (try clear nR); (try clear hSg); (try clear n1); (try clear n2); (try clear haI); (try clear hDe); (try clear hD); (try clear hFa); (try clear hTD); (try clear hFW); (try clear hF); (try clear g6); (try clear g5); (try clear g4); (try clear g2); (try clear g1); (try clear ho); (try clear hf0); (try clear hmx); (try clear hno); (try clear hf); (try clear hp); omega) | omega), fun m hm => ?_, mf, g5, ?_⟩
              · have h5 := halk_tr (halk_sy (h8 m (by (first | ((try clear h5); (try clear h8); (try clear h); (try clear e3); (try clear r2); (try clear X2); (try clear v2); (try clear z2); (try clear hpe); (try clear hpa); (try clear hb9); (try clear h2); (try clear r); (try clear v); (try clear z); (try clear hXX); (try clear nB); (try clear nA); (try clear nR); (try clear hSg); (try clear n1); (try clear n2); (try clear haI); (try clear hDe); (try clear hD); (try clear hFa); (try clear hTD); (try clear hFW); (try clear hF); (try clear g7); (try clear g6); (try clear g5); (try clear g4); (try clear g3); (try clear g2); (try clear g1); (try clear ho); (try clear hf0); (try clear hmx); (try clear hno); (try clear hf); (try clear hp); omega) | omega)))) (hFa m hm)
                rw [show q + so + m = p + m by (first | ((try clear h5); (try clear hm); (try clear h8); (try clear h); (try clear e3); (try clear r2); (try clear X2); (try clear v2); (try clear z2); (try clear hpe); (try clear hpa); (try clear hb9); (try clear h2); (try clear r); (try clear v); (try clear z); (try clear hXX); (try clear nB); (try clear nA); (try clear nR); (try clear hSg); (try clear n1); (try clear n2); (try clear haI); (try clear hDe); (try clear hD); (try clear hFa); (try clear hTD); (try clear hFW); (try clear hF); (try clear g7); (try clear g6); (try clear g5); (try clear g4); (try clear g3); (try clear g2); (try clear g1); (try clear ho); (try clear hf0); (try clear hmx); (try clear hno); (try clear hf); (try clear hp); omega) | omega)]
                exact h5
              · have h5 := halk_tr (halk_sy (h8 mf (by (first | ((try clear h5); (try clear hm); (try clear h8); (try clear h); (try clear e3); (try clear r2); (try clear X2); (try clear v2); (try clear z2); (try clear hpe); (try clear hpa); (try clear hb9); (try clear h2); (try clear r); (try clear v); (try clear z); (try clear hXX); (try clear nB); (try clear nA); (try clear nR); (try clear hSg); (try clear n1); (try clear n2); (try clear haI); (try clear hDe); (try clear hD); (try clear hFa); (try clear hTD); (try clear hFW); (try clear hF); (try clear g7); (try clear g6); (try clear g4); (try clear g3); (try clear g2); (try clear g1); (try clear ho); (try clear hf0); (try clear hmx); (try clear hno); (try clear hf); (try clear hp); omega) | omega)))) (hFa mf g5)
                obtain ⟨z5, k5, v5, l5, r5, z6, k6, v6, l6, r6, e5, e6, h4⟩ := halk_one h5
                rw [e6] at g6
                rw [e5]
                have e9 := alk_k h4
                have g6 : k6 = 0 ∨ k6 = 4 := g6
                show k5 = 0 ∨ k5 = 4
                rcases g6 with g6 | g6
                · exact Or.inl (e9.2.1.mpr g6)
                · exact Or.inr (e9.2.2.2.1.mpr g6)
          · have e4 := n2 0
            rw [Nat.add_zero, Nat.add_zero, e3] at e4
            have h9 := ralk_rI _ _ h
            obtain ⟨i1, _⟩ := hi (p + n * so) z2 v2 X2 r2 e4.symm (alk_Sm _ _ h hX) (by (first | ((try clear i1); (try clear e4); (try clear h); (try clear e3); (try clear r2); (try clear v2); (try clear z2); (try clear hq9); (try clear hpe); (try clear hpa); (try clear hb9); (try clear r); (try clear v); (try clear z); (try clear hXX); (try clear nB); (try clear nA); (try clear nR); (try clear hSg); (try clear n1); (try clear n2); (try clear haI); (try clear hDe); (try clear hD); (try clear hFa); (try clear hFI); (try clear hTD); (try clear hFW); (try clear hF); (try clear g7); (try clear g6); (try clear g5); (try clear g4); (try clear g3); (try clear g2); (try clear g1); (try clear ho); (try clear hf0); (try clear hmx); (try clear hno); (try clear hf); (try clear hp); omega) | omega))
            have hne : (n - 1) * so + so = n * so := by
              rw [← Nat.succ_mul]
              congr 1
              (first | ((try clear hne); (try clear i1); (try clear h9); (try clear e4); (try clear h); (try clear e3); (try clear r2); (try clear v2); (try clear z2); (try clear hq9); (try clear hpe); (try clear hpa); (try clear hb9); (try clear h2); (try clear r); (try clear v); (try clear z); (try clear hXX); (try clear nB); (try clear nA); (try clear nR); (try clear hSg); (try clear n1); (try clear n2); (try clear haI); (try clear hDe); (try clear hD); (try clear hFa); (try clear hFI); (try clear hTD); (try clear hFW); (try clear hF); (try clear g7); (try clear g6); (try clear g5); (try clear g4); (try clear g3); (try clear g1); (try clear ho); (try clear hf0); (try clear hmx); (try clear hno); (try clear hf); (try clear hp); omega) | omega)
            refine i1 (p + (n - 1) * so) (Or.inr (by (first | ((try clear i1); (try clear e4); (try clear h); (try clear e3); (try clear r2); (try clear v2); (try clear z2); (try clear hq9); (try clear hpe); (try clear hpa); (try clear hb9); (try clear h2); (try clear r); (try clear v); (try clear z); (try clear hXX); (try clear nB); (try clear nA); (try clear nR); (try clear hSg); (try clear n1); (try clear n2); (try clear haI); (try clear hDe); (try clear hD); (try clear hFa); (try clear hTD); (try clear hFW); (try clear hF); (try clear g7); (try clear g6); (try clear g5); (try clear g4); (try clear g3); (try clear g2); (try clear g1); (try clear ho); (try clear hf0); (try clear hmx); (try clear hno); (try clear hf); (try clear hp); omega) | omega))) ?_
            exact hXX X2 (ralk_symm _ _ h) (n - 1) (by (first | ((try clear hne); (try clear i1); (try clear h9); (try clear e4); (try clear h); (try clear e3); (try clear r2); (try clear v2); (try clear z2); (try clear hq9); (try clear hpe); (try clear hpa); (try clear hb9); (try clear h2); (try clear r); (try clear v); (try clear z); (try clear hXX); (try clear nB); (try clear nA); (try clear nR); (try clear hSg); (try clear n1); (try clear n2); (try clear haI); (try clear hDe); (try clear hD); (try clear hFa); (try clear hFI); (try clear hTD); (try clear hFW); (try clear hF); (try clear g7); (try clear g6); (try clear g5); (try clear g4); (try clear g3); (try clear g1); (try clear ho); (try clear hf0); (try clear hmx); (try clear hno); (try clear hf); (try clear hp); omega) | omega))
        · -- behind
          obtain ⟨i, rfl⟩ : ∃ i, p = a + 1 + i := ⟨p - a - 1, by (first | ((try clear i); (try clear hb9); (try clear h2); (try clear r); (try clear v); (try clear z); (try clear hXX); (try clear nB); (try clear nA); (try clear nR); (try clear hSg); (try clear n1); (try clear n2); (try clear haI); (try clear hDe); (try clear hD); (try clear hFa); (try clear hFI); (try clear hTD); (try clear hFW); (try clear hF); (try clear g7); (try clear g6); (try clear g5); (try clear g4); (try clear g3); (try clear g2); (try clear g1); (try clear ho); (try clear hf0); (try clear hmx); (try clear hno); (try clear hf); (try clear hp); omega) | omega)⟩
          rw [n2] at e
          obtain ⟨i1, i2⟩ := hi (a + n * so + i) z v X r e hX h2
          refine ⟨fun q hq9 h => ?_, fun z2 v2 X2 r2 e3 h => ?_⟩
          · by_cases h9 : a < q
            · obtain ⟨j, rfl⟩ : ∃ j, q = a + 1 + j := ⟨q - a - 1, by (first | ((try clear j); (try clear h); (try clear e3); (try clear r2); (try clear X2); (try clear v2); (try clear z2); (try clear hq9); (try clear i2); (try clear i1); (try clear hpe); (try clear hpa); (try clear hb9); (try clear h2); (try clear r); (try clear v); (try clear z); (try clear hXX); (try clear nB); (try clear nA); (try clear nR); (try clear hSg); (try clear n1); (try clear n2); (try clear haI); (try clear hDe); (try clear hD); (try clear hFa); (try clear hFI); (try clear hTD); (try clear hFW); (try clear hF); (try clear g7); (try clear g6); (try clear g5); (try clear g4); (try clear g3); (try clear g2); (try clear g1); (try clear ho); (try clear hf0); (try clear hmx); (try clear hno); (try clear hf); (try clear hp); omega) | omega)⟩
              exact i1 (a + n * so + j) (by (first | ((try clear h9); (try clear h); (try clear e3); (try clear r2); (try clear X2); (try clear v2); (try clear z2); (try clear i2); (try clear i1); (try clear hpe); (try clear hpa); (try clear hb9); (try clear r); (try clear v); (try clear z); (try clear hXX); (try clear nB); (try clear nA); (try clear nR); (try clear hSg); (try clear n1); (try clear n2); (try clear haI); (try clear hDe); (try clear hD); (try clear hFa); (try clear hFI); (try clear hTD); (try clear hFW); (try clear hF); (try clear g7); (try clear g6); (try clear g5); (try clear g4); (try clear g3); (try clear g2); (try clear g1); (try clear ho); (try clear hf0); (try clear hmx); (try clear hno); (try clear hf); (try clear hp); omega) | omega)) (nB X j h)
            · exact nR X q hX (by (first | ((try clear h); (try clear e3); (try clear r2); (try clear X2); (try clear v2); (try clear z2); (try clear hq9); (try clear i2); (try clear i1); (try clear hpe); (try clear hpa); (try clear hb9); (try clear h2); (try clear r); (try clear v); (try clear z); (try clear hXX); (try clear nB); (try clear nA); (try clear nR); (try clear hSg); (try clear n1); (try clear n2); (try clear haI); (try clear hDe); (try clear hD); (try clear hFa); (try clear hFI); (try clear hTD); (try clear hFW); (try clear hF); (try clear g7); (try clear g6); (try clear g5); (try clear g4); (try clear g3); (try clear g2); (try clear g1); (try clear ho); (try clear hf0); (try clear hmx); (try clear hno); (try clear hf); (try clear hp); omega) | omega)) (by (first | ((try clear h9); (try clear h); (try clear e3); (try clear r2); (try clear X2); (try clear v2); (try clear z2); (try clear i2); (try clear i1); (try clear hpe); (try clear hpa); (try clear hb9); (try clear r); (try clear v); (try clear z); (try clear hXX); (try clear nB); (try clear nA); (try clear nR); (try clear hSg); (try clear n1); (try clear n2); (try clear haI); (try clear hDe); (try clear hD); (try clear hFa); (try clear hFI); (try clear hTD); (try clear hFW); (try clear hF); (try clear g7); (try clear g6); (try clear g5); (try clear g4); (try clear g3); (try clear g2); (try clear g1); (try clear ho); (try clear hf0); (try clear hmx); (try clear hno); (try clear hf); (try clear hp); omega) | omega)) h
          · rw [show a + 1 + i + 1 = a + 1 + (i + 1) by (first | ((try clear h); (try clear e3); (try clear r2); (try clear X2); (try clear v2); (try clear z2); (try clear hq9); (try clear i2); (try clear i1); (try clear hpe); (try clear hpa); (try clear hb9); (try clear h2); (try clear r); (try clear v); (try clear z); (try clear hXX); (try clear nB); (try clear nA); (try clear nR); (try clear hSg); (try clear n1); (try clear n2); (try clear haI); (try clear hDe); (try clear hD); (try clear hFa); (try clear hFI); (try clear hTD); (try clear hFW); (try clear hF); (try clear g7); (try clear g6); (try clear g5); (try clear g4); (try clear g3); (try clear g2); (try clear g1); (try clear ho); (try clear hf0); (try clear hmx); (try clear hno); (try clear hf); (try clear hp); omega) | omega), n2] at e3
            exact i2 z2 v2 X2 r2 (by rw [show a + n * so + i + 1 = a + n * so + (i + 1) by (first | ((try clear h); (try clear e3); (try clear r2); (try clear X2); (try clear v2); (try clear z2); (try clear hq9); (try clear i2); (try clear i1); (try clear hpe); (try clear hpa); (try clear hb9); (try clear h2); (try clear r); (try clear v); (try clear z); (try clear hXX); (try clear nB); (try clear nA); (try clear nR); (try clear hSg); (try clear n1); (try clear n2); (try clear haI); (try clear hDe); (try clear hD); (try clear hFa); (try clear hFI); (try clear hTD); (try clear hFW); (try clear hF); (try clear g7); (try clear g6); (try clear g5); (try clear g4); (try clear g3); (try clear g2); (try clear g1); (try clear ho); (try clear hf0); (try clear hmx); (try clear hno); (try clear hf); (try clear hp); omega) | omega)]; exact e3) h
    · -- what it holds is not one repeat of plain items
      cases F with
      | leaf => exact hb9.elim
      | inner z5 k5 v5 X r5 =>
        cases r5 with
        | inner _ _ _ _ _ => exact hb9.elim
        | leaf =>
          have hb9 : k5 = 4 ∧ rSm X := hb9
          have h1 : so = 1 := hFI.symm
          obtain ⟨rfl, hX⟩ := hb9
          subst h1
          have q0 := hFa 0 (by (first | ((try clear h1); (try clear hb9); (try clear r5); (try clear k5); (try clear h2); (try clear r); (try clear v); (try clear z); (try clear hXX); (try clear nB); (try clear nA); (try clear nR); (try clear hSg); (try clear n1); (try clear n2); (try clear haI); (try clear hDe); (try clear hD); (try clear hFa); (try clear hFI); (try clear hTD); (try clear hFW); (try clear hF); (try clear g7); (try clear g6); (try clear g5); (try clear g4); (try clear g3); (try clear g2); (try clear g1); (try clear ho); (try clear hf0); (try clear hmx); (try clear hno); (try clear hf); (try clear hp); omega) | omega))
          have q1 := g4 1 0 (by (first | ((try clear h1); (try clear hb9); (try clear r5); (try clear v5); (try clear k5); (try clear z5); (try clear h2); (try clear r); (try clear v); (try clear z); (try clear hXX); (try clear nB); (try clear nA); (try clear nR); (try clear hSg); (try clear n1); (try clear n2); (try clear haI); (try clear hDe); (try clear hD); (try clear hFa); (try clear hFI); (try clear hTD); (try clear hFW); (try clear hF); (try clear g7); (try clear g6); (try clear g5); (try clear mf); (try clear g4); (try clear g3); (try clear g2); (try clear ho); (try clear hf0); (try clear hmx); (try clear hno); (try clear hf); (try clear hp); omega) | omega)) (by (first | ((try clear h1); (try clear hb9); (try clear r5); (try clear k5); (try clear h2); (try clear r); (try clear v); (try clear z); (try clear hXX); (try clear nB); (try clear nA); (try clear nR); (try clear hSg); (try clear n1); (try clear n2); (try clear haI); (try clear hDe); (try clear hD); (try clear hFa); (try clear hFI); (try clear hTD); (try clear hFW); (try clear hF); (try clear g7); (try clear g6); (try clear g5); (try clear g4); (try clear g3); (try clear g1); (try clear ho); (try clear hf0); (try clear hmx); (try clear hno); (try clear hf); (try clear hp); omega) | omega)) (by (first | ((try clear h1); (try clear hb9); (try clear r5); (try clear k5); (try clear h2); (try clear r); (try clear v); (try clear z); (try clear hXX); (try clear nB); (try clear nA); (try clear nR); (try clear hSg); (try clear n1); (try clear n2); (try clear haI); (try clear hDe); (try clear hD); (try clear hFa); (try clear hFI); (try clear hTD); (try clear hFW); (try clear hF); (try clear g7); (try clear g6); (try clear g5); (try clear g4); (try clear g3); (try clear g2); (try clear g1); (try clear ho); (try clear hf0); (try clear hmx); (try clear hno); (try clear hf); (try clear hp); omega) | omega))
          rw [Nat.add_zero] at q0 q1
          rw [show a + 1 * 1 + 0 = a + 1 by (first | ((try clear h1); (try clear hb9); (try clear r5); (try clear k5); (try clear h2); (try clear r); (try clear v); (try clear z); (try clear hXX); (try clear nB); (try clear nA); (try clear nR); (try clear hSg); (try clear n1); (try clear n2); (try clear haI); (try clear hDe); (try clear hD); (try clear hFa); (try clear hFI); (try clear hTD); (try clear hFW); (try clear hF); (try clear g7); (try clear g6); (try clear g5); (try clear g4); (try clear g3); (try clear g2); (try clear g1); (try clear ho); (try clear hf0); (try clear hmx); (try clear hno); (try clear hf); (try clear hp); omega) | omega)] at q1
          obtain ⟨z6, k6, v6, l6, r6, z7, k7, v7, l7, r7, e6, e7, h4⟩ := halk_one q1
          rw [e6] at q0
          have q0 : ialk 4 v5 X k6 v6 l6 := q0
          have e9 := alk_k q0
          obtain rfl : k6 = 4 := e9.2.2.2.1.mp rfl
          have e8 := alk_k h4
          obtain rfl : k7 = 4 := e8.2.2.2.1.mp rfl
          have hX6 : ralk X l6 := by
            rcases q0 with ⟨c, _⟩ | ⟨_, _, _, c⟩
            · unfold isTx at c; (first | ((try clear e8); (try clear h4); (try clear e7); (try clear e6); (try clear r7); (try clear l7); (try clear v7); (try clear k7); (try clear z7); (try clear r6); (try clear l6); (try clear v6); (try clear k6); (try clear z6); (try clear h1); (try clear hb9); (try clear r5); (try clear k5); (try clear h2); (try clear r); (try clear v); (try clear z); (try clear hXX); (try clear nB); (try clear nA); (try clear nR); (try clear hSg); (try clear n1); (try clear n2); (try clear haI); (try clear hDe); (try clear hD); (try clear hFa); (try clear hFI); (try clear hTD); (try clear hFW); (try clear hF); (try clear g7); (try clear g6); (try clear g5); (try clear g4); (try clear g3); (try clear g2); (try clear g1); (try clear ho); (try clear hf0); (try clear hmx); (try clear hno); (try clear hf); (try clear hp); omega) | omega)
            · exact c
          have hX7 : ralk l6 l7 := by
            rcases h4 with ⟨c, _⟩ | ⟨_, _, _, c⟩
            · unfold isTx at c; (first | ((try clear e8); (try clear h4); (try clear e7); (try clear e6); (try clear r7); (try clear l7); (try clear v7); (try clear k7); (try clear z7); (try clear r6); (try clear l6); (try clear v6); (try clear k6); (try clear z6); (try clear h1); (try clear hb9); (try clear r5); (try clear k5); (try clear h2); (try clear r); (try clear v); (try clear z); (try clear hXX); (try clear nB); (try clear nA); (try clear nR); (try clear hSg); (try clear n1); (try clear n2); (try clear haI); (try clear hDe); (try clear hD); (try clear hFa); (try clear hFI); (try clear hTD); (try clear hFW); (try clear hF); (try clear g7); (try clear g6); (try clear g5); (try clear g4); (try clear g3); (try clear g2); (try clear g1); (try clear ho); (try clear hf0); (try clear hmx); (try clear hno); (try clear hf); (try clear hp); omega) | omega)
            · exact c
          have hS6 := alk_Sm _ _ hX6 hX
          by_cases hI : 2 ≤ rI l6
          · exact (hi a z6 v6 l6 r6 e6 hS6 hI).2 z7 v7 l7 r7 e7 hX7
          · have hAa := rAd_drop a w hA
            have hwa := rdrop_WF a w hwf
            rw [e6] at hAa hwa
            have hl6 := hwa.2.2.2.2.2.2.1
            cases l6 with
            | leaf => exact hwa.2.2.1 (by (first | ((try clear hl6); (try clear hwa); (try clear hAa); (try clear hI); (try clear hS6); (try clear e8); (try clear h4); (try clear e7); (try clear e6); (try clear r7); (try clear l7); (try clear v7); (try clear k7); (try clear z7); (try clear r6); (try clear l6); (try clear v6); (try clear k6); (try clear z6); (try clear h1); (try clear hb9); (try clear r5); (try clear k5); (try clear h2); (try clear r); (try clear v); (try clear z); (try clear hXX); (try clear nB); (try clear nA); (try clear nR); (try clear hSg); (try clear n1); (try clear n2); (try clear haI); (try clear hDe); (try clear hD); (try clear hFa); (try clear hFI); (try clear hTD); (try clear hFW); (try clear hF); (try clear g7); (try clear g6); (try clear g5); (try clear g4); (try clear g3); (try clear g2); (try clear g1); (try clear ho); (try clear hf0); (try clear hmx); (try clear hno); (try clear hf); (try clear hp); omega) | omega)) rfl
            | inner z8 k8 v8 l8 r8 =>
              rw [rI_in] at hI
              have hr8 : r8 = .leaf := by
                cases r8 with
                | leaf => rfl
                | inner _ _ _ _ _ => rw [rI_in] at hI; (first | ((try clear hr8); (try clear r8); (try clear l8); (try clear v8); (try clear k8); (try clear z8); (try clear hl6); (try clear hwa); (try clear hAa); (try clear hS6); (try clear e8); (try clear h4); (try clear e7); (try clear e6); (try clear r7); (try clear l7); (try clear v7); (try clear k7); (try clear z7); (try clear r6); (try clear l6); (try clear v6); (try clear k6); (try clear z6); (try clear h1); (try clear hb9); (try clear r5); (try clear k5); (try clear h2); (try clear v); (try clear z); (try clear hXX); (try clear nB); (try clear nA); (try clear nR); (try clear hSg); (try clear n1); (try clear n2); (try clear haI); (try clear hDe); (try clear hD); (try clear hFa); (try clear hFI); (try clear hTD); (try clear hFW); (try clear hF); (try clear g7); (try clear g6); (try clear g5); (try clear g4); (try clear g3); (try clear g2); (try clear g1); (try clear ho); (try clear hf0); (try clear hmx); (try clear hno); (try clear hf); (try clear hp); omega) | omega)
              subst hr8
              rcases hS6.1 with hk | ⟨hk, hl⟩
              · by_cases h0 : k8 = 0
                · have hc : crI 4 v6 (.inner z8 k8 v8 l8 .leaf : Rw) = v8 := by
                    unfold crI
                    rw [if_neg (by (first | ((try clear hc); (try clear hr8); (try clear r8); (try clear l8); (try clear v8); (try clear z8); (try clear hl6); (try clear hwa); (try clear hAa); (try clear hI); (try clear hS6); (try clear e8); (try clear h4); (try clear e7); (try clear e6); (try clear r7); (try clear l7); (try clear v7); (try clear k7); (try clear z7); (try clear r6); (try clear l6); (try clear v6); (try clear k6); (try clear z6); (try clear h1); (try clear hb9); (try clear r5); (try clear k5); (try clear h2); (try clear r); (try clear v); (try clear z); (try clear hXX); (try clear nB); (try clear nA); (try clear nR); (try clear hSg); (try clear n1); (try clear n2); (try clear haI); (try clear hDe); (try clear hD); (try clear hFa); (try clear hFI); (try clear hTD); (try clear hFW); (try clear hF); (try clear g7); (try clear g6); (try clear g5); (try clear g4); (try clear g3); (try clear g2); (try clear g1); (try clear ho); (try clear hf0); (try clear hmx); (try clear hno); (try clear hf); (try clear hp); omega) | omega)), if_pos rfl]
                    exact if_pos h0
                  have er7 := rdrop_S e6
                  rw [e7] at er7
                  refine hAa.2.1 (by rw [hc]; exact hl6.2.2.2.2.2.1 (by (first | ((try clear er7); (try clear hc); (try clear hr8); (try clear r8); (try clear hl6); (try clear hwa); (try clear hAa); (try clear hI); (try clear hS6); (try clear e8); (try clear h4); (try clear e7); (try clear e6); (try clear r7); (try clear l7); (try clear v7); (try clear k7); (try clear z7); (try clear r6); (try clear l6); (try clear k6); (try clear z6); (try clear h1); (try clear hb9); (try clear r5); (try clear k5); (try clear h2); (try clear r); (try clear v); (try clear z); (try clear hXX); (try clear nB); (try clear nA); (try clear nR); (try clear hSg); (try clear n1); (try clear n2); (try clear haI); (try clear hDe); (try clear hD); (try clear hFa); (try clear hFI); (try clear hTD); (try clear hFW); (try clear hF); (try clear g7); (try clear g6); (try clear g5); (try clear g4); (try clear g3); (try clear g2); (try clear g1); (try clear ho); (try clear hf0); (try clear hmx); (try clear hno); (try clear hf); (try clear hp); omega) | omega))) ?_
                  rw [alk_crI h4, ← er7]
                  rfl
                · exact hAa.1 rfl (Or.inl (by unfold isTx; (first | ((try clear hr8); (try clear r8); (try clear l8); (try clear v8); (try clear z8); (try clear hl6); (try clear hwa); (try clear hAa); (try clear hI); (try clear hS6); (try clear e8); (try clear h4); (try clear e7); (try clear e6); (try clear r7); (try clear l7); (try clear v7); (try clear k7); (try clear z7); (try clear r6); (try clear l6); (try clear v6); (try clear k6); (try clear z6); (try clear h1); (try clear hb9); (try clear r5); (try clear k5); (try clear h2); (try clear r); (try clear v); (try clear z); (try clear hXX); (try clear nB); (try clear nA); (try clear nR); (try clear hSg); (try clear n1); (try clear n2); (try clear haI); (try clear hDe); (try clear hD); (try clear hFa); (try clear hFI); (try clear hTD); (try clear hFW); (try clear hF); (try clear g7); (try clear g6); (try clear g5); (try clear g4); (try clear g3); (try clear g2); (try clear g1); (try clear ho); (try clear hf0); (try clear hmx); (try clear hno); (try clear hf); (try clear hp); omega) | omega)))
              · exact hAa.1 rfl (Or.inr ⟨hk, hl⟩)
theorem pF_st : ∀ (t : List (Nat × Nat × Nat)) (w x : Rw), rWF w → rAq w → (rSm w ∨ rAd w) → pIV w → pHc w → fSt t w x → rWF x ∧ rAq x ∧ (rSm x ∨ rAd x) ∧ pIV x ∧ pHc x
  | [], w, x, h1, h2, h3, h4, h5, h => by
    have h : x = w := h
    subst h
    exact ⟨h1, h2, h3, h4, h5⟩
  | s :: t, w, x, h1, h2, h3, h4, h5, ⟨h6, h7⟩ => by
    obtain ⟨a, b, c⟩ := pF_put h1 h2 h3 h4 h5 h6
    exact pF_st t _ x (rput_WF h1 h6.1) (rAq_put h1 h2 h6.1 (fno_fEx h1 h6)) a b c h7
/-- a piece of the row -/
theorem pJ_win {w : Rw} {a n : Nat} (hI : a + n ≤ rI w) (h : pJ w) : pJ (rpre n (rdrop a w) .leaf) := fun X hX hF => by
  have e0 : rI (.leaf : Rw) = 0 := rfl
  have hs : ∀ q : Nat, aAt X (rpre n (rdrop a w) .leaf) q → 0 < rI X → aAt X w (a + q) ∧ q + rI X ≤ n := fun q h h0 => by
    have h1 := aAt_I h h0
    rw [rpre_I _ _ _ (by rw [rdrop_I]; omega), e0] at h1
    refine ⟨fun m hm => ?_, by (first | ((try clear hI); omega) | omega)⟩
    have h2 := h m hm
    rw [pre_hk (by (first | ((try clear hI); omega) | omega)) (by rw [rdrop_I]; omega), ← rdrop_add] at h2
    rw [Nat.add_assoc]
    exact h2
  have h0 : 0 < rI X := by
    obtain ⟨m, hm, _⟩ := hF
    (first | ((try clear hI); omega) | omega)
  obtain ⟨j1, j2⟩ := h X hX hF
  refine ⟨fun q h1 h2 => ?_, fun h2I p z v Y r e hY => ?_⟩
  · obtain ⟨a1, a2⟩ := hs q h1 h0
    obtain ⟨b1, b2⟩ := hs _ h2 h0
    rw [← Nat.add_assoc] at b1
    exact j1 _ a1 b1
  · have hp : p < n := by
      have h1 := rdrop_I p (rpre n (rdrop a w) .leaf)
      rw [e, rI_in, rpre_I _ _ _ (by rw [rdrop_I]; (first | ((try clear h1); (try clear hp); (try clear hY); (try clear Y); (try clear v); (try clear z); (try clear h2I); (try clear h2); (try clear q); (try clear j2); (try clear j1); omega) | omega)), e0] at h1
      (first | ((try clear hp); (try clear hY); (try clear Y); (try clear v); (try clear z); (try clear h2I); (try clear h2); (try clear q); (try clear j2); (try clear j1); (try clear hI); omega) | omega)
    obtain ⟨z3, k3, v3, l3, r3, e1, e2⟩ := pre_at p n (rdrop a w) .leaf hp (by rw [rdrop_I]; (first | ((try clear e2); (try clear e1); (try clear r3); (try clear l3); (try clear v3); (try clear k3); (try clear z3); (try clear hp); (try clear hY); (try clear r); (try clear Y); (try clear v); (try clear z); (try clear h2I); (try clear h2); (try clear h1); (try clear q); (try clear j2); (try clear j1); omega) | omega))
    rw [e] at e2
    cases e2
    rw [← rdrop_add] at e1
    obtain ⟨i1, i2⟩ := j2 h2I (a + p) z v Y r3 e1 hY
    refine ⟨fun q hq h => ?_, fun z2 v2 Y2 r2 e3 h => ?_⟩
    · obtain ⟨b1, b2⟩ := hs q h h0
      exact i1 (a + q) (by (first | ((try clear b2); (try clear b1); (try clear e3); (try clear r2); (try clear Y2); (try clear v2); (try clear z2); (try clear i2); (try clear i1); (try clear e2); (try clear e1); (try clear r3); (try clear l3); (try clear v3); (try clear k3); (try clear z3); (try clear hp); (try clear hY); (try clear r); (try clear Y); (try clear v); (try clear z); (try clear h2); (try clear h1); (try clear j2); (try clear j1); (try clear hI); omega) | omega)) b1
    · have hp1 : p + 1 < n := by
        have h1 := rdrop_I (p + 1) (rpre n (rdrop a w) .leaf)
        rw [e3, rI_in, rpre_I _ _ _ (by rw [rdrop_I]; (first | ((try clear h1); (try clear hp1); (try clear e3); (try clear Y2); (try clear v2); (try clear z2); (try clear hq); (try clear q); (try clear i2); (try clear i1); (try clear e2); (try clear e1); (try clear r3); (try clear l3); (try clear v3); (try clear k3); (try clear z3); (try clear hp); (try clear hY); (try clear r); (try clear Y); (try clear v); (try clear z); (try clear h2I); (try clear h2); (try clear j2); (try clear j1); omega) | omega)), e0] at h1
        (first | ((try clear hp1); (try clear e3); (try clear Y2); (try clear v2); (try clear z2); (try clear hq); (try clear q); (try clear i2); (try clear i1); (try clear e2); (try clear e1); (try clear r3); (try clear l3); (try clear v3); (try clear k3); (try clear z3); (try clear hY); (try clear r); (try clear Y); (try clear v); (try clear z); (try clear h2I); (try clear h2); (try clear j2); (try clear j1); (try clear hI); omega) | omega)
      obtain ⟨z4, k4, v4, l4, r4, e4, e5⟩ := pre_at (p + 1) n (rdrop a w) .leaf hp1 (by rw [rdrop_I]; (first | ((try clear e5); (try clear e4); (try clear r4); (try clear l4); (try clear v4); (try clear k4); (try clear z4); (try clear hp1); (try clear e3); (try clear r2); (try clear Y2); (try clear v2); (try clear z2); (try clear hq); (try clear q); (try clear i2); (try clear i1); (try clear e2); (try clear e1); (try clear r3); (try clear l3); (try clear v3); (try clear k3); (try clear z3); (try clear hp); (try clear hY); (try clear r); (try clear Y); (try clear v); (try clear z); (try clear h2I); (try clear h2); (try clear h1); (try clear j2); (try clear j1); omega) | omega))
      rw [e3] at e5
      cases e5
      rw [← rdrop_add, ← Nat.add_assoc] at e4
      exact i2 z2 v2 Y2 r4 e4 h
theorem pJ_drop (a : Nat) {w : Rw} (h : pJ w) : pJ (rdrop a w) := fun X hX hF => by
  obtain ⟨j1, j2⟩ := h X hX hF
  have hs : ∀ q : Nat, aAt X (rdrop a w) q → aAt X w (a + q) := fun q h m hm => by
    have h1 := h m hm
    rw [← rdrop_add] at h1
    rw [Nat.add_assoc]
    exact h1
  refine ⟨fun q h1 h2 => ?_, fun hI p z v Y r e hY => ?_⟩
  · have h3 := hs _ h2
    rw [← Nat.add_assoc] at h3
    exact j1 _ (hs q h1) h3
  · rw [← rdrop_add] at e
    obtain ⟨i1, i2⟩ := j2 hI (a + p) z v Y r e hY
    refine ⟨fun q hq h => i1 (a + q) (by omega) (hs q h), fun z2 v2 Y2 r2 e2 h => ?_⟩
    rw [← rdrop_add, ← Nat.add_assoc] at e2
    exact i2 z2 v2 Y2 r2 e2 h
theorem pH_drop (a : Nat) {w : Rw} (h : pH w) : pH (rdrop a w) := ⟨pJ_drop a h.1, pHc_drop a w h.2⟩
theorem pH_win {w : Rw} {a n : Nat} (hI : a + n ≤ rI w) (h : pH w) : pH (rpre n (rdrop a w) .leaf) :=
  ⟨pJ_win hI h.1, pHc_app n _ _ (pHc_drop a w h.2) trivial⟩
theorem Sg_Sm {x : Rw} (h : rSg x) : rSm x := by
  cases x with
  | leaf => exact h.elim
  | inner z k v l r =>
    cases r with
    | inner _ _ _ _ _ => exact h.elim
    | leaf => exact ⟨Or.inl h, trivial⟩
/-- a repeat that holds more than such comes in the place of some items -/
theorem pJ_put {w x : Rw} {a b : Nat} {v0 : Int} (ha : a ≤ rI w) (hx : ¬ rSm x) (h : pJ w) : pJ (rpre a w (.inner 0 4 v0 x (rdrop b w))) := fun X hX hF => by
  have h0 : 0 < rI X := by
    obtain ⟨m, hm, _⟩ := hF
    (first | ((try clear ha); omega) | omega)
  obtain ⟨j1, j2⟩ := h X hX hF
  have hxS : ¬ rSg x := fun h => hx (Sg_Sm h)
  have n2 : ∀ i : Nat, rdrop (a + 1 + i) (rpre a w (.inner 0 4 v0 x (rdrop b w))) = rdrop (b + i) w := fun i => by
    rw [show a + 1 + i = a + (i + 1) by (first | ((try clear n2); (try clear hxS); (try clear j2); (try clear j1); (try clear ha); omega) | omega), pre_dr a w _ ha (i + 1), rdrop_add b i w]
    rfl
  have n1 : rdrop a (rpre a w (.inner 0 4 v0 x (rdrop b w))) = .inner 0 4 v0 x (rdrop b w) := pre_dr a w (.inner 0 4 v0 x (rdrop b w)) ha 0
  have nR : ∀ q : Nat, q ≤ a → a < q + rI X → ¬ aAt X (rpre a w (.inner 0 4 v0 x (rdrop b w))) q := fun q h1 h2 h => by
    have h3 := h (a - q) (by (first | ((try clear h3); (try clear nR); (try clear n1); (try clear n2); (try clear hxS); (try clear j2); (try clear j1); (try clear ha); omega) | omega))
    rw [show q + (a - q) = a by (first | ((try clear h3); (try clear h2); (try clear nR); (try clear n1); (try clear n2); (try clear hxS); (try clear j2); (try clear j1); (try clear ha); omega) | omega), n1] at h3
    exact sm_no hX (by (first | ((try clear h3); (try clear nR); (try clear n1); (try clear n2); (try clear hxS); (try clear j2); (try clear j1); (try clear ha); omega) | omega)) hxS h3
  have nA : ∀ q : Nat, q + rI X ≤ a → aAt X (rpre a w (.inner 0 4 v0 x (rdrop b w))) q → aAt X w q := fun q h1 h m hm => (pre_hk (by (first | ((try clear nA); (try clear nR); (try clear n1); (try clear n2); (try clear hxS); (try clear j2); (try clear j1); (try clear ha); omega) | omega)) ha).mp (h m hm)
  have nB : ∀ q : Nat, aAt X (rpre a w (.inner 0 4 v0 x (rdrop b w))) (a + 1 + q) → aAt X w (b + q) := fun q h m hm => by
    have h3 := h m hm
    rw [show a + 1 + q + m = a + 1 + (q + m) by (first | ((try clear h3); (try clear hm); (try clear nB); (try clear nA); (try clear nR); (try clear n1); (try clear n2); (try clear hxS); (try clear j2); (try clear j1); (try clear ha); omega) | omega), n2] at h3
    rw [Nat.add_assoc]
    exact h3
  refine ⟨fun q h1 h2 => ?_, fun h2I p z v Y r e hY => ?_⟩
  · by_cases c1 : q + rI X ≤ a
    · by_cases c2 : q + rI X + rI X ≤ a
      · exact j1 q (nA q c1 h1) (nA _ c2 h2)
      · exact nR _ c1 (by (first | ((try clear c1); (try clear hY); (try clear r); (try clear Y); (try clear v); (try clear z); (try clear h2I); (try clear h2); (try clear h1); (try clear nB); (try clear nA); (try clear nR); (try clear n1); (try clear n2); (try clear hxS); (try clear j2); (try clear j1); (try clear ha); omega) | omega)) h2
    · by_cases c2 : q ≤ a
      · exact nR q c2 (by (first | ((try clear c2); (try clear hY); (try clear r); (try clear Y); (try clear v); (try clear z); (try clear h2I); (try clear h2); (try clear h1); (try clear nB); (try clear nA); (try clear nR); (try clear n1); (try clear n2); (try clear hxS); (try clear j2); (try clear j1); (try clear ha); omega) | omega)) h1
      · obtain ⟨i, rfl⟩ : ∃ i, q = a + 1 + i := ⟨q - a - 1, by (first | ((try clear i); (try clear c1); (try clear hY); (try clear r); (try clear Y); (try clear v); (try clear z); (try clear h2I); (try clear h2); (try clear h1); (try clear nB); (try clear nA); (try clear nR); (try clear n1); (try clear n2); (try clear hxS); (try clear j2); (try clear j1); (try clear ha); omega) | omega)⟩
        have h3 := nB i h1
        rw [Nat.add_assoc (a + 1) i] at h2
        have h4 := nB _ h2
        rw [← Nat.add_assoc] at h4
        exact j1 _ h3 h4
  · have hSY := alk_Sm _ _ hY hX
    by_cases hpa : p < a
    · obtain ⟨z3, k3, v3, l3, r3, e1, e2⟩ := pre_at p a w (.inner 0 4 v0 x (rdrop b w)) hpa ha
      rw [e] at e2
      cases e2
      obtain ⟨i1, i2⟩ := j2 h2I p z v Y r3 e1 hY
      refine ⟨fun q hq9 h => ?_, fun z2 v2 Y2 r2 e3 h => ?_⟩
      · by_cases h9 : q + rI X ≤ a
        · exact i1 q hq9 (nA q h9 h)
        · exact nR q (by (first | ((try clear h9); (try clear e3); (try clear r2); (try clear Y2); (try clear v2); (try clear z2); (try clear i2); (try clear i1); (try clear e2); (try clear e1); (try clear r3); (try clear l3); (try clear v3); (try clear k3); (try clear z3); (try clear hSY); (try clear hY); (try clear r); (try clear Y); (try clear v); (try clear z); (try clear h2); (try clear h1); (try clear nB); (try clear nA); (try clear nR); (try clear n1); (try clear n2); (try clear hxS); (try clear j2); (try clear j1); (try clear ha); omega) | omega)) (by (first | ((try clear e3); (try clear r2); (try clear Y2); (try clear v2); (try clear z2); (try clear hq9); (try clear i2); (try clear i1); (try clear e2); (try clear e1); (try clear r3); (try clear l3); (try clear v3); (try clear k3); (try clear z3); (try clear hpa); (try clear hSY); (try clear hY); (try clear r); (try clear Y); (try clear v); (try clear z); (try clear h2I); (try clear h2); (try clear h1); (try clear nB); (try clear nA); (try clear nR); (try clear n1); (try clear n2); (try clear hxS); (try clear j2); (try clear j1); (try clear ha); omega) | omega)) h
      · by_cases h9 : p + 1 < a
        · obtain ⟨z4, k4, v4, l4, r4, e4, e5⟩ := pre_at (p + 1) a w (.inner 0 4 v0 x (rdrop b w)) h9 ha
          rw [e3] at e5
          cases e5
          exact i2 z2 v2 Y2 r4 e4 h
        · rw [show p + 1 = a by (first | ((try clear e3); (try clear r2); (try clear Y2); (try clear v2); (try clear z2); (try clear hq9); (try clear q); (try clear i2); (try clear i1); (try clear e2); (try clear e1); (try clear r3); (try clear l3); (try clear v3); (try clear k3); (try clear z3); (try clear hSY); (try clear hY); (try clear r); (try clear Y); (try clear v); (try clear z); (try clear h2I); (try clear h2); (try clear h1); (try clear nB); (try clear nA); (try clear nR); (try clear n1); (try clear n2); (try clear hxS); (try clear j2); (try clear j1); (try clear ha); omega) | omega), n1] at e3
          cases e3
          exact hx (alk_Sm _ _ h hX)
    · by_cases hpe : p = a
      · rw [hpe, n1] at e
        cases e
        exact absurd hSY hx
      · obtain ⟨i, rfl⟩ : ∃ i, p = a + 1 + i := ⟨p - a - 1, by (first | ((try clear i); (try clear hSY); (try clear hY); (try clear r); (try clear Y); (try clear v); (try clear z); (try clear h2I); (try clear h2); (try clear h1); (try clear q); (try clear nB); (try clear nA); (try clear nR); (try clear n1); (try clear n2); (try clear hxS); (try clear j2); (try clear j1); (try clear ha); omega) | omega)⟩
        rw [n2] at e
        obtain ⟨i1, i2⟩ := j2 h2I (b + i) z v Y r e hY
        refine ⟨fun q hq9 h => ?_, fun z2 v2 Y2 r2 e3 h => ?_⟩
        · by_cases h9 : a < q
          · obtain ⟨j, rfl⟩ : ∃ j, q = a + 1 + j := ⟨q - a - 1, by (first | ((try clear j); (try clear e3); (try clear r2); (try clear Y2); (try clear v2); (try clear z2); (try clear hq9); (try clear i2); (try clear i1); (try clear hpe); (try clear hpa); (try clear hSY); (try clear hY); (try clear r); (try clear Y); (try clear v); (try clear z); (try clear h2I); (try clear h2); (try clear h1); (try clear nB); (try clear nA); (try clear nR); (try clear n1); (try clear n2); (try clear hxS); (try clear j2); (try clear j1); (try clear ha); omega) | omega)⟩
            exact i1 (b + j) (by (first | ((try clear q); (try clear h9); (try clear e3); (try clear r2); (try clear Y2); (try clear v2); (try clear z2); (try clear i2); (try clear i1); (try clear hpe); (try clear hpa); (try clear hSY); (try clear hY); (try clear r); (try clear Y); (try clear v); (try clear z); (try clear h2); (try clear h1); (try clear nB); (try clear nA); (try clear nR); (try clear n1); (try clear n2); (try clear hxS); (try clear j2); (try clear j1); (try clear ha); omega) | omega)) (nB j h)
          · exact nR q (by (first | ((try clear e3); (try clear r2); (try clear Y2); (try clear v2); (try clear z2); (try clear hq9); (try clear i2); (try clear i1); (try clear hpe); (try clear hpa); (try clear hSY); (try clear hY); (try clear r); (try clear Y); (try clear v); (try clear z); (try clear h2I); (try clear h2); (try clear h1); (try clear nB); (try clear nA); (try clear nR); (try clear n1); (try clear n2); (try clear hxS); (try clear j2); (try clear j1); (try clear ha); omega) | omega)) (by (first | ((try clear h9); (try clear e3); (try clear r2); (try clear Y2); (try clear v2); (try clear z2); (try clear i2); (try clear i1); (try clear hpe); (try clear hpa); (try clear hSY); (try clear hY); (try clear r); (try clear Y); (try clear v); (try clear z); (try clear h2); (try clear h1); (try clear nB); (try clear nA); (try clear nR); (try clear n1); (try clear n2); (try clear hxS); (try clear j2); (try clear j1); (try clear ha); omega) | omega)) h
        · rw [show a + 1 + i + 1 = a + 1 + (i + 1) by (first | ((try clear e3); (try clear r2); (try clear Y2); (try clear v2); (try clear z2); (try clear hq9); (try clear q); (try clear i2); (try clear i1); (try clear hpe); (try clear hpa); (try clear hSY); (try clear hY); (try clear r); (try clear Y); (try clear v); (try clear z); (try clear h2I); (try clear h2); (try clear h1); (try clear nB); (try clear nA); (try clear nR); (try clear n1); (try clear n2); (try clear hxS); (try clear j2); (try clear j1); (try clear ha); omega) | omega), n2] at e3
          exact i2 z2 v2 Y2 r2 (by rw [Nat.add_assoc]; exact e3) h

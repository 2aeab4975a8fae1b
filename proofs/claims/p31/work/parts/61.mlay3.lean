
/-! how dear laying is at most; which way is the first -/
theorem rL_in {z k : Nat} {v : Int} {l r : Rw} : (rL (Std.DTreeMap.Internal.Impl.inner z k v l r : Rw) : Int) = rL1 k l + rL r := by
  have e : rL (Std.DTreeMap.Internal.Impl.inner z k v l r : Rw) = (if k < 3 then 1 else 0) + rL l + rL r := rfl
  rw [e]
  unfold rL1
  split <;> omega
theorem rL1_0 (k : Nat) (l : Rw) : 0 ≤ rL1 k l := by
  unfold rL1
  split <;> omega
theorem rL_N : ∀ w : Rw, rL w ≤ rN w
  | .leaf => Nat.le_refl 0
  | .inner z k v l r => by
    have h1 := rL_N l
    have h2 := rL_N r
    have e : rL (Std.DTreeMap.Internal.Impl.inner z k v l r : Rw) = (if k < 3 then 1 else 0) + rL l + rL r := rfl
    rw [e, rN_in]
    split <;> omega
theorem wa_pos {g : Rw → Rw → Int × Bool} {w b : Rw} (H : ∀ w' b' : Rw, rN w' + rN b' < rN w + rN b → 0 ≤ (g w' b').1) : 0 ≤ wa1 g w b ∧ 0 ≤ wa2 g w b ∧ 0 ≤ wa3 g w b ∧ 0 ≤ wa4 g w b ∧ 0 ≤ wa5 g w b := by
  cases w with
  | leaf =>
    cases b with
    | leaf => rw [wa1, wa2, wa3, wa4, wa5]; omega
    | inner z2 k2 v2 l2 r2 =>
      have h1 := H .leaf r2 (by rw [rN_in]; omega)
      have h2 := rL1_0 k2 l2
      rw [wa1, wa2, wa3, wa4, wa5]
      omega
  | inner z k v l r =>
    have h4 := H r b (by rw [rN_in]; omega)
    have q1 := rL1_0 k l
    cases b with
    | leaf =>
      rw [wa1, wa2, wa3, wa4, wa5]
      · refine ⟨by omega, by omega, by omega, ?_, by omega⟩
        split <;> omega
      all_goals (intros; first | omega | simp)
    | inner z2 k2 v2 l2 r2 =>
      have e9 : rN (Std.DTreeMap.Internal.Impl.inner z2 k2 v2 l2 r2 : Rw) = 1 + rN l2 + rN r2 := rN_in
      have e8 : rN (Std.DTreeMap.Internal.Impl.inner z k v l r : Rw) = 1 + rN l + rN r := rN_in
      have h2 := H r (rdrop (rI l) (.inner z2 k2 v2 l2 r2)) (by have := rdrop_N2 (rI l) (Std.DTreeMap.Internal.Impl.inner z2 k2 v2 l2 r2 : Rw); omega)
      have h1 := H r r2 (by omega)
      have h0 := H l l2 (by omega)
      have h3 := H (rdrop (rI l2) (.inner z k v l r)) r2 (by have := rdrop_N2 (rI l2) (Std.DTreeMap.Internal.Impl.inner z k v l r : Rw); omega)
      have h5 := H (.inner z k v l r) r2 (by omega)
      have q2 := rL1_0 k2 l2
      have q3 := (fC_rng (k := k) (v := v) (k2 := k2) (v2 := v2) (rfC_rng l l2)).1
      have q4 := (rfC_rng l (.inner z2 k2 v2 l2 r2)).1
      have q5 := (rfC_rng l2 (.inner z k v l r)).1
      rw [wa1, wa2, wa3, wa4, wa5]
      refine ⟨?_, ?_, ?_, ?_, by omega⟩
      · split
        · split <;> omega
        · split
          · split <;> omega
          · omega
      · split <;> omega
      · split <;> omega
      · split <;> omega
theorem lay_rng : ∀ (n : Nat) (w b : Rw), rN w + rN b < n → 0 ≤ (lay w b).1 ∧ (lay w b).1 ≤ (rL w : Int) + rL b
  | 0, _, _, h => absurd h (Nat.not_lt_zero _)
  | n + 1, w, b, h => by
    rw [lay_S]
    have hp := wa_pos (g := lay) (w := w) (b := b) (fun w' b' hh => (lay_rng n w' b' (by omega)).1)
    have h0 := wa0_rng w b
    refine ⟨by unfold wmin; omega, ?_⟩
    show wmin lay w b ≤ _
    cases w with
    | leaf =>
      cases b with
      | leaf => unfold wmin; rw [wa0]; have e : rL (Std.DTreeMap.Internal.Impl.leaf : Rw) = 0 := rfl; omega
      | inner z2 k2 v2 l2 r2 =>
        have e9 : rN (Std.DTreeMap.Internal.Impl.inner z2 k2 v2 l2 r2 : Rw) = 1 + rN l2 + rN r2 := rN_in
        have h1 := (lay_rng n .leaf r2 (by omega)).2
        rw [rL_in]
        unfold wmin
        rw [wa5]
        omega
    | inner z k v l r =>
      have e8 : rN (Std.DTreeMap.Internal.Impl.inner z k v l r : Rw) = 1 + rN l + rN r := rN_in
      have h1 := (lay_rng n r b (by omega)).2
      have h2 := rL1_0 k l
      rw [rL_in]
      unfold wmin
      rw [wa4]
      have h3 : (if k = 3 then (0 : Int) else rL1 k l) ≤ rL1 k l := by split <;> omega
      omega
theorem lay_1 (w b : Rw) : 0 ≤ (lay w b).1 ∧ (lay w b).1 ≤ (rL w : Int) + rL b := lay_rng _ w b (Nat.lt_succ_self _)
theorem lay_c (w b : Rw) : (lay w b).1 = wmin lay w b := by rw [lay_S]

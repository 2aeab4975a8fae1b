
/-! rows of pages: how many nodes, how deep, for so many tokens -/
theorem Sg_is {w : Rw} (h : rSg w) (hw : rWF w) : ∃ (z k : Nat) (v : Int), w = Std.DTreeMap.Internal.Impl.inner z k v .leaf .leaf ∧ k < 3 := by
  cases w with
  | leaf => exact h.elim
  | inner z k v l r =>
    cases r with
    | inner _ _ _ _ _ => exact h.elim
    | leaf =>
      have h : k < 3 := h
      rw [hw.2.1 h]
      exact ⟨z, k, v, rfl, h⟩
theorem row_1 {w : Rw} (hw : rWF w) (hn : w ≠ .leaf) : 1 ≤ rN w ∧ 1 ≤ rL w ∧ 1 ≤ rT w ∧ 1 ≤ rH w := by
  have h1 := rL_ne w hw hn
  have h2 := rT_pos w hw hn
  have h3 := rL_N w
  have h4 := rH_0 hn
  (first | ((try clear hn); omega) | omega)
/-- one token; one repeat of one token; or more: repeats are few -/
def shP (w : Rw) : Prop := (rSg w ∧ rN w = 1 ∧ rL w = 1 ∧ rT w = 1) ∨ (rBd w ∧ rN w = 2 ∧ rL w = 1 ∧ rT w = 2) ∨ (2 ≤ rL w ∧ ∃ j : Nat, 2 ^ j ≤ rT w ∧ rN w + 4 ≤ 3 * rL w + j)
theorem pow_le5 {j u : Nat} (h : 2 ^ j ≤ u) (h2 : u < 64) : j ≤ 5 := by
  by_cases h3 : j ≤ 5
  · exact h3
  · have : 2 ^ 6 ≤ 2 ^ j := Nat.pow_le_pow_right (by (first | ((try clear h3); (try clear h2); (try clear h); omega) | omega)) (by (first | ((try clear h2); (try clear h); omega) | omega))
    (first | ((try clear h3); omega) | omega)
theorem pow_le4 {j u : Nat} (h : 2 ^ j ≤ u) (h2 : u < 32) : j ≤ 4 := by
  by_cases h3 : j ≤ 4
  · exact h3
  · have : 2 ^ 5 ≤ 2 ^ j := Nat.pow_le_pow_right (by (first | ((try clear h3); (try clear h2); (try clear h); omega) | omega)) (by (first | ((try clear h2); (try clear h); omega) | omega))
    (first | ((try clear h3); omega) | omega)
theorem shP_is : ∀ w : Rw, rWF w → rPg w → rAd w → rT w ≤ 60 → w ≠ .leaf → shP w
  | .leaf, _, _, _, _, h => absurd rfl h
  | .inner z k v l r, hw, hp, hA, hT, _ => by
    have e : ∀ x : Rw, rL (Std.DTreeMap.Internal.Impl.inner z k v l x : Rw) = (if k < 3 then 1 else 0) + rL l + rL x := fun _ => rfl
    have eT : ∀ x : Rw, rT (Std.DTreeMap.Internal.Impl.inner z k v l x : Rw) = (if k < 3 then 1 else 2 * rT l) + rT x := fun _ => rfl
    have eN : ∀ x : Rw, rN (Std.DTreeMap.Internal.Impl.inner z k v l x : Rw) = 1 + rN l + rN x := fun _ => rN_in
    have hr : r ≠ .leaf → shP r := fun hne => shP_is r hw.2.2.2.2.2.2.2 hp.2.2 hA.2.2.2 (by rw [eT] at hT; omega) hne
    have h0N : rN (Std.DTreeMap.Internal.Impl.leaf : Rw) = 0 := rfl
    have h0L : rL (Std.DTreeMap.Internal.Impl.leaf : Rw) = 0 := rfl
    have h0T : rT (Std.DTreeMap.Internal.Impl.leaf : Rw) = 0 := rfl
    rw [eT] at hT
    -- the item: one token, one repeat of one token, more
    have hit : (rSg (Std.DTreeMap.Internal.Impl.inner z k v l .leaf : Rw) ∧ 1 + rN l = 1 ∧ (if k < 3 then 1 else 0) + rL l = 1 ∧ (if k < 3 then 1 else 2 * rT l) = 1) ∨ (rBd (Std.DTreeMap.Internal.Impl.inner z k v l .leaf : Rw) ∧ 1 + rN l = 2 ∧ (if k < 3 then 1 else 0) + rL l = 1 ∧ (if k < 3 then 1 else 2 * rT l) = 2) ∨ (2 ≤ (if k < 3 then 1 else 0) + rL l ∧ ∃ j : Nat, 2 ^ j ≤ (if k < 3 then 1 else 2 * rT l) ∧ 1 + rN l + 4 ≤ 3 * ((if k < 3 then 1 else 0) + rL l) + j) := by
      by_cases hk : k < 3
      · left
        rw [hw.2.1 hk, if_pos hk, if_pos hk, h0N, h0L]
        exact ⟨hk, rfl, rfl, rfl⟩
      · have hk4 : k = 4 := by have := hw.1; have := hp.1; (first | ((try clear hk4); omega) | omega)
        rw [if_neg hk] at hT
        rw [if_neg hk, if_neg hk]
        have hl := shP_is l hw.2.2.2.2.2.2.1 hp.2.1 hA.2.2.1 (by (first | ((try clear hk4); (try clear hk); omega) | omega)) (hw.2.2.1 (by (first | ((try clear hk); omega) | omega)))
        rcases hl with ⟨a, b, c, d⟩ | ⟨a, b, c, d⟩ | ⟨a, j, b, c⟩
        · right; left
          exact ⟨Or.inr ⟨hk4, a⟩, by (first | ((try clear j); (try clear hk4); (try clear hk); omega) | omega), by (first | ((try clear b); (try clear j); (try clear hk4); (try clear hk); omega) | omega), by (first | ((try clear b); (try clear j); (try clear hk4); (try clear hk); omega) | omega)⟩
        · exact absurd a (hA.1 hk4)
        · right; right
          refine ⟨by (first | ((try clear b); (try clear hk4); (try clear hk); omega) | omega), j + 1, by rw [Nat.pow_succ]; (first | ((try clear hk4); (try clear hk); omega) | omega), by (first | ((try clear b); (try clear hk4); (try clear hk); omega) | omega)⟩
    by_cases hne : r = .leaf
    · subst hne
      unfold shP
      rw [e, eT, eN, h0N, h0L, h0T]
      simp only [Nat.add_zero]
      exact hit
    · have h2 := hr hne
      obtain ⟨r1, r2, r3, r4⟩ := row_1 hw.2.2.2.2.2.2.2 hne
      right; right
      rw [e, eT, eN]
      rcases hit with ⟨_, a, b, c⟩ | ⟨_, a, b, c⟩ | ⟨a, j, b, c⟩
      · rw [a, b, c]
        rw [c] at hT
        rcases h2 with ⟨_, p, q, s⟩ | ⟨_, p, q, s⟩ | ⟨p, j, q, s⟩
        · exact ⟨by (first | ((try clear j); (try clear b); (try clear r4); (try clear r3); (try clear r2); (try clear r1); (try clear h2); (try clear hne); omega) | omega), 0, by (first | ((try clear q); (try clear j); (try clear b); (try clear r4); (try clear r3); (try clear r2); (try clear r1); (try clear h2); (try clear hne); omega) | omega), by (first | ((try clear j); (try clear b); (try clear r4); (try clear r3); (try clear r2); (try clear r1); (try clear h2); (try clear hne); omega) | omega)⟩
        · exact ⟨by (first | ((try clear j); (try clear b); (try clear r4); (try clear r3); (try clear r2); (try clear r1); (try clear h2); (try clear hne); omega) | omega), 1, by (first | ((try clear q); (try clear j); (try clear b); (try clear r4); (try clear r3); (try clear r2); (try clear r1); (try clear h2); (try clear hne); omega) | omega), by (first | ((try clear j); (try clear b); (try clear r4); (try clear r3); (try clear r2); (try clear r1); (try clear h2); (try clear hne); omega) | omega)⟩
        · exact ⟨by (first | ((try clear q); (try clear b); (try clear r4); (try clear r3); (try clear r2); (try clear r1); (try clear h2); (try clear hne); omega) | omega), j, by (first | ((try clear b); (try clear r4); (try clear r3); (try clear r2); (try clear r1); (try clear h2); (try clear hne); omega) | omega), by (first | ((try clear q); (try clear b); (try clear r4); (try clear r3); (try clear r2); (try clear r1); (try clear h2); (try clear hne); omega) | omega)⟩
      · rw [a, b, c]
        rcases h2 with ⟨_, p, q, s⟩ | ⟨_, p, q, s⟩ | ⟨p, j, q, s⟩
        · exact ⟨by (first | ((try clear j); (try clear b); (try clear r4); (try clear r3); (try clear r2); (try clear r1); (try clear h2); (try clear hne); omega) | omega), 1, by (first | ((try clear q); (try clear j); (try clear b); (try clear r4); (try clear r3); (try clear r2); (try clear r1); (try clear h2); (try clear hne); omega) | omega), by (first | ((try clear j); (try clear b); (try clear r4); (try clear r3); (try clear r2); (try clear r1); (try clear h2); (try clear hne); omega) | omega)⟩
        · exact ⟨by (first | ((try clear j); (try clear b); (try clear r4); (try clear r3); (try clear r2); (try clear r1); (try clear h2); (try clear hne); omega) | omega), 2, by (first | ((try clear q); (try clear j); (try clear b); (try clear r4); (try clear r3); (try clear r2); (try clear r1); (try clear h2); (try clear hne); omega) | omega), by (first | ((try clear j); (try clear b); (try clear r4); (try clear r3); (try clear r2); (try clear r1); (try clear h2); (try clear hne); omega) | omega)⟩
        · exact ⟨by (first | ((try clear q); (try clear b); (try clear r4); (try clear r3); (try clear r2); (try clear r1); (try clear h2); (try clear hne); omega) | omega), j, by (first | ((try clear b); (try clear r4); (try clear r3); (try clear r2); (try clear r1); (try clear h2); (try clear hne); omega) | omega), by (first | ((try clear q); (try clear b); (try clear r4); (try clear r3); (try clear r2); (try clear r1); (try clear h2); (try clear hne); omega) | omega)⟩
      · rcases h2 with ⟨_, p, q, s⟩ | ⟨_, p, q, s⟩ | ⟨p, j2, q, s⟩
        · exact ⟨by (first | ((try clear j2); (try clear b); (try clear r4); (try clear r3); (try clear r2); (try clear r1); (try clear h2); (try clear hne); omega) | omega), j, by (first | ((try clear q); (try clear j2); (try clear r4); (try clear r3); (try clear r2); (try clear r1); (try clear h2); (try clear hne); omega) | omega), by (first | ((try clear j2); (try clear b); (try clear r4); (try clear r3); (try clear r2); (try clear r1); (try clear h2); (try clear hne); omega) | omega)⟩
        · exact ⟨by (first | ((try clear j2); (try clear b); (try clear r4); (try clear r3); (try clear r2); (try clear r1); (try clear h2); (try clear hne); omega) | omega), j, by (first | ((try clear q); (try clear j2); (try clear r4); (try clear r3); (try clear r2); (try clear r1); (try clear h2); (try clear hne); omega) | omega), by (first | ((try clear j2); (try clear b); (try clear r4); (try clear r3); (try clear r2); (try clear r1); (try clear h2); (try clear hne); omega) | omega)⟩
        · by_cases hm : (if k < 3 then 1 else 2 * rT l) ≤ rT r
          · have h4 := pow_le4 b (by (first | ((try clear h4); (try clear q); (try clear b); (try clear r4); (try clear r2); (try clear r1); (try clear h2); (try clear hne); omega) | omega))
            exact ⟨by (first | ((try clear h4); (try clear hm); (try clear q); (try clear b); (try clear r4); (try clear r3); (try clear r2); (try clear r1); (try clear h2); (try clear hne); omega) | omega), j2, by (first | ((try clear h4); (try clear hm); (try clear b); (try clear r4); (try clear r3); (try clear r2); (try clear r1); (try clear h2); (try clear hne); omega) | omega), by (first | ((try clear hm); (try clear q); (try clear b); (try clear r4); (try clear r3); (try clear r2); (try clear r1); (try clear h2); (try clear hne); omega) | omega)⟩
          · have h4 := pow_le4 q (by (first | ((try clear h4); (try clear q); (try clear b); (try clear r4); (try clear r3); (try clear r2); (try clear r1); (try clear h2); (try clear hne); omega) | omega))
            exact ⟨by (first | ((try clear h4); (try clear hm); (try clear q); (try clear b); (try clear r4); (try clear r3); (try clear r2); (try clear r1); (try clear h2); (try clear hne); omega) | omega), j, by (first | ((try clear h4); (try clear q); (try clear r4); (try clear r2); (try clear r1); (try clear h2); (try clear hne); omega) | omega), by (first | ((try clear hm); (try clear q); (try clear b); (try clear r4); (try clear r3); (try clear r2); (try clear r1); (try clear h2); (try clear hne); omega) | omega)⟩
/-- tokens that a row of a page asks for at least, by how deep it is -/
def NN : Nat → Nat
  | 0 => 0
  | 1 => 1
  | 2 => 2
  | 3 => 6
  | n + 4 => 2 * NN (n + 3)
theorem NN_up : ∀ n : Nat, NN n ≤ NN (n + 1)
  | 0 => by decide
  | 1 => by decide
  | 2 => by decide
  | 3 => by decide
  | n + 4 => by
    have h1 : NN (n + 3) ≤ NN (n + 4) := NN_up (n + 3)
    show 2 * NN (n + 3) ≤ 2 * NN (n + 4)
    omega
theorem NN_mono {a b : Nat} (h : a ≤ b) : NN a ≤ NN b := by
  induction b with
  | zero => rw [Nat.le_zero.mp h]; exact Nat.le_refl _
  | succ b ih =>
    by_cases h2 : a ≤ b
    · exact Nat.le_trans (ih h2) (NN_up b)
    · obtain rfl : a = b + 1 := by omega
      exact Nat.le_refl _
theorem two_3 {l : Rw} (hw : rWF l) (hp : rPg l) (hH : 2 ≤ rH l) (hb9 : ¬ rBd l) : 3 ≤ rT l := by
  cases l with
  | leaf => have h : rH (Std.DTreeMap.Internal.Impl.leaf : Rw) = 0 := rfl; (first | ((try clear hb9); omega) | omega)
  | inner z k v l r =>
    rw [rT_in]
    by_cases hr : r = .leaf
    · subst hr
      have hz : rH (Std.DTreeMap.Internal.Impl.leaf : Rw) = 0 := rfl
      have hzT : rT (Std.DTreeMap.Internal.Impl.leaf : Rw) = 0 := rfl
      rw [rH_in, hz] at hH
      have hk : ¬ k < 3 := fun hk => by
        have := hw.2.1 hk
        rw [this, hz] at hH
        (first | ((try clear hk); (try clear hzT); (try clear hz); (try clear r); (try clear v); (try clear z); (try clear hb9); omega) | omega)
      have hk4 : k = 4 := by have := hw.1; have := hp.1; (first | ((try clear hk4); (try clear hzT); (try clear hz); (try clear r); (try clear v); (try clear z); (try clear hb9); (try clear hH); omega) | omega)
      rw [if_neg hk]
      -- what is in it is not one token
      have hs : ¬ rSg l := fun h9 => hb9 (Or.inr ⟨hk4, h9⟩)
      have h2 : 2 ≤ rT l := by
        cases l with
        | leaf => rw [hz] at hH; (first | ((try clear h2); (try clear hs); (try clear hk4); (try clear hk); (try clear hzT); (try clear hz); (try clear r); (try clear v); (try clear z); (try clear hb9); omega) | omega)
        | inner z2 k2 v2 l2 r2 =>
          rw [rT_in]
          cases r2 with
          | leaf =>
            have h9 : ¬ k2 < 3 := hs
            rw [if_neg h9]
            have := rT_pos l2 hw.2.2.2.2.2.2.1.2.2.2.2.2.2.1 (hw.2.2.2.2.2.2.1.2.2.1 (by (first | ((try clear r2); (try clear h2); (try clear hs); (try clear hk4); (try clear hk); (try clear hzT); (try clear hz); (try clear r); (try clear v); (try clear z); (try clear hb9); (try clear hH); omega) | omega)))
            (first | ((try clear h9); (try clear r2); (try clear h2); (try clear hs); (try clear hk4); (try clear hk); (try clear hz); (try clear r); (try clear v); (try clear z); (try clear hb9); (try clear hH); omega) | omega)
          | inner z3 k3 v3 l3 r3 =>
            have h8 := rT_pos _ hw.2.2.2.2.2.2.1.2.2.2.2.2.2.2 (fun h => by cases h)
            by_cases h9 : k2 < 3
            · rw [if_pos h9]; (first | ((try clear h9); (try clear r2); (try clear h2); (try clear hs); (try clear hk4); (try clear hk); (try clear hzT); (try clear hz); (try clear r); (try clear v); (try clear z); (try clear hb9); (try clear hH); omega) | omega)
            · rw [if_neg h9]
              have := rT_pos l2 hw.2.2.2.2.2.2.1.2.2.2.2.2.2.1 (hw.2.2.2.2.2.2.1.2.2.1 (by (first | ((try clear h8); (try clear r2); (try clear h2); (try clear hs); (try clear hk4); (try clear hk); (try clear hzT); (try clear hz); (try clear r); (try clear v); (try clear z); (try clear hb9); (try clear hH); omega) | omega)))
              (first | ((try clear h9); (try clear r2); (try clear h2); (try clear hs); (try clear hk4); (try clear hk); (try clear hzT); (try clear hz); (try clear r); (try clear v); (try clear z); (try clear hb9); (try clear hH); omega) | omega)
      (first | ((try clear h9); (try clear h8); (try clear r3); (try clear l3); (try clear v3); (try clear k3); (try clear z3); (try clear r2); (try clear l2); (try clear v2); (try clear k2); (try clear z2); (try clear hs); (try clear hk4); (try clear hk); (try clear hz); (try clear r); (try clear v); (try clear z); (try clear hb9); (try clear hH); omega) | omega)
    · have h1 := rT_pos r hw.2.2.2.2.2.2.2 hr
      by_cases hk : k < 3
      · rw [if_pos hk]
        have hl := hw.2.1 hk
        subst hl
        have hz : rH (Std.DTreeMap.Internal.Impl.leaf : Rw) = 0 := rfl
        rw [rH_in, hz] at hH
        have h3 := rH_T r hw.2.2.2.2.2.2.2
        have h4 : 2 ^ 2 ≤ 2 ^ rH r := Nat.pow_le_pow_right (by (first | ((try clear h4); (try clear h3); (try clear hz); (try clear hk); (try clear h1); (try clear v); (try clear z); (try clear hb9); (try clear hH); omega) | omega)) (by (first | ((try clear h4); (try clear h3); (try clear hz); (try clear hk); (try clear h1); (try clear v); (try clear z); (try clear hb9); omega) | omega))
        (first | ((try clear hz); (try clear hk); (try clear v); (try clear z); (try clear hb9); (try clear hH); omega) | omega)
      · rw [if_neg hk]
        have := rT_pos l hw.2.2.2.2.2.2.1 (hw.2.2.1 (by (first | ((try clear h1); (try clear hb9); (try clear hH); omega) | omega)))
        (first | ((try clear hk); (try clear hb9); (try clear hH); omega) | omega)
theorem NN_T : ∀ w : Rw, rWF w → rPg w → rAd w → NN (rH w) ≤ rT w
  | .leaf, _, _, _ => Nat.zero_le _
  | .inner z k v l r, hw, hp, hA => by
    have h1 := NN_T l hw.2.2.2.2.2.2.1 hp.2.1 hA.2.2.1
    have h2 := NN_T r hw.2.2.2.2.2.2.2 hp.2.2 hA.2.2.2
    rw [rH_in, rT_in]
    by_cases hm : 1 + rH l ≤ rH r
    · rw [Nat.max_eq_right hm]; omega
    · rw [Nat.max_eq_left (by omega)]
      by_cases hk : k < 3
      · rw [if_pos hk, hw.2.1 hk]
        show NN 1 ≤ _
        have : NN 1 = 1 := rfl
        omega
      · rw [if_neg hk]
        have hl := hw.2.2.1 (by omega)
        have h0 := rH_0 hl
        have hk4 : k = 4 := by have := hw.1; have := hp.1; omega
        by_cases h3 : rH l = 1
        · rw [h3] at h1 ⊢
          have e1 : NN 1 = 1 := rfl
          have e2 : NN (1 + 1) = 2 := rfl
          (first | ((try clear h3); omega) | omega)
        · by_cases h4 : rH l = 2
          · have h5 := two_3 hw.2.2.2.2.2.2.1 hp.2.1 (by (first | ((try clear h5); (try clear h3); omega) | omega)) (hA.1 hk4)
            rw [h4]
            have e2 : NN (1 + 2) = 6 := rfl
            (first | ((try clear h4); (try clear h3); omega) | omega)
          · obtain ⟨q, hq⟩ : ∃ q, rH l = q + 3 := ⟨rH l - 3, by (first | ((try clear q); (try clear rH); (try clear hq); omega) | omega)⟩
            rw [hq] at h1 ⊢
            have e2 : NN (1 + (q + 3)) = 2 * NN (q + 3) := by rw [show 1 + (q + 3) = q + 4 by (first | ((try clear e2); (try clear rH); (try clear hq); (try clear h4); (try clear h3); omega) | omega)]; rfl
            (first | ((try clear rH); (try clear hq); (try clear h4); (try clear h3); omega) | omega)

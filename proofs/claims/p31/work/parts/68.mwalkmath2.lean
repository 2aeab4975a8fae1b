
/-! what a walk needs of its ways -/
theorem wmin_lt {w b : Rw} (h : rN w + rN b ≤ 1800) : wmin lay w b < 1000000 := by
  have h1 := lay_1 w b
  rw [lay_c] at h1
  have h2 := rL_N w
  have h3 := rL_N b
  omega
theorem way_hsd {w b : Rw} : (wayOf w b = 1 ∨ wayOf w b = 2 ∨ wayOf w b = 3 → hsd w = true ∧ hsd b = true) ∧ (wayOf w b = 4 → hsd w = true) ∧ (wayOf w b = 5 → hsd b = true) := by
  cases w with
  | leaf =>
    cases b with
    | leaf =>
      have e : wayOf (.leaf : Rw) (.leaf : Rw) = 0 := rfl
      exact ⟨fun h => by omega, fun h => by omega, fun h => by omega⟩
    | inner z2 k2 v2 l2 r2 =>
      have e : wayOf (.leaf : Rw) (Std.DTreeMap.Internal.Impl.inner z2 k2 v2 l2 r2 : Rw) = 5 := rfl
      exact ⟨fun h => by omega, fun h => by omega, fun _ => rfl⟩
  | inner z k v l r =>
    cases b with
    | leaf =>
      have e : wayOf (Std.DTreeMap.Internal.Impl.inner z k v l r : Rw) (.leaf : Rw) = if (true && (wa4 lay (Std.DTreeMap.Internal.Impl.inner z k v l r : Rw) .leaf == wmin lay (Std.DTreeMap.Internal.Impl.inner z k v l r : Rw) .leaf)) = true then 4 else 0 := rfl
      split at e
      · exact ⟨fun h => by omega, fun _ => rfl, fun h => by omega⟩
      · exact ⟨fun h => by omega, fun _ => rfl, fun h => by omega⟩
    | inner z2 k2 v2 l2 r2 => exact ⟨fun _ => ⟨rfl, rfl⟩, fun _ => rfl, fun _ => rfl⟩
theorem way1_c {z k z2 k2 : Nat} {v v2 : Int} {l r l2 r2 : Rw} (h : wayOf (.inner z k v l r) (.inner z2 k2 v2 l2 r2) = 1) (hm : wmin lay (.inner z k v l r) (.inner z2 k2 v2 l2 r2) < 1000000) : mtC k v l k2 v2 l2 < 1000000 := by
  have h1 := (way_is (w := .inner z k v l r) (b := .inner z2 k2 v2 l2 r2) (Or.inl rfl) hm).2.2.1
  rw [h] at h1
  have h2 : waF 1 (.inner z k v l r : Rw) (.inner z2 k2 v2 l2 r2 : Rw) = mtC k v l k2 v2 l2 + (lay r r2).1 := rfl
  have h3 := (lay_1 r r2).1
  have h4 : waF ((1 : Nat) : Int) (.inner z k v l r : Rw) (.inner z2 k2 v2 l2 r2 : Rw) = waF 1 (.inner z k v l r : Rw) (.inner z2 k2 v2 l2 r2 : Rw) := rfl
  omega
theorem way2_c {z k : Nat} {v : Int} {l r b : Rw} (h : wayOf (.inner z k v l r) b = 2) (hm : wmin lay (.inner z k v l r) b < 1000000) : 3 ≤ k ∧ nxt l b := by
  have h1 := (way_is (w := .inner z k v l r) (b := b) (Or.inl rfl) hm).2.2.1
  rw [h] at h1
  have h4 : waF ((2 : Nat) : Int) (.inner z k v l r : Rw) b = wa2 lay (.inner z k v l r : Rw) b := rfl
  rw [h4] at h1
  cases b with
  | leaf =>
    have h2 : wa2 lay (.inner z k v l r : Rw) .leaf = 1000000 := rfl
    omega
  | inner z2 k2 v2 l2 r2 =>
    rw [wa2] at h1
    by_cases hc : k < 3 ∨ nxtB l (.inner z2 k2 v2 l2 r2) = false
    · rw [if_pos hc] at h1; omega
    · refine ⟨?_, (nxtB_is _ _).mp ?_⟩
      · by_cases h9 : k < 3
        · exact absurd (Or.inl h9) hc
        · omega
      · cases hB : nxtB l (.inner z2 k2 v2 l2 r2) with
        | true => rfl
        | false => exact absurd (Or.inr hB) hc
theorem way3_c {z2 k2 : Nat} {v2 : Int} {w l2 r2 : Rw} (h : wayOf w (.inner z2 k2 v2 l2 r2) = 3) (hm : wmin lay w (.inner z2 k2 v2 l2 r2) < 1000000) : k2 = 4 ∧ nxt l2 w := by
  have h1 := (way_is (w := w) (b := .inner z2 k2 v2 l2 r2) (Or.inr rfl) hm).2.2.1
  rw [h] at h1
  have h4 : waF ((3 : Nat) : Int) w (.inner z2 k2 v2 l2 r2 : Rw) = wa3 lay w (.inner z2 k2 v2 l2 r2 : Rw) := rfl
  rw [h4] at h1
  cases w with
  | leaf =>
    have h2 : wa3 lay .leaf (.inner z2 k2 v2 l2 r2 : Rw) = 1000000 := rfl
    omega
  | inner z k v l r =>
    rw [wa3] at h1
    by_cases hc : k2 ≠ 4 ∨ nxtB l2 (.inner z k v l r) = false
    · rw [if_pos hc] at h1; omega
    · refine ⟨?_, (nxtB_is _ _).mp ?_⟩
      · by_cases h9 : k2 = 4
        · exact h9
        · exact absurd (Or.inl h9) hc
      · cases hB : nxtB l2 (.inner z k v l r) with
        | true => rfl
        | false => exact absurd (Or.inr hB) hc
theorem wk_01 {w b : Rw} : (wk 0 w b).1 = .leaf := by
  unfold wk
  rw [WK]
  by_cases h1 : wayOf w b = 1
  · rw [if_pos h1]
  rw [if_neg h1]
  by_cases h2 : wayOf w b = 2
  · rw [if_pos h2]
  rw [if_neg h2]
  by_cases h3 : wayOf w b = 3
  · rw [if_pos h3]
  rw [if_neg h3]
  by_cases h4 : wayOf w b = 4
  · rw [if_pos h4]
    by_cases h5 : rk w = 3
    · rw [if_pos h5]
    · rw [if_neg h5, if_neg (by omega)]
  rw [if_neg h4]
  by_cases h5 : wayOf w b = 5
  · rw [if_pos h5, if_neg (by omega)]
  rw [if_neg h5]
/-- what comes of two that meet, with all behind it -/
def mtR (k : Nat) (v : Int) (l : Rw) (k2 : Nat) (v2 : Int) (l2 R : Rw) : Rw := if k < 3 then .inner 0 (fK k v k2 v2) (fV k v k2 v2) (rfus l l2) R else .inner 0 4 (-1) (lrow l l2) R
theorem mtR_N {k : Nat} {v : Int} {l : Rw} {k2 : Nat} {v2 : Int} {l2 R : Rw} : rN (mtR k v l k2 v2 l2 R) = rN (mtI k v l k2 v2 l2) + rN R := by
  unfold mtR mtI
  have e0 : rN (Std.DTreeMap.Internal.Impl.leaf : Rw) = 0 := rfl
  split
  · rw [rN_in, rN_in]; omega
  · rw [rN_in, rN_in]; omega
theorem wk_1m {o z k z2 k2 : Nat} {v v2 : Int} {l r l2 r2 : Rw} (h : wayOf (.inner z k v l r) (.inner z2 k2 v2 l2 r2) = 1) : wk o (.inner z k v l r) (.inner z2 k2 v2 l2 r2) = (.leaf, mtR k v l k2 v2 l2 (wk 0 r r2).2) := wk_1 h
theorem wSt_mt {μ0 μ u : va_M} {n : Nat} {o1 n0 : Int} {W : Rw} {y : Int} {k : Nat} {v : Int} {l : Rw} {k2 : Nat} {v2 : Int} {l2 R : Rw} (h : wSt μ0 μ n o1 n0 W 0 y .leaf (mtR k v l k2 v2 l2 R)) (ho1 : o1 < 70) (hl : layO μ u (n + 1) o1 (mtI k v l k2 v2 l2)) (y2 : Int) : wSt μ0 u n o1 n0 W 0 y2 .leaf R := by
  unfold mtR at h
  unfold mtI at hl
  by_cases hk : k < 3
  · rw [if_pos hk] at h hl
    exact wSt_it0 h ho1 hl y2
  · rw [if_neg hk] at h hl
    exact wSt_it0 h ho1 hl y2
theorem layO_cp {μ u : va_M} {n : Nat} {o1 f i q : Int} {k : Nat} {v : Int} {l : Rw} (h : (o1 = -1 → u = μ) ∧ (0 ≤ o1 → fr (PG o1.toNat (μ 719 o1.toNat).toNat) μ u ∧ u 719 o1.toNat = μ 719 o1.toNat + q ∧ cpy μ u f.toNat i.toNat o1.toNat (μ 719 o1.toNat).toNat q.toNat)) (hi : IA μ f.toNat i.toNat k v l) (hq : q = 1 + rN l) : layO μ u n o1 (.inner 0 k v l .leaf) := by
  have e0 : rN (Std.DTreeMap.Internal.Impl.inner 0 k v l .leaf : Rw) = 1 + rN l + 0 := rfl
  refine ⟨fun h1 => by rw [h.1 h1]; exact fr_rfl, fun h1 => ?_⟩
  obtain ⟨a1, a2, a3⟩ := h.2 h1
  have hR : RA μ f.toNat (Std.DTreeMap.Internal.Impl.inner 0 k v l .leaf : Rw) i.toNat := ⟨hi.1, hi.2.1, hi.2.2.1, hi.2.2.2, trivial⟩
  rw [show q.toNat = 1 + rN l by omega] at a3
  exact ⟨fr_mono a1 (fun _ _ h9 => Or.inr h9), by rw [a2, e0]; omega, cpy_RA (x := Std.DTreeMap.Internal.Impl.leaf) hR a3 (fun _ _ _ => ⟨rfl, rfl, rfl⟩) trivial⟩
theorem layO_fu {μ u : va_M} {n : Nat} {o1 : Int} {k : Nat} {l b : Rw} {P : Prop} (h : (o1 = -1 → u = μ) ∧ (0 ≤ o1 → fr (PG o1.toNat (μ 719 o1.toNat).toNat) μ u ∧ u 719 o1.toNat = μ 719 o1.toNat + 1 + rN l ∧ IA u o1.toNat (μ 719 o1.toNat).toNat k (-1) (rfus l b)) ∧ P) (hn : rN (rfus l b) = rN l) : layO μ u n o1 (.inner 0 k (-1) (rfus l b) .leaf) := by
  have e0 : rN (Std.DTreeMap.Internal.Impl.inner 0 k (-1) (rfus l b) .leaf : Rw) = 1 + rN (rfus l b) + 0 := rfl
  refine ⟨fun h1 => by rw [h.1 h1]; exact fr_rfl, fun h1 => ?_⟩
  obtain ⟨a1, a2, a3⟩ := h.2.1 h1
  exact ⟨fr_mono a1 (fun _ _ h9 => Or.inr h9), by rw [a2, e0]; omega, a3.1, a3.2.1, a3.2.2.1, a3.2.2.2, trivial⟩
theorem alI_0 {al : Int} {w b wS wP w2 b2 : Rw} (h : alI al w b wS wP) (h1 : (lay w b).2 = false) : alI 0 w2 b2 wS wP := by
  rcases h with ⟨_, h⟩ | ⟨_, h⟩
  · exact Or.inr ⟨rfl, h.trans h1⟩
  · exact Or.inr ⟨rfl, h⟩
theorem alI_k {al : Int} {w b wS wP w2 b2 : Rw} (h : alI al w b wS wP) (h1 : (lay w b).2 = (lay w2 b2).2) : alI al w2 b2 wS wP := by
  rcases h with ⟨h2, h⟩ | ⟨h2, h⟩
  · exact Or.inl ⟨h2, h.trans h1⟩
  · exact Or.inr ⟨h2, h⟩
theorem alI_01 {al : Int} {w b wS wP : Rw} (h : alI al w b wS wP) : al = 0 ∨ al = 1 := by
  rcases h with ⟨h, _⟩ | ⟨h, _⟩
  · exact Or.inr h
  · exact Or.inl h
theorem alI_and0 {z al : Int} {w b wS wP w2 b2 : Rw} (hz : inR z) (e : iZ z = iZ al &&& iZ 0) (h : alI al w b wS wP) (h1 : (lay w b).2 = false) : alI z w2 b2 wS wP := by
  rcases iand_b hz e (alI_01 h) (Or.inl rfl) with ⟨h2, _⟩ | ⟨_, _, h2⟩
  · rw [h2]; exact alI_0 h h1
  · exact absurd h2 (by decide)
theorem alI_and1 {z al : Int} {w b wS wP w2 b2 : Rw} (hz : inR z) (e : iZ z = iZ al &&& iZ 1) (h : alI al w b wS wP) (h1 : (lay w b).2 = (lay w2 b2).2) : alI z w2 b2 wS wP := by
  rcases iand_b hz e (alI_01 h) (Or.inr rfl) with ⟨h2, h3 | h3⟩ | ⟨h2, h3, _⟩
  · rw [h2, ← h3]; exact alI_k h h1
  · exact absurd h3 (by decide)
  · rw [h2, ← h3]; exact alI_k h h1
theorem alI_end {al : Int} {wS wP : Rw} (h : alI al .leaf .leaf wS wP) : al = (if (lay wS wP).2 = true then 1 else 0) := by
  rcases h with ⟨h2, h⟩ | ⟨h2, h⟩
  · have e : (lay (.leaf : Rw) (.leaf : Rw)).2 = true := by rw [lay_S]; rfl
    rw [h2, h, e]; rfl
  · rw [h2, h]; rfl
theorem wSt_end {μ0 μ : va_M} {n : Nat} {o1 : Int} {W : Rw} {y : Int} (h : wSt μ0 μ n o1 (μ0 719 o1.toNat) W 0 y .leaf .leaf) : layO μ0 μ (n + 1) o1 W := by
  have e0 : rN (Std.DTreeMap.Internal.Impl.leaf : Rw) = 0 := rfl
  refine ⟨h.1, fun h1 => ?_⟩
  obtain ⟨a1, a2, a3, a4, a5, a6, a7⟩ := h.2 h1
  rw [e0] at a4
  exact ⟨a1, by omega, a7 μ (fun x _ _ => ⟨rfl, rfl, fun _ => rfl⟩) (fun h => absurd rfl h) trivial trivial⟩
/-- room that is left in the tree that is made -/
theorem wSt_cap {μ0 μ : va_M} {n : Nat} {o1 : Int} {W : Rw} {o y : Int} {X Y : Rw} (h : wSt μ0 μ n o1 (μ0 719 o1.toNat) W o y X Y) (hc : capI2 o1 (μ0 719 o1.toNat) (rN W)) (h0 : 0 ≤ o1) : 0 ≤ μ 719 o1.toNat ∧ μ 719 o1.toNat + rN X + rN Y ≤ 900 ∧ (o ≠ 0 → 0 ≤ y ∧ y < 900) := by
  obtain ⟨a1, a2, a3, a4, a5, a6, a7⟩ := h.2 h0
  have h9 := hc h0
  refine ⟨by omega, by omega, fun h8 => ?_⟩
  have := a6 h8
  omega

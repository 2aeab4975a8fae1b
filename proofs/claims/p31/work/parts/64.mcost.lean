
/-! one level of laying: the rows, and what is known of the costs behind a place -/
def lvS (μ : va_M) (n : Nat) (t u1 : Int) (wS wP : Rw) (ps pq : Int) : Prop := μ 4408 n = t ∧ μ 4409 n = u1 ∧ μ 4410 n = rI wS ∧ μ 4411 n = rI wP ∧ rowIs μ (723 + n) wS ps ∧ rowIs μ (738 + n) wP pq ∧ RA μ t.toNat wS ps.toNat ∧ RA μ u1.toNat wP pq.toNat
def leA (μ : va_M) (n : Nat) (wS wP : Rw) (i j : Nat) : Prop := ∀ i2 j2 : Nat, i ≤ i2 → j ≤ j2 → (i < i2 ∨ j < j2) → i2 ≤ rI wS → j2 ≤ rI wP → μ (754 + n * 261 + 1 + i2) j2 = (lay (rdrop i2 wS) (rdrop j2 wP)).1
def waF (q : Int) (w b : Rw) : Int := if q = 4 then wa4 lay w b else if q = 5 then wa5 lay w b else if q = 1 then wa1 lay w b else if q = 2 then wa2 lay w b else wa3 lay w b
theorem cS_it {μ : va_M} {t p k : Nat} {v : Int} {l : Rw} (h : IA μ t p k v l) : cS μ t p (1 + rN l) = rL1 k l := by
  have h9 := cS_row (μ := μ) (t := t) (Std.DTreeMap.Internal.Impl.inner 0 k v l .leaf) p ⟨h.1, h.2.1, h.2.2.1, h.2.2.2, trivial⟩
  have e0 : rL (Std.DTreeMap.Internal.Impl.leaf : Rw) = 0 := rfl
  have e1 : rN (Std.DTreeMap.Internal.Impl.inner 0 k v l .leaf : Rw) = 1 + rN l := rfl
  rw [e1, rL_in, e0] at h9
  omega
theorem rL_ne : ∀ w : Rw, rWF w → w ≠ .leaf → 1 ≤ rL w
  | .leaf, _, h => absurd rfl h
  | .inner z k v l r, ⟨_, _, f3, _, _, _, f7, _⟩, _ => by
    have e : rL (Std.DTreeMap.Internal.Impl.inner z k v l r : Rw) = (if k < 3 then 1 else 0) + rL l + rL r := rfl
    rw [e]
    by_cases h : k < 3
    · rw [if_pos h]; omega
    · have := rL_ne l f7 (f3 (by omega))
      omega
theorem rI_L : ∀ w : Rw, rWF w → rI w ≤ rL w
  | .leaf, _ => Nat.le_refl 0
  | .inner z k v l r, ⟨_, _, f3, _, _, _, f7, f8⟩ => by
    have h1 := rI_L r f8
    have e : rL (Std.DTreeMap.Internal.Impl.inner z k v l r : Rw) = (if k < 3 then 1 else 0) + rL l + rL r := rfl
    rw [e, rI_in]
    by_cases h : k < 3
    · rw [if_pos h]; omega
    · have := rL_ne l f7 (f3 (by omega))
      omega
theorem rdrop_L : ∀ (m : Nat) (w : Rw), rL (rdrop m w) ≤ rL w
  | 0, _ => Nat.le_refl _
  | _ + 1, .leaf => Nat.le_refl _
  | m + 1, .inner z k v l r => by
    have e : rL (Std.DTreeMap.Internal.Impl.inner z k v l r : Rw) = (if k < 3 then 1 else 0) + rL l + rL r := rfl
    have := rdrop_L m r
    rw [rdrop, e]; omega
theorem rL_l {z k : Nat} {v : Int} {l r : Rw} : rL l ≤ rL (Std.DTreeMap.Internal.Impl.inner z k v l r : Rw) := by
  have e : rL (Std.DTreeMap.Internal.Impl.inner z k v l r : Rw) = (if k < 3 then 1 else 0) + rL l + rL r := rfl
  rw [e]; omega
theorem rdrop_0 {w : Rw} {m : Nat} (h : rI w ≤ m) : rdrop m w = .leaf := by
  have h1 := rdrop_I m w
  cases hx : rdrop m w with
  | leaf => rfl
  | inner z k v l r => rw [hx, rI_in] at h1; omega


/-! one level of laying: the rows, and what is known of the costs behind a place -/
def lvS (μ : va_M) (n : Nat) (t u1 : Int) (wS wP : Rw) (ps pq : Int) : Prop := μ 4408 n = t ∧ μ 4409 n = u1 ∧ μ 4410 n = rI wS ∧ μ 4411 n = rI wP ∧ rowIs μ (723 + n) wS ps ∧ rowIs μ (738 + n) wP pq ∧ RA μ t.toNat wS ps.toNat ∧ RA μ u1.toNat wP pq.toNat
def leA (μ : va_M) (n : Nat) (wS wP : Rw) (i j : Nat) : Prop := ∀ i2 j2 : Nat, i ≤ i2 → j ≤ j2 → (i < i2 ∨ j < j2) → i2 ≤ rI wS → j2 ≤ rI wP → μ (754 + n * 261 + 1 + i2) j2 = (lay (rdrop i2 wS) (rdrop j2 wP)).1
def waF (q : Int) (w b : Rw) : Int := if q = 4 then wa4 lay w b else if q = 5 then wa5 lay w b else if q = 1 then wa1 lay w b else if q = 2 then wa2 lay w b else wa3 lay w b
theorem cS_it {μ : va_M} {t p k : Nat} {v : Int} {l : Rw} (h : IA μ t p k v l) : cS μ t p (1 + rN l) = rL1 k l := by
  have h9 := cS_row (μ := μ) (t := t) (Std.DTreeMap.Internal.Impl.inner 0 k v l .leaf) p ⟨h.1, h.2.1, h.2.2.1, h.2.2.2, trivial⟩
  have e0 : rL (Std.DTreeMap.Internal.Impl.leaf : Rw) = 0 := rfl
  have e1 : rN (Std.DTreeMap.Internal.Impl.inner 0 k v l .leaf : Rw) = 1 + rN l := rfl
  rw [e1, rL_in, e0] at h9
  omega
theorem rdrop_0 {w : Rw} {m : Nat} (h : rI w ≤ m) : rdrop m w = .leaf := by
  have h1 := rdrop_I m w
  cases hx : rdrop m w with
  | leaf => rfl
  | inner z k v l r => rw [hx, rI_in] at h1; omega

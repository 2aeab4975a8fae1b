
/-! what laying changes, level by level; two items that meet -/
def LD (n x y : Nat) : Prop := (723 + n ≤ x ∧ x < 737) ∨ (738 + n ≤ x ∧ x < 752) ∨ (754 + n * 261 ≤ x ∧ x < 4408) ∨ (4408 ≤ x ∧ x ≤ 4411 ∧ n ≤ y) ∨ (x = 0 ∧ y = 33)
def LO (n o n0 x y : Nat) : Prop := LD n x y ∨ PG o n0 x y
theorem LD_up {n x y : Nat} (h : LD (n + 1) x y) : LD n x y := by unfold LD at h ⊢; omega
def capI2 (o1 n : Int) (k : Nat) : Prop := 0 ≤ o1 → 0 ≤ n ∧ n + k ≤ 900
def layO (μ u : va_M) (n : Nat) (o1 : Int) (w : Rw) : Prop := (o1 = -1 → fr (LD n) μ u) ∧ (0 ≤ o1 → fr (LO n o1.toNat (μ 719 o1.toNat).toNat) μ u ∧ u 719 o1.toNat = μ 719 o1.toNat + rN w ∧ RA u o1.toNat w (μ 719 o1.toNat).toNat)
def mtC (k : Nat) (v : Int) (l : Rw) (k2 : Nat) (v2 : Int) (l2 : Rw) : Int := if k < 3 then (if ialkB k v l k2 v2 l2 = true then fC k v k2 v2 (rfC l l2) else 1000000) else if k = 4 ∧ k2 = 4 then (if (lay l l2).2 = true then 1000000 else (lay l l2).1) else 1000000
/-- the item that comes of it -/
def mtI (k : Nat) (v : Int) (l : Rw) (k2 : Nat) (v2 : Int) (l2 : Rw) : Rw := if k < 3 then .inner 0 (fK k v k2 v2) (fV k v k2 v2) (rfus l l2) .leaf else .inner 0 4 (-1) (lrow l l2) .leaf

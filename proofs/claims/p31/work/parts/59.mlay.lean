
/-! two rows laid against each other: what it costs, and whether the walk is of options alone -/
def txB (k : Nat) : Bool := k == 1 || k == 2
def ralkB : Rw → Rw → Bool
  | .leaf, .leaf => true
  | .inner _ k v l r, .inner _ k2 v2 l2 r2 => ((txB k && txB k2) || (!txB k && k == k2 && (k != 0 || v == v2) && ralkB l l2)) && ralkB r r2
  | .leaf, .inner _ _ _ _ _ => false
  | .inner _ _ _ _ _, .leaf => false
def ialkB (k : Nat) (v : Int) (l : Rw) (k2 : Nat) (v2 : Int) (l2 : Rw) : Bool := (txB k && txB k2) || (!txB k && k == k2 && (k != 0 || v == v2) && ralkB l l2)
def nxtB : Rw → Rw → Bool
  | .leaf, _ => true
  | .inner _ k v l r, .inner _ k2 v2 l2 r2 => ialkB k v l k2 v2 l2 && nxtB r r2
  | .inner _ _ _ _ _, .leaf => false
theorem txB_is (k : Nat) : txB k = true ↔ isTx k := by
  unfold txB isTx
  rw [Bool.or_eq_true, beq_iff_eq, beq_iff_eq]
theorem ralkB_is : ∀ (w b : Rw), ralkB w b = true ↔ ralk w b
  | .leaf, .leaf => ⟨fun _ => trivial, fun _ => rfl⟩
  | .leaf, .inner _ _ _ _ _ => ⟨fun h => (by cases h), fun h => h.elim⟩
  | .inner _ _ _ _ _, .leaf => ⟨fun h => (by cases h), fun h => h.elim⟩
  | .inner _ k v l r, .inner _ k2 v2 l2 r2 => by
    have h1 := ralkB_is l l2
    have h2 := ralkB_is r r2
    have h3 := txB_is k
    have h4 := txB_is k2
    have h5 : txB k = false ↔ ¬ isTx k := by rw [← h3]; cases txB k <;> decide
    simp only [ralkB, ralk, Bool.and_eq_true, Bool.or_eq_true, Bool.not_eq_true', beq_iff_eq, bne_iff_ne, h1, h2, h3, h4, h5, ne_eq, and_assoc]
    constructor
    · rintro ⟨h | ⟨a, b, c, d⟩, f⟩
      · exact ⟨Or.inl h, f⟩
      · exact ⟨Or.inr ⟨a, b, fun h0 => c.elim (fun h9 => absurd h0 h9) (fun h9 => h9), d⟩, f⟩
    · rintro ⟨h | ⟨a, b, c, d⟩, f⟩
      · exact ⟨Or.inl h, f⟩
      · refine ⟨Or.inr ⟨a, b, ?_, d⟩, f⟩
        by_cases h0 : k = 0
        · exact Or.inr (c h0)
        · exact Or.inl h0
theorem ialkB_is {k : Nat} {v : Int} {l : Rw} {k2 : Nat} {v2 : Int} {l2 : Rw} : ialkB k v l k2 v2 l2 = true ↔ ialk k v l k2 v2 l2 := by
  have h := ralkB_is (Std.DTreeMap.Internal.Impl.inner 0 k v l .leaf) (Std.DTreeMap.Internal.Impl.inner 0 k2 v2 l2 .leaf)
  have a : ralkB (Std.DTreeMap.Internal.Impl.inner 0 k v l .leaf : Rw) (Std.DTreeMap.Internal.Impl.inner 0 k2 v2 l2 .leaf) = ialkB k v l k2 v2 l2 := by
    rw [ralkB, ialkB, ralkB, Bool.and_true]
  have b : ralk (Std.DTreeMap.Internal.Impl.inner 0 k v l .leaf : Rw) (Std.DTreeMap.Internal.Impl.inner 0 k2 v2 l2 .leaf) ↔ ialk k v l k2 v2 l2 := ⟨fun h => h.1, fun h => ⟨h, trivial⟩⟩
  rw [a] at h
  exact h.trans b
theorem nxtB_is : ∀ (w b : Rw), nxtB w b = true ↔ nxt w b
  | .leaf, _ => ⟨fun _ => trivial, fun _ => by rw [nxtB]⟩
  | .inner _ _ _ _ _, .leaf => ⟨fun h => (by cases h), fun h => h.elim⟩
  | .inner _ k v l r, .inner _ k2 v2 l2 r2 => by
    rw [nxtB, nxt, Bool.and_eq_true, ialkB_is, nxtB_is r r2]
def rL1 (k : Nat) (l : Rw) : Int := (if k < 3 then 1 else 0) + rL l
def wa1 (g : Rw → Rw → Int × Bool) : Rw → Rw → Int
  | .inner _ k v l r, .inner _ k2 v2 l2 r2 => (if k < 3 then (if ialkB k v l k2 v2 l2 = true then fC k v k2 v2 (rfC l l2) else 1000000) else if k = 4 ∧ k2 = 4 then (if (g l l2).2 = true then 1000000 else (g l l2).1) else 1000000) + (g r r2).1
  | .leaf, _ => 1000000
  | .inner _ _ _ _ _, .leaf => 1000000
def wa2 (g : Rw → Rw → Int × Bool) : Rw → Rw → Int
  | .inner _ k _ l r, .inner z2 k2 v2 l2 r2 => if k < 3 ∨ nxtB l (.inner z2 k2 v2 l2 r2) = false then 1000000 else rfC l (.inner z2 k2 v2 l2 r2) + (g r (rdrop (rI l) (.inner z2 k2 v2 l2 r2))).1
  | .leaf, _ => 1000000
  | .inner _ _ _ _ _, .leaf => 1000000
def wa3 (g : Rw → Rw → Int × Bool) : Rw → Rw → Int
  | .inner z k v l r, .inner _ k2 _ l2 r2 => if k2 ≠ 4 ∨ nxtB l2 (.inner z k v l r) = false then 1000000 else rfC l2 (.inner z k v l r) + (g (rdrop (rI l2) (.inner z k v l r)) r2).1
  | .leaf, _ => 1000000
  | .inner _ _ _ _ _, .leaf => 1000000
def wa4 (g : Rw → Rw → Int × Bool) : Rw → Rw → Int
  | .inner _ k _ l r, b => (if k = 3 then 0 else rL1 k l) + (g r b).1
  | .leaf, _ => 1000000
def wa5 (g : Rw → Rw → Int × Bool) : Rw → Rw → Int
  | w, .inner _ k _ l r => rL1 k l + (g w r).1
  | _, .leaf => 1000000
def wa0 : Rw → Rw → Int
  | .leaf, .leaf => 0
  | .leaf, .inner _ _ _ _ _ => 1000000
  | .inner _ _ _ _ _, _ => 1000000
def wmin (g : Rw → Rw → Int × Bool) (w b : Rw) : Int := min (min (min (min (min (wa0 w b) (wa1 g w b)) (wa2 g w b)) (wa3 g w b)) (wa4 g w b)) (wa5 g w b)
def hdO : Rw → Bool
  | .inner _ k _ _ _ => k == 3
  | .leaf => false
def tl2 (g : Rw → Rw → Int × Bool) : Rw → Rw → Bool
  | .inner _ _ _ l r, b => (g r (rdrop (rI l) b)).2
  | .leaf, _ => true
def tl4 (g : Rw → Rw → Int × Bool) : Rw → Rw → Bool
  | .inner _ _ _ _ r, b => (g r b).2
  | .leaf, _ => true
def tl5 (g : Rw → Rw → Int × Bool) : Rw → Rw → Bool
  | w, .inner _ _ _ _ r => (g w r).2
  | _, .leaf => true
def wal (g : Rw → Rw → Int × Bool) (w b : Rw) : Bool := if wa0 w b = 0 then true else if wa1 g w b = wmin g w b then false else if wa2 g w b = wmin g w b then (hdO w && tl2 g w b) else if wa3 g w b = wmin g w b then false else if wa4 g w b = wmin g w b then tl4 g w b else tl5 g w b
def LF : Nat → Rw → Rw → Int × Bool
  | 0, _, _ => (0, true)
  | f + 1, w, b => (wmin (LF f) w b, wal (LF f) w b)
theorem rdrop_N2 (m : Nat) (w : Rw) : rN (rdrop m w) ≤ rN w := by have := rdrop_N m w; omega
theorem w_congr {g h : Rw → Rw → Int × Bool} {w b : Rw} (H : ∀ w' b' : Rw, rN w' + rN b' < rN w + rN b → g w' b' = h w' b') : wa1 g w b = wa1 h w b ∧ wa2 g w b = wa2 h w b ∧ wa3 g w b = wa3 h w b ∧ wa4 g w b = wa4 h w b ∧ wa5 g w b = wa5 h w b ∧ tl2 g w b = tl2 h w b ∧ tl4 g w b = tl4 h w b ∧ tl5 g w b = tl5 h w b := by
  cases w with
  | leaf =>
    cases b with
    | leaf => exact ⟨rfl, rfl, rfl, rfl, rfl, rfl, rfl, rfl⟩
    | inner z2 k2 v2 l2 r2 =>
      have h1 := H .leaf r2 (by rw [rN_in]; omega)
      refine ⟨rfl, rfl, rfl, rfl, ?_, rfl, rfl, ?_⟩
      · rw [wa5, wa5, h1]
      · rw [tl5, tl5, h1]
  | inner z k v l r =>
    have h4 := H r b (by rw [rN_in]; omega)
    have h2 := H r (rdrop (rI l) b) (by have := rdrop_N2 (rI l) b; rw [rN_in]; omega)
    cases b with
    | leaf =>
      refine ⟨rfl, rfl, rfl, ?_, rfl, ?_, ?_, rfl⟩
      · rw [wa4, wa4, h4]
      · rw [tl2, tl2, h2]
      · rw [tl4, tl4, h4]
    | inner z2 k2 v2 l2 r2 =>
      have h1 := H r r2 (by rw [rN_in, rN_in]; omega)
      have h0 := H l l2 (by rw [rN_in, rN_in]; omega)
      have e9 : rN (Std.DTreeMap.Internal.Impl.inner z2 k2 v2 l2 r2 : Rw) = 1 + rN l2 + rN r2 := rN_in
      have h3 := H (rdrop (rI l2) (.inner z k v l r)) r2 (by have := rdrop_N2 (rI l2) (Std.DTreeMap.Internal.Impl.inner z k v l r : Rw); omega)
      have h5 := H (.inner z k v l r) r2 (by omega)
      refine ⟨?_, ?_, ?_, ?_, ?_, ?_, ?_, ?_⟩
      · rw [wa1, wa1, h0, h1]
      · rw [wa2, wa2, h2]
      · rw [wa3, wa3, h3]
      · rw [wa4, wa4, h4]
      · rw [wa5, wa5, h5]
      · rw [tl2, tl2, h2]
      · rw [tl4, tl4, h4]
      · rw [tl5, tl5, h5]
theorem LF_fuel : ∀ (f f2 : Nat) (w b : Rw), rN w + rN b < f → rN w + rN b < f2 → LF f w b = LF f2 w b
  | 0, _, _, _, h, _ => absurd h (Nat.not_lt_zero _)
  | _ + 1, 0, _, _, _, h => absurd h (Nat.not_lt_zero _)
  | f + 1, f2 + 1, w, b, h, h2 => by
    obtain ⟨a1, a2, a3, a4, a5, a6, a7, a8⟩ := w_congr (g := LF f) (h := LF f2) (w := w) (b := b) (fun w' b' hh => LF_fuel f f2 w' b' (by omega) (by omega))
    have e : wmin (LF f) w b = wmin (LF f2) w b := by unfold wmin; rw [a1, a2, a3, a4, a5]
    have e2 : wal (LF f) w b = wal (LF f2) w b := by unfold wal; rw [e, a1, a2, a3, a4, a6, a7, a8]
    rw [LF, LF, e, e2]
/-- the cost, with fuel enough -/
def lay (w b : Rw) : Int × Bool := LF (rN w + rN b + 1) w b
theorem lay_S (w b : Rw) : lay w b = (wmin lay w b, wal lay w b) := by
  obtain ⟨a1, a2, a3, a4, a5, a6, a7, a8⟩ := w_congr (g := LF (rN w + rN b)) (h := lay) (w := w) (b := b) (fun w' b' hh => LF_fuel _ _ w' b' (by omega) (by omega))
  have e : wmin (LF (rN w + rN b)) w b = wmin lay w b := by unfold wmin; rw [a1, a2, a3, a4, a5]
  have e2 : wal (LF (rN w + rN b)) w b = wal lay w b := by unfold wal; rw [e, a1, a2, a3, a4, a6, a7, a8]
  rw [← e, ← e2]
  rfl
theorem wa0_rng (w b : Rw) : 0 ≤ wa0 w b ∧ wa0 w b ≤ 1000000 := by
  cases w with
  | leaf =>
    cases b with
    | leaf => rw [wa0]; omega
    | inner z k v l r => rw [wa0]; omega
  | inner z k v l r => rw [wa0]; omega

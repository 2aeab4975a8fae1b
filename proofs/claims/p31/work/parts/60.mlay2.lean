
/-! the row that comes of laying, along the first ways of least cost -/
def rk : Rw → Nat
  | .inner _ k _ _ _ => k
  | .leaf => 0
def rv : Rw → Int
  | .inner _ _ v _ _ => v
  | .leaf => 0
def rl : Rw → Rw
  | .inner _ _ _ l _ => l
  | .leaf => .leaf
def rr : Rw → Rw
  | .inner _ _ _ _ r => r
  | .leaf => .leaf
def hsd : Rw → Bool
  | .inner _ _ _ _ _ => true
  | .leaf => false
/-- the first way of least cost; 0 where nothing is left -/
def wayOf (w b : Rw) : Nat := if hsd w && hsd b && (wa1 lay w b == wmin lay w b) then 1 else if hsd w && hsd b && (wa2 lay w b == wmin lay w b) then 2 else if hsd w && hsd b && (wa3 lay w b == wmin lay w b) then 3 else if hsd w && (wa4 lay w b == wmin lay w b) then 4 else if hsd b then 5 else 0
/-- what goes into the option that is open (o: by which way), and what stands behind it -/
def WK : Nat → Nat → Rw → Rw → Rw × Rw
  | 0, _, _, _ => (.leaf, .leaf)
  | f + 1, o, w, b =>
    if wayOf w b = 1 then (.leaf, if rk w < 3 then .inner 0 (fK (rk w) (rv w) (rk b) (rv b)) (fV (rk w) (rv w) (rk b) (rv b)) (rfus (rl w) (rl b)) (WK f 0 (rr w) (rr b)).2 else .inner 0 4 (-1) (WK f 0 (rl w) (rl b)).2 (WK f 0 (rr w) (rr b)).2)
    else if wayOf w b = 2 then (.leaf, .inner 0 (rk w) (-1) (rfus (rl w) b) (WK f 0 (rr w) (rdrop (rI (rl w)) b)).2)
    else if wayOf w b = 3 then (.leaf, .inner 0 4 (-1) (rfus (rl b) w) (WK f 0 (rdrop (rI (rl b)) w) (rr b)).2)
    else if wayOf w b = 4 then (if rk w = 3 then (.leaf, .inner 0 3 (rv w) (rl w) (WK f 0 (rr w) b).2) else if o = 4 then (.inner 0 (rk w) (rv w) (rl w) (WK f 4 (rr w) b).1, (WK f 4 (rr w) b).2) else (.leaf, .inner 0 3 (-1) (.inner 0 (rk w) (rv w) (rl w) (WK f 4 (rr w) b).1) (WK f 4 (rr w) b).2))
    else if wayOf w b = 5 then (if o = 5 then (.inner 0 (rk b) (rv b) (rl b) (WK f 5 w (rr b)).1, (WK f 5 w (rr b)).2) else (.leaf, .inner 0 3 (-1) (.inner 0 (rk b) (rv b) (rl b) (WK f 5 w (rr b)).1) (WK f 5 w (rr b)).2))
    else (.leaf, .leaf)
theorem rr_N {w : Rw} (h : hsd w = true) : rN (rr w) < rN w ∧ rN (rl w) < rN w := by
  cases w with
  | leaf => cases h
  | inner z k v l r =>
    have e : rN (Std.DTreeMap.Internal.Impl.inner z k v l r : Rw) = 1 + rN l + rN r := rN_in
    exact ⟨by show rN r < _; omega, by show rN l < _; omega⟩
theorem way_12 {w b : Rw} (h : wayOf w b = 1 ∨ wayOf w b = 2 ∨ wayOf w b = 3) : hsd w = true ∧ hsd b = true := by
  unfold wayOf at h
  cases hw : hsd w <;> cases hb9 : hsd b <;> simp [hw, hb9] at h ⊢ <;> (try (split at h <;> simp at h))
theorem way_4 {w b : Rw} (h : wayOf w b = 4) : hsd w = true := by
  unfold wayOf at h
  cases hw : hsd w <;> cases hb9 : hsd b <;> simp [hw, hb9] at h ⊢
theorem way_5 {w b : Rw} (h : wayOf w b = 5) : hsd b = true := by
  unfold wayOf at h
  cases hw : hsd w <;> cases hb9 : hsd b <;> simp [hw, hb9] at h ⊢ <;> (try (split at h <;> simp at h))
theorem WK_fuel : ∀ (f f2 o : Nat) (w b : Rw), rN w + rN b < f → rN w + rN b < f2 → WK f o w b = WK f2 o w b
  | 0, _, _, _, _, h, _ => absurd h (Nat.not_lt_zero _)
  | _ + 1, 0, _, _, _, _, h => absurd h (Nat.not_lt_zero _)
  | f + 1, f2 + 1, o, w, b, h, h2 => by
    rw [WK, WK]
    by_cases h1 : wayOf w b = 1
    · obtain ⟨g1, g2⟩ := way_12 (Or.inl h1)
      have n1 := rr_N g1
      have n2 := rr_N g2
      rw [if_pos h1, if_pos h1, WK_fuel f f2 0 (rr w) (rr b) (by omega) (by omega), WK_fuel f f2 0 (rl w) (rl b) (by omega) (by omega)]
    · rw [if_neg h1, if_neg h1]
      by_cases h3 : wayOf w b = 2
      · obtain ⟨g1, g2⟩ := way_12 (Or.inr (Or.inl h3))
        have n1 := rr_N g1
        have n2 := rdrop_N2 (rI (rl w)) b
        rw [if_pos h3, if_pos h3, WK_fuel f f2 0 (rr w) (rdrop (rI (rl w)) b) (by omega) (by omega)]
      · rw [if_neg h3, if_neg h3]
        by_cases h4 : wayOf w b = 3
        · obtain ⟨g1, g2⟩ := way_12 (Or.inr (Or.inr h4))
          have n1 := rr_N g2
          have n2 := rdrop_N2 (rI (rl b)) w
          rw [if_pos h4, if_pos h4, WK_fuel f f2 0 (rdrop (rI (rl b)) w) (rr b) (by omega) (by omega)]
        · rw [if_neg h4, if_neg h4]
          by_cases h5 : wayOf w b = 4
          · have n1 := rr_N (way_4 h5)
            rw [if_pos h5, if_pos h5, WK_fuel f f2 0 (rr w) b (by omega) (by omega), WK_fuel f f2 4 (rr w) b (by omega) (by omega)]
          · rw [if_neg h5, if_neg h5]
            by_cases h6 : wayOf w b = 5
            · have n1 := rr_N (way_5 h6)
              rw [if_pos h6, if_pos h6, WK_fuel f f2 5 w (rr b) (by omega) (by omega)]
            · rw [if_neg h6, if_neg h6]
/-- what comes of a row laid against another one -/
def wk (o : Nat) (w b : Rw) : Rw × Rw := WK (rN w + rN b + 1) o w b
def lrow (w b : Rw) : Rw := (wk 0 w b).2


/-! how long a token's name is, out of its value -/
def p27 : Nat → Int
  | 0 => 1
  | k + 1 => 27 * p27 k
theorem p27_pos : ∀ k, 1 ≤ p27 k
  | 0 => by show (1 : Int) ≤ 1; decide
  | k + 1 => by
    have h := p27_pos k
    show 1 ≤ 27 * p27 k
    omega
/-- each token's value has as many digits as its name has letters -/
def tkV9 (e : Tk) : Prop := 1 ≤ e.2.2 ∧ e.2.2 ≤ 6 ∧ p27 (e.2.2 - 1) ≤ e.2.1 ∧ e.2.1 < p27 e.2.2
def tabV (T : List Tk) : Prop := ∀ (k : Nat) (e : Tk), T[k]? = some e → tkV9 e
theorem tabV_nil : tabV [] := fun k e h => by simp at h
theorem tabV_add {T : List Tk} {e : Tk} (h : tabV T) (he : tkV9 e) : tabV (T ++ [e]) := by
  intro k x hx
  by_cases hk : k < T.length
  · rw [List.getElem?_append_left hk] at hx
    exact h k x hx
  · rw [List.getElem?_append_right (Nat.le_of_not_lt hk)] at hx
    match hq : k - T.length, hx with
    | 0, hx => cases hx; exact he
    | q + 1, hx => simp at hx
theorem nval_27 {b : Int → Int} {s : Int} : ∀ k : Nat, (∀ i : Nat, i < k → 97 ≤ b (s + i) ∧ b (s + i) ≤ 122) → 0 ≤ nval b s k ∧ nval b s k < p27 k ∧ (1 ≤ k → p27 (k - 1) ≤ nval b s k)
  | 0, _ => ⟨Int.le_refl _, by show (0 : Int) < 1; decide, fun h => absurd h (by decide)⟩
  | k + 1, h => by
    have h1 := nval_27 k (fun i hi => h i (by omega))
    have h2 := h k (by omega)
    rw [nval]
    show _ ∧ _ < 27 * p27 k ∧ (_ → p27 k ≤ _)
    obtain ⟨a1, a2, a3⟩ := h1
    refine ⟨by omega, by omega, fun _ => ?_⟩
    match k, a1, a2, a3, h2 with
    | 0, a1, _, _, h2 =>
      show (1 : Int) ≤ _
      omega
    | k + 1, a1, a2, a3, h2 =>
      have a4 := a3 (by omega)
      have e : k + 1 - 1 = k := rfl
      rw [e] at a4
      show 27 * p27 k ≤ _
      omega
theorem lets_le9 {b : Int → Int} : ∀ (f : Nat) (s : Int), lets b f s ≤ f
  | 0, _ => Nat.le_refl _
  | f + 1, s => by
    rw [lets]
    split
    · have := lets_le9 (b := b) f (s + 1)
      omega
    · omega
theorem tk_V9 {b : Int → Int} {a : Int} (h : tkGood b a) : tkV9 (tkS b a, tkV b a, tkL b a) := by
  have h1 : 1 ≤ tkL b a := h.1
  have h2 : tkL b a ≤ 6 := lets_le9 6 _
  have h3 := nval_27 (b := b) (s := tkN b a) (tkL b a) (fun i hi => lets_sm 6 _ i hi)
  exact ⟨h1, h2, h3.2.2 h1, h3.2.1⟩
theorem pgo_V {b : Int → Int} {n : Int} : ∀ (f : Nat) (a : Int) (T : List Tk) (S : List Int) (T2 : List Tk) (S2 : List Int), pgo b n f a T S = some (T2, S2) → tabV T → tabV T2
  | 0, _, _, _, _, _, h, _ => by rw [pgo] at h; cases h
  | f + 1, a, T, S, T2, S2, h, hv => by
    rw [pgo] at h
    split at h
    · split at h
      · cases h
      · cases h; exact hv
    · split at h
      · exact pgo_V f _ _ _ _ _ h hv
      · split at h
        · cases h
        · split at h
          · cases h
          · split at h
            · cases h
            · rename_i hg
              split at h
              · exact pgo_V f _ _ _ _ _ h hv
              · split at h
                · cases h
                · exact pgo_V f _ _ _ _ _ h (tabV_add hv (tk_V9 (Classical.not_not.mp hg)))
theorem pg_V {b : Int → Int} {n a : Int} {T : List Tk} {S : List Int} {T2 : List Tk} {S2 : List Int} (h : pg b n a T S = some (T2, S2)) (hv : tabV T) : tabV T2 := pgo_V _ _ _ _ _ _ h hv
/-- divided by 27, k times -/
def d27 (v : Int) : Nat → Int
  | 0 => v
  | k + 1 => d27 v k / 27
theorem d27_0 {v : Int} (h0 : 0 ≤ v) : ∀ k, 0 ≤ d27 v k ∧ d27 v k ≤ v
  | 0 => ⟨h0, Int.le_refl _⟩
  | k + 1 => by
    have h := d27_0 h0 k
    show 0 ≤ d27 v k / 27 ∧ d27 v k / 27 ≤ v
    omega
theorem p27_S {k j : Nat} (h : k < j) : p27 (j - k) = 27 * p27 (j - (k + 1)) := by
  obtain ⟨q, rfl⟩ : ∃ q, j = k + 1 + q := ⟨j - (k + 1), by omega⟩
  rw [show k + 1 + q - k = q + 1 by omega, show k + 1 + q - (k + 1) = q by omega]
  rfl
theorem d27_lt {v : Int} {j : Nat} (h : v < p27 j) : ∀ k, k ≤ j → d27 v k < p27 (j - k)
  | 0, _ => h
  | k + 1, hk => by
    have h1 := d27_lt h k (by omega)
    rw [p27_S (by omega)] at h1
    show d27 v k / 27 < _
    omega
theorem d27_ge {v : Int} {j : Nat} (h : p27 j ≤ v) : ∀ k, k ≤ j → p27 (j - k) ≤ d27 v k
  | 0, _ => h
  | k + 1, hk => by
    have h1 := d27_ge h k (by omega)
    rw [p27_S (by omega)] at h1
    show _ ≤ d27 v k / 27
    omega
/-- the value divided so often is 0 for the first time when the name's letters are through -/
theorem d27_tk {e : Tk} (h : tkV9 e) (k : Nat) : (k < e.2.2 → 1 ≤ d27 e.2.1 k) ∧ (e.2.2 ≤ k → d27 e.2.1 k = 0) := by
  obtain ⟨h1, h2, h3, h4⟩ := h
  have h0 : 0 ≤ e.2.1 := Int.le_trans (Int.le_trans (by decide) (p27_pos _)) h3
  constructor
  · intro hk
    have a := d27_ge h3 k (by omega)
    have := p27_pos (e.2.2 - 1 - k)
    omega
  · intro hk
    have a := d27_lt h4 e.2.2 (Nat.le_refl _)
    rw [Nat.sub_self] at a
    have a : d27 e.2.1 e.2.2 < 1 := a
    obtain ⟨q, rfl⟩ : ∃ q, k = e.2.2 + q := ⟨k - e.2.2, by omega⟩
    clear hk
    induction q with
    | zero => have := (d27_0 h0 e.2.2).1; show d27 e.2.1 e.2.2 = 0; omega
    | succ q ih => show d27 e.2.1 (e.2.2 + q) / 27 = 0; rw [ih]; decide

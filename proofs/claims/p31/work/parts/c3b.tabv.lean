
/-! how long a token's name is, out of its value -/
def p27 : Nat → Int
  | 0 => 1
  | k + 1 => 27 * p27 k
/-- each token's value has as many digits as its name has letters -/
def tkV9 (e : Tk) : Prop := 1 ≤ e.2.2 ∧ e.2.2 ≤ 6 ∧ p27 (e.2.2 - 1) ≤ e.2.1 ∧ e.2.1 < p27 e.2.2
def tabV (T : List Tk) : Prop := ∀ (k : Nat) (e : Tk), T[k]? = some e → tkV9 e
theorem tabV_nil : tabV [] := fun k e h => by simp at h
theorem tabV_add {T : List Tk} {e : Tk} (h : tabV T) (he : tkV9 e) : tabV (T ++ [e]) := by
  intro k x hx
  by_cases hk : k < T.length
  · rw [List.getElem?_append_left hk] at hx
    exact h k x hx
  · rw [List.getElem?_append_right (Nat.le_of_not_lt hk)] at hx
    match hq : k - T.length, hx with
    | 0, hx => cases hx; exact he
    | q + 1, hx => simp at hx
theorem nval_27 {b : Int → Int} {s : Int} : ∀ k : Nat, (∀ i : Nat, i < k → 97 ≤ b (s + i) ∧ b (s + i) ≤ 122) → 0 ≤ nval b s k ∧ nval b s k < p27 k ∧ (1 ≤ k → p27 (k - 1) ≤ nval b s k)
  | 0, _ => ⟨Int.le_refl _, by show (0 : Int) < 1; decide, fun h => absurd h (by decide)⟩
  | k + 1, h => by
    have h1 := nval_27 k (fun i hi => h i (by omega))
    have h2 := h k (by omega)
    rw [nval]
    show _ ∧ _ < 27 * p27 k ∧ (_ → p27 k ≤ _)
    obtain ⟨a1, a2, a3⟩ := h1
    refine ⟨by omega, by omega, fun _ => ?_⟩
    match k, a1, a2, a3, h2 with
    | 0, a1, _, _, h2 =>
      show (1 : Int) ≤ _
      omega
    | k + 1, a1, a2, a3, h2 =>
      have a4 := a3 (by omega)
      have e : k + 1 - 1 = k := rfl
      rw [e] at a4
      show 27 * p27 k ≤ _
      omega
theorem lets_le9 {b : Int → Int} : ∀ (f : Nat) (s : Int), lets b f s ≤ f
  | 0, _ => Nat.le_refl _
  | f + 1, s => by
    rw [lets]
    split
    · have := lets_le9 (b := b) f (s + 1)
      omega
    · omega
theorem tk_V9 {b : Int → Int} {a : Int} (h : tkGood b a) : tkV9 (tkS b a, tkV b a, tkL b a) := by
  have h1 : 1 ≤ tkL b a := h.1
  have h2 : tkL b a ≤ 6 := lets_le9 6 _
  have h3 := nval_27 (b := b) (s := tkN b a) (tkL b a) (fun i hi => lets_sm 6 _ i hi)
  exact ⟨h1, h2, h3.2.2 h1, h3.2.1⟩
theorem pgo_V {b : Int → Int} {n : Int} : ∀ (f : Nat) (a : Int) (T : List Tk) (S : List Int) (T2 : List Tk) (S2 : List Int), pgo b n f a T S = some (T2, S2) → tabV T → tabV T2
  | 0, _, _, _, _, _, h, _ => by rw [pgo] at h; cases h
  | f + 1, a, T, S, T2, S2, h, hv => by
    rw [pgo] at h
    split at h
    · split at h
      · cases h
      · cases h; exact hv
    · split at h
      · exact pgo_V f _ _ _ _ _ h hv
      · split at h
        · cases h
        · split at h
          · cases h
          · split at h
            · cases h
            · rename_i hg
              split at h
              · exact pgo_V f _ _ _ _ _ h hv
              · split at h
                · cases h
                · exact pgo_V f _ _ _ _ _ h (tabV_add hv (tk_V9 (Classical.not_not.mp hg)))
theorem pg_V {b : Int → Int} {n a : Int} {T : List Tk} {S : List Int} {T2 : List Tk} {S2 : List Int} (h : pg b n a T S = some (T2, S2)) (hv : tabV T) : tabV T2 := pgo_V _ _ _ _ _ _ h hv

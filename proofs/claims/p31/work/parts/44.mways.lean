
/-! the columns of ways: they rise until they stand -/
def tkD (μ : va_M) (q : Nat) (k : Int) : Int := if nod μ q = 2 then (if μ 3 k.toNat = 2 then 1 else 0) else (if μ 578 (μ 4412 q).toNat = k then 1 else 0)
theorem tkD_of {μ : va_M} {q : Nat} {k r : Int} (h : (r = 1 ∧ tkF μ q k) ∨ (r = 0 ∧ ¬ tkF μ q k)) : r = tkD μ q k := by
  unfold tkF at h
  unfold tkD
  split
  · next h1 =>
    rw [if_pos h1] at h
    rcases h with ⟨h2, h3⟩ | ⟨h2, h3⟩
    · rw [if_pos h3]; exact h2
    · rw [if_neg h3]; exact h2
  · next h1 =>
    rw [if_neg h1] at h
    rcases h with ⟨h2, h3⟩ | ⟨h2, h3⟩
    · rw [if_pos h3]; exact h2
    · rw [if_neg h3]; exact h2
theorem ior_b {z a b : Int} (hz : inR z) (h : iZ z = iZ a ||| iZ b) (ha : a = 0 ∨ a = 1) (hb : b = 0 ∨ b = 1) : (z = 0 ∧ a = 0 ∧ b = 0) ∨ (z = 1 ∧ (a = 1 ∨ b = 1)) := by
  rcases ha with rfl | rfl <;> rcases hb with rfl | rfl
  · left
    rw [show iZ 0 ||| iZ 0 = iZ 0 by decide, iZ_eq hz (by constructor <;> decide)] at h
    exact ⟨h, rfl, rfl⟩
  · right
    rw [show iZ 0 ||| iZ 1 = iZ 1 by decide, iZ_eq hz (by constructor <;> decide)] at h
    exact ⟨h, Or.inr rfl⟩
  · right
    rw [show iZ 1 ||| iZ 0 = iZ 1 by decide, iZ_eq hz (by constructor <;> decide)] at h
    exact ⟨h, Or.inl rfl⟩
  · right
    rw [show iZ 1 ||| iZ 1 = iZ 1 by decide, iZ_eq hz (by constructor <;> decide)] at h
    exact ⟨h, Or.inl rfl⟩
/-- a column's values are in range -/
def cOK (μ : va_M) (col : Nat) : Prop := ∀ x : Nat, (x : Int) ≤ μ 0 39 → 0 ≤ μ (4416 + x) col ∧ μ (4416 + x) col ≤ 1000000000
/-- the arrays in which nothing is written when a column is -/
def CF (x : Nat) : Prop := 4416 ≤ x ∧ x < 6316
theorem wF_rng {μ : va_M} {q col : Nat} {tk : Int} (hO : stOK μ) (hq : (q : Int) < μ 0 39) (hc : cOK μ col) (ht : 0 ≤ tk ∧ tk ≤ 1000000000) : 0 ≤ wF μ q col tk ∧ wF μ q col tk ≤ 1000000000 := by
  obtain ⟨_, _, h3⟩ := hO.2.2.2 q hq
  have d1 := hc (q + 1) (by omega)
  unfold wF
  by_cases h : nod μ q < 3
  · rw [if_pos h]; exact ht
  · rw [if_neg h]
    have d2 := hc (μ 4413 q + 1).toNat (by have h9 := h3 (show 3 ≤ nod μ q by omega); omega)
    split <;> split <;> omega
theorem wF_mono {μ u : va_M} {q col : Nat} {tk : Int} (hO : stOK μ) (hq : (q : Int) < μ 0 39) (h1 : u 507 = μ 507) (h2 : u 4412 = μ 4412) (h3 : u 4413 = μ 4413) (h4 : u 4414 = μ 4414) (hle : ∀ x : Nat, (x : Int) ≤ μ 0 39 → μ (4416 + x) col ≤ u (4416 + x) col) : wF μ q col tk ≤ wF u q col tk := by
  obtain ⟨_, _, g3⟩ := hO.2.2.2 q hq
  have d1 := hle (q + 1) (by omega)
  have e1 : nod u q = nod μ q := by unfold nod; rw [h1, h2]
  unfold wF
  rw [e1, h3, h4]
  by_cases h : nod μ q < 3
  · rw [if_pos h, if_pos h]; exact Int.le_refl _
  · rw [if_neg h, if_neg h]
    have d2 := hle (μ 4413 q + 1).toNat (by have h9 := g3 (show 3 ≤ nod μ q by omega); omega)
    split <;> split <;> omega
def fxI (μ : va_M) (col : Nat) (tk : Nat → Int) : Prop := ∀ x : Nat, (x : Int) < μ 0 39 → μ (4416 + x) col ≤ wF μ x col (tk x)
theorem fxI_up {μ : va_M} {q col : Nat} {tk : Nat → Int} (hO : stOK μ) (hq : (q : Int) < μ 0 39) (h : fxI μ col tk) : fxI (uz μ (4416 + q) col (wF μ q col (tk q))) col tk := by
  have e39 : uz μ (4416 + q) col (wF μ q col (tk q)) 0 39 = μ 0 39 := uz_n (by omega)
  intro x hx
  rw [e39] at hx
  have hle : ∀ y : Nat, (y : Int) ≤ μ 0 39 → μ (4416 + y) col ≤ uz μ (4416 + q) col (wF μ q col (tk q)) (4416 + y) col := fun y _ => by
    by_cases hy : y = q
    · subst hy; rw [uz_s]; exact h y hq
    · rw [uz_n (by omega)]; exact Int.le_refl _
  have hm := wF_mono (u := uz μ (4416 + q) col (wF μ q col (tk q))) (tk := tk x) hO hx (uz_row (by omega)) (uz_row (by omega)) (uz_row (by omega)) (uz_row (by omega)) hle
  by_cases hxq : x = q
  · subst hxq; rw [uz_s]; exact hm
  · rw [uz_n (by omega)]
    exact Int.le_trans (h x hx) hm
/-- how far a column may still rise -/
def mS (μ : va_M) (col : Nat) : Nat → Nat
  | 0 => 0
  | n + 1 => mS μ col n + (1000000000 - μ (4416 + n) col).toNat
theorem mS_n {μ : va_M} {q col : Nat} {v : Int} : ∀ n : Nat, n ≤ q → mS (uz μ (4416 + q) col v) col n = mS μ col n
  | 0, _ => rfl
  | n + 1, h => by rw [mS, mS, mS_n n (by omega), uz_n (by omega)]
theorem mS_up {μ : va_M} {q col : Nat} {v : Int} : ∀ n : Nat, q < n → μ (4416 + q) col ≤ v → v ≤ 1000000000 → mS (uz μ (4416 + q) col v) col n ≤ mS μ col n ∧ (μ (4416 + q) col < v → mS (uz μ (4416 + q) col v) col n < mS μ col n)
  | 0, h, _, _ => absurd h (by omega)
  | n + 1, h, h1, h2 => by
    rw [mS, mS]
    by_cases hq : q = n
    · subst hq
      rw [mS_n q (Nat.le_refl q), uz_s]
      constructor
      · omega
      · intro h3; omega
    · rw [uz_n (by omega)]
      obtain ⟨g1, g2⟩ := mS_up (μ := μ) (col := col) (v := v) n (by omega) h1 h2
      exact ⟨by omega, fun h3 => by have := g2 h3; omega⟩
/-- what a leaf counts for, of the column behind -/
def tkv (μ : va_M) (P : Int) (pp col x : Nat) : Int := if nod μ x < 3 ∧ (col : Int) < P ∧ tkD μ x (μ (7 + pp) col) = 1 then μ (4416 + (x + 1)) (col + 1) else 0
theorem tkv_uz {μ : va_M} {P : Int} {pp col x q : Nat} {v : Int} (hp : pp < 8) : tkv (uz μ (4416 + q) col v) P pp col x = tkv μ P pp col x := by
  have e1 : nod (uz μ (4416 + q) col v) x = nod μ x := by unfold nod; rw [uz_row (by omega), uz_row (by omega)]
  have e2 : uz μ (4416 + q) col v (7 + pp) col = μ (7 + pp) col := uz_n (by omega)
  have e3 : tkD (uz μ (4416 + q) col v) x (μ (7 + pp) col) = tkD μ x (μ (7 + pp) col) := by unfold tkD; rw [e1, uz_row (by omega), uz_row (by omega), uz_row (by omega)]
  unfold tkv
  rw [e1, e2, e3, uz_n (by omega)]
/-- a column stands -/
def cFix (μ : va_M) (P : Int) (pp col : Nat) : Prop := cOK μ col ∧ μ (4416 + (μ 0 39).toNat) col = (if (col : Int) = P then 1 else 0) ∧ ∀ x : Nat, (x : Int) < μ 0 39 → μ (4416 + x) col = wF μ x col (tkv μ P pp col x)
def colF (col : Nat) (x y : Nat) : Prop := CF x ∧ y = col
theorem cOK_fr {P : Nat → Nat → Prop} {μ u : va_M} {col : Nat} (h : cOK μ col) (hf : fr P μ u) (h0 : ¬ P 0 39) (hp : ∀ x, ¬ P (4416 + x) col) : cOK u col := by
  intro x hx
  rw [hf 0 39 h0] at hx
  rw [hf _ _ (hp x)]
  exact h x hx
theorem cFix_fr {Q : Nat → Nat → Prop} {μ u : va_M} {P : Int} {pp col : Nat} (h : cFix μ P pp col) (hf : fr Q μ u) (hp8 : pp < 8) (hq : ∀ x y : Nat, Q x y → CF x ∧ y < col) : cFix u P pp col := by
  have g : ∀ x y : Nat, ¬ (CF x ∧ y < col) → u x y = μ x y := fun x y hn => hf x y (fun hh => hn (hq x y hh))
  have gr : ∀ x : Nat, ¬ CF x → u x = μ x := fun x hn => funext fun y => g x y (fun hh => hn hh.1)
  obtain ⟨h1, h2, h3⟩ := h
  have e39 : u 0 39 = μ 0 39 := g 0 39 (by unfold CF; omega)
  have n1 : ∀ x, nod u x = nod μ x := fun x => by unfold nod; rw [gr 507 (by unfold CF; omega), gr 4412 (by unfold CF; omega)]
  have n2 : ∀ x k, tkD u x k = tkD μ x k := fun x k => by unfold tkD; rw [n1, gr 3 (by unfold CF; omega), gr 578 (by unfold CF; omega), gr 4412 (by unfold CF; omega)]
  have n3 : ∀ x, tkv u P pp col x = tkv μ P pp col x := fun x => by unfold tkv; rw [n1, gr (7 + pp) (by unfold CF; omega), n2, g (4416 + (x + 1)) (col + 1) (by omega)]
  have n4 : ∀ x tk, wF u x col tk = wF μ x col tk := fun x tk => by unfold wF; rw [n1, gr 4413 (by unfold CF; omega), gr 4414 (by unfold CF; omega), g _ col (by omega), g _ col (by omega)]
  refine ⟨fun x hx => ?_, ?_, fun x hx => ?_⟩
  · rw [e39] at hx
    rw [g _ col (by omega)]; exact h1 x hx
  · rw [e39, g _ col (by omega)]; exact h2
  · rw [e39] at hx
    rw [g _ col (by omega), n3, n4]; exact h3 x hx


/-! the states of the skeleton: its leaves, where its other nodes begin and end -/
def rS : Rw → Nat
  | .leaf => 0
  | .inner _ k _ l r => (if k < 3 then 1 else 2 + rS l) + rS r
theorem rS_in {z k : Nat} {v : Int} {l r : Rw} : rS (Std.DTreeMap.Internal.Impl.inner z k v l r : Rw) = (if k < 3 then 1 else 2 + rS l) + rS r := rfl
theorem rS_N : ∀ w : Rw, rS w ≤ 2 * rN w
  | .leaf => Nat.le_refl 0
  | .inner z k v l r => by
    have h1 := rS_N l
    have h2 := rS_N r
    rw [rS_in, rN_in]
    split <;> omega
/-- the states of a row that begins at node p stand from q on -/
def RS (μ : va_M) : Rw → Nat → Nat → Prop
  | .leaf, _, _ => True
  | .inner _ k _ l r, p, q => μ 4412 q = p ∧ μ 4414 q = 0 ∧ (if k < 3 then RS μ r (p + 1) (q + 1) else (μ 4413 q = (q + 1 + rS l : Nat) ∧ RS μ l (p + 1) (q + 1) ∧ μ 4412 (q + 1 + rS l) = p ∧ μ 4414 (q + 1 + rS l) = 1 ∧ μ 4413 (q + 1 + rS l) = q ∧ RS μ r (p + 1 + rN l) (q + 1 + rS l + 1)))
abbrev Stk : Type := List (Nat × Nat × Rw)
def cnt : Stk → Nat
  | [] => 0
  | a :: t => 1 + rS a.2.2 + cnt t
def bin (x : Nat) : Stk → Prop
  | [] => False
  | a :: t => x = a.1 ∨ bin x t
/-- what is open: its state, its node, what comes behind it -/
def stk (μ0 μ : va_M) (n : Nat) : Stk → Nat → Nat → Prop
  | [], _, i => i = n
  | a :: t, q, i => a.1 < q ∧ μ 4412 a.1 = a.2.1 ∧ (a.2.1 : Int) + μ0 649 a.2.1 = i ∧ a.2.1 < n ∧ RA μ0 0 a.2.2 i ∧ rWF a.2.2 ∧ μ 6316 t.length = a.1 ∧ stk μ0 μ n t a.1 (i + rN a.2.2)
def pstk (u : va_M) : Stk → Nat → Nat → Prop
  | [], _, _ => True
  | a :: t, i, e => u 4412 e = a.2.1 ∧ u 4414 e = 1 ∧ u 4413 e = a.1 ∧ u 4413 a.1 = e ∧ RS u a.2.2 i (e + 1) ∧ pstk u t (i + rN a.2.2) (e + 1 + rS a.2.2)
def agS (μ u : va_M) (q : Nat) (L : Stk) : Prop := ∀ x : Nat, x < q → u 4412 x = μ 4412 x ∧ u 4414 x = μ 4414 x ∧ (¬ bin x L → u 4413 x = μ 4413 x)
def SF (x y : Nat) : Prop := x = 4412 ∨ x = 4413 ∨ x = 4414 ∨ x = 6316 ∨ (x = 0 ∧ y = 39)
def stI (μ0 μ : va_M) (w0 w : Rw) (L : Stk) (i q : Nat) : Prop :=
  fr SF μ0 μ ∧ μ 0 39 = q ∧ RA μ0 0 w i ∧ rWF w ∧ stk μ0 μ (rN w0) L q (i + rN w) ∧ q + rS w + cnt L = rS w0 ∧ i + rN w ≤ rN w0 ∧ L.length ≤ q ∧ ∀ u : va_M, agS μ u q L → RS u w i q → pstk u L (i + rN w) (q + rS w) → RS u w0 0 0
theorem stk_lt {μ0 μ : va_M} {n x : Nat} : ∀ (L : Stk) (q i : Nat), stk μ0 μ n L q i → bin x L → x < q
  | [], _, _, _, h => h.elim
  | a :: t, q, i, h, hb => by
    have h1 := h.1
    rcases hb with hb | hb
    · omega
    · have := stk_lt t a.1 _ h.2.2.2.2.2.2.2 hb
      omega
theorem stk_ag {μ0 μ u : va_M} {n : Nat} : ∀ (L : Stk) (q i : Nat), stk μ0 μ n L q i → (∀ x, x < q → u 4412 x = μ 4412 x) → (∀ x, x < L.length → u 6316 x = μ 6316 x) → stk μ0 u n L q i
  | [], _, _, h, _, _ => h
  | a :: t, q, i, ⟨h1, h2, h3, h4, h5, h6, h7, h8⟩, g1, g2 => by
    rw [List.length_cons] at g2
    exact ⟨h1, by rw [g1 _ h1]; exact h2, h3, h4, h5, h6, by rw [g2 _ (by omega)]; exact h7, stk_ag t a.1 _ h8 (fun x hx => g1 x (by omega)) (fun x hx => g2 x (by omega))⟩
theorem stk_q {μ0 μ : va_M} {n : Nat} : ∀ (L : Stk) (q q2 i : Nat), stk μ0 μ n L q i → q ≤ q2 → stk μ0 μ n L q2 i
  | [], _, _, _, h, _ => h
  | a :: t, q, q2, i, ⟨h1, h⟩, g => ⟨by omega, h⟩
theorem st_leaf {μ0 μ : va_M} {w0 l r : Rw} {z k : Nat} {v : Int} {L : Stk} {i q : Nat} (h : stI μ0 μ w0 (Std.DTreeMap.Internal.Impl.inner z k v l r) L i q) (hk : k < 3) : stI μ0 (uz (uz (uz (uz μ 4412 q i) 4414 q 0) 4413 q (-1)) 0 39 (q + 1)) w0 r L (i + 1) (q + 1) := by
  obtain ⟨h1, h2, h3, h4, h5, h6, h7, h8, h9⟩ := h
  obtain ⟨a1, a2, a3, a4, a5⟩ := h3
  obtain ⟨f1, f2, f3, f4, f5, f6, f7, f8⟩ := h4
  obtain rfl := f2 hk
  have e0 : rN (Std.DTreeMap.Internal.Impl.leaf : Rw) = 0 := rfl
  rw [rN_in, e0] at h5 h7
  rw [rS_in, if_pos hk] at h6
  rw [e0, Nat.add_zero] at a5
  refine ⟨fr_uz (fr_uz (fr_uz (fr_uz h1 (by unfold SF; omega)) (by unfold SF; omega)) (by unfold SF; omega)) (by unfold SF; omega), by rw [uz_s]; rfl, a5, f8, ?_, by omega, by omega, by omega, fun u ha hr hp => ?_⟩
  · rw [show i + 1 + rN r = i + (1 + 0 + rN r) by omega]
    exact stk_q _ q _ _ (stk_ag L q _ h5 (fun x hx => by rw [uz_n (by omega), uz_n (by omega), uz_n (by omega), uz_n (by omega)]) (fun x hx => by rw [uz_n (by omega), uz_n (by omega), uz_n (by omega), uz_n (by omega)])) (by omega)
  · refine h9 u (fun x hx => ?_) ?_ ?_
    · have b := ha x (by omega)
      rw [uz_n (by omega), uz_n (by omega), uz_n (by omega), uz_n (by omega), uz_n (by omega), uz_n (by omega), uz_n (by omega), uz_n (by omega), uz_n (by omega), uz_n (by omega), uz_n (by omega), uz_n (by omega)] at b
      exact b
    · have b := ha q (by omega)
      rw [uz_n (by omega), uz_n (by omega), uz_n (by omega), uz_s, uz_n (by omega), uz_n (by omega), uz_s] at b
      rw [RS, if_pos hk]
      exact ⟨b.1, b.2.1, hr⟩
    · rw [rN_in, rS_in, if_pos hk, e0, show i + (1 + 0 + rN r) = i + 1 + rN r by omega, show q + (1 + rS r) = q + 1 + rS r by omega]
      exact hp
theorem st_node {μ0 μ : va_M} {w0 l r : Rw} {z k : Nat} {v : Int} {L : Stk} {i q : Nat} (h : stI μ0 μ w0 (Std.DTreeMap.Internal.Impl.inner z k v l r) L i q) (hk : ¬ k < 3) : stI μ0 (uz (uz (uz (uz (uz μ 4412 q i) 4414 q 0) 4413 q (-1)) 6316 L.length q) 0 39 (q + 1)) w0 l ((q, i, r) :: L) (i + 1) (q + 1) := by
  obtain ⟨h1, h2, h3, h4, h5, h6, h7, h8, h9⟩ := h
  obtain ⟨a1, a2, a3, a4, a5⟩ := h3
  obtain ⟨f1, f2, f3, f4, f5, f6, f7, f8⟩ := h4
  rw [rN_in] at h5 h7
  rw [rS_in, if_neg hk] at h6
  have hlt : ¬ bin q L := fun hb => absurd (stk_lt L q _ h5 hb) (by omega)
  refine ⟨fr_uz (fr_uz (fr_uz (fr_uz (fr_uz h1 (by unfold SF; omega)) (by unfold SF; omega)) (by unfold SF; omega)) (by unfold SF; omega)) (by unfold SF; omega), by rw [uz_s]; rfl, a4, f7, ⟨by show q < q + 1; omega, ?_, ?_, by show i < _; omega, ?_, f8, ?_, ?_⟩, ?_, by omega, by rw [List.length_cons]; omega, fun u ha hr hp => ?_⟩
  · show uz _ 0 39 _ 4412 q = (i : Int)
    rw [uz_n (by omega), uz_n (by omega), uz_n (by omega), uz_n (by omega), uz_s]
  · show (i : Int) + μ0 649 i = _
    have e : μ0 (649 + 0) i = μ0 649 i := rfl
    rw [← e, a3]; omega
  · show RA μ0 0 r (i + 1 + rN l)
    exact a5
  · show uz _ 0 39 _ 6316 L.length = (q : Int)
    rw [uz_n (by omega), uz_s]
  · show stk μ0 _ _ L q (i + 1 + rN l + rN r)
    rw [show i + 1 + rN l + rN r = i + (1 + rN l + rN r) by omega]
    exact stk_ag L q _ h5 (fun x hx => by rw [uz_n (by omega), uz_n (by omega), uz_n (by omega), uz_n (by omega), uz_n (by omega)]) (fun x hx => by rw [uz_n (by omega), uz_n (by omega), uz_n (by omega), uz_n (by omega), uz_n (by omega)])
  · show q + 1 + rS l + (1 + rS r + cnt L) = _
    omega
  · obtain ⟨p1, p2, p3, p4, p5, p6⟩ := hp
    have p1 : u 4412 (q + 1 + rS l) = (i : Int) := p1
    have p3 : u 4413 (q + 1 + rS l) = (q : Int) := p3
    have p4 : u 4413 q = ((q + 1 + rS l : Nat) : Int) := p4
    have p5 : RS u r (i + 1 + rN l) (q + 1 + rS l + 1) := p5
    have p6 : pstk u L (i + 1 + rN l + rN r) (q + 1 + rS l + 1 + rS r) := p6
    refine h9 u (fun x hx => ?_) ?_ ?_
    · have b := ha x (by omega)
      rw [uz_n (by omega), uz_n (by omega), uz_n (by omega), uz_n (by omega), uz_n (by omega), uz_n (by omega), uz_n (by omega), uz_n (by omega), uz_n (by omega), uz_n (by omega), uz_n (by omega), uz_n (by omega), uz_n (by omega), uz_n (by omega), uz_n (by omega)] at b
      exact ⟨b.1, b.2.1, fun hb => b.2.2 (fun hc => hc.elim (fun h => absurd h (by show ¬ x = q; omega)) hb)⟩
    · have b := ha q (by omega)
      rw [uz_n (by omega), uz_n (by omega), uz_n (by omega), uz_n (by omega), uz_s, uz_n (by omega), uz_n (by omega), uz_n (by omega), uz_s] at b
      rw [RS, if_neg hk]
      exact ⟨b.1, b.2.1, p4, hr, p1, p2, p3, p5⟩
    · rw [rN_in, rS_in, if_neg hk, show i + (1 + rN l + rN r) = i + 1 + rN l + rN r by omega, show q + (2 + rS l + rS r) = q + 1 + rS l + 1 + rS r by omega]
      exact p6
theorem stk_end {μ0 μ : va_M} {n : Nat} : ∀ (t : Stk) (q i : Nat), stk μ0 μ n t q i → i ≤ n
  | [], _, _, h => Nat.le_of_eq h
  | a :: t, _, i, h => by
    have := stk_end t a.1 _ h.2.2.2.2.2.2.2
    omega
theorem st_close {μ0 μ : va_M} {w0 : Rw} {a : Nat × Nat × Rw} {t : Stk} {i q : Nat} (h : stI μ0 μ w0 Std.DTreeMap.Internal.Impl.leaf (a :: t) i q) : stI μ0 (uz (uz (uz (uz (uz μ 4412 q a.2.1) 4414 q 1) 4413 q a.1) 4413 a.1 q) 0 39 (q + 1)) w0 a.2.2 t i (q + 1) := by
  obtain ⟨h1, h2, h3, h4, h5, h6, h7, h8, h9⟩ := h
  have e0 : rN (Std.DTreeMap.Internal.Impl.leaf : Rw) = 0 := rfl
  have e1 : rS (Std.DTreeMap.Internal.Impl.leaf : Rw) = 0 := rfl
  rw [e0, Nat.add_zero] at h5 h7
  rw [e1, Nat.add_zero] at h6
  rw [List.length_cons] at h8
  obtain ⟨s1, s2, s3, s4, s5, s6, s7, s8⟩ := h5
  have h6 : q + (1 + rS a.2.2 + cnt t) = rS w0 := h6
  have hna : ¬ bin a.1 t := fun hb => absurd (stk_lt t a.1 _ s8 hb) (by omega)
  have hnq : ¬ bin q t := fun hb => absurd (stk_lt t a.1 _ s8 hb) (by omega)
  refine ⟨fr_uz (fr_uz (fr_uz (fr_uz (fr_uz h1 (by unfold SF; omega)) (by unfold SF; omega)) (by unfold SF; omega)) (by unfold SF; omega)) (by unfold SF; omega), by rw [uz_s]; rfl, s5, s6, stk_q t a.1 _ _ (stk_ag t a.1 _ s8 (fun x hx => by rw [uz_n (by omega), uz_n (by omega), uz_n (by omega), uz_n (by omega), uz_n (by omega)]) (fun x hx => by rw [uz_n (by omega), uz_n (by omega), uz_n (by omega), uz_n (by omega), uz_n (by omega)])) (by omega), by omega, stk_end t a.1 _ s8, by omega, fun u ha hr hp => ?_⟩
  have c := ha q (by omega)
  rw [uz_n (by omega), uz_n (by omega), uz_n (by omega), uz_n (by omega), uz_s, uz_n (by omega), uz_n (by omega), uz_n (by omega), uz_s, uz_n (by omega), uz_n (by omega), uz_s] at c
  have d := ha a.1 (by omega)
  rw [uz_n (by omega), uz_n (by omega), uz_n (by omega), uz_n (by omega), uz_n (by omega), uz_n (by omega), uz_n (by omega), uz_n (by omega), uz_n (by omega), uz_n (by omega), uz_n (by omega), uz_s] at d
  refine h9 u (fun x hx => ?_) trivial ?_
  · have b := ha x (by omega)
    by_cases hxa : x = a.1
    · subst hxa
      rw [uz_n (by omega), uz_n (by omega), uz_n (by omega), uz_n (by omega), uz_n (by omega), uz_n (by omega), uz_n (by omega), uz_n (by omega), uz_n (by omega), uz_n (by omega)] at b
      exact ⟨b.1, b.2.1, fun hb => absurd (Or.inl rfl) hb⟩
    · rw [uz_n (by omega), uz_n (by omega), uz_n (by omega), uz_n (by omega), uz_n (by omega), uz_n (by omega), uz_n (by omega), uz_n (by omega), uz_n (by omega), uz_n (by omega), uz_n (by omega), uz_n (by omega), uz_n (by omega), uz_n (by omega), uz_n (by omega)] at b
      exact ⟨b.1, b.2.1, fun hb => b.2.2 (fun hc => hb (Or.inr hc))⟩
  · rw [e0, e1, Nat.add_zero, Nat.add_zero]
    exact ⟨c.1, c.2.1, c.2.2 hnq, d.2.2 hna, hr, hp⟩


/-! nodes of a row, told of the tree's cells and of the line's -/
/-- the i-th node, by itself -/
def nd : Rw → Nat → Rw
  | .leaf, _ => .leaf
  | .inner _ k v l _, 0 => .inner 0 k v l .leaf
  | .inner _ _ _ l r, i + 1 => if i < rN l then nd l i else nd r (i - rN l)
/-- in how many others it is, of a kind (any: -1) -/
def dpN (q : Int) : Rw → Nat → Int
  | .leaf, _ => 0
  | .inner _ _ _ _ _, 0 => 0
  | .inner _ k _ l r, i + 1 => if i < rN l then (if q = -1 ∨ (k : Int) = q then 1 else 0) + dpN q l i else dpN q r (i - rN l)
/-- the node in which it is; pa: the one round the row, n0: the row's first -/
def paN : Rw → Int → Int → Nat → Int
  | .leaf, pa, _, _ => pa
  | .inner _ _ _ _ _, pa, _, 0 => pa
  | .inner _ _ _ l r, pa, n0, i + 1 => if i < rN l then paN l n0 (n0 + 1) i else paN r pa (n0 + 1 + rN l) (i - rN l)
def rkC (s : Int) : Rw → Int
  | .leaf => 0
  | .inner _ k _ l r => (if (k : Int) = s then 1 else 0) + rkC s l + rkC s r
/-- how many repeats are in one another, d being round the row -/
def mxD (d : Int) : Rw → Int
  | .leaf => 0
  | .inner _ k _ l r => max (if k = 4 then max (d + 1) (mxD (d + 1) l) else mxD d l) (mxD d r)
theorem mxD_0 : ∀ (w : Rw) (d : Int), 0 ≤ mxD d w
  | .leaf, _ => Int.le_refl _
  | .inner z k v l r, d => by
    have := mxD_0 r d
    rw [mxD]
    omega
def dCn (μ : va_M) (t : Nat) (i q : Int) : Nat → Int
  | 0 => 0
  | k + 1 => dCn μ t i q k + (if i < (k : Int) + μ (649 + t) k ∧ (q = -1 ∨ μ (507 + t) k = q) then 1 else 0)
def pC (μ : va_M) (t : Nat) (i : Int) : Nat → Int
  | 0 => -1
  | k + 1 => if i < (k : Int) + μ (649 + t) k then (k : Int) else pC μ t i k
def cK (μ : va_M) (t : Nat) (s : Int) : Nat → Int
  | 0 => 0
  | k + 1 => cK μ t s k + (if μ (507 + t) k = s then 1 else 0)
def mDp (μ : va_M) (t : Nat) : Nat → Int
  | 0 => 0
  | k + 1 => if μ (507 + t) k = 4 then max (mDp μ t k) (1 + dCn μ t k 4 k) else mDp μ t k
theorem dCn_b {μ : va_M} {t : Nat} {i q : Int} : ∀ n, 0 ≤ dCn μ t i q n ∧ dCn μ t i q n ≤ n
  | 0 => ⟨Int.le_refl _, Int.le_refl _⟩
  | n + 1 => by
    have := dCn_b (μ := μ) (t := t) (i := i) (q := q) n
    rw [dCn]
    split <;> omega
theorem cK_b {μ : va_M} {t : Nat} {s : Int} : ∀ n, 0 ≤ cK μ t s n ∧ cK μ t s n ≤ n
  | 0 => ⟨Int.le_refl _, Int.le_refl _⟩
  | n + 1 => by
    have := cK_b (μ := μ) (t := t) (s := s) n
    rw [cK]
    split <;> omega
theorem pC_b {μ : va_M} {t : Nat} {i : Int} : ∀ n : Nat, -1 ≤ pC μ t i n ∧ pC μ t i n < n
  | 0 => ⟨Int.le_refl _, by show (-1 : Int) < ((0 : Nat) : Int); decide⟩
  | n + 1 => by
    have := pC_b (μ := μ) (t := t) (i := i) n
    rw [pC]
    split <;> omega
theorem mDp_b {μ : va_M} {t : Nat} : ∀ n : Nat, 0 ≤ mDp μ t n ∧ mDp μ t n ≤ n
  | 0 => ⟨Int.le_refl _, Int.le_refl _⟩
  | n + 1 => by
    have := mDp_b (μ := μ) (t := t) n
    have := dCn_b (μ := μ) (t := t) (i := n) (q := 4) n
    rw [mDp]
    split <;> omega
theorem dCn_no {μ : va_M} {t a : Nat} {i q : Int} : ∀ n : Nat, (∀ k : Nat, a ≤ k → k < a + n → (k : Int) + μ (649 + t) k ≤ i) → dCn μ t i q (a + n) = dCn μ t i q a ∧ pC μ t i (a + n) = pC μ t i a
  | 0, _ => ⟨rfl, rfl⟩
  | n + 1, h => by
    obtain ⟨h1, h2⟩ := dCn_no n (fun k hk1 hk2 => h k hk1 (by omega))
    have h3 := h (a + n) (by omega) (by omega)
    rw [← Nat.add_assoc, dCn, pC, if_neg (by omega), if_neg (by omega), h1, h2]
    exact ⟨Int.add_zero _, rfl⟩
theorem RA_sp {μ : va_M} {t : Nat} {w : Rw} {p : Nat} (h : RA μ t w p) (hw : rWF w) {x : Nat} (h1 : p ≤ x) (h2 : x < p + rN w) : (x : Int) + μ (649 + t) x ≤ (p + rN w : Nat) := (RA_cok w p (p + rN w) h hw (Nat.le_refl _) x h1 h2).2.2.2
theorem dCn_row {μ : va_M} {t : Nat} {q : Int} : ∀ (w : Rw) (p x : Nat), RA μ t w p → rWF w → x < rN w → dCn μ t ((p + x : Nat) : Int) q (p + x) = dCn μ t ((p + x : Nat) : Int) q p + dpN q w x ∧ pC μ t ((p + x : Nat) : Int) (p + x) = paN w (pC μ t ((p + x : Nat) : Int) p) p x
  | .leaf, _, _, _, _, h => absurd h (Nat.not_lt_zero _)
  | .inner z k v l r, p, 0, _, _, _ => ⟨(Int.add_zero _).symm, rfl⟩
  | .inner z k v l r, p, y + 1, ⟨a1, a2, a3, a4, a5⟩, ⟨f1, f2, f3, f4, f5, f6, f7, f8⟩, h => by
    rw [rN_in] at h
    have s1 : dCn μ t ((p + (y + 1) : Nat) : Int) q (p + 1) = dCn μ t ((p + (y + 1) : Nat) : Int) q p + (if ((p + (y + 1) : Nat) : Int) < (p : Int) + μ (649 + t) p ∧ (q = -1 ∨ μ (507 + t) p = q) then 1 else 0) := rfl
    have s2 : pC μ t ((p + (y + 1) : Nat) : Int) (p + 1) = if ((p + (y + 1) : Nat) : Int) < (p : Int) + μ (649 + t) p then (p : Int) else pC μ t ((p + (y + 1) : Nat) : Int) p := rfl
    by_cases hy : y < rN l
    · obtain ⟨i1, i2⟩ := dCn_row (q := q) l (p + 1) y a4 f7 hy
      rw [show p + 1 + y = p + (y + 1) by omega] at i1 i2
      rw [dpN, paN, if_pos hy, if_pos hy, i1, i2, s1, s2, a1, if_pos (show ((p + (y + 1) : Nat) : Int) < (p : Int) + μ (649 + t) p by omega)]
      refine ⟨?_, by rw [show ((p + 1 : Nat) : Int) = (p : Int) + 1 by omega]⟩
      by_cases hq : q = -1 ∨ (k : Int) = q
      · rw [if_pos ⟨by omega, hq⟩, if_pos hq, Int.add_assoc]
      · rw [if_neg (fun h9 => hq h9.2), if_neg hq, Int.add_assoc]
    · obtain ⟨n1, n2⟩ := dCn_no (μ := μ) (t := t) (a := p + 1) (i := ((p + (y + 1) : Nat) : Int)) (q := q) (rN l) (fun k h1 h2 => by have := RA_sp a4 f7 h1 h2; omega)
      obtain ⟨i1, i2⟩ := dCn_row (q := q) r (p + 1 + rN l) (y - rN l) a5 f8 (by omega)
      rw [show p + 1 + rN l + (y - rN l) = p + (y + 1) by omega] at i1 i2
      rw [dpN, paN, if_neg hy, if_neg hy, i1, i2, n1, n2, s1, s2, if_neg (by omega), if_neg (by omega), Int.add_zero]
      exact ⟨rfl, by rw [show ((p + 1 + rN l : Nat) : Int) = (p : Int) + 1 + rN l by omega]⟩
theorem RA_nd {μ : va_M} {t : Nat} : ∀ (w : Rw) (p x : Nat), RA μ t w p → rWF w → x < rN w → ∃ (k : Nat) (v : Int) (l : Rw), nd w x = .inner 0 k v l .leaf ∧ IA μ t (p + x) k v l ∧ iWF k v l
  | .leaf, _, _, _, _, h => absurd h (Nat.not_lt_zero _)
  | .inner z k v l r, p, 0, ⟨a1, a2, a3, a4, a5⟩, ⟨f1, f2, f3, f4, f5, f6, f7, f8⟩, _ => ⟨k, v, l, rfl, ⟨a1, a2, a3, a4⟩, f1, f2, f3, f4, f5, f6, f7⟩
  | .inner z k v l r, p, y + 1, ⟨a1, a2, a3, a4, a5⟩, ⟨f1, f2, f3, f4, f5, f6, f7, f8⟩, h => by
    rw [rN_in] at h
    rw [nd]
    by_cases hy : y < rN l
    · rw [if_pos hy, show p + (y + 1) = p + 1 + y by omega]
      exact RA_nd l (p + 1) y a4 f7 hy
    · rw [if_neg hy, show p + (y + 1) = p + 1 + rN l + (y - rN l) by omega]
      exact RA_nd r (p + 1 + rN l) (y - rN l) a5 f8 (by omega)
theorem cK_row {μ : va_M} {t : Nat} {s : Int} : ∀ (w : Rw) (p : Nat), RA μ t w p → cK μ t s (p + rN w) = cK μ t s p + rkC s w
  | .leaf, p, _ => (Int.add_zero _).symm
  | .inner z k v l r, p, ⟨a1, a2, a3, a4, a5⟩ => by
    have s1 : cK μ t s (p + 1) = cK μ t s p + (if μ (507 + t) p = s then 1 else 0) := rfl
    have i1 := cK_row (s := s) l (p + 1) a4
    have i2 := cK_row (s := s) r (p + 1 + rN l) a5
    rw [rN_in, rkC, show p + (1 + rN l + rN r) = p + 1 + rN l + rN r by omega, i2, i1, s1, a1]
    omega
theorem mDp_row {μ : va_M} {t : Nat} : ∀ (w : Rw) (p : Nat) (d : Int), RA μ t w p → rWF w → (∀ x : Nat, x < rN w → dCn μ t ((p + x : Nat) : Int) 4 (p + x) = d + dpN 4 w x) → mDp μ t (p + rN w) = max (mDp μ t p) (mxD d w)
  | .leaf, p, d, _, _, _ => by
    have := mDp_b (μ := μ) (t := t) p
    show mDp μ t p = max (mDp μ t p) 0
    omega
  | .inner z k v l r, p, d, ⟨a1, a2, a3, a4, a5⟩, ⟨f1, f2, f3, f4, f5, f6, f7, f8⟩, h => by
    have s1 : mDp μ t (p + 1) = if μ (507 + t) p = 4 then max (mDp μ t p) (1 + dCn μ t p 4 p) else mDp μ t p := rfl
    have h0 := h 0 (by rw [rN_in]; omega)
    rw [Nat.add_zero, dpN, Int.add_zero] at h0
    have hr : ∀ x : Nat, x < rN r → dCn μ t ((p + 1 + rN l + x : Nat) : Int) 4 (p + 1 + rN l + x) = d + dpN 4 r x := fun x hx => by
      have h9 := h (1 + rN l + x) (by rw [rN_in]; omega)
      rw [show 1 + rN l + x = (rN l + x) + 1 by omega, dpN, if_neg (by omega), show rN l + x - rN l = x by omega] at h9
      rw [show p + 1 + rN l + x = p + (rN l + x + 1) by omega]
      exact h9
    have i2 := mDp_row r (p + 1 + rN l) d a5 f8 hr
    have hl : ∀ x : Nat, x < rN l → dCn μ t ((p + 1 + x : Nat) : Int) 4 (p + 1 + x) = (if k = 4 then d + 1 else d) + dpN 4 l x := fun x hx => by
      have h9 := h (x + 1) (by rw [rN_in]; omega)
      rw [dpN, if_pos hx] at h9
      rw [show p + 1 + x = p + (x + 1) by omega, h9]
      by_cases hk : k = 4
      · rw [if_pos hk, if_pos (Or.inr (by omega)), Int.add_assoc]
      · rw [if_neg hk, if_neg (by omega), Int.zero_add]
    have i1 := mDp_row l (p + 1) (if k = 4 then d + 1 else d) a4 f7 hl
    rw [rN_in, mxD, show p + (1 + rN l + rN r) = p + 1 + rN l + rN r by omega, i2, i1, s1, a1, h0]
    by_cases hk : k = 4
    · rw [if_pos hk, if_pos hk, if_pos (by omega)]
      omega
    · rw [if_neg hk, if_neg hk, if_neg (by omega)]
      omega
/-- where the i-th node stands in the line -/
def plN : Rw → Nat → Nat
  | .leaf, _ => 0
  | .inner _ _ _ _ _, 0 => 0
  | .inner _ k _ l r, i + 1 => if i < rN l then 1 + plN l i else (if k < 3 then 1 else 2 + sL l) + plN r (i - rN l)
def opn (s : Int) : Prop := s = 513 ∨ s = 514
def dQ (μ : va_M) (q : Nat) (at9 : Int) : Nat → Int
  | 0 => 0
  | k + 1 => dQ μ q at9 k + (if (μ (q + 1) k = 513 ∨ μ (q + 1) k = 514) ∧ at9 < μ (q + 2) k then 1 else 0)
def pQ (μ : va_M) (q : Nat) (at9 : Int) : Nat → Int
  | 0 => -1
  | k + 1 => if (μ (q + 1) k = 513 ∨ μ (q + 1) k = 514) ∧ at9 < μ (q + 2) k then μ (q + 4) k else pQ μ q at9 k
def rQ (μ : va_M) (q : Nat) : Nat → Int
  | 0 => 0
  | k + 1 => rQ μ q k + (if μ (q + 1) k = 514 then 1 else if μ (q + 1) k = 515 ∧ μ (q + 1) (μ (q + 2) k).toNat = 514 then -1 else 0)
def mQ (μ : va_M) (q : Nat) : Nat → Int
  | 0 => 0
  | k + 1 => if μ (q + 1) k = 514 then max (mQ μ q k) (rQ μ q k + 1) else mQ μ q k
theorem dQ_b {μ : va_M} {q : Nat} {a : Int} : ∀ n, 0 ≤ dQ μ q a n ∧ dQ μ q a n ≤ n
  | 0 => ⟨Int.le_refl _, Int.le_refl _⟩
  | n + 1 => by
    have := dQ_b (μ := μ) (q := q) (a := a) n
    rw [dQ]
    split <;> omega
theorem rQ_b {μ : va_M} {q : Nat} : ∀ n : Nat, -(n : Int) ≤ rQ μ q n ∧ rQ μ q n ≤ n
  | 0 => ⟨Int.le_refl _, Int.le_refl _⟩
  | n + 1 => by
    have := rQ_b (μ := μ) (q := q) n
    rw [rQ]
    split
    · omega
    · split <;> omega
theorem mQ_b {μ : va_M} {q : Nat} : ∀ n : Nat, 0 ≤ mQ μ q n ∧ mQ μ q n ≤ n
  | 0 => ⟨Int.le_refl _, Int.le_refl _⟩
  | n + 1 => by
    have := mQ_b (μ := μ) (q := q) n
    have := rQ_b (μ := μ) (q := q) n
    rw [mQ]
    split <;> omega
theorem pl_lt : ∀ (w : Rw) (x : Nat), rW0 w → x < rN w → plN w x < sL w
  | .leaf, _, _, h => absurd h (Nat.not_lt_zero _)
  | .inner z k v l r, 0, _, _ => by
    rw [sL_in, plN]
    split <;> omega
  | .inner z k v l r, y + 1, ⟨h1, h2, h3⟩, h => by
    rw [rN_in] at h
    rw [sL_in, plN]
    by_cases hy : y < rN l
    · have i1 := pl_lt l y h2 hy
      have hk : ¬ k < 3 := fun hk => by
        have e : rN l = 0 := by rw [h1.2.1 hk]; rfl
        omega
      rw [if_pos hy, if_neg hk]
      omega
    · have i1 := pl_lt r (y - rN l) h3 (by omega)
      rw [if_neg hy]
      omega
theorem SS_mt {μ : va_M} {q : Nat} : ∀ (w : Rw) (p a n : Nat), SS μ q w p a n → ∀ y : Nat, p ≤ y → y < p + sL w → μ (q + 2) y < (p + sL w : Nat)
  | .leaf, p, a, n, _, y, h1, h2 => by
    have e : sL (Std.DTreeMap.Internal.Impl.leaf : Rw) = 0 := rfl
    omega
  | .inner z k v l r, p, a, n, ⟨⟨s1, s2, s3, s4⟩, s5, s6⟩, y, h1, h2 => by
    obtain ⟨d, hd, hd1, hd2⟩ := sL_d k l
    rw [sL_in, hd] at h2 ⊢
    rw [hd] at s6
    by_cases hy : y < p + d
    · by_cases hk : k < 3
      · rw [if_pos hk] at hd s1
        obtain rfl : y = p := by omega
        omega
      · rw [if_neg hk] at hd s1
        obtain ⟨u1, u2, u3⟩ := s5 (by omega)
        by_cases hp : y = p
        · subst hp; omega
        · by_cases hc : y = p + 1 + sL l
          · rw [hc, u2]; omega
          · have := SS_mt l (p + 1) a (n + 1) u1 y (by omega) (by omega)
            omega
    · have := SS_mt r (p + d) _ _ s6 y (by omega) (by omega)
      omega
theorem dQ_no {μ : va_M} {q a : Nat} {i : Int} : ∀ n : Nat, (∀ k : Nat, a ≤ k → k < a + n → μ (q + 2) k ≤ i ∨ μ (q + 1) k = 515) → dQ μ q i (a + n) = dQ μ q i a ∧ pQ μ q i (a + n) = pQ μ q i a
  | 0, _ => ⟨rfl, rfl⟩
  | n + 1, h => by
    obtain ⟨h1, h2⟩ := dQ_no n (fun k hk1 hk2 => h k hk1 (by omega))
    have h3 := h (a + n) (by omega) (by omega)
    rw [← Nat.add_assoc, dQ, pQ, if_neg (by omega), if_neg (by omega), h1, h2]
    exact ⟨Int.add_zero _, rfl⟩
theorem dQ_row {μ : va_M} {q : Nat} : ∀ (w : Rw) (p a n x : Nat), rW0 w → SA μ (q + 1) w p → SS μ q w p a n → x < rN w → dQ μ q ((p + plN w x : Nat) : Int) (p + plN w x) = dQ μ q ((p + plN w x : Nat) : Int) p + dpN (-1) w x ∧ pQ μ q ((p + plN w x : Nat) : Int) (p + plN w x) = paN w (pQ μ q ((p + plN w x : Nat) : Int) p) n x
  | .leaf, _, _, _, _, _, _, _, h => absurd h (Nat.not_lt_zero _)
  | .inner z k v l r, p, a, n, 0, _, _, _, _ => ⟨(Int.add_zero _).symm, rfl⟩
  | .inner z k v l r, p, a, n, y + 1, ⟨h1, h2, h3⟩, ⟨t1, t2, t3⟩, ⟨⟨s1, s2, s3, s4⟩, s5, s6⟩, h => by
    rw [rN_in] at h
    obtain ⟨g1, g2, g3⟩ := sG_b h1
    by_cases hy : y < rN l
    · have hk : ¬ k < 3 := fun hk => by
        have e : rN l = 0 := by rw [h1.2.1 hk]; rfl
        omega
      have hlt := pl_lt l y h2 hy
      obtain ⟨u1, u2⟩ := t2 (by omega)
      obtain ⟨v1, v2, v3⟩ := s5 (by omega)
      rw [if_neg hk] at s1
      have e : plN (.inner z k v l r : Rw) (y + 1) = 1 + plN l y := if_pos hy
      obtain ⟨i1, i2⟩ := dQ_row l (p + 1) a (n + 1) y h2 u1 v1 hy
      rw [show p + 1 + plN l y = p + (1 + plN l y) by omega] at i1 i2
      have hs : μ (q + 1) p = 513 ∨ μ (q + 1) p = 514 := by
        rw [t1]
        have := h1.1
        by_cases hk3 : k = 3
        · exact Or.inl (g2 hk3)
        · exact Or.inr (g3 (by omega))
      have c1 : dQ μ q ((p + (1 + plN l y) : Nat) : Int) (p + 1) = dQ μ q ((p + (1 + plN l y) : Nat) : Int) p + 1 := by
        rw [dQ, if_pos ⟨hs, by omega⟩]
      have c2 : pQ μ q ((p + (1 + plN l y) : Nat) : Int) (p + 1) = n := by
        rw [pQ, if_pos ⟨hs, by omega⟩, s3]
      rw [e, dpN, paN, if_pos hy, if_pos hy, i1, i2, c1, c2, if_pos (Or.inl rfl)]
      exact ⟨by rw [Int.add_assoc], by rw [show ((n + 1 : Nat) : Int) = (n : Int) + 1 by omega]⟩
    · obtain ⟨d, hd, hd1, hd2⟩ := sL_d k l
      have e : plN (.inner z k v l r : Rw) (y + 1) = d + plN r (y - rN l) := by rw [plN, if_neg hy, hd]
      rw [hd] at t3 s6
      have hno : ∀ k9 : Nat, p ≤ k9 → k9 < p + d → μ (q + 2) k9 ≤ ((p + (d + plN r (y - rN l)) : Nat) : Int) ∨ μ (q + 1) k9 = 515 := fun k9 q1 q2 => by
        by_cases hk : k < 3
        · rw [if_pos hk] at hd s1
          obtain rfl : k9 = p := by omega
          exact Or.inl (by omega)
        · rw [if_neg hk] at hd s1
          obtain ⟨u1, u2⟩ := t2 (by omega)
          obtain ⟨v1, v2, v3⟩ := s5 (by omega)
          by_cases hp : k9 = p
          · subst hp; exact Or.inl (by omega)
          · by_cases hc : k9 = p + 1 + sL l
            · exact Or.inr (by rw [hc]; exact u2)
            · have := SS_mt l (p + 1) a (n + 1) v1 k9 (by omega) (by omega)
              exact Or.inl (by omega)
      obtain ⟨n1, n2⟩ := dQ_no d hno
      obtain ⟨i1, i2⟩ := dQ_row r (p + d) _ _ (y - rN l) h3 t3 s6 (by omega)
      rw [show p + d + plN r (y - rN l) = p + (d + plN r (y - rN l)) by omega] at i1 i2
      rw [e, dpN, paN, if_neg hy, if_neg hy, i1, i2, n1, n2]
      refine ⟨rfl, ?_⟩
      congr 1
theorem SS_pln {μ : va_M} {q : Nat} : ∀ (w : Rw) (p a n x : Nat), rW0 w → SS μ q w p a n → x < rN w → μ (q + 5) (n + x) = (p + plN w x : Nat)
  | .leaf, _, _, _, _, _, _, h => absurd h (Nat.not_lt_zero _)
  | .inner z k v l r, p, a, n, 0, _, ⟨⟨s1, s2, s3, s4⟩, s5, s6⟩, _ => s4
  | .inner z k v l r, p, a, n, y + 1, ⟨h1, h2, h3⟩, ⟨⟨s1, s2, s3, s4⟩, s5, s6⟩, h => by
    rw [rN_in] at h
    rw [plN]
    by_cases hy : y < rN l
    · have hk : ¬ k < 3 := fun hk => by
        have e : rN l = 0 := by rw [h1.2.1 hk]; rfl
        omega
      have i1 := SS_pln l (p + 1) a (n + 1) y h2 (s5 (by omega)).1 hy
      rw [if_pos hy, show n + (y + 1) = n + 1 + y by omega, i1]
      congr 1
      omega
    · have i1 := SS_pln r _ _ _ (y - rN l) h3 s6 (by omega)
      rw [if_neg hy, show n + (y + 1) = n + 1 + rN l + (y - rN l) by omega, ← Nat.add_assoc]
      exact i1
theorem SA_nd {μ : va_M} {c : Nat} : ∀ (w : Rw) (p x : Nat), rW0 w → SA μ c w p → x < rN w → ∃ (k : Nat) (v : Int) (l : Rw), nd w x = .inner 0 k v l .leaf ∧ SA μ c (.inner 0 k v l .leaf : Rw) (p + plN w x) ∧ iW0 k v l ∧ rW0 l
  | .leaf, _, _, _, _, h => absurd h (Nat.not_lt_zero _)
  | .inner z k v l r, p, 0, ⟨h1, h2, h3⟩, ⟨t1, t2, t3⟩, _ => ⟨k, v, l, rfl, ⟨t1, t2, trivial⟩, h1, h2⟩
  | .inner z k v l r, p, y + 1, ⟨h1, h2, h3⟩, ⟨t1, t2, t3⟩, h => by
    rw [rN_in] at h
    rw [nd, plN]
    by_cases hy : y < rN l
    · have hk : ¬ k < 3 := fun hk => by
        have e : rN l = 0 := by rw [h1.2.1 hk]; rfl
        omega
      have i1 := SA_nd l (p + 1) y h2 (t2 (by omega)).1 hy
      rw [if_pos hy, if_pos hy, ← Nat.add_assoc]
      exact i1
    · have i1 := SA_nd r _ (y - rN l) h3 t3 (by omega)
      rw [if_neg hy, if_neg hy, ← Nat.add_assoc]
      exact i1
theorem nOf_row {μ : va_M} {c : Nat} {kk : Nat} (hk2 : kk = 2 ∨ kk = 3 ∨ kk = 4) : ∀ (w : Rw) (p : Nat), rW0 w → SA μ c w p → nOf μ c (510 + kk) (p + sL w) = nOf μ c (510 + kk) p + rkC kk w
  | .leaf, p, _, _ => (Int.add_zero _).symm
  | .inner z k v l r, p, ⟨h1, h2, h3⟩, ⟨t1, t2, t3⟩ => by
    have s1 : nOf μ c (510 + kk) (p + 1) = nOf μ c (510 + kk) p + (if μ c p = 510 + kk then 1 else 0) := rfl
    have hsg : (if μ c p = (510 + kk : Int) then 1 else 0 : Int) = if (k : Int) = kk then 1 else 0 := by
      have hb := h1.2.2.1
      have hv := h1.2.2.2.1
      rw [t1]
      unfold sG
      by_cases e0 : k = 0
      · rw [if_pos e0, if_neg (by omega), if_neg (by omega)]
      · rw [if_neg e0]
        by_cases e1 : k = 1
        · rw [if_pos e1, if_neg (by omega), if_neg (by omega)]
        · rw [if_neg e1]
          by_cases e : k = kk
          · rw [if_pos (by omega), if_pos (by omega)]
          · rw [if_neg (by omega), if_neg (by omega)]
    rw [sL_in, rkC]
    by_cases hk : k < 3
    · rw [if_pos hk] at t3 ⊢
      have i2 := nOf_row hk2 r (p + 1) h3 t3
      have e0 : rkC kk l = 0 := by rw [h1.2.1 hk]; rfl
      rw [show p + (1 + sL r) = p + 1 + sL r by omega, i2, s1, hsg, e0]
      omega
    · rw [if_neg hk] at t3 ⊢
      obtain ⟨u1, u2⟩ := t2 (by omega)
      have i1 := nOf_row hk2 l (p + 1) h2 u1
      have i2 := nOf_row hk2 r (p + (2 + sL l)) h3 t3
      have s2 : nOf μ c (510 + kk) (p + 1 + sL l + 1) = nOf μ c (510 + kk) (p + 1 + sL l) + (if μ c (p + 1 + sL l) = 510 + kk then 1 else 0) := rfl
      rw [u2, if_neg (by omega)] at s2
      rw [show p + (2 + sL l + sL r) = p + (2 + sL l) + sL r by omega, i2, show p + (2 + sL l) = p + 1 + sL l + 1 by omega, s2, i1, s1, hsg]
      omega
theorem mQ_row {μ : va_M} {q : Nat} : ∀ (w : Rw) (p a n : Nat), rW0 w → SA μ (q + 1) w p → SS μ q w p a n → rQ μ q (p + sL w) = rQ μ q p ∧ mQ μ q (p + sL w) = max (mQ μ q p) (mxD (rQ μ q p) w)
  | .leaf, p, a, n, _, _, _ => by
    have := mQ_b (μ := μ) (q := q) p
    refine ⟨rfl, ?_⟩
    show mQ μ q p = max (mQ μ q p) 0
    omega
  | .inner z k v l r, p, a, n, ⟨h1, h2, h3⟩, ⟨t1, t2, t3⟩, ⟨⟨s1, s2, s3, s4⟩, s5, s6⟩ => by
    obtain ⟨g1, g2, g3⟩ := sG_b h1
    have r1 : rQ μ q (p + 1) = rQ μ q p + (if μ (q + 1) p = 514 then 1 else if μ (q + 1) p = 515 ∧ μ (q + 1) (μ (q + 2) p).toNat = 514 then -1 else 0) := rfl
    have m1 : mQ μ q (p + 1) = if μ (q + 1) p = 514 then max (mQ μ q p) (rQ μ q p + 1) else mQ μ q p := rfl
    have hm0 := mQ_b (μ := μ) (q := q) p
    have hx0 := mxD_0 r (rQ μ q p)
    rw [sL_in, mxD]
    by_cases hk : k < 3
    · have g := g1 hk
      rw [if_pos hk] at t3 s6 ⊢
      rw [t1, if_neg (by omega), if_neg (by omega), Int.add_zero] at r1
      rw [t1, if_neg (by omega)] at m1
      obtain ⟨i1, i2⟩ := mQ_row r (p + 1) _ _ h3 t3 s6
      have e0 : mxD (rQ μ q p) l = 0 := by rw [h1.2.1 hk]; rfl
      rw [show p + (1 + sL r) = p + 1 + sL r by omega, i1, i2, r1, m1, if_neg (by omega), e0]
      exact ⟨rfl, by omega⟩
    · rw [if_neg hk] at t3 s6 s1 ⊢
      obtain ⟨u1, u2⟩ := t2 (by omega)
      obtain ⟨v1, v2, v3⟩ := s5 (by omega)
      obtain ⟨i1, i2⟩ := mQ_row l (p + 1) a (n + 1) h2 u1 v1
      obtain ⟨j1, j2⟩ := mQ_row r (p + (2 + sL l)) _ _ h3 t3 s6
      have r2 : rQ μ q (p + 1 + sL l + 1) = rQ μ q (p + 1 + sL l) + (if μ (q + 1) (p + 1 + sL l) = 514 then 1 else if μ (q + 1) (p + 1 + sL l) = 515 ∧ μ (q + 1) (μ (q + 2) (p + 1 + sL l)).toNat = 514 then -1 else 0) := rfl
      have m2 : mQ μ q (p + 1 + sL l + 1) = if μ (q + 1) (p + 1 + sL l) = 514 then max (mQ μ q (p + 1 + sL l)) (rQ μ q (p + 1 + sL l) + 1) else mQ μ q (p + 1 + sL l) := rfl
      rw [u2, if_neg (by decide), v2, Int.toNat_natCast, t1] at r2
      rw [u2, if_neg (by decide)] at m2
      have hxl := mxD_0 l (rQ μ q p)
      rw [show p + (2 + sL l + sL r) = p + (2 + sL l) + sL r by omega, j1, j2, show p + (2 + sL l) = p + 1 + sL l + 1 by omega, r2, m2, i1, i2]
      by_cases hk4 : k = 4
      · have g := g3 hk4
        rw [t1, g, if_pos rfl] at r1 m1
        rw [g, if_pos ⟨rfl, rfl⟩, r1, m1, if_pos hk4]
        refine ⟨by omega, ?_⟩
        rw [show rQ μ q p + 1 + -1 = rQ μ q p by omega]
        omega
      · have g := g2 (by have := h1.1; omega)
        rw [t1, g, if_neg (by decide), if_neg (by omega), Int.add_zero] at r1
        rw [t1, g, if_neg (by decide)] at m1
        rw [g, if_neg (by omega), r1, m1, if_neg hk4, Int.add_zero]
        exact ⟨rfl, by omega⟩
/-- what is told of a node -/
def ofV (w : Rw) (i : Nat) (wh : Int) : Int := if wh = 0 then (rk (nd w i) : Int) else if wh = 1 then (if rk (nd w i) < 2 then rv (nd w i) else -1) else if wh = 2 then dpN (-1) w i else if wh = 3 then paN w (-1) 0 i else if wh = 4 then rL1 (rk (nd w i)) (rl (nd w i)) else (rI (rl (nd w i)) : Int)
/-- what is told of a page -/
def pgV (n : Int) (w : Rw) (wh : Int) : Int := if wh = 0 then n else if wh = 1 then (rN w : Int) else if wh = 2 then (rL w : Int) else if wh = 3 then rkC 4 w else mxD 0 w

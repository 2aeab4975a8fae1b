/-! the path of a page through the skeleton's row: places and steps, told once for both sides -/
/-- what stands at a row's places: K what it is (0 a leaf, 3 an option's beginning, 4 a repeat's, 5 and 6 their ends), M the other end, N the node -/
def PC (K M N : Nat → Nat) : Rw → Nat → Nat → Prop
  | .leaf, _, _ => True
  | .inner _ k _ l r, p, n => if k < 3 then (K p = 0 ∧ N p = n) ∧ PC K M N r (p + 1) (n + 1) else (K p = (if k = 3 then 3 else 4) ∧ M p = p + 1 + sL l ∧ N p = n ∧ K (p + 1 + sL l) = (if k = 3 then 5 else 6) ∧ M (p + 1 + sL l) = p) ∧ PC K M N l (p + 1) (n + 1) ∧ PC K M N r (p + 2 + sL l) (n + 1 + rN l)
/-- two tellings of the same place -/
def PCe (K M N K2 M2 N2 : Nat → Nat) (a b x : Nat) : Prop := K x = K2 x ∧ (K x ≠ 0 → M x = M2 x ∧ a ≤ M x ∧ M x < b) ∧ (K x ≤ 4 → N x = N2 x) ∧ (K x = 0 ∨ K x = 3 ∨ K x = 4 ∨ K x = 5 ∨ K x = 6) ∧ (K x = 6 → K (M x) = 4 ∧ N (M x) = N2 (M x))
theorem PC_one {K M N K2 M2 N2 : Nat → Nat} {a b : Nat} : ∀ (w : Rw) (p n : Nat), PC K M N w p n → PC K2 M2 N2 w p n → a ≤ p → p + sL w ≤ b → ∀ x : Nat, p ≤ x → x < p + sL w → PCe K M N K2 M2 N2 a b x
  | .leaf, p, _, _, _, _, _, x, h1, h2 => by
    have e0 : sL (Std.DTreeMap.Internal.Impl.leaf : Rw) = 0 := rfl
    omega
  | .inner z k v l r, p, n, h, g, ha, hb, x, h1, h2 => by
    rw [PC] at h g
    rw [sL_in9] at h2 hb
    by_cases hk : k < 3
    · rw [if_pos hk] at h g h2 hb
      by_cases hx : x = p
      · subst hx
        obtain ⟨⟨k1, k2⟩, -⟩ := h
        obtain ⟨⟨j1, j2⟩, -⟩ := g
        exact ⟨by rw [k1, j1], fun h9 => absurd k1 h9, fun _ => by rw [k2, j2], Or.inl k1, fun h9 => by omega⟩
      · exact PC_one r (p + 1) (n + 1) h.2 g.2 (by omega) (by omega) x (by omega) (by omega)
    · rw [if_neg hk] at h g h2 hb
      obtain ⟨⟨k1, k2, k3, k4, k5⟩, h3, h4⟩ := h
      obtain ⟨⟨j1, j2, j3, j4, j5⟩, g3, g4⟩ := g
      by_cases hx : x = p
      · subst hx
        refine ⟨by rw [k1, j1], fun _ => ⟨by rw [k2, j2], by omega, by omega⟩, fun _ => by rw [k3, j3], ?_, fun h9 => ?_⟩
        · rw [k1]
          split <;> omega
        · rw [k1] at h9
          split at h9 <;> omega
      · by_cases hx2 : x < p + 1 + sL l
        · exact PC_one l (p + 1) (n + 1) h3 g3 (by omega) (by omega) x (by omega) hx2
        · by_cases hx3 : x = p + 1 + sL l
          · subst hx3
            refine ⟨by rw [k4, j4], fun _ => ⟨by rw [k5, j5], by omega, by omega⟩, fun h9 => ?_, ?_, fun h9 => ?_⟩
            · rw [k4] at h9
              split at h9 <;> omega
            · rw [k4]
              split <;> omega
            · rw [k4] at h9
              have h3k : k ≠ 3 := fun e => by rw [if_pos e] at h9; omega
              rw [k5, k1, if_neg h3k, k3, j3]
              exact ⟨rfl, rfl⟩
          · exact PC_one r (p + 2 + sL l) (n + 1 + rN l) h4 g4 (by omega) (by omega) x (by omega) (by omega)
/-- the class's line -/
def KC (μ : va_M) (q x : Nat) : Nat := if μ (q + 1) x ≤ 512 then 0 else if μ (q + 1) x = 513 then 3 else if μ (q + 1) x = 514 then 4 else if μ (q + 1) (μ (q + 2) x).toNat = 513 then 5 else 6
def MC (μ : va_M) (q x : Nat) : Nat := (μ (q + 2) x).toNat
def NC (μ : va_M) (q x : Nat) : Nat := (μ (q + 4) x).toNat
theorem PC_cls {μ : va_M} {q : Nat} : ∀ (w : Rw) (p a n : Nat), rW0 w → SA μ (q + 1) w p → SS μ q w p a n → PC (KC μ q) (MC μ q) (NC μ q) w p n
  | .leaf, _, _, _, _, _, _ => trivial
  | .inner z k v l r, p, a, n, ⟨w1, w2, w3⟩, ⟨s1, s2, s3⟩, ⟨⟨t1, t2, t3, t4⟩, t5, t6⟩ => by
    rw [PC]
    obtain ⟨g1, g2, g3⟩ := sG_le w1
    by_cases hk : k < 3
    · rw [if_pos hk] at s3 t1 ⊢
      rw [if_pos hk, if_pos hk] at t6
      have hl : rN l = 0 ∨ True := Or.inr trivial
      refine ⟨⟨?_, ?_⟩, ?_⟩
      · unfold KC
        rw [s1, if_pos (g1 hk)]
      · unfold NC
        rw [t3]
        rfl
      · have hl0 := w1.2.1 hk
        rw [show n + 1 + rN l = n + 1 by rw [hl0]; rfl] at t6
        exact PC_cls r (p + 1) _ (n + 1) w3 s3 t6
    · rw [if_neg hk] at s3 t1 ⊢
      rw [if_neg hk, if_neg hk] at t6
      obtain ⟨u1, u2⟩ := s2 (by omega)
      obtain ⟨v1, v2, -, -⟩ := t5 (by omega)
      rw [show p + (2 + sL l) = p + 2 + sL l by omega] at s3 t6
      have hK : μ (q + 1) p = if k = 3 then 513 else 514 := by
        rw [s1]
        by_cases h3 : k = 3
        · rw [if_pos h3, g2 h3]
        · rw [if_neg h3, g3 hk h3]
      refine ⟨⟨?_, ?_, ?_, ?_, ?_⟩, PC_cls l (p + 1) a (n + 1) w2 u1 v1, PC_cls r (p + 2 + sL l) _ (n + 1 + rN l) w3 s3 t6⟩
      · unfold KC
        rw [hK]
        by_cases h3 : k = 3
        · rw [if_pos h3, if_pos h3]; rfl
        · rw [if_neg h3, if_neg h3]; rfl
      · unfold MC
        rw [t1]
        rfl
      · unfold NC
        rw [t3]
        rfl
      · unfold KC
        rw [u2, v2, if_neg (by decide), if_neg (by decide), if_neg (by decide), show ((p : Nat) : Int).toNat = p from rfl, hK]
        by_cases h3 : k = 3
        · rw [if_pos h3, if_pos h3]; rfl
        · rw [if_neg h3, if_neg h3]; rfl
      · unfold MC
        rw [v2]
        rfl
/-- the reference's states -/
def KS (μ : va_M) (x : Nat) : Nat := if nod μ x < 3 then 0 else if μ 4414 x = 0 then (if nod μ x = 3 then 3 else 4) else (if nod μ x = 3 then 5 else 6)
def MS9 (μ : va_M) (x : Nat) : Nat := (μ 4413 x).toNat
def NS9 (μ : va_M) (x : Nat) : Nat := (μ 4412 x).toNat
theorem PC_ref {μ : va_M} : ∀ (w : Rw) (p q : Nat), rWF w → RA μ 0 w p → RS μ w p q → PC (KS μ) (MS9 μ) (NS9 μ) w q p
  | .leaf, _, _, _, _, _ => trivial
  | .inner z k v l r, p, q, ⟨f1, f2, f3, f4, f5, f6, f7, f8⟩, ⟨a1, a2, a3, a4, a5⟩, hs => by
    rw [RS] at hs
    rw [PC]
    obtain ⟨s1, s2, s3⟩ := hs
    have a1 : μ 507 p = k := a1
    have n1 : nod μ q = k := by unfold nod; rw [s1, show ((p : Nat) : Int).toNat = p from rfl]; exact a1
    by_cases hk : k < 3
    · rw [if_pos hk] at s3 ⊢
      obtain rfl := f2 hk
      have e0 : rN (Std.DTreeMap.Internal.Impl.leaf : Rw) = 0 := rfl
      rw [e0] at a5
      refine ⟨⟨?_, ?_⟩, PC_ref r (p + 1) (q + 1) f8 a5 s3⟩
      · unfold KS
        rw [n1, if_pos (by omega)]
      · unfold NS9
        rw [s1]
        rfl
    · rw [if_neg hk] at s3 ⊢
      obtain ⟨t1, t2, t3, t4, t5, t6⟩ := s3
      rw [rS_sL] at t1 t3 t4 t5 t6
      rw [show q + 1 + sL l + 1 = q + 2 + sL l by omega] at t6
      have n2 : nod μ (q + 1 + sL l) = k := by unfold nod; rw [t3, show ((p : Nat) : Int).toNat = p from rfl]; exact a1
      refine ⟨⟨?_, ?_, ?_, ?_, ?_⟩, PC_ref l (p + 1) (q + 1) f7 a4 t2, ?_⟩
      · unfold KS
        rw [n1, s2, if_neg (by omega), if_pos rfl]
        by_cases h3 : k = 3
        · rw [if_pos h3, if_pos (by omega)]
        · rw [if_neg h3, if_neg (by omega)]
      · unfold MS9
        rw [t1]
        rfl
      · unfold NS9
        rw [s1]
        rfl
      · unfold KS
        rw [n2, t4, if_neg (by omega), if_neg (by decide)]
        by_cases h3 : k = 3
        · rw [if_pos h3, if_pos (by omega)]
        · rw [if_neg h3, if_neg (by omega)]
      · unfold MS9
        rw [t5]
        rfl
      · have h9 := PC_ref r (p + 1 + rN l) (q + 2 + sL l) f8 a5 t6
        exact h9
/-- a column's equations, at each place -/
def eqP (K M : Nat → Nat) (ei : Int → Int → Int) (tk f : Nat → Int) (x : Nat) : Prop :=
  (K x = 0 → f x = tk x) ∧ (K x = 3 → f x = ei (f (x + 1)) (f (M x + 1))) ∧ (K x = 4 → f x = f (x + 1)) ∧ (K x = 5 → f x = f (x + 1)) ∧ (K x = 6 → f x = ei (f (M x + 1)) (f (x + 1)))
theorem EQ_at {K M N : Nat → Nat} {ei : Int → Int → Int} {tk f : Nat → Int} : ∀ (w : Rw) (p n : Nat), PC K M N w p n → EI ei tk f w p → EC ei f w p → ∀ x : Nat, p ≤ x → x < p + sL w → eqP K M ei tk f x
  | .leaf, p, _, _, _, _, x, h1, h2 => by
    have e0 : sL (Std.DTreeMap.Internal.Impl.leaf : Rw) = 0 := rfl
    omega
  | .inner z k v l r, p, n, h, hf, hc, x, h1, h2 => by
    rw [PC] at h
    rw [EI] at hf
    rw [EC] at hc
    rw [sL_in9] at h2
    by_cases hk : k < 3
    · rw [if_pos hk] at h hf hc h2
      by_cases hx : x = p
      · subst hx
        have k1 := h.1.1
        exact ⟨fun _ => hf.1, fun h9 => by omega, fun h9 => by omega, fun h9 => by omega, fun h9 => by omega⟩
      · exact EQ_at r (p + 1) (n + 1) h.2 hf.2 hc x (by omega) (by omega)
    · rw [if_neg hk] at h hf hc h2
      obtain ⟨⟨k1, k2, k3, k4, k5⟩, h3, h4⟩ := h
      obtain ⟨f1, f2, f3⟩ := hf
      obtain ⟨c1, c2, c3⟩ := hc
      by_cases hx : x = p
      · subst hx
        by_cases h9 : k = 3
        · rw [if_pos h9] at k1 f1
          refine ⟨fun h8 => by omega, fun _ => ?_, fun h8 => by omega, fun h8 => by omega, fun h8 => by omega⟩
          rw [k2, show x + 1 + sL l + 1 = x + 2 + sL l by omega]
          exact f1
        · rw [if_neg h9] at k1 f1
          exact ⟨fun h8 => by omega, fun h8 => by omega, fun _ => f1, fun h8 => by omega, fun h8 => by omega⟩
      · by_cases hx2 : x < p + 1 + sL l
        · exact EQ_at l (p + 1) (n + 1) h3 f2 c2 x (by omega) hx2
        · by_cases hx3 : x = p + 1 + sL l
          · subst hx3
            rw [show p + 2 + sL l = p + 1 + sL l + 1 by omega] at c1
            by_cases h9 : k = 3
            · rw [if_pos h9] at k4 c1
              exact ⟨fun h8 => by omega, fun h8 => by omega, fun h8 => by omega, fun _ => c1, fun h8 => by omega⟩
            · rw [if_neg h9] at k4 c1
              refine ⟨fun h8 => by omega, fun h8 => by omega, fun h8 => by omega, fun h8 => by omega, fun _ => ?_⟩
              rw [k5]
              exact c1
          · exact EQ_at r (p + 2 + sL l) (n + 1 + rN l) h4 f3 c3 x (by omega) (by omega)
/-- where one is: the place, how many tokens were taken, how often each node was come to, passed, who took which -/
abbrev Wp : Type := Nat × Nat × (Nat → Int) × (Nat → Int) × (Nat → Int)
def bmp (f : Nat → Int) (i : Nat) : Nat → Int := fun j => if j = i then f j + 1 else f j
def ptk (f : Nat → Int) (i : Nat) (v : Int) : Nat → Int := fun j => if j = i then v else f j
def wst (K M N : Nat → Nat) (F : Nat → Nat → Int) : Wp → Wp
  | (x, k, th, pa, tk) => if K x = 0 then (x + 1, k + 1, bmp th (N x), pa, ptk tk k (N x)) else if K x = 3 then (if F k (x + 1) = 0 then (M x + 1, k, th, pa, tk) else (x + 1, k, bmp th (N x), pa, tk)) else if K x = 4 then (x + 1, k, bmp th (N x), bmp pa (N x), tk) else if K x = 6 ∧ 0 < F k (M x + 1) then (M x + 1, k, th, bmp pa (N (M x)), tk) else (x + 1, k, th, pa, tk)
def wrn (K M N : Nat → Nat) (F : Nat → Nat → Int) : Nat → Wp → Wp
  | 0, s => s
  | m + 1, s => wst K M N F (wrn K M N F m s)
/-- the start -/
def wp0 : Wp := (0, 0, fun _ => 0, fun _ => 0, fun _ => 0)
/-- on the path there is a way on from each place -/
theorem wst_ok {K M N : Nat → Nat} {F : Nat → Nat → Int} {n L x k : Nat} {th pa tk : Nat → Int} {ls : Nat → Int} (hx : x < L) (hK : K x = 0 ∨ K x = 3 ∨ K x = 4 ∨ K x = 5 ∨ K x = 6) (hM : K x ≠ 0 → M x < L) (he : eqP K M (wEi 0) ls (F k) x) (hl : K x = 0 → 0 < ls x → k < n ∧ ls x = F (k + 1) (x + 1)) (hp : ∀ b : Nat, b ≤ L → 0 ≤ F k b) (hkn : k ≤ n) (hF : 0 < F k x) : (wst K M N F (x, k, th, pa, tk)).1 ≤ L ∧ (wst K M N F (x, k, th, pa, tk)).2.1 ≤ n ∧ 0 < F (wst K M N F (x, k, th, pa, tk)).2.1 (wst K M N F (x, k, th, pa, tk)).1 := by
  obtain ⟨e0, e3, e4, e5, e6⟩ := he
  have ew : ∀ v w : Int, wEi 0 v w = min (v + w) 1000000000 := fun v w => by unfold wEi; rw [if_pos rfl]
  rw [ew] at e3 e6
  unfold wst
  by_cases h0 : K x = 0
  · have h1 := e0 h0
    obtain ⟨a1, a2⟩ := hl h0 (by omega)
    rw [if_pos h0]
    refine ⟨by show x + 1 ≤ L; omega, by show k + 1 ≤ n; omega, ?_⟩
    show 0 < F (k + 1) (x + 1)
    omega
  · have hm := hM h0
    rw [if_neg h0]
    by_cases h3 : K x = 3
    · have h1 := e3 h3
      rw [if_pos h3]
      by_cases h9 : F k (x + 1) = 0
      · rw [if_pos h9]
        refine ⟨by show M x + 1 ≤ L; omega, hkn, ?_⟩
        show 0 < F k (M x + 1)
        omega
      · rw [if_neg h9]
        have := hp (x + 1) (by omega)
        refine ⟨by show x + 1 ≤ L; omega, hkn, ?_⟩
        show 0 < F k (x + 1)
        omega
    · rw [if_neg h3]
      by_cases h4 : K x = 4
      · have h1 := e4 h4
        rw [if_pos h4]
        refine ⟨by show x + 1 ≤ L; omega, hkn, ?_⟩
        show 0 < F k (x + 1)
        omega
      · rw [if_neg h4]
        by_cases h6 : K x = 6 ∧ 0 < F k (M x + 1)
        · rw [if_pos h6]
          exact ⟨by show M x + 1 ≤ L; omega, hkn, h6.2⟩
        · rw [if_neg h6]
          refine ⟨by show x + 1 ≤ L; omega, hkn, ?_⟩
          show 0 < F k (x + 1)
          by_cases h7 : K x = 6
          · have h1 := e6 h7
            have h8 : ¬ 0 < F k (M x + 1) := fun h => h6 ⟨h7, h⟩
            have := hp (M x + 1) (by omega)
            omega
          · have h1 := e5 (by omega)
            omega
/-- one step is told alike by both sides -/
theorem wst_eq {K M N K2 M2 N2 : Nat → Nat} {F G : Nat → Nat → Int} {L x k : Nat} {th pa tk : Nat → Int} (hx : x < L) (hP : PCe K M N K2 M2 N2 0 L x) (hFG : ∀ y : Nat, y ≤ L → F k y = G k y) : wst K M N F (x, k, th, pa, tk) = wst K2 M2 N2 G (x, k, th, pa, tk) := by
  obtain ⟨p1, p2, p3, p4, p5⟩ := hP
  unfold wst
  rw [← p1]
  by_cases h0 : K x = 0
  · rw [if_pos h0, if_pos h0, p3 (by omega)]
  · obtain ⟨m1, m2, m3⟩ := p2 h0
    rw [if_neg h0, if_neg h0, ← m1, hFG (x + 1) (by omega), hFG (M x + 1) (by omega)]
    by_cases h3 : K x = 3
    · rw [if_pos h3, if_pos h3, p3 (by omega)]
    · rw [if_neg h3, if_neg h3]
      by_cases h4 : K x = 4
      · rw [if_pos h4, if_pos h4, p3 (by omega)]
      · rw [if_neg h4, if_neg h4]
        by_cases h6 : K x = 6 ∧ 0 < G k (M x + 1)
        · rw [if_pos h6, if_pos h6, (p5 h6.1).2]
        · rw [if_neg h6, if_neg h6]
theorem wrn_ok {K M N : Nat → Nat} {F : Nat → Nat → Int} {n L : Nat} {ls : Nat → Nat → Int} (hC : ∀ x : Nat, x < L → (K x = 0 ∨ K x = 3 ∨ K x = 4 ∨ K x = 5 ∨ K x = 6) ∧ (K x ≠ 0 → M x < L)) (he : ∀ k x : Nat, k ≤ n → x < L → eqP K M (wEi 0) (ls k) (F k) x) (hl : ∀ k x : Nat, k ≤ n → x < L → K x = 0 → 0 < ls k x → k < n ∧ ls k x = F (k + 1) (x + 1)) (hp : ∀ a b : Nat, a ≤ n → b ≤ L → 0 ≤ F a b) (h0 : 0 < F 0 0) : ∀ m : Nat, (∀ j : Nat, j < m → (wrn K M N F j wp0).1 < L) → (wrn K M N F m wp0).1 ≤ L ∧ (wrn K M N F m wp0).2.1 ≤ n ∧ 0 < F (wrn K M N F m wp0).2.1 (wrn K M N F m wp0).1
  | 0, _ => ⟨Nat.zero_le _, Nat.zero_le _, h0⟩
  | m + 1, h => by
    obtain ⟨i1, i2, i3⟩ := wrn_ok hC he hl hp h0 m (fun j hj => h j (by omega))
    have hx := h m (by omega)
    show (wst K M N F (wrn K M N F m wp0)).1 ≤ L ∧ _
    generalize wrn K M N F m wp0 = s at i1 i2 i3 hx ⊢
    obtain ⟨x, k, th, pa, tk⟩ := s
    have hx : x < L := hx
    have i2 : k ≤ n := i2
    have i3 : 0 < F k x := i3
    obtain ⟨c1, c2⟩ := hC x hx
    exact wst_ok hx c1 c2 (he k x i2 hx) (hl k x i2 hx) (fun b hb => hp k b i2 hb) i2 i3
theorem wrn_eq {K M N K2 M2 N2 : Nat → Nat} {F G : Nat → Nat → Int} {n L : Nat} (hP : ∀ x : Nat, x < L → PCe K M N K2 M2 N2 0 L x) (hFG : ∀ k : Nat, k ≤ n → ∀ y : Nat, y ≤ L → F k y = G k y) (hk : ∀ m : Nat, (∀ j : Nat, j < m → (wrn K M N F j wp0).1 < L) → (wrn K M N F m wp0).2.1 ≤ n) : ∀ m : Nat, (∀ j : Nat, j < m → (wrn K M N F j wp0).1 < L) → wrn K2 M2 N2 G m wp0 = wrn K M N F m wp0
  | 0, _ => rfl
  | m + 1, h => by
    have ih := wrn_eq hP hFG hk m (fun j hj => h j (by omega))
    have hx := h m (by omega)
    have h2 := hk m (fun j hj => h j (by omega))
    show wst K2 M2 N2 G (wrn K2 M2 N2 G m wp0) = wst K M N F (wrn K M N F m wp0)
    rw [ih]
    generalize wrn K M N F m wp0 = s at hx h2 ⊢
    obtain ⟨x, k, th, pa, tk⟩ := s
    exact (wst_eq hx (hP x hx) (hFG k h2)).symm
/-- a page's walk: in how many ways it fits, and where it does how often each node is come to and passed, and what takes which token -/
def wlk (W : Rw) (code : Nat → Int) (n : Nat) (z : Int) (th pa tk : Nat → Int) : Prop := ∃ F : Nat → Nat → Int, (wkR (wEi 0) (lfY code n) (enY n) n W F ∧ (∀ a b : Nat, a ≤ n → b ≤ sL W → 0 ≤ F a b)) ∧ z = F 0 0 ∧ (0 < z → ∃ (K M N : Nat → Nat) (m k : Nat), m ≤ 240000 ∧ PC K M N W 0 0 ∧ wrn K M N F m wp0 = (sL W, k, th, pa, tk) ∧ ∀ j : Nat, j < m → (wrn K M N F j wp0).1 < sL W)
theorem wk_ls {W : Rw} {code : Nat → Int} {n : Nat} {F : Nat → Nat → Int} {K M N : Nat → Nat} (hF : wkR (wEi 0) (lfY code n) (enY n) n W F) (hC : PC K M N W 0 0) : ∃ ls : Nat → Nat → Int, (∀ k x : Nat, k ≤ n → x < sL W → eqP K M (wEi 0) (ls k) (F k) x) ∧ ∀ k x : Nat, k ≤ n → x < sL W → K x = 0 → 0 < ls k x → k < n ∧ ls k x = F (k + 1) (x + 1) := by
  have hh : ∀ k : Nat, ∃ t : Nat → Int, k ≤ n → (∀ x : Nat, x < sL W → eqP K M (wEi 0) t (F k) x) ∧ ∀ x : Nat, x < sL W → K x = 0 → 0 < t x → k < n ∧ t x = F (k + 1) (x + 1) := fun k => by
    by_cases hk : k ≤ n
    · obtain ⟨t, a1, a2, a3, a4⟩ := hF k hk
      refine ⟨t, fun _ => ⟨fun x hx => EQ_at W 0 0 hC a2 a3 x (Nat.zero_le _) (by omega), fun x hx h0 ht => ?_⟩⟩
      have key : ∀ (w : Rw) (p q : Nat), PC K M N w p q → LPw (fun x k9 v => t x = lfY code n k x k9 v (F (k + 1))) w p → ∀ y : Nat, p ≤ y → y < p + sL w → K y = 0 → 0 < t y → k < n ∧ t y = F (k + 1) (y + 1) := by
        intro w
        induction w with
        | leaf =>
          intro p q _ _ y y1 y2
          have e0 : sL (Std.DTreeMap.Internal.Impl.leaf : Rw) = 0 := rfl
          omega
        | inner z k9 v l r ih1 ih2 =>
          intro p q hp hlp y y1 y2 hy ht
          rw [PC] at hp
          rw [LPw] at hlp
          rw [sL_in9] at y2
          by_cases h3 : k9 < 3
          · rw [if_pos h3] at hp hlp y2
            by_cases e : y = p
            · subst e
              have e9 := hlp.1
              unfold lfY at e9
              by_cases c9 : k < n ∧ tkI (sG k9 v) (code k) = 1
              · rw [if_pos c9] at e9
                exact ⟨c9.1, e9⟩
              · rw [if_neg c9] at e9
                omega
            · exact ih2 (p + 1) (q + 1) hp.2 hlp.2 y (by omega) (by omega) hy ht
          · rw [if_neg h3] at hp hlp y2
            obtain ⟨⟨k1, k2, k3, k4, k5⟩, p3, p4⟩ := hp
            by_cases e : y = p
            · subst e
              rw [k1] at hy
              split at hy <;> omega
            · by_cases e2 : y < p + 1 + sL l
              · exact ih1 (p + 1) (q + 1) p3 hlp.1 y (by omega) e2 hy ht
              · by_cases e3 : y = p + 1 + sL l
                · subst e3
                  rw [k4] at hy
                  split at hy <;> omega
                · exact ih2 (p + 2 + sL l) _ p4 hlp.2 y (by omega) (by omega) hy ht
      exact key W 0 0 hC a1 x (Nat.zero_le _) (by omega) h0 ht
    · exact ⟨fun _ => 0, fun h => absurd h hk⟩
  obtain ⟨ls, hls⟩ : ∃ ls : Nat → Nat → Int, ∀ k : Nat, k ≤ n → (∀ x : Nat, x < sL W → eqP K M (wEi 0) (ls k) (F k) x) ∧ ∀ x : Nat, x < sL W → K x = 0 → 0 < ls k x → k < n ∧ ls k x = F (k + 1) (x + 1) := ⟨fun k => Classical.choose (hh k), fun k => Classical.choose_spec (hh k)⟩
  exact ⟨ls, fun k x hk hx => (hls k hk).1 x hx, fun k x hk hx => (hls k hk).2 x hx⟩
theorem wlk_1 {W : Rw} {code : Nat → Int} {n : Nat} {z y : Int} {th pa tk th2 pa2 tk2 : Nat → Int} (ho : rOF W) (h1 : wlk W code n z th pa tk) (h2 : wlk W code n y th2 pa2 tk2) : z = y ∧ (0 < z → th = th2 ∧ pa = pa2 ∧ tk = tk2) := by
  obtain ⟨F, ⟨f1, f0⟩, f2, f3⟩ := h1
  obtain ⟨G, ⟨g1, g0⟩, g2, g3⟩ := h2
  have hFG : ∀ k : Nat, k ≤ n → ∀ x : Nat, x ≤ sL W → F k x = G k x := fun k hk x hx => by
    have h9 := wk_one ho (lfY_O code n) f1 g1 (n - k) (by omega) x hx
    rw [show n - (n - k) = k by omega] at h9
    exact h9
  have e0 : z = y := by rw [f2, g2]; exact hFG 0 (Nat.zero_le _) 0 (Nat.zero_le _)
  refine ⟨e0, fun hz => ?_⟩
  obtain ⟨K, M, N, m, k, -, a1, a2, a3⟩ := f3 hz
  obtain ⟨K2, M2, N2, m2, k2, -, b1, b2, b3⟩ := g3 (by rw [← e0]; exact hz)
  have hP := PC_one (a := 0) (b := sL W) W 0 0 a1 b1 (Nat.le_refl _) (by omega)
  have hP : ∀ x : Nat, x < sL W → PCe K M N K2 M2 N2 0 (sL W) x := fun x hx => hP x (Nat.zero_le _) (by omega)
  obtain ⟨ls, l1, l2⟩ := wk_ls f1 a1
  have hk : ∀ m : Nat, (∀ j : Nat, j < m → (wrn K M N F j wp0).1 < sL W) → (wrn K M N F m wp0).2.1 ≤ n := fun m hm => (wrn_ok (fun x hx => ⟨(hP x hx).2.2.2.1, fun h9 => ((hP x hx).2.1 h9).2.2⟩) l1 l2 f0 (by rw [← f2]; exact hz) m hm).2.1
  have hE := wrn_eq hP hFG hk
  have em : m2 = m := by
    rcases Nat.lt_trichotomy m2 m with c | c | c
    · have c1 := a3 m2 c
      rw [← hE m2 (fun j hj => a3 j (by omega)), b2] at c1
      exact absurd c1 (Nat.lt_irrefl _)
    · exact c
    · have c1 := b3 m c
      rw [hE m a3, a2] at c1
      exact absurd c1 (Nat.lt_irrefl _)
  subst em
  have e9 := (hE m2 a3).symm.trans b2
  rw [a2] at e9
  injection e9 with q1 q2
  injection q2 with q3 q4
  injection q4 with q5 q6
  injection q6 with q7 q8
  exact ⟨q5, q7, q8⟩
/-- a side's arrays after so many steps: A how often come to, B passed, C what takes which; P, Q: where they are told -/
def rnG (K M N : Nat → Nat) (F : Nat → Nat → Int) (A B C : Nat → Int) (P Q : Nat → Prop) (L m x k : Nat) : Prop := ∃ th pa tk : Nat → Int, wrn K M N F m wp0 = (x, k, th, pa, tk) ∧ (∀ j : Nat, P j → A j = th j) ∧ (∀ j : Nat, Q j → B j = pa j) ∧ (∀ j : Nat, j < k → C j = tk j) ∧ ∀ j : Nat, j < m → (wrn K M N F j wp0).1 < L
section RG
variable {K M N : Nat → Nat} {F : Nat → Nat → Int} {A B C A2 B2 C2 : Nat → Int} {P Q : Nat → Prop} {L m x k x2 k2 : Nat}
theorem rg_st {ft fp fk : (Nat → Int) → Nat → Int} (h : rnG K M N F A B C P Q L m x k) (hx : x < L) (hs : ∀ th pa tk : Nat → Int, wst K M N F (x, k, th, pa, tk) = (x2, k2, ft th, fp pa, fk tk)) (h1 : ∀ f : Nat → Int, (∀ j : Nat, P j → A j = f j) → ∀ j : Nat, P j → A2 j = ft f j) (h2 : ∀ f : Nat → Int, (∀ j : Nat, Q j → B j = f j) → ∀ j : Nat, Q j → B2 j = fp f j) (h3 : ∀ f : Nat → Int, (∀ j : Nat, j < k → C j = f j) → ∀ j : Nat, j < k2 → C2 j = fk f j) : rnG K M N F A2 B2 C2 P Q L (m + 1) x2 k2 := by
  obtain ⟨th, pa, tk, e1, e2, e3, e4, e5⟩ := h
  refine ⟨ft th, fp pa, fk tk, ?_, h1 th e2, h2 pa e3, h3 tk e4, fun j hj => ?_⟩
  · show wst _ _ _ _ (wrn _ _ _ _ m wp0) = _
    rw [e1]
    exact hs th pa tk
  · by_cases c : j < m
    · exact e5 j c
    · have ej : j = m := by omega
      rw [ej, e1]
      exact hx
theorem rg_bmp {R : Nat → Prop} {i : Nat} (e : ∀ j : Nat, R j → A2 j = if j = i then A j + 1 else A j) : ∀ f : Nat → Int, (∀ j : Nat, R j → A j = f j) → ∀ j : Nat, R j → A2 j = bmp f i j := fun f hf j hj => by
  unfold bmp
  rw [e j hj]
  split
  · rw [hf j hj]
  · exact hf j hj
theorem rg_id {R : Nat → Prop} (e : ∀ j : Nat, R j → A2 j = A j) : ∀ f : Nat → Int, (∀ j : Nat, R j → A j = f j) → ∀ j : Nat, R j → A2 j = f j := fun f hf j hj => (e j hj).trans (hf j hj)
theorem rg_leaf (h : rnG K M N F A B C P Q L m x k) (hx : x < L) (hK : K x = 0) (e1 : ∀ j : Nat, P j → A2 j = if j = N x then A j + 1 else A j) (e2 : ∀ j : Nat, Q j → B2 j = B j) (e3 : ∀ j : Nat, C2 j = if j = k then (N x : Int) else C j) : rnG K M N F A2 B2 C2 P Q L (m + 1) (x + 1) (k + 1) :=
  rg_st (ft := fun f => bmp f (N x)) (fp := fun f => f) (fk := fun f => ptk f k (N x)) h hx (fun th pa tk => by unfold wst; rw [if_pos hK]) (rg_bmp e1) (rg_id e2) (fun f hf j hj => by
    show _ = ptk f k (N x) j
    unfold ptk
    rw [e3]
    split
    · rfl
    · exact hf j (by omega))
theorem rg_opt1 (h : rnG K M N F A B C P Q L m x k) (hx : x < L) (hK : K x = 3) (hF : ¬ F k (x + 1) = 0) (e1 : ∀ j : Nat, P j → A2 j = if j = N x then A j + 1 else A j) (e2 : ∀ j : Nat, Q j → B2 j = B j) (e3 : ∀ j : Nat, C2 j = C j) : rnG K M N F A2 B2 C2 P Q L (m + 1) (x + 1) k :=
  rg_st (ft := fun f => bmp f (N x)) (fp := fun f => f) (fk := fun f => f) h hx (fun th pa tk => by unfold wst; rw [if_neg (by omega), if_pos hK, if_neg hF]) (rg_bmp e1) (rg_id e2) (fun f hf j hj => (e3 j).trans (hf j hj))
theorem rg_opt0 (h : rnG K M N F A B C P Q L m x k) (hx : x < L) (hK : K x = 3) (hF : F k (x + 1) = 0) (e1 : ∀ j : Nat, P j → A2 j = A j) (e2 : ∀ j : Nat, Q j → B2 j = B j) (e3 : ∀ j : Nat, C2 j = C j) : rnG K M N F A2 B2 C2 P Q L (m + 1) (M x + 1) k :=
  rg_st (ft := fun f => f) (fp := fun f => f) (fk := fun f => f) h hx (fun th pa tk => by unfold wst; rw [if_neg (by omega), if_pos hK, if_pos hF]) (rg_id e1) (rg_id e2) (fun f hf j hj => (e3 j).trans (hf j hj))
theorem rg_rep (h : rnG K M N F A B C P Q L m x k) (hx : x < L) (hK : K x = 4) (e1 : ∀ j : Nat, P j → A2 j = if j = N x then A j + 1 else A j) (e2 : ∀ j : Nat, Q j → B2 j = if j = N x then B j + 1 else B j) (e3 : ∀ j : Nat, C2 j = C j) : rnG K M N F A2 B2 C2 P Q L (m + 1) (x + 1) k :=
  rg_st (ft := fun f => bmp f (N x)) (fp := fun f => bmp f (N x)) (fk := fun f => f) h hx (fun th pa tk => by unfold wst; rw [if_neg (by omega), if_neg (by omega), if_pos hK]) (rg_bmp e1) (rg_bmp e2) (fun f hf j hj => (e3 j).trans (hf j hj))
theorem rg_r1 (h : rnG K M N F A B C P Q L m x k) (hx : x < L) (hK : K x = 6) (hF : 0 < F k (M x + 1)) (e1 : ∀ j : Nat, P j → A2 j = A j) (e2 : ∀ j : Nat, Q j → B2 j = if j = N (M x) then B j + 1 else B j) (e3 : ∀ j : Nat, C2 j = C j) : rnG K M N F A2 B2 C2 P Q L (m + 1) (M x + 1) k :=
  rg_st (ft := fun f => f) (fp := fun f => bmp f (N (M x))) (fk := fun f => f) h hx (fun th pa tk => by unfold wst; rw [if_neg (by omega), if_neg (by omega), if_neg (by omega), if_pos ⟨hK, hF⟩]) (rg_id e1) (rg_bmp e2) (fun f hf j hj => (e3 j).trans (hf j hj))
theorem rg_pass (h : rnG K M N F A B C P Q L m x k) (hx : x < L) (h0 : ¬ K x = 0) (h3 : ¬ K x = 3) (h4 : ¬ K x = 4) (hF : ¬ (K x = 6 ∧ 0 < F k (M x + 1))) (e1 : ∀ j : Nat, P j → A2 j = A j) (e2 : ∀ j : Nat, Q j → B2 j = B j) (e3 : ∀ j : Nat, C2 j = C j) : rnG K M N F A2 B2 C2 P Q L (m + 1) (x + 1) k :=
  rg_st (ft := fun f => f) (fp := fun f => f) (fk := fun f => f) h hx (fun th pa tk => by unfold wst; rw [if_neg h0, if_neg h3, if_neg h4, if_neg hF]) (rg_id e1) (rg_id e2) (fun f hf j hj => (e3 j).trans (hf j hj))
end RG

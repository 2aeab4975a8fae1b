/-! how far a page goes: the class's columns against the reference's places -/
def ed (K M : Nat → Nat) (L x y : Nat) : Prop := x < L ∧ ((K x ≠ 0 ∧ y = x + 1) ∨ ((K x = 3 ∨ K x = 6) ∧ y = M x + 1))
def pth (K M : Nat → Nat) (L : Nat) : Nat → Nat → Nat → Prop
  | 0, x, y => x = y
  | n + 1, x, y => ∃ z, ed K M L x z ∧ pth K M L n z y
theorem pth_0 {K M : Nat → Nat} {L x : Nat} : ∃ m, pth K M L m x x := ⟨0, rfl⟩
theorem pth_c {K M : Nat → Nat} {L x z y : Nat} (h : ed K M L x z) (hp : ∃ m, pth K M L m z y) : ∃ m, pth K M L m x y := hp.elim fun m h2 => ⟨m + 1, z, h, h2⟩
theorem pth_t {K M : Nat → Nat} {L y z : Nat} (hq : ∃ m, pth K M L m y z) : ∀ (m x : Nat), pth K M L m x y → ∃ m, pth K M L m x z
  | 0, x, h => by
    have e : x = y := h
    rw [e]; exact hq
  | m + 1, x, ⟨w, h1, h2⟩ => pth_c h1 (pth_t hq m w h2)
theorem wEi_2 (a b : Int) : wEi 2 a b = max a b := by
  unfold wEi
  rw [if_neg (by decide), if_neg (by decide)]
/-- a row that asks for a token answers by one of its leaves -/
theorem firm_p {K M N : Nat → Nat} {L : Nat} {tk f : Nat → Int} : ∀ (w : Rw) (p n : Nat), p + sL w ≤ L → rPl w → rOF w → PC K M N w p n → EI (wEi 2) tk f w p → ∃ x : Nat, (p ≤ x ∧ x < p + sL w) ∧ K x = 0 ∧ f p = tk x ∧ ∃ m, pth K M L m p x
  | .leaf, _, _, _, h, _, _, _ => h.elim
  | .inner z k v l r, p, n, hL, h, ⟨o1, o2, o3⟩, hc, hf => by
    rw [PC] at hc
    rw [EI] at hf
    rw [sL_in9] at hL ⊢
    by_cases hk : k < 3
    · rw [if_pos hk] at hc hf hL ⊢
      exact ⟨p, by omega, hc.1.1, hf.1, pth_0⟩
    · rw [if_neg hk] at hc hf hL ⊢
      obtain ⟨⟨k1, k2, k3, k4, k5⟩, c2, c3⟩ := hc
      obtain ⟨f1, f2, f3⟩ := hf
      obtain ⟨x, x1, x2, x3, x4⟩ := firm_p (L := L) l (p + 1) (n + 1) (by omega) (o1 (by omega)) o2 c2 f2
      have hK : K p ≠ 0 := by rw [k1]; split <;> omega
      have e1 : ed K M L p (p + 1) := ⟨by omega, Or.inl ⟨hK, rfl⟩⟩
      by_cases h3 : k = 3
      · rw [if_pos h3] at f1 k1
        have hr : rPl r := h.elim (fun h9 => absurd h3 h9) (fun h9 => h9)
        obtain ⟨y, y1, y2, y3, y4⟩ := firm_p (L := L) r (p + 2 + sL l) (n + 1 + rN l) (by omega) hr o3 c3 f3
        rw [wEi_2] at f1
        by_cases hg : f (p + 2 + sL l) ≤ f (p + 1)
        · exact ⟨x, by omega, x2, by omega, pth_c e1 x4⟩
        · exact ⟨y, by omega, y2, by omega, pth_c ⟨by omega, Or.inr ⟨Or.inl k1, by omega⟩⟩ y4⟩
      · rw [if_neg h3] at f1
        exact ⟨x, by omega, x2, by omega, pth_c e1 x4⟩
/-- each place's answer is the end's, or a leaf's to which one comes without a token -/
def cpP (K M : Nat → Nat) (L : Nat) (tk f : Nat → Int) (a b x : Nat) : Prop := (f x = f b ∧ ∃ m, pth K M L m x b) ∨ ∃ y : Nat, (a ≤ y ∧ y < b) ∧ K y = 0 ∧ f x = tk y ∧ ∃ m, pth K M L m x y
theorem cpP_e {K M : Nat → Nat} {L a b x y : Nat} {tk f : Nat → Int} (h : ed K M L x y) (e : f x = f y) (hy : cpP K M L tk f a b y) : cpP K M L tk f a b x := by
  rcases hy with ⟨h1, h2⟩ | ⟨z, z1, z2, z3, z4⟩
  · exact Or.inl ⟨e.trans h1, pth_c h h2⟩
  · exact Or.inr ⟨z, z1, z2, e.trans z3, pth_c h z4⟩
theorem cpP_m {K M : Nat → Nat} {L a b a2 x : Nat} {tk f : Nat → Int} (h : a2 ≤ a) (hx : cpP K M L tk f a b x) : cpP K M L tk f a2 b x := by
  rcases hx with h1 | ⟨z, z1, z2⟩
  · exact Or.inl h1
  · exact Or.inr ⟨z, by omega, z2⟩
theorem col_p {K M N : Nat → Nat} {L : Nat} {tk f : Nat → Int} : ∀ (w : Rw) (p n : Nat), p + sL w ≤ L → rOF w → PC K M N w p n → EI (wEi 2) tk f w p → EC (wEi 2) f w p → ∀ x : Nat, p ≤ x → x ≤ p + sL w → cpP K M L tk f p (p + sL w) x
  | .leaf, p, _, _, _, _, _, _, x, h1, h2 => by
    have e0 : sL (Std.DTreeMap.Internal.Impl.leaf : Rw) = 0 := rfl
    rw [e0] at h2 ⊢
    rw [show x = p + 0 by omega]
    exact Or.inl ⟨rfl, pth_0⟩
  | .inner z k v l r, p, n, hL, ⟨o1, o2, o3⟩, hc, hf, he, x, h1, h2 => by
    rw [PC] at hc
    rw [EI] at hf
    rw [EC] at he
    rw [sL_in9] at hL h2 ⊢
    by_cases hk : k < 3
    · rw [if_pos hk] at hc hf he hL h2 ⊢
      by_cases hx : x = p
      · subst hx
        exact Or.inr ⟨x, by omega, hc.1.1, hf.1, pth_0⟩
      · have i1 := col_p (L := L) r (p + 1) (n + 1) (by omega) o3 hc.2 hf.2 he x (by omega) (by omega)
        rw [show p + 1 + sL r = p + (1 + sL r) by omega] at i1
        exact cpP_m (by omega) i1
    · rw [if_neg hk] at hc hf he hL h2 ⊢
      obtain ⟨⟨k1, k2, k3, k4, k5⟩, c2, c3⟩ := hc
      obtain ⟨f1, f2, f3⟩ := hf
      obtain ⟨e1, e2, e3⟩ := he
      have ir : ∀ y : Nat, p + 2 + sL l ≤ y → y ≤ p + 2 + sL l + sL r → cpP K M L tk f p (p + (2 + sL l + sL r)) y := fun y y1 y2 => by
        have i1 := col_p (L := L) r (p + 2 + sL l) (n + 1 + rN l) (by omega) o3 c3 f3 e3 y y1 y2
        rw [show p + 2 + sL l + sL r = p + (2 + sL l + sL r) by omega] at i1
        exact cpP_m (by omega) i1
      have hK : K p ≠ 0 := by rw [k1]; split <;> omega
      have hK2 : K (p + 1 + sL l) ≠ 0 := by rw [k4]; split <;> omega
      have i9 := ir (p + 2 + sL l) (Nat.le_refl _) (by omega)
      have ic : cpP K M L tk f p (p + (2 + sL l + sL r)) (p + 1 + sL l) := by
        have d1 : ed K M L (p + 1 + sL l) (p + 2 + sL l) := ⟨by omega, Or.inl ⟨hK2, by omega⟩⟩
        by_cases h3 : k = 3
        · rw [if_pos h3] at e1
          exact cpP_e d1 e1 i9
        · rw [if_neg h3] at e1 k4
          rw [wEi_2] at e1
          by_cases hg : f (p + 2 + sL l) ≤ f (p + 1)
          · obtain ⟨y, y1, y2, y3, y4⟩ := firm_p (L := L) l (p + 1) (n + 1) (by omega) (o1 (by omega)) o2 c2 f2
            exact Or.inr ⟨y, by omega, y2, by omega, pth_c ⟨by omega, Or.inr ⟨Or.inr k4, by omega⟩⟩ y4⟩
          · exact cpP_e d1 (by omega) i9
      have il : ∀ y : Nat, p + 1 ≤ y → y ≤ p + 1 + sL l → cpP K M L tk f p (p + (2 + sL l + sL r)) y := fun y y1 y2 => by
        rcases col_p (L := L) l (p + 1) (n + 1) (by omega) o2 c2 f2 e2 y y1 y2 with ⟨a1, m, a2⟩ | ⟨u, u1, u2, u3, u4⟩
        · rcases ic with ⟨b1, b2⟩ | ⟨u, u1, u2, u3, u4⟩
          · exact Or.inl ⟨a1.trans b1, pth_t b2 m y a2⟩
          · exact Or.inr ⟨u, u1, u2, a1.trans u3, pth_t u4 m y a2⟩
        · exact Or.inr ⟨u, by omega, u2, u3, u4⟩
      by_cases hx : x = p
      · subst hx
        have i1 := il (x + 1) (Nat.le_refl _) (by omega)
        have d1 : ed K M L x (x + 1) := ⟨by omega, Or.inl ⟨hK, rfl⟩⟩
        by_cases h3 : k = 3
        · rw [if_pos h3] at f1 k1
          rw [wEi_2] at f1
          by_cases hg : f (x + 2 + sL l) ≤ f (x + 1)
          · exact cpP_e d1 (by omega) i1
          · exact cpP_e (y := x + 2 + sL l) ⟨by omega, Or.inr ⟨Or.inl k1, by omega⟩⟩ (by omega) i9
        · rw [if_neg h3] at f1
          exact cpP_e d1 f1 i1
      · by_cases hx2 : x ≤ p + 1 + sL l
        · exact il x (by omega) hx2
        · exact ir x (by omega) (by omega)
def lfF (code : Nat → Int) (n c x k : Nat) (v : Int) (f : Nat → Int) : Int := if c < n ∧ tkI (sG k v) (code c) = 1 then f (x + 1) else c
def enF (c : Nat) : Int := c
/-- the class's answer -/
def rcR (W : Rw) (code : Nat → Int) (n : Nat) (z : Int) : Prop := ∃ F, wkR (wEi 2) (lfF code n) enF n W F ∧ z = F 0 0
/-- what can be come to with so many tokens, in so many steps -/
def RE (K M : Nat → Nat) (Sg code : Nat → Int) (L : Nat) : Nat → Nat → Nat → Prop
  | 0, c, x => c = 0 ∧ x = 0
  | m + 1, c, x => (∃ y, RE K M Sg code L m c y ∧ ed K M L y x) ∨ ∃ d y, c = d + 1 ∧ RE K M Sg code L m d y ∧ y < L ∧ K y = 0 ∧ tkI (Sg y) (code d) = 1 ∧ x = y + 1
/-- the reference's answer: the places that are on with c tokens -/
def rfR (W : Rw) (code : Nat → Int) (n : Nat) (z : Int) : Prop := ∃ (K M N : Nat → Nat) (Sg : Nat → Int) (On : Nat → Nat → Prop), (PC K M N W 0 0 ∧ LPw (fun x k v => Sg x = sG k v) W 0) ∧ (0 ≤ z ∧ z ≤ n) ∧ On 0 0 ∧ (∀ c : Nat, (c : Int) ≤ z → ∀ x y : Nat, On c x → ed K M (sL W) x y → On c y) ∧ (∀ c : Nat, (c : Int) < z → ∀ x : Nat, On c x → x < sL W → K x = 0 → tkI (Sg x) (code c) = 1 → On (c + 1) (x + 1)) ∧ (∀ c : Nat, (c : Int) ≤ z → ∀ x : Nat, On c x → ∃ m, RE K M Sg code (sL W) m c x) ∧ (∃ x : Nat, On z.toNat x) ∧ (z < n → ∀ x : Nat, On z.toNat x → x < sL W → K x = 0 → ¬ tkI (Sg x) (code z.toNat) = 1)
theorem LPw_at {Q : Nat → Nat → Int → Prop} {K M N : Nat → Nat} : ∀ (w : Rw) (p n : Nat), PC K M N w p n → LPw Q w p → ∀ x : Nat, p ≤ x → x < p + sL w → K x = 0 → ∃ (k : Nat) (v : Int), Q x k v
  | .leaf, p, _, _, _, x, h1, h2, _ => by
    have e0 : sL (Std.DTreeMap.Internal.Impl.leaf : Rw) = 0 := rfl
    omega
  | .inner z k v l r, p, n, hc, hq, x, h1, h2, hx => by
    rw [PC] at hc
    rw [LPw] at hq
    rw [sL_in9] at h2
    by_cases hk : k < 3
    · rw [if_pos hk] at hc hq h2
      by_cases e : x = p
      · rw [e]; exact ⟨k, v, hq.1⟩
      · exact LPw_at r (p + 1) (n + 1) hc.2 hq.2 x (by omega) (by omega) hx
    · rw [if_neg hk] at hc hq h2
      obtain ⟨⟨k1, k2, k3, k4, k5⟩, c2, c3⟩ := hc
      by_cases e : x = p
      · rw [e, k1] at hx; split at hx <;> omega
      · by_cases e2 : x < p + 1 + sL l
        · exact LPw_at l (p + 1) (n + 1) c2 hq.1 x (by omega) e2 hx
        · by_cases e3 : x = p + 1 + sL l
          · rw [e3, k4] at hx; split at hx <;> omega
          · exact LPw_at r (p + 2 + sL l) (n + 1 + rN l) c3 hq.2 x (by omega) (by omega) hx
theorem rf_1 {W : Rw} {code : Nat → Int} {n : Nat} {y z : Int} (ho : rOF W) (h1 : rcR W code n y) (h2 : rfR W code n z) : y = z := by
  obtain ⟨F, hF, rfl⟩ := h1
  obtain ⟨K, M, N, Sg, On, ⟨hP, hS⟩, hz, o0, oc, ot, os, oz, of9⟩ := h2
  have lv : ∀ c : Nat, c ≤ n → ∀ x : Nat, x < sL W → K x = 0 → F c x = if c < n ∧ tkI (Sg x) (code c) = 1 then F (c + 1) (x + 1) else c := fun c hc x hx hk => by
    obtain ⟨tk, a1, a2, a3, -⟩ := hF c hc
    have a4 := (EQ_at W 0 0 hP a2 a3 x (Nat.zero_le _) (by omega)).1 hk
    obtain ⟨k, v, b1, b2⟩ := LPw_at W 0 0 hP (LPw_2 (Q3 := fun x k v => tk x = lfF code n c x k v (F (c + 1)) ∧ Sg x = sG k v) (fun x k v h1 h2 => ⟨h1, h2⟩) W 0 a1 hS) x (Nat.zero_le _) (by omega) hk
    rw [a4, b1, b2]
    rfl
  have cp : ∀ c : Nat, c ≤ n → ∀ x : Nat, x ≤ sL W → F c x = c ∨ ∃ y : Nat, y < sL W ∧ K y = 0 ∧ F c x = F c y ∧ ∃ m, pth K M (sL W) m x y := fun c hc x hx => by
    obtain ⟨tk, a1, a2, a3, a4⟩ := hF c hc
    have h9 := col_p (L := sL W) W 0 0 (by omega) ho hP a2 a3 x (Nat.zero_le _) (by omega)
    rw [Nat.zero_add] at h9
    rcases h9 with ⟨b1, -⟩ | ⟨y, y1, y2, y3, y4⟩
    · exact Or.inl (b1.trans a4)
    · have a5 := (EQ_at W 0 0 hP a2 a3 y (Nat.zero_le _) (by omega)).1 y2
      exact Or.inr ⟨y, y1.2, y2, y3.trans a5.symm, y4⟩
  have low : ∀ d : Nat, d ≤ n → ∀ x : Nat, x ≤ sL W → ((n - d : Nat) : Int) ≤ F (n - d) x := by
    intro d
    induction d with
    | zero =>
      intro _ x hx
      rcases cp n (Nat.le_refl _) x hx with e | ⟨y, y1, y2, y3, -⟩
      · rw [Nat.sub_zero, e]; exact Int.le_refl _
      · rw [Nat.sub_zero, y3, lv n (Nat.le_refl _) y y1 y2, if_neg (by omega)]; exact Int.le_refl _
    | succ d ih =>
      intro hd x hx
      rcases cp (n - (d + 1)) (by omega) x hx with e | ⟨y, y1, y2, y3, -⟩
      · rw [e]; exact Int.le_refl _
      · rw [y3, lv _ (by omega) y y1 y2]
        have i1 := ih (by omega) (y + 1) (by omega)
        split
        · rw [show n - (d + 1) + 1 = n - d by omega]; omega
        · exact Int.le_refl _
  have kx : ∀ x : Nat, x < sL W → (K x = 0 ∨ K x = 3 ∨ K x = 4 ∨ K x = 5 ∨ K x = 6) ∧ (K x ≠ 0 → M x < sL W) := fun x hx => by
    obtain ⟨-, b2, -, b4, -⟩ := PC_one (a := 0) (b := sL W) W 0 0 hP hP (Nat.le_refl _) (by omega) x (Nat.zero_le _) (by omega)
    exact ⟨b4, fun h => (b2 h).2.2⟩
  have mono : ∀ (m c x : Nat), c ≤ n → RE K M Sg code (sL W) m c x → x ≤ sL W ∧ F c x ≤ F 0 0 := by
    intro m
    induction m with
    | zero =>
      intro c x _ h
      obtain ⟨e1, e2⟩ := h
      subst e1 e2
      exact ⟨Nat.zero_le _, Int.le_refl _⟩
    | succ m ih =>
      intro c x hc h
      rcases h with ⟨y, r, hy, e⟩ | ⟨d, y, rfl, r, hy, e1, e2, e3⟩
      · obtain ⟨i1, i2⟩ := ih c y hc r
        obtain ⟨tk, a1, a2, a3, a4⟩ := hF c hc
        obtain ⟨q0, q3, q4, q5, q6⟩ := EQ_at W 0 0 hP a2 a3 y (Nat.zero_le _) (by omega)
        obtain ⟨k1, k2⟩ := kx y hy
        rcases e with ⟨e1, e2⟩ | ⟨e1, e2⟩
        · refine ⟨by omega, ?_⟩
          rw [e2]
          rcases k1 with h9 | h9 | h9 | h9 | h9
          · exact absurd h9 e1
          · have q := q3 h9; rw [wEi_2] at q; omega
          · have q := q4 h9; omega
          · have q := q5 h9; omega
          · have q := q6 h9; rw [wEi_2] at q; omega
        · have k3 := k2 (by omega)
          refine ⟨by omega, ?_⟩
          rw [e2]
          rcases e1 with h9 | h9
          · have q := q3 h9; rw [wEi_2] at q; omega
          · have q := q6 h9; rw [wEi_2] at q; omega
      · obtain ⟨i1, i2⟩ := ih d y (by omega) r
        have q := lv d (by omega) y hy e1
        rw [if_pos ⟨by omega, e2⟩] at q
        rw [e3]
        exact ⟨by omega, by omega⟩
  have up : z ≤ F 0 0 := by
    obtain ⟨x, hx⟩ := oz
    obtain ⟨m, hm⟩ := os z.toNat (by omega) x hx
    obtain ⟨i1, i2⟩ := mono m z.toNat x (by omega) hm
    have i3 := low (n - z.toNat) (by omega) x i1
    rw [show n - (n - z.toNat) = z.toNat by omega] at i3
    omega
  have pon : ∀ (c : Nat), (c : Int) ≤ z → ∀ (m x y : Nat), On c x → pth K M (sL W) m x y → On c y := by
    intro c hc m
    induction m with
    | zero => intro x y h e; rw [← show x = y from e]; exact h
    | succ m ih =>
      intro x y h e
      obtain ⟨w, e1, e2⟩ := e
      exact ih w y (oc c hc x w h e1) e2
  have le9 : ∀ (c : Nat), (c : Int) ≤ z → ∀ x, On c x → x ≤ sL W := fun c hc x hx => by
    obtain ⟨m, hm⟩ := os c hc x hx
    exact (mono m c x (by omega) hm).1
  have step : z < F 0 0 → ∀ c : Nat, (c : Int) ≤ z → ∃ x, On c x ∧ F c x = F 0 0 := by
    intro hv c
    induction c with
    | zero => intro _; exact ⟨0, o0, rfl⟩
    | succ c ih =>
      intro hc
      obtain ⟨x, x1, x2⟩ := ih (by omega)
      rcases cp c (by omega) x (le9 c (by omega) x x1) with e | ⟨y, y1, y2, y3, m, y4⟩
      · omega
      · have oy := pon c (by omega) m x y x1 y4
        have q := lv c (by omega) y y1 y2
        by_cases h9 : c < n ∧ tkI (Sg y) (code c) = 1
        · rw [if_pos h9] at q
          exact ⟨y + 1, ot c (by omega) y oy y1 y2 h9.2, by omega⟩
        · rw [if_neg h9] at q
          omega
  by_cases hv : z < F 0 0
  · exfalso
    obtain ⟨x, x1, x2⟩ := step hv z.toNat (by omega)
    rcases cp z.toNat (by omega) x (le9 z.toNat (by omega) x x1) with e | ⟨y, y1, y2, y3, m, y4⟩
    · omega
    · have oy := pon z.toNat (by omega) m x y x1 y4
      have q := lv z.toNat (by omega) y y1 y2
      by_cases h9 : z.toNat < n ∧ tkI (Sg y) (code z.toNat) = 1
      · exact of9 (by omega) y oy y1 y2 h9.2
      · rw [if_neg h9] at q
        omega
  · omega

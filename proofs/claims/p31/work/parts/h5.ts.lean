/-! what one step of tidying is, told once for both sides -/
/-- a repeat and another one right behind it, alike -/
def twn (w : Rw) (k : Nat) : Prop := ∃ (za : Nat) (va : Int) (la ra : Rw) (zb : Nat) (vb : Int) (lb rb : Rw), rdrop k w = .inner za 4 va la ra ∧ rdrop (k + 1) w = .inner zb 4 vb lb rb ∧ ralk la lb
/-- a repeat, and right ahead of it what it holds -/
def tka (w : Rw) (k : Nat) : Prop := ∃ (z : Nat) (v : Int) (l r : Rw), rdrop k w = .inner z 4 v l r ∧ rI l ≤ k ∧ nxt l (rdrop (k - rI l) w)
/-- a repeat, and right behind it what it holds -/
def tkb (w : Rw) (k : Nat) : Prop := ∃ (z : Nat) (v : Int) (l r : Rw), rdrop k w = .inner z 4 v l r ∧ nxt l (rdrop (k + 1) w)
def tw0 (w : Rw) : Prop := ∀ k : Nat, ¬ twn w k
def ta0 (w : Rw) : Prop := ∀ k : Nat, ¬ tka w k
def tb0 (w : Rw) : Prop := ∀ k : Nat, ¬ tkb w k
def tsW (w u : Rw) : Prop := ∃ (k za : Nat) (va : Int) (la ra : Rw) (zb : Nat) (vb : Int) (lb rb : Rw), rdrop k w = .inner za 4 va la ra ∧ rdrop (k + 1) w = .inner zb 4 vb lb rb ∧ ralk la lb ∧ (∀ j : Nat, j < k → ¬ twn w j) ∧ u = rtk w k (rfus la lb) (k + 2)
def tsA (w u : Rw) : Prop := tw0 w ∧ ∃ (k z : Nat) (v : Int) (l r : Rw), rdrop k w = .inner z 4 v l r ∧ rI l ≤ k ∧ nxt l (rdrop (k - rI l) w) ∧ (∀ j : Nat, j < k → ¬ tka w j) ∧ u = rtk w (k - rI l) (rfus l (rdrop (k - rI l) w)) (k + 1)
def tsB (w u : Rw) : Prop := tw0 w ∧ ta0 w ∧ ∃ (k z : Nat) (v : Int) (l r : Rw), rdrop k w = .inner z 4 v l r ∧ nxt l (rdrop (k + 1) w) ∧ (∀ j : Nat, j < k → ¬ tkb w j) ∧ u = rtk w k (rfus l (rdrop (k + 1) w)) (k + 1 + rI l)
def tsF (w u : Rw) : Prop := tw0 w ∧ ta0 w ∧ tb0 w ∧ ∃ so a n : Nat, fst1 w so a n ∧ u = rput w a so n
def ts1 (w u : Rw) : Prop := tsW w u ∨ tsA w u ∨ tsB w u ∨ tsF w u
def tn1 (w : Rw) : Prop := tw0 w ∧ ta0 w ∧ tb0 w ∧ fEnd w
theorem twn_I {w : Rw} {k : Nat} (h : twn w k) : k + 1 < rI w := by
  obtain ⟨za, va, la, ra, zb, vb, lb, rb, e1, e2, e3⟩ := h
  have := rdrop_I (k + 1) w
  rw [e2, rI_in] at this
  omega
theorem tka_I {w : Rw} {k : Nat} (h : tka w k) : k < rI w := by
  obtain ⟨z, v, l, r, e1, e2, e3⟩ := h
  have := rdrop_I k w
  rw [e1, rI_in] at this
  omega
theorem tkb_I {w : Rw} {k : Nat} (h : tkb w k) : k < rI w := by
  obtain ⟨z, v, l, r, e1, e3⟩ := h
  have := rdrop_I k w
  rw [e1, rI_in] at this
  omega
theorem ts1_u {w u u2 : Rw} (h : ts1 w u) (h2 : ts1 w u2) : u = u2 := by
  rcases h with ⟨k, za, va, la, ra, zb, vb, lb, rb, e1, e2, e3, e4, e5⟩ | ⟨n1, k, z, v, l, r, e1, e2, e3, e4, e5⟩ | ⟨n1, n2, k, z, v, l, r, e1, e3, e4, e5⟩ | ⟨n1, n2, n3, so, a, n, e1, e5⟩
  · rcases h2 with ⟨k2, za2, va2, la2, ra2, zb2, vb2, lb2, rb2, g1, g2, g3, g4, g5⟩ | ⟨m1, _⟩ | ⟨m1, _⟩ | ⟨m1, _⟩
    · have hk : k = k2 := by
        by_cases c1 : k < k2
        · exact absurd ⟨za, va, la, ra, zb, vb, lb, rb, e1, e2, e3⟩ (g4 k c1)
        · by_cases c2 : k2 < k
          · exact absurd ⟨za2, va2, la2, ra2, zb2, vb2, lb2, rb2, g1, g2, g3⟩ (e4 k2 c2)
          · omega
      subst hk
      rw [e1] at g1
      rw [e2] at g2
      cases g1
      cases g2
      rw [e5, g5]
    all_goals exact absurd ⟨za, va, la, ra, zb, vb, lb, rb, e1, e2, e3⟩ (m1 k)
  · rcases h2 with ⟨k2, za2, va2, la2, ra2, zb2, vb2, lb2, rb2, g1, g2, g3, g4, g5⟩ | ⟨m1, k2, z2, v2, l2, r2, g1, g2, g3, g4, g5⟩ | ⟨_, m1, _⟩ | ⟨_, m1, _⟩
    · exact absurd ⟨za2, va2, la2, ra2, zb2, vb2, lb2, rb2, g1, g2, g3⟩ (n1 k2)
    · have hk : k = k2 := by
        by_cases c1 : k < k2
        · exact absurd ⟨z, v, l, r, e1, e2, e3⟩ (g4 k c1)
        · by_cases c2 : k2 < k
          · exact absurd ⟨z2, v2, l2, r2, g1, g2, g3⟩ (e4 k2 c2)
          · omega
      subst hk
      rw [e1] at g1
      cases g1
      rw [e5, g5]
    all_goals exact absurd ⟨z, v, l, r, e1, e2, e3⟩ (m1 k)
  · rcases h2 with ⟨k2, za2, va2, la2, ra2, zb2, vb2, lb2, rb2, g1, g2, g3, g4, g5⟩ | ⟨m1, k2, z2, v2, l2, r2, g1, g2, g3, g4, g5⟩ | ⟨m1, m2, k2, z2, v2, l2, r2, g1, g3, g4, g5⟩ | ⟨_, _, m1, _⟩
    · exact absurd ⟨za2, va2, la2, ra2, zb2, vb2, lb2, rb2, g1, g2, g3⟩ (n1 k2)
    · exact absurd ⟨z2, v2, l2, r2, g1, g2, g3⟩ (n2 k2)
    · have hk : k = k2 := by
        by_cases c1 : k < k2
        · exact absurd ⟨z, v, l, r, e1, e3⟩ (g4 k c1)
        · by_cases c2 : k2 < k
          · exact absurd ⟨z2, v2, l2, r2, g1, g3⟩ (e4 k2 c2)
          · omega
      subst hk
      rw [e1] at g1
      cases g1
      rw [e5, g5]
    · exact absurd ⟨z, v, l, r, e1, e3⟩ (m1 k)
  · rcases h2 with ⟨k2, za2, va2, la2, ra2, zb2, vb2, lb2, rb2, g1, g2, g3, g4, g5⟩ | ⟨m1, k2, z2, v2, l2, r2, g1, g2, g3, g4, g5⟩ | ⟨m1, m2, k2, z2, v2, l2, r2, g1, g3, g4, g5⟩ | ⟨_, _, _, so2, a2, n2, g1, g5⟩
    · exact absurd ⟨za2, va2, la2, ra2, zb2, vb2, lb2, rb2, g1, g2, g3⟩ (n1 k2)
    · exact absurd ⟨z2, v2, l2, r2, g1, g2, g3⟩ (n2 k2)
    · exact absurd ⟨z2, v2, l2, r2, g1, g3⟩ (n3 k2)
    · obtain ⟨rfl, rfl, rfl⟩ := fst1_u e1 g1
      rw [e5, g5]
theorem ts1_n {w u : Rw} (h : ts1 w u) (h2 : tn1 w) : False := by
  obtain ⟨m1, m2, m3, m4⟩ := h2
  rcases h with ⟨k, za, va, la, ra, zb, vb, lb, rb, e1, e2, e3, e4, e5⟩ | ⟨n1, k, z, v, l, r, e1, e2, e3, e4, e5⟩ | ⟨n1, n2, k, z, v, l, r, e1, e3, e4, e5⟩ | ⟨n1, n2, n3, so, a, n, e1, e5⟩
  · exact m1 k ⟨za, va, la, ra, zb, vb, lb, rb, e1, e2, e3⟩
  · exact m2 k ⟨z, v, l, r, e1, e2, e3⟩
  · exact m3 k ⟨z, v, l, r, e1, e3⟩
  · exact m4 _ _ (isFold_o e1.1)
theorem ts1_TQ {w u : Rw} (hw : rWF w) (hA : rAd w) (h : ts1 w u) : TQ w u ∧ rI u < rI w := by
  rcases h with ⟨k, za, va, la, ra, zb, vb, lb, rb, e1, e2, e3, e4, e5⟩ | ⟨n1, k, z, v, l, r, e1, e2, e3, e4, e5⟩ | ⟨n1, n2, k, z, v, l, r, e1, e3, e4, e5⟩ | ⟨n1, n2, n3, so, a, n, e1, e5⟩
  · have hI := rdrop_I (k + 1) w
    rw [e2, rI_in] at hI
    rw [e5]
    exact ⟨TQ_two hw e1 e2 e3, by rw [rtk_I (by omega) (by omega)]; omega⟩
  · have hI := rdrop_I k w
    rw [e1, rI_in] at hI
    have hne : 0 < rI l := by
      have hWk := rdrop_WF k w hw
      rw [e1] at hWk
      cases l with
      | leaf => exact absurd rfl (hWk.2.2.1 (by omega))
      | inner _ _ _ _ _ => rw [rI_in]; omega
    rw [e5]
    exact ⟨TQ_in hw e1 e3 (Or.inr ⟨by omega, rfl, rfl⟩) (by omega), by rw [rtk_I (by omega) (by omega)]; omega⟩
  · have hI := rdrop_I k w
    rw [e1, rI_in] at hI
    have hne : 0 < rI l := by
      have hWk := rdrop_WF k w hw
      rw [e1] at hWk
      cases l with
      | leaf => exact absurd rfl (hWk.2.2.1 (by omega))
      | inner _ _ _ _ _ => rw [rI_in]; omega
    have h9 := nxt_I _ _ e3
    rw [rdrop_I] at h9
    rw [e5]
    exact ⟨TQ_in hw e1 e3 (Or.inl ⟨rfl, rfl, rfl⟩) (by omega), by rw [rtk_I (by omega) (by omega)]; omega⟩
  · rw [e5]
    exact ⟨TQ_put e1.1 (fold_2 hw hA e1.1 (fun k za zb va vb la lb ra rb g1 g2 g3 => n1 k ⟨za, va, la, ra, zb, vb, lb, rb, g1, g2, g3⟩)), rput_Il e1.1⟩
/-- so many steps, one after the other -/
def tSt : Nat → Rw → Rw → Prop
  | 0, w, u => u = w
  | n + 1, w, u => ∃ x : Rw, ts1 w x ∧ tSt n x u
theorem tSt_app : ∀ (n : Nat) (w x u : Rw), tSt n w x → ts1 x u → tSt (n + 1) w u
  | 0, w, x, u, h, h2 => by
    have h : x = w := h
    subst h
    exact ⟨u, h2, rfl⟩
  | n + 1, w, x, u, ⟨y, h1, h2⟩, h3 => ⟨y, h1, tSt_app n y x u h2 h3⟩
theorem tSt_u : ∀ (n m : Nat) (w u u2 : Rw), tSt n w u → tn1 u → tSt m w u2 → tn1 u2 → n = m ∧ u = u2
  | 0, 0, w, u, u2, h, _, h2, _ => ⟨rfl, (show u = w from h).trans (show u2 = w from h2).symm⟩
  | 0, m + 1, w, u, u2, h, he, ⟨y, h2, _⟩, _ => by
    have h : u = w := h
    subst h
    exact (ts1_n h2 he).elim
  | n + 1, 0, w, u, u2, ⟨y, h1, _⟩, _, h2, he => by
    have h2 : u2 = w := h2
    subst h2
    exact (ts1_n h1 he).elim
  | n + 1, m + 1, w, u, u2, ⟨y, h1, h2⟩, he, ⟨y2, g1, g2⟩, ge => by
    obtain rfl := ts1_u h1 g1
    obtain ⟨e1, e2⟩ := tSt_u n m y u u2 h2 he g2 ge
    exact ⟨by omega, e2⟩
theorem tSt_TQ : ∀ (n : Nat) (w u : Rw), rWF w → rAd w → tSt n w u → TQ w u ∧ rI u + n ≤ rI w
  | 0, w, u, _, _, h => by
    have h : u = w := h
    subst h
    exact ⟨TQ_refl u, Nat.le_refl _⟩
  | n + 1, w, u, hw, hA, ⟨x, h1, h2⟩ => by
    obtain ⟨a1, a2⟩ := ts1_TQ hw hA h1
    obtain ⟨t1, t2, _⟩ := a1.1 hw hA
    obtain ⟨b1, b2⟩ := tSt_TQ n x u t1 t2 h2
    exact ⟨TQ_trans a1 b1, by omega⟩
/-- a skeleton tidied: its inner rows first, then the row; how many steps in all -/
def tAl : Rw → Rw → Nat → Prop
  | .leaf, x, n => x = .leaf ∧ n = 0
  | .inner _ k v l r, x, n => ∃ (r2 : Rw) (n1 : Nat), tAl r r2 n1 ∧ ((k < 3 ∧ x = .inner 0 k v l r2 ∧ n = n1) ∨ (3 ≤ k ∧ ∃ (lx l2 : Rw) (n2 n3 : Nat), tAl l lx n2 ∧ tSt n3 lx l2 ∧ tn1 l2 ∧ x = .inner 0 k (-1) l2 r2 ∧ n = n1 + n2 + n3))
def tdy (w u : Rw) (n : Nat) : Prop := ∃ (x : Rw) (n1 n2 : Nat), tAl w x n1 ∧ tSt n2 x u ∧ tn1 u ∧ n = n1 + n2
theorem tAl_u : ∀ (w x y : Rw) (n m : Nat), tAl w x n → tAl w y m → x = y ∧ n = m
  | .leaf, x, y, n, m, ⟨h1, h2⟩, ⟨g1, g2⟩ => ⟨h1.trans g1.symm, h2.trans g2.symm⟩
  | .inner z k v l r, x, y, n, m, ⟨r2, n1, h1, h2⟩, ⟨s2, m1, g1, g2⟩ => by
    obtain ⟨e1, e2⟩ := tAl_u r r2 s2 n1 m1 h1 g1
    subst e1 e2
    rcases h2 with ⟨a, e1, e2⟩ | ⟨a, lx, l2, n2, n3, e1, e2, e3, e4, e5⟩
    · rcases g2 with ⟨b, f1, f2⟩ | ⟨b, _⟩
      · exact ⟨e1.trans f1.symm, e2.trans f2.symm⟩
      · omega
    · rcases g2 with ⟨b, _⟩ | ⟨b, ly, l3, m2, m3, f1, f2, f3, f4, f5⟩
      · omega
      · obtain ⟨c1, c2⟩ := tAl_u l lx ly n2 m2 e1 f1
        subst c1 c2
        obtain ⟨d1, d2⟩ := tSt_u n3 m3 lx l2 l3 e2 e3 f2 f3
        subst d1 d2
        exact ⟨e4.trans f4.symm, by omega⟩
theorem tdy_u {w u u2 : Rw} {n m : Nat} (h : tdy w u n) (h2 : tdy w u2 m) : u = u2 ∧ n = m := by
  obtain ⟨x, n1, n2, a1, a2, a3, a4⟩ := h
  obtain ⟨y, m1, m2, b1, b2, b3, b4⟩ := h2
  obtain ⟨c1, c2⟩ := tAl_u w x y n1 m1 a1 b1
  subst c1 c2
  obtain ⟨d1, d2⟩ := tSt_u n2 m2 x u u2 a2 a3 b2 b3
  exact ⟨d2, by omega⟩

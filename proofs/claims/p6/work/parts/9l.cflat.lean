
/-! a line of signs, flat: how deep each place is; a line that is balanced is a row; what is told of a sealed row -/
def dl (s : Int) : Int := if s = 513 ∨ s = 514 then 1 else if s = 515 then -1 else 0
def vS (s : Int) : Prop := (0 ≤ s ∧ s < 200) ∨ (256 ≤ s ∧ s < 456) ∨ (512 ≤ s ∧ s ≤ 515)
def Dp (f : Nat → Int) : Nat → Int
  | 0 => 0
  | n + 1 => Dp f n + dl (f n)
def aL (f : Nat → Int) : Nat → Int
  | 0 => 0
  | n + 1 => aL f n + (if 0 ≤ f n ∧ f n ≤ 512 then 1 else 0)
theorem dl_0 {s : Int} (h : s ≤ 512) : dl s = 0 := by unfold dl; rw [if_neg (by omega), if_neg (by omega)]
theorem dl_1 {s : Int} (h : s = 513 ∨ s = 514) : dl s = 1 := by unfold dl; rw [if_pos h]
theorem dl_m : dl 515 = -1 := rfl
theorem dl_b (s : Int) : -1 ≤ dl s ∧ dl s ≤ 1 := by
  unfold dl
  split
  · decide
  · split <;> decide
theorem dl_n {s : Int} (h : dl s ≤ -1) : s = 515 := by
  unfold dl at h
  split at h
  · exact absurd h (by decide)
  · split at h
    · assumption
    · exact absurd h (by decide)
theorem Dp_s (f : Nat → Int) (n : Nat) : Dp f (n + 1) = Dp f n + dl (f n) := rfl
theorem aL_s (f : Nat → Int) (n : Nat) : aL f (n + 1) = aL f n + (if 0 ≤ f n ∧ f n ≤ 512 then 1 else 0) := rfl
theorem aL_b (f : Nat → Int) (n : Nat) : ∀ d : Nat, aL f n ≤ aL f (n + d) ∧ aL f (n + d) ≤ aL f n + d
  | 0 => ⟨Int.le_refl _, by rw [Nat.add_zero]; omega⟩
  | d + 1 => by
    have h := aL_b f n d
    have h1 : aL f (n + (d + 1)) = aL f (n + d) + (if 0 ≤ f (n + d) ∧ f (n + d) ≤ 512 then 1 else 0) := rfl
    have h2 : (0 : Int) ≤ (if 0 ≤ f (n + d) ∧ f (n + d) ≤ 512 then 1 else 0) ∧ (if 0 ≤ f (n + d) ∧ f (n + d) ≤ 512 then 1 else 0 : Int) ≤ 1 := by split <;> decide
    generalize (if 0 ≤ f (n + d) ∧ f (n + d) ≤ 512 then 1 else 0 : Int) = x at h1 h2
    omega
theorem leastN {P : Nat → Prop} (n : Nat) (h : P n) : ∃ x, x ≤ n ∧ P x ∧ ∀ y, y < x → ¬ P y := by
  induction n using Nat.strongRecOn with
  | _ n ih =>
    by_cases h9 : ∃ y, y < n ∧ P y
    · obtain ⟨y, hy, hp⟩ := h9
      obtain ⟨x, h1, h2, h3⟩ := ih y hy hp
      exact ⟨x, by omega, h2, h3⟩
    · exact ⟨n, Nat.le_refl _, h, fun y hy hp => h9 ⟨y, hy, hp⟩⟩
theorem Dp_eq {f g : Nat → Int} : ∀ n : Nat, (∀ j, j < n → dl (f j) = dl (g j)) → Dp f n = Dp g n
  | 0, _ => rfl
  | n + 1, h => by rw [Dp_s, Dp_s, Dp_eq n (fun j hj => h j (by omega)), h n (by omega)]
/-- the same stretch at another place -/
theorem Dp_sh {f g : Nat → Int} (a b : Nat) : ∀ n : Nat, (∀ j, j < n → dl (g (b + j)) = dl (f (a + j))) → Dp g (b + n) - Dp g b = Dp f (a + n) - Dp f a
  | 0, _ => by rw [Nat.add_zero, Nat.add_zero, Int.sub_self, Int.sub_self]
  | n + 1, h => by
    have h1 := Dp_sh a b n (fun j hj => h j (by omega))
    have h2 := h n (by omega)
    have h3 : Dp g (b + (n + 1)) = Dp g (b + n) + dl (g (b + n)) := rfl
    have h4 : Dp f (a + (n + 1)) = Dp f (a + n) + dl (f (a + n)) := rfl
    omega
set_option maxHeartbeats 4000000 in
theorem parse (μ : va_M) (c : Nat) : ∀ (n a : Nat), (∀ j, a ≤ j → j < a + n → vS (μ c j)) → (∀ j, a ≤ j → j ≤ a + n → Dp (μ c) a ≤ Dp (μ c) j) → Dp (μ c) (a + n) = Dp (μ c) a → ∃ w : Rw, rW0 w ∧ sL w = n ∧ SA μ c w a := by
  intro n
  induction n using Nat.strongRecOn with
  | _ n ih =>
    intro a hv hd he
    cases n with
    | zero => exact ⟨.leaf, trivial, rfl, trivial⟩
    | succ m =>
      have v0 := hv a (Nat.le_refl _) (by omega)
      have d1 : Dp (μ c) (a + 1) = Dp (μ c) a + dl (μ c a) := rfl
      have h1 := hd (a + 1) (by omega) (by omega)
      by_cases hs : μ c a ≤ 512
      · rw [dl_0 hs] at d1
        obtain ⟨w, w1, w2, w3⟩ := ih m (by omega) (a + 1) (fun j h8 h9 => hv j (by omega) (by omega)) (fun j h8 h9 => by have := hd j (by omega) (by omega); omega) (by rw [show a + 1 + m = a + (m + 1) by omega, he]; omega)
        obtain ⟨k, v, k1, k2, k3⟩ : ∃ (k : Nat) (v : Int), k < 3 ∧ iW0 k v .leaf ∧ μ c a = sG k v := by
          unfold vS at v0
          by_cases q1 : μ c a < 200
          · exact ⟨0, μ c a, by decide, ⟨by decide, fun _ => rfl, by omega, by omega, fun _ => by omega⟩, by unfold sG; rw [if_pos rfl]⟩
          · by_cases q2 : μ c a < 456
            · exact ⟨1, μ c a - 256, by decide, ⟨by decide, fun _ => rfl, by omega, by omega, fun _ => by omega⟩, by unfold sG; rw [if_neg (by decide), if_pos rfl]; omega⟩
            · exact ⟨2, 0, by decide, ⟨by decide, fun _ => rfl, by decide, by decide, fun h => absurd h (by decide)⟩, by unfold sG; rw [if_neg (by decide), if_neg (by decide)]; omega⟩
        refine ⟨.inner 0 k v .leaf w, ⟨k2, trivial, w1⟩, ?_, k3, fun h => absurd k1 (by omega), ?_⟩
        · rw [sL, if_pos k1, w2]; omega
        · rw [if_pos k1]; exact w3
      · have s3 : μ c a = 513 ∨ μ c a = 514 := by
          by_cases q : μ c a = 515
          · rw [q, dl_m] at d1; omega
          · unfold vS at v0; omega
        rw [dl_1 s3] at d1
        obtain ⟨x, x1, ⟨x2, x3⟩, x4⟩ := leastN (P := fun x => a < x ∧ Dp (μ c) x = Dp (μ c) a) (a + (m + 1)) ⟨by omega, he⟩
        have x5 : x ≠ a + 1 := fun h => by rw [h] at x3; omega
        have up : ∀ j, a < j → j < x → Dp (μ c) a + 1 ≤ Dp (μ c) j := fun j h8 h9 => by
          have q1 := hd j (by omega) (by omega)
          have q2 : Dp (μ c) j ≠ Dp (μ c) a := fun h => x4 j h9 ⟨h8, h⟩
          omega
        obtain ⟨n1, hn1⟩ : ∃ n1, x = a + 1 + n1 + 1 := ⟨x - a - 2, by omega⟩
        subst hn1
        have e1 : Dp (μ c) (a + 1 + n1 + 1) = Dp (μ c) (a + 1 + n1) + dl (μ c (a + 1 + n1)) := rfl
        have u1 := up (a + 1 + n1) (by omega) (by omega)
        have c1 : μ c (a + 1 + n1) = 515 := dl_n (by omega)
        rw [c1, dl_m] at e1
        obtain ⟨w1, y1, y2, y3⟩ := ih n1 (by omega) (a + 1) (fun j h8 h9 => hv j (by omega) (by omega)) (fun j h8 h9 => by have := up j (by omega) (by omega); omega) (by omega)
        obtain ⟨w2, z1, z2, z3⟩ := ih (m - n1 - 1) (by omega) (a + 1 + n1 + 1) (fun j h8 h9 => hv j (by omega) (by omega)) (fun j h8 h9 => by have := hd j (by omega) (by omega); omega) (by rw [show a + 1 + n1 + 1 + (m - n1 - 1) = a + (m + 1) by omega]; omega)
        obtain ⟨k, k1, k2⟩ : ∃ k : Nat, (k = 3 ∨ k = 4) ∧ μ c a = sG k 0 := by
          rcases s3 with h | h
          · exact ⟨3, Or.inl rfl, h⟩
          · exact ⟨4, Or.inr rfl, h⟩
        refine ⟨.inner 0 k 0 w1 w2, ⟨⟨by omega, fun h => by omega, by decide, by decide, fun h => by omega⟩, y1, z1⟩, ?_, k2, fun _ => ⟨y3, ?_⟩, ?_⟩
        · rw [sL, if_neg (by omega), y2, z2]; omega
        · rw [y2]; exact c1
        · rw [if_neg (by omega), y2, show a + (2 + n1) = a + 1 + n1 + 1 by omega]; exact z3
theorem sG_v {k : Nat} {v : Int} {l : Rw} (h : iW0 k v l) (hk : k < 3) : vS (sG k v) := by
  obtain ⟨h1, h2, h4, h5, h6⟩ := h
  unfold sG vS
  split
  · have := h6 (by omega); omega
  · split
    · have := h6 (by omega); omega
    · omega
theorem SA_D {μ : va_M} {c : Nat} : ∀ (w : Rw) (p : Nat), rW0 w → SA μ c w p → Dp (μ c) (p + sL w) = Dp (μ c) p ∧ aL (μ c) (p + sL w) = aL (μ c) p + rL w ∧ ∀ j, p ≤ j → j ≤ p + sL w → Dp (μ c) p ≤ Dp (μ c) j ∧ (j < p + sL w → vS (μ c j))
  | .leaf, p, _, _ => ⟨rfl, by rw [show rL (Std.DTreeMap.Internal.Impl.leaf : Rw) = 0 from rfl]; exact (Int.add_zero _).symm, fun j h8 h9 => by
      have e0 : sL (Std.DTreeMap.Internal.Impl.leaf : Rw) = 0 := rfl
      rw [e0] at h9 ⊢
      obtain rfl : j = p := by omega
      exact ⟨Int.le_refl _, fun h => by omega⟩⟩
  | .inner z k v l r, p, ⟨f1, f7, f8⟩, ⟨h1, h2, h3⟩ => by
    have hg := sG_b f1
    have hd1 : Dp (μ c) (p + 1) = Dp (μ c) p + dl (μ c p) := rfl
    have ha1 := aL_s (μ c) p
    by_cases hk : k < 3
    · have hb := hg.1 hk
      have hv := sG_v f1 hk
      rw [if_pos hk] at h3
      obtain ⟨r1, r2, r3⟩ := SA_D r (p + 1) f8 h3
      obtain rfl := f1.2.1 hk
      have hs : sL (Std.DTreeMap.Internal.Impl.inner z k v .leaf r : Rw) = 1 + sL r := by rw [sL, if_pos hk]
      have hL : rL (Std.DTreeMap.Internal.Impl.inner z k v .leaf r : Rw) = 1 + rL r := by rw [rL, if_pos hk]; show 1 + 0 + rL r = _; omega
      rw [hs, hL, show p + (1 + sL r) = p + 1 + sL r by omega]
      rw [h1, dl_0 hb.2] at hd1
      rw [h1, if_pos hb] at ha1
      refine ⟨by omega, by omega, fun j h8 h9 => ?_⟩
      by_cases hj : j = p
      · subst hj; exact ⟨Int.le_refl _, fun _ => by rw [h1]; exact hv⟩
      · have := r3 j (by omega) h9; exact ⟨by omega, this.2⟩
    · obtain ⟨b1, b2⟩ := h2 (by omega)
      rw [if_neg hk] at h3
      obtain ⟨l1, l2, l3⟩ := SA_D l (p + 1) f7 b1
      have hc1 : Dp (μ c) (p + 1 + sL l + 1) = Dp (μ c) (p + 1 + sL l) + dl (μ c (p + 1 + sL l)) := rfl
      have hc2 := aL_s (μ c) (p + 1 + sL l)
      rw [b2, dl_m] at hc1
      rw [b2, if_neg (by decide)] at hc2
      rw [show p + (2 + sL l) = p + 1 + sL l + 1 by omega] at h3
      obtain ⟨r1, r2, r3⟩ := SA_D r (p + 1 + sL l + 1) f8 h3
      have hs : sL (Std.DTreeMap.Internal.Impl.inner z k v l r : Rw) = 2 + sL l + sL r := by rw [sL, if_neg hk]
      have hL : rL (Std.DTreeMap.Internal.Impl.inner z k v l r : Rw) = rL l + rL r := by rw [rL, if_neg hk]; omega
      have hg2 : μ c p = 513 ∨ μ c p = 514 := by
        have f0 := f1.1
        rcases (show k = 3 ∨ k = 4 by omega) with h | h
        · exact Or.inl (h1.trans (hg.2.1 h))
        · exact Or.inr (h1.trans (hg.2.2 h))
      rw [hs, hL, show p + (2 + sL l + sL r) = p + 1 + sL l + 1 + sL r by omega]
      rw [dl_1 hg2] at hd1
      rw [if_neg (by omega)] at ha1
      refine ⟨by omega, by omega, fun j h8 h9 => ?_⟩
      by_cases hj : j = p
      · subst hj; exact ⟨Int.le_refl _, fun _ => by unfold vS; omega⟩
      · by_cases hj2 : j < p + 1 + sL l
        · have := l3 j (by omega) (by omega); exact ⟨by omega, fun _ => this.2 (by omega)⟩
        · by_cases hj3 : j = p + 1 + sL l
          · subst hj3; exact ⟨by omega, fun _ => by rw [b2]; unfold vS; omega⟩
          · have := r3 j (by omega) h9; exact ⟨by omega, this.2⟩
/-- what a sealed row tells of the place i -/
def mFl (μ : va_M) (q i : Nat) : Prop := (μ (q + 1) i ≤ 512 → μ (q + 2) i = i) ∧ (μ (q + 1) i = 513 ∨ μ (q + 1) i = 514 → ∃ m : Nat, μ (q + 2) i = m ∧ i < m ∧ μ (q + 1) m = 515 ∧ Dp (μ (q + 1)) (m + 1) = Dp (μ (q + 1)) i ∧ (∀ j, i < j → j ≤ m → Dp (μ (q + 1)) i < Dp (μ (q + 1)) j) ∧ μ (q + 2) m = i) ∧ (μ (q + 1) i = 515 → ∃ m : Nat, μ (q + 2) i = m ∧ m < i ∧ (μ (q + 1) m = 513 ∨ μ (q + 1) m = 514) ∧ μ (q + 2) m = i)
set_option maxHeartbeats 4000000 in
theorem SS_mF {μ : va_M} {q : Nat} : ∀ (w : Rw) (p a n : Nat), rW0 w → SA μ (q + 1) w p → SS μ q w p a n → ∀ i, p ≤ i → i < p + sL w → mFl μ q i ∧ (0 ≤ μ (q + 2) i ∧ μ (q + 2) i < ((p + sL w : Nat) : Int)) ∧ μ (q + 3) i = a + (aL (μ (q + 1)) i - aL (μ (q + 1)) p) ∧ (n : Int) ≤ μ (q + 4) i ∧ μ (q + 4) i ≤ ((n + (i - p) : Nat) : Int)
  | .leaf, p, _, _, _, _, _, i, h8, h9 => by
    have e0 : sL (Std.DTreeMap.Internal.Impl.leaf : Rw) = 0 := rfl
    rw [e0] at h9; omega
  | .inner z k v l r, p, a, n, ⟨f1, f7, f8⟩, ⟨h1, h2, h3⟩, ⟨⟨s1, s2, s3, s4⟩, s5, s6⟩, i, h8, h9 => by
    have hg := sG_b f1
    have hd1 : Dp (μ (q + 1)) (p + 1) = Dp (μ (q + 1)) p + dl (μ (q + 1) p) := rfl
    have ha1 := aL_s (μ (q + 1)) p
    by_cases hk : k < 3
    · have hb := hg.1 hk
      obtain rfl := f1.2.1 hk
      rw [if_pos hk] at h3 s1
      rw [if_pos hk, if_pos hk] at s6
      have hs : sL (Std.DTreeMap.Internal.Impl.inner z k v .leaf r : Rw) = 1 + sL r := by rw [sL, if_pos hk]
      have e1 : rL (Std.DTreeMap.Internal.Impl.leaf : Rw) = 0 := rfl
      have e2 : rN (Std.DTreeMap.Internal.Impl.leaf : Rw) = 0 := rfl
      rw [e1, e2, Nat.add_zero, Nat.add_zero] at s6
      rw [hs] at h9 ⊢
      rw [h1, if_pos hb] at ha1
      by_cases hi : i = p
      · subst hi
        exact ⟨⟨fun _ => s1, fun h => by omega, fun h => by omega⟩, ⟨by omega, by omega⟩, by omega, by omega, by omega⟩
      · have := SS_mF r (p + 1) (a + 1) (n + 1) f8 h3 s6 i (by omega) (by omega)
        obtain ⟨g1, g2, g3, g4⟩ := this
        exact ⟨g1, ⟨g2.1, by omega⟩, by omega, by omega, by omega⟩
    · obtain ⟨b1, b2⟩ := h2 (by omega)
      obtain ⟨c1, c2, c3, c4⟩ := s5 (by omega)
      rw [if_neg hk] at h3 s1
      rw [if_neg hk, if_neg hk, Nat.add_zero] at s6
      obtain ⟨l1, l2, l3⟩ := SA_D l (p + 1) f7 b1
      have hNl := rN_lw l f7
      have hc1 : Dp (μ (q + 1)) (p + 1 + sL l + 1) = Dp (μ (q + 1)) (p + 1 + sL l) + dl (μ (q + 1) (p + 1 + sL l)) := rfl
      have hc2 := aL_s (μ (q + 1)) (p + 1 + sL l)
      rw [b2, dl_m] at hc1
      rw [b2, if_neg (by decide)] at hc2
      rw [show p + (2 + sL l) = p + 1 + sL l + 1 by omega] at h3 s6
      have hs : sL (Std.DTreeMap.Internal.Impl.inner z k v l r : Rw) = 2 + sL l + sL r := by rw [sL, if_neg hk]
      have hg2 : μ (q + 1) p = 513 ∨ μ (q + 1) p = 514 := by
        have f0 := f1.1
        rcases (show k = 3 ∨ k = 4 by omega) with h | h
        · exact Or.inl (h1.trans (hg.2.1 h))
        · exact Or.inr (h1.trans (hg.2.2 h))
      rw [hs] at h9 ⊢
      rw [dl_1 hg2] at hd1
      rw [if_neg (by omega)] at ha1
      clear hg h2 s5
      by_cases hi : i = p
      · subst hi
        refine ⟨⟨fun h => by omega, fun _ => ⟨i + 1 + sL l, s1, by omega, b2, by omega, fun j h6 h7 => by have := (l3 j (by omega) (by omega)).1; omega, c2⟩, fun h => by omega⟩, ⟨by omega, by omega⟩, by omega, by omega, by omega⟩
      · by_cases hi2 : i < p + 1 + sL l
        · obtain ⟨g1, g2, g3, g4⟩ := SS_mF l (p + 1) a (n + 1) f7 b1 c1 i (by omega) hi2
          exact ⟨g1, ⟨g2.1, by omega⟩, by omega, by omega, by omega⟩
        · by_cases hi3 : i = p + 1 + sL l
          · subst hi3
            exact ⟨⟨fun h => by omega, fun h => by omega, fun _ => ⟨p, c2, by omega, hg2, s1⟩⟩, ⟨by omega, by omega⟩, by omega, by omega, by omega⟩
          · obtain ⟨g1, g2, g3, g4⟩ := SS_mF r (p + 1 + sL l + 1) (a + rL l) (n + 1 + rN l) f8 h3 s6 i (by omega) (by omega)
            exact ⟨g1, ⟨g2.1, by omega⟩, by omega, by omega, by omega⟩
set_option maxHeartbeats 4000000 in
theorem SS_pl {μ : va_M} {q : Nat} : ∀ (w : Rw) (p a n : Nat), rW0 w → SS μ q w p a n → ∀ k, n ≤ k → k < n + rN w → (p : Int) ≤ μ (q + 5) k ∧ μ (q + 5) k < ((p + sL w : Nat) : Int)
  | .leaf, _, _, n, _, _, k, h8, h9 => by
    have e0 : rN (Std.DTreeMap.Internal.Impl.leaf : Rw) = 0 := rfl
    rw [e0] at h9; omega
  | .inner z k v l r, p, a, n, ⟨f1, f7, f8⟩, ⟨⟨s1, s2, s3, s4⟩, s5, s6⟩, j, h8, h9 => by
    have hN : rN (Std.DTreeMap.Internal.Impl.inner z k v l r : Rw) = 1 + rN l + rN r := rfl
    obtain ⟨d, hd, hd1, hd2⟩ := sL_d k l
    have hs : sL (Std.DTreeMap.Internal.Impl.inner z k v l r : Rw) = d + sL r := by rw [sL, hd]
    rw [hd] at s6
    rw [hN] at h9
    rw [hs]
    by_cases hj : j = n
    · subst hj; omega
    · by_cases hj2 : j < n + 1 + rN l
      · have hk : 3 ≤ k := by
          rcases Nat.lt_or_ge k 3 with h | h
          · obtain rfl := f1.2.1 h
            have e0 : rN (Std.DTreeMap.Internal.Impl.leaf : Rw) = 0 := rfl
            omega
          · exact h
        have := SS_pl l (p + 1) a (n + 1) f7 (s5 hk).1 j (by omega) hj2
        have := hd2 hk
        omega
      · have := SS_pl r (p + d) _ _ f8 s6 j (by omega) (by omega)
        omega
/-- a sealed row that stands in the cells q to q + 5 -/
def mA (μ : va_M) (q rm : Nat) : Prop := ∀ y, -1 ≤ μ (q + 2) y ∧ μ (q + 2) y < rm
def rG (μ : va_M) (q rm : Nat) : Prop := sgA μ (q + 1) ∧ mA μ q rm ∧ (μ q 7 = 0 ∨ (μ q 7 = 1 ∧ μ q 5 = 0)) ∧ ∃ w : Rw, rW0 w ∧ sL w ≤ rm ∧ rowS μ q w
theorem rG_fr {μ u : va_M} {q rm : Nat} (h : rG μ q rm) (hf : ∀ x y, q ≤ x → x < q + 6 → u x y = μ x y) : rG u q rm := by
  obtain ⟨h1, h2, ho, w, h3, h4, ⟨h5, h6, h7⟩, h8, h9⟩ := h
  refine ⟨fun i => by rw [hf _ _ (by omega) (by omega)]; exact h1 i, fun i => by rw [hf _ _ (by omega) (by omega)]; exact h2 i, by rw [hf _ _ (by omega) (by omega), hf _ _ (by omega) (by omega)]; exact ho, w, h3, h4, ⟨by rw [hf _ _ (by omega) (by omega)]; exact h5, by rw [hf _ _ (by omega) (by omega)]; exact h6, by rw [hf _ _ (by omega) (by omega)]; exact h7⟩, SA_fr (fun y => hf _ _ (by omega) (by omega)) w 0 h8, SS_fr w _ _ _ h9 (fun y _ _ => ⟨hf _ _ (by omega) (by omega), hf _ _ (by omega) (by omega), hf _ _ (by omega) (by omega)⟩) (fun y _ _ => hf _ _ (by omega) (by omega))⟩
theorem rG_mA {μ : va_M} {q rm : Nat} (h : rG μ q rm) : mA μ q rm := h.2.1
theorem rG_ov {μ : va_M} {q rm : Nat} (h : rG μ q rm) : μ q 7 = 0 ∨ (μ q 7 = 1 ∧ μ q 5 = 0) := h.2.2.1
theorem rG_len {μ : va_M} {q rm : Nat} (h : rG μ q rm) : 0 ≤ μ q 5 ∧ μ q 5 ≤ rm := by
  obtain ⟨_, _, _, w, _, h4, ⟨h5, _⟩, _⟩ := h
  omega
theorem rG_nod {μ : va_M} {q rm : Nat} (h : rG μ q rm) : 0 ≤ μ q 6 ∧ μ q 6 ≤ μ q 5 := by
  obtain ⟨_, _, _, w, h3, h4, ⟨h5, h6, _⟩, _⟩ := h
  have := rN_lw w h3
  omega
theorem rG_bal {μ : va_M} {q rm : Nat} (h : rG μ q rm) : Dp (μ (q + 1)) (μ q 5).toNat = 0 ∧ ∀ j : Nat, (j : Int) ≤ μ q 5 → 0 ≤ Dp (μ (q + 1)) j ∧ ((j : Int) < μ q 5 → vS (μ (q + 1) j)) := by
  obtain ⟨_, _, _, w, h3, h4, ⟨h5, h6, _⟩, h8, _⟩ := h
  obtain ⟨g1, _, g3⟩ := SA_D w 0 h3 h8
  rw [Nat.zero_add] at g1 g3
  rw [h5, Int.toNat_natCast]
  exact ⟨g1, fun j hj => by have := g3 j (by omega) (by omega); exact ⟨this.1, fun h => this.2 (by omega)⟩⟩
theorem rG_at {μ : va_M} {q rm : Nat} (h : rG μ q rm) {i : Nat} (hi : (i : Int) < μ q 5) : mFl μ q i ∧ (0 ≤ μ (q + 2) i ∧ μ (q + 2) i < μ q 5) ∧ μ (q + 3) i = aL (μ (q + 1)) i ∧ 0 ≤ μ (q + 4) i ∧ μ (q + 4) i ≤ i := by
  obtain ⟨_, _, _, w, h3, h4, ⟨h5, h6, _⟩, h8, h9⟩ := h
  obtain ⟨g1, g2, g3, g4, g5⟩ := SS_mF w 0 0 0 h3 h8 h9 i (by omega) (by omega)
  have e0 : aL (μ (q + 1)) 0 = 0 := rfl
  rw [e0] at g3
  rw [Nat.zero_add] at g2
  exact ⟨g1, ⟨g2.1, by omega⟩, by omega, by omega, by omega⟩
theorem rG_ah {μ : va_M} {q rm : Nat} (h : rG μ q rm) {i : Nat} (hi : (i : Int) ≤ μ q 5) : μ (q + 3) i = aL (μ (q + 1)) i := by
  by_cases h9 : (i : Int) < μ q 5
  · exact (rG_at h h9).2.2.1
  · obtain ⟨_, _, _, w, h3, h4, ⟨h5, h6, h7⟩, h8, _⟩ := h
    obtain ⟨_, g2, _⟩ := SA_D w 0 h3 h8
    have e0 : aL (μ (q + 1)) 0 = 0 := rfl
    rw [e0, Nat.zero_add] at g2
    obtain rfl : i = sL w := by omega
    omega
theorem rG_pl {μ : va_M} {q rm : Nat} (h : rG μ q rm) {k : Nat} (hk : (k : Int) < μ q 6) : 0 ≤ μ (q + 5) k ∧ μ (q + 5) k < μ q 5 := by
  obtain ⟨_, _, _, w, h3, h4, ⟨h5, h6, _⟩, _, h9⟩ := h
  have := SS_pl w 0 0 0 h3 h9 k (by omega) (by omega)
  omega
/-- from place a to place b: whole items -/
def seg (f : Nat → Int) (a b : Nat) : Prop := a ≤ b ∧ Dp f b = Dp f a ∧ ∀ j, a ≤ j → j ≤ b → Dp f a ≤ Dp f j
theorem rG_seg {μ : va_M} {q rm : Nat} (h : rG μ q rm) : seg (μ (q + 1)) 0 (μ q 5).toNat := by
  have hb := rG_bal h
  have hl := rG_len h
  exact ⟨Nat.zero_le _, hb.1, fun j _ h9 => (hb.2 j (by omega)).1⟩
/-- an item of a stretch: where it ends -/
theorem seg_af {μ : va_M} {q rm a b i : Nat} (h : rG μ q rm) (hb : (b : Int) ≤ μ q 5) (hs : seg (μ (q + 1)) a b) (h1 : a ≤ i) (h2 : i < b) (h3 : Dp (μ (q + 1)) i = Dp (μ (q + 1)) a) : ∃ m : Nat, μ (q + 2) i = m ∧ i ≤ m ∧ m + 1 ≤ b ∧ Dp (μ (q + 1)) (m + 1) = Dp (μ (q + 1)) i ∧ (∀ j, i < j → j ≤ m → Dp (μ (q + 1)) i ≤ Dp (μ (q + 1)) j) ∧ μ (q + 1) i ≠ 515 ∧ (μ (q + 1) i = 513 ∨ μ (q + 1) i = 514 → i < m ∧ μ (q + 1) m = 515 ∧ seg (μ (q + 1)) (i + 1) m) := by
  obtain ⟨g1, g2, g3⟩ := (rG_at h (show (i : Int) < μ q 5 by omega)).1
  obtain ⟨s1, s2, s3⟩ := hs
  have hd := Dp_s (μ (q + 1)) i
  have hn := s3 (i + 1) (by omega) (by omega)
  have hc : μ (q + 1) i ≠ 515 := fun h9 => by rw [h9, dl_m] at hd; omega
  have hsg := h.1 i
  by_cases h8 : μ (q + 1) i ≤ 512
  · rw [dl_0 h8] at hd
    exact ⟨i, g1 h8, Nat.le_refl _, by omega, by omega, fun j _ _ => by omega, hc, fun h9 => by omega⟩
  · have ho : μ (q + 1) i = 513 ∨ μ (q + 1) i = 514 := by omega
    obtain ⟨m, m1, m2, m3, m4, m5, m6⟩ := g2 ho
    rw [dl_1 ho] at hd
    have m7 : m + 1 ≤ b := by
      rcases Nat.lt_or_ge m b with h9 | h9
      · exact h9
      · have := m5 b (by omega) h9; omega
    have m8 := Dp_s (μ (q + 1)) m
    rw [m3, dl_m] at m8
    exact ⟨m, m1, by omega, m7, m4, fun j h6 h7 => by have := m5 j h6 h7; omega, hc, fun _ => ⟨m2, m3, by omega, by omega, fun j h6 h7 => by have := m5 j (by omega) (by omega); omega⟩⟩

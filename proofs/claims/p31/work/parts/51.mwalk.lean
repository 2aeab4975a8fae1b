
/-! the walk of a page: from where no repeat can come to its end without a token -/
def sf : Rw → Nat → Bool → Nat → Prop
  | .leaf, _, _, _ => False
  | .inner _ k _ l r, q, b, x => (x = q ∧ b = true) ∨ (if k < 3 then sf r (q + 1) false x else if k = 3 then (sf l (q + 1) b x ∨ (x = q + 1 + rS l ∧ b = true) ∨ sf r (q + 1 + rS l + 1) b x) else (sf l (q + 1) true x ∨ sf r (q + 1 + rS l + 1) false x))
/-- what the walk asks of a state from which no token was taken since a repeat began again -/
def sfOK (u μ : va_M) (G : Nat → Prop) (x : Nat) : Prop := ∃ nd : Nat, u 4412 x = nd ∧ (3 ≤ μ 507 nd → (u 4414 x = 0 ∧ G (x + 1) ∧ (μ 507 nd = 3 → ∃ y : Nat, u 4413 x = y ∧ G (y + 1))) ∨ (u 4414 x = 1 ∧ μ 507 nd = 3 ∧ G (x + 1)))
theorem sf_hd {l r : Rw} {z k q : Nat} {v : Int} : sf (Std.DTreeMap.Internal.Impl.inner z k v l r) q true q := by
  rw [sf]; exact Or.inl ⟨rfl, rfl⟩
theorem sf_ne {w : Rw} {q : Nat} (h : w ≠ Std.DTreeMap.Internal.Impl.leaf) : sf w q true q := by
  cases w with
  | leaf => exact absurd rfl h
  | inner z k v l r => exact sf_hd
theorem sf_flow {u μ : va_M} {G : Nat → Prop} : ∀ (w : Rw) (p q : Nat) (b : Bool), RS u w p q → RA μ 0 w p → rWF w → rRF w → (∀ x, sf w q b x → G x) → (b = true → ¬ rPl w → G (q + rS w)) → ∀ x, sf w q b x → sfOK u μ G x
  | .leaf, _, _, _, _, _, _, _, _, _, x, hx => hx.elim
  | .inner z k v l r, p, q, b, hs, ⟨a1, a2, a3, a4, a5⟩, ⟨f1, f2, f3, f4, f5, f6, f7, f8⟩, ⟨g1, g2, g3⟩, hG, hE, x, hx => by
    rw [RS] at hs
    obtain ⟨s1, s2, s3⟩ := hs
    have a1 : μ 507 p = k := a1
    have hG2 := hG
    simp only [sf] at hG hx
    rw [rS_in] at hE
    by_cases hk : k < 3
    · rw [if_pos hk] at s3 hx hE
      obtain rfl := f2 hk
      rcases hx with ⟨h1, h2⟩ | hx
      · subst h1
        exact ⟨p, s1, fun h => by omega⟩
      · exact sf_flow r (p + 1) (q + 1) false s3 a5 f8 g3 (fun y hy => hG y (Or.inr (by rw [if_pos hk]; exact hy))) (fun h => by cases h) x hx
    · rw [if_neg hk] at s3 hx hE
      obtain ⟨t1, t2, t3, t4, t5, t6⟩ := s3
      by_cases hk3 : k = 3
      · rw [if_pos hk3] at hx
        have hGl : ∀ y, sf l (q + 1) b y → G y := fun y hy => hG y (Or.inr (by rw [if_neg hk, if_pos hk3]; exact Or.inl hy))
        have hGe : b = true → G (q + 1 + rS l) := fun hb => hG _ (Or.inr (by rw [if_neg hk, if_pos hk3]; exact Or.inr (Or.inl ⟨rfl, hb⟩)))
        have hGr : ∀ y, sf r (q + 1 + rS l + 1) b y → G y := fun y hy => hG y (Or.inr (by rw [if_neg hk, if_pos hk3]; exact Or.inr (Or.inr hy)))
        have hnx : b = true → G (q + 1 + rS l + 1) := fun hb => by
          by_cases hr : r = Std.DTreeMap.Internal.Impl.leaf
          · subst hr
            have h9 := hE hb (fun h => h.elim (fun h2 => h2 hk3) (fun h2 => h2))
            have e1 : rS (Std.DTreeMap.Internal.Impl.leaf : Rw) = 0 := rfl
            rw [e1] at h9
            rw [show q + 1 + rS l + 1 = q + (2 + rS l + 0) by omega]
            exact h9
          · subst hb; exact hGr _ (sf_ne hr)
        rcases hx with ⟨h1, h2⟩ | hx | ⟨h1, h2⟩ | hx
        · subst h1 h2
          refine ⟨p, s1, fun _ => Or.inl ⟨s2, hGl _ (sf_ne (f3 (by omega))), fun _ => ⟨_, t1, hnx rfl⟩⟩⟩
        · exact sf_flow l (p + 1) (q + 1) b t2 a4 f7 g2 hGl (fun hb _ => hGe hb) x hx
        · subst h1 h2
          exact ⟨p, t3, fun _ => Or.inr ⟨t4, by omega, hnx rfl⟩⟩
        · refine sf_flow r (p + 1 + rN l) (q + 1 + rS l + 1) b t6 a5 f8 g3 hGr (fun hb hp => ?_) x hx
          have h9 := hE hb (fun h => h.elim (fun h2 => h2 hk3) hp)
          rw [show q + 1 + rS l + 1 + rS r = q + (2 + rS l + rS r) by omega]
          exact h9
      · rw [if_neg hk3] at hx
        have hk4 : k = 4 := by omega
        have hGl : ∀ y, sf l (q + 1) true y → G y := fun y hy => hG y (Or.inr (by rw [if_neg hk, if_neg hk3]; exact Or.inl hy))
        have hGr : ∀ y, sf r (q + 1 + rS l + 1) false y → G y := fun y hy => hG y (Or.inr (by rw [if_neg hk, if_neg hk3]; exact Or.inr hy))
        rcases hx with ⟨h1, h2⟩ | hx | hx
        · subst h1 h2
          exact ⟨p, s1, fun _ => Or.inl ⟨s2, hGl _ (sf_ne (f3 (by omega))), fun h => by omega⟩⟩
        · exact sf_flow l (p + 1) (q + 1) true t2 a4 f7 g2 hGl (fun _ hp => absurd (g1 hk4) hp) x hx
        · exact sf_flow r (p + 1 + rN l) (q + 1 + rS l + 1) false t6 a5 f8 g3 hGr (fun h => by cases h) x hx
/-- where a repeat begins again, none comes to its end without a token -/
theorem sf_back {u μ : va_M} {G : Nat → Prop} : ∀ (w : Rw) (p q : Nat) (b : Bool), RS u w p q → RA μ 0 w p → rWF w → (∀ x, sf w q b x → G x) → ∀ x nd : Nat, q ≤ x → x < q + rS w → u 4414 x = 1 → u 4412 x = nd → μ 507 nd = 4 → ∃ y : Nat, u 4413 x = y ∧ G (y + 1)
  | .leaf, _, _, _, _, _, _, _, x, _, h1, h2, _, _, _ => by
    have e1 : rS (Std.DTreeMap.Internal.Impl.leaf : Rw) = 0 := rfl
    omega
  | .inner z k v l r, p, q, b, hs, ⟨a1, a2, a3, a4, a5⟩, ⟨f1, f2, f3, f4, f5, f6, f7, f8⟩, hG, x, nd, h1, h2, h3, h4, h5 => by
    rw [RS] at hs
    obtain ⟨s1, s2, s3⟩ := hs
    have a1 : μ 507 p = k := a1
    simp only [sf] at hG
    rw [rS_in] at h2
    by_cases hk : k < 3
    · rw [if_pos hk] at s3 h2
      obtain rfl := f2 hk
      by_cases hx : x = q
      · subst hx; omega
      · exact sf_back r (p + 1) (q + 1) false s3 a5 f8 (fun y hy => hG y (Or.inr (by rw [if_pos hk]; exact hy))) x nd (by omega) (by omega) h3 h4 h5
    · rw [if_neg hk] at s3 h2
      obtain ⟨t1, t2, t3, t4, t5, t6⟩ := s3
      by_cases hx : x = q
      · subst hx; omega
      · by_cases hx2 : x < q + 1 + rS l
        · by_cases hk3 : k = 3
          · exact sf_back l (p + 1) (q + 1) b t2 a4 f7 (fun y hy => hG y (Or.inr (by rw [if_neg hk, if_pos hk3]; exact Or.inl hy))) x nd (by omega) hx2 h3 h4 h5
          · exact sf_back l (p + 1) (q + 1) true t2 a4 f7 (fun y hy => hG y (Or.inr (by rw [if_neg hk, if_neg hk3]; exact Or.inl hy))) x nd (by omega) hx2 h3 h4 h5
        · by_cases hx3 : x = q + 1 + rS l
          · subst hx3
            have hp : nd = p := by omega
            subst hp
            have hk4 : k = 4 := by omega
            exact ⟨q, t5, hG _ (Or.inr (by rw [if_neg hk, if_neg (by omega)]; exact Or.inl (sf_ne (f3 (by omega)))))⟩
          · by_cases hk3 : k = 3
            · exact sf_back r (p + 1 + rN l) (q + 1 + rS l + 1) b t6 a5 f8 (fun y hy => hG y (Or.inr (by rw [if_neg hk, if_pos hk3]; exact Or.inr (Or.inr hy)))) x nd (by omega) (by omega) h3 h4 h5
            · exact sf_back r (p + 1 + rN l) (q + 1 + rS l + 1) false t6 a5 f8 (fun y hy => hG y (Or.inr (by rw [if_neg hk, if_neg hk3]; exact Or.inr hy))) x nd (by omega) (by omega) h3 h4 h5

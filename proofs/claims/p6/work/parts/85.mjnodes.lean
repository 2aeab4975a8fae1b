
/-! how many nodes a skeleton has -/
theorem NO_Pl : ∀ w : Rw, rNO w → w ≠ .leaf → rPl w
  | .leaf, _, h => h rfl
  | .inner _ _ _ _ _, h, _ => Or.inl h.1
def NS (w : Rw) (L : Nat) (V : Nat → Prop) (f : Nat → Nat) : Prop :=
  w = .leaf ∨ (rSg w ∧ rN w + pV w = 2 ∧ rL w = 1 ∧ 1 ≤ f 0 ∧ ∃ e : Nat, e < L ∧ V e ∧ 1 ≤ f e) ∨ (rBd w ∧ rN w + pV w = 3 ∧ rL w = 1 ∧ 1 ≤ f 0 ∧ ∃ e : Nat, e < L ∧ V e ∧ 2 ≤ f e) ∨ (∃ D e : Nat, e < L ∧ V e ∧ 2 ^ D ≤ f e ∧ rN w + pV w + 5 ≤ 4 * rL w + 2 * f 0 + D) ∨ (¬ rPl w ∧ rN w + pV w + 1 ≤ 4 * rL w + 2 * f 0)
def NI (k : Nat) (l : Rw) (c m : Nat) (L : Nat) (V : Nat → Prop) (f : Nat → Nat) : Prop :=
  (k < 3 ∧ c = 2 ∧ m = 1 ∧ 1 ≤ f 0 ∧ ∃ e : Nat, e < L ∧ V e ∧ 1 ≤ f e) ∨ (k = 4 ∧ rSg l ∧ c = 3 ∧ m = 1 ∧ 1 ≤ f 0 ∧ ∃ e : Nat, e < L ∧ V e ∧ 2 ≤ f e) ∨ (∃ D e : Nat, e < L ∧ V e ∧ 2 ^ D ≤ f e ∧ c + 5 ≤ 4 * m + 2 * f 0 + D) ∨ (k = 3 ∧ c + 1 ≤ 4 * m + 2 * f 0)
theorem NS_join {z k : Nat} {v : Int} {l r : Rw} {c m L : Nat} {V : Nat → Prop} {f f1 f2 : Nat → Nat} (hL : 1 ≤ L) (hf : ∀ e : Nat, e < L → f e ≤ 60) (h1 : ∀ e : Nat, e < L → f1 e + f2 e ≤ f e) (hi : NI k l c m L V f1) (hr : NS r L V f2) (hc : rN (Std.DTreeMap.Internal.Impl.inner z k v l r : Rw) + pV (Std.DTreeMap.Internal.Impl.inner z k v l r : Rw) = c + (rN r + pV r)) (hm : rL (Std.DTreeMap.Internal.Impl.inner z k v l r : Rw) = m + rL r) : NS (.inner z k v l r) L V f := by
  unfold NS
  rw [hc, hm]
  have h00 := h1 0 (by show_term (have zq0 : True := trivial; omega))
  have h0N : rN (Std.DTreeMap.Internal.Impl.leaf : Rw) + pV (Std.DTreeMap.Internal.Impl.leaf : Rw) = 0 := rfl
  have h0L : rL (Std.DTreeMap.Internal.Impl.leaf : Rw) = 0 := rfl
  rcases hr with rfl | ⟨_, r1, r2, r3, e2, r4, r5, r6⟩ | ⟨_, r1, r2, r3, e2, r4, r5, r6⟩ | ⟨D2, e2, r4, r5, r6, r7⟩ | ⟨r0, r1⟩
  · rw [h0N, h0L]
    rcases hi with ⟨a, b, c9, d, e, g, g1, g2⟩ | ⟨a, a2, b, c9, d, e, g, g1, g2⟩ | ⟨D, e, g, g1, g2, g3⟩ | ⟨a, b⟩
    · exact Or.inr (Or.inl ⟨a, by show_term (have zq1 : True := trivial; omega), by show_term (have zq2 : True := trivial; omega), by show_term (have zq3 : True := trivial; omega), e, g, g1, by have := h1 e g; show_term (have zq4 : True := trivial; omega)⟩)
    · exact Or.inr (Or.inr (Or.inl ⟨Or.inr ⟨a, a2⟩, by show_term (have zq5 : True := trivial; omega), by show_term (have zq6 : True := trivial; omega), by show_term (have zq7 : True := trivial; omega), e, g, g1, by have := h1 e g; show_term (have zq8 : True := trivial; omega)⟩))
    · exact Or.inr (Or.inr (Or.inr (Or.inl ⟨D, e, g, g1, by have := h1 e g; show_term (have zq9 : True := trivial; omega), by show_term (have zq10 : True := trivial; omega)⟩)))
    · exact Or.inr (Or.inr (Or.inr (Or.inr ⟨fun h => h.elim (fun h => h a) (fun h => h), by show_term (have zq11 : True := trivial; omega)⟩)))
  · have x2 := h1 e2 r4
    rcases hi with ⟨a, b, c9, d, e, g, g1, g2⟩ | ⟨a, a2, b, c9, d, e, g, g1, g2⟩ | ⟨D, e, g, g1, g2, g3⟩ | ⟨a, b⟩
    · exact Or.inr (Or.inr (Or.inr (Or.inl ⟨0, e2, r4, r5, by rw [Nat.pow_zero]; show_term (have zq12 : True := trivial; omega), by show_term (have zq13 : True := trivial; omega)⟩)))
    · exact Or.inr (Or.inr (Or.inr (Or.inl ⟨0, e2, r4, r5, by rw [Nat.pow_zero]; show_term (have zq14 : True := trivial; omega), by show_term (have zq15 : True := trivial; omega)⟩)))
    · exact Or.inr (Or.inr (Or.inr (Or.inl ⟨D, e, g, g1, by have := h1 e g; show_term (have zq16 : True := trivial; omega), by show_term (have zq17 : True := trivial; omega)⟩)))
    · exact Or.inr (Or.inr (Or.inr (Or.inl ⟨0, e2, r4, r5, by rw [Nat.pow_zero]; show_term (have zq18 : True := trivial; omega), by show_term (have zq19 : True := trivial; omega)⟩)))
  · have x2 := h1 e2 r4
    rcases hi with ⟨a, b, c9, d, e, g, g1, g2⟩ | ⟨a, a2, b, c9, d, e, g, g1, g2⟩ | ⟨D, e, g, g1, g2, g3⟩ | ⟨a, b⟩
    · exact Or.inr (Or.inr (Or.inr (Or.inl ⟨0, e2, r4, r5, by rw [Nat.pow_zero]; show_term (have zq20 : True := trivial; omega), by show_term (have zq21 : True := trivial; omega)⟩)))
    · exact Or.inr (Or.inr (Or.inr (Or.inl ⟨0, e2, r4, r5, by rw [Nat.pow_zero]; show_term (have zq22 : True := trivial; omega), by show_term (have zq23 : True := trivial; omega)⟩)))
    · exact Or.inr (Or.inr (Or.inr (Or.inl ⟨D, e, g, g1, by have := h1 e g; show_term (have zq24 : True := trivial; omega), by show_term (have zq25 : True := trivial; omega)⟩)))
    · exact Or.inr (Or.inr (Or.inr (Or.inl ⟨1, e2, r4, r5, by rw [Nat.pow_one]; show_term (have zq26 : True := trivial; omega), by show_term (have zq27 : True := trivial; omega)⟩)))
  · have x2 := h1 e2 r4
    rcases hi with ⟨a, b, c9, d, e, g, g1, g2⟩ | ⟨a, a2, b, c9, d, e, g, g1, g2⟩ | ⟨D, e, g, g1, g2, g3⟩ | ⟨a, b⟩
    · exact Or.inr (Or.inr (Or.inr (Or.inl ⟨D2, e2, r4, r5, by show_term (have zq28 : True := trivial; omega), by show_term (have zq29 : True := trivial; omega)⟩)))
    · exact Or.inr (Or.inr (Or.inr (Or.inl ⟨D2, e2, r4, r5, by show_term (have zq30 : True := trivial; omega), by show_term (have zq31 : True := trivial; omega)⟩)))
    · have x1 := h1 e g
      have y1 := hf e g
      have y2 := hf e2 r4
      have z1 := pow_le5 g2 (by show_term (have zq32 : True := trivial; omega))
      exact Or.inr (Or.inr (Or.inr (Or.inl ⟨D2, e2, r4, r5, by show_term (have zq33 : True := trivial; omega), by show_term (have zq34 : True := trivial; omega)⟩)))
    · exact Or.inr (Or.inr (Or.inr (Or.inl ⟨D2, e2, r4, r5, by show_term (have zq35 : True := trivial; omega), by show_term (have zq36 : True := trivial; omega)⟩)))
  · rcases hi with ⟨a, b, c9, d, e, g, g1, g2⟩ | ⟨a, a2, b, c9, d, e, g, g1, g2⟩ | ⟨D, e, g, g1, g2, g3⟩ | ⟨a, b⟩
    · exact Or.inr (Or.inr (Or.inr (Or.inl ⟨0, e, g, g1, by rw [Nat.pow_zero]; have := h1 e g; show_term (have zq37 : True := trivial; omega), by show_term (have zq38 : True := trivial; omega)⟩)))
    · exact Or.inr (Or.inr (Or.inr (Or.inl ⟨1, e, g, g1, by rw [Nat.pow_one]; have := h1 e g; show_term (have zq39 : True := trivial; omega), by show_term (have zq40 : True := trivial; omega)⟩)))
    · exact Or.inr (Or.inr (Or.inr (Or.inl ⟨D, e, g, g1, by have := h1 e g; show_term (have zq41 : True := trivial; omega), by show_term (have zq42 : True := trivial; omega)⟩)))
    · exact Or.inr (Or.inr (Or.inr (Or.inr ⟨fun h => h.elim (fun h => h a) r0, by show_term (have zq43 : True := trivial; omega)⟩)))
theorem NS_is : ∀ (w : Rw) {L : Nat} {V : Nat → Prop} {f : Nat → Nat}, 1 ≤ L → rWF w → rAd w → (∀ e : Nat, e < L → f e ≤ 60) → PL w L V f → NS w L V f
  | .leaf, _, _, _, _, _, _, _, _ => Or.inl rfl
  | .inner z k v l r, L, V, f, hL, hw, hA, hf, ⟨f1, f2, h1, h2, h3⟩ => by
    have hr := NS_is r hL hw.2.2.2.2.2.2.2 hA.2.2.2 (fun e he => by have := h1 e he; have := hf e he; show_term (have zq44 : True := trivial; omega)) h2
    have hf1 : ∀ e : Nat, e < L → f1 e ≤ 60 := fun e he => by have := h1 e he; have := hf e he; show_term (have zq45 : True := trivial; omega)
    have hwl := hw.2.2.2.2.2.2.1
    refine NS_join (c := 1 + rN l + (if k < 3 then 1 else if k = 3 then 0 else pV l)) (m := (if k < 3 then 1 else 0) + rL l) hL hf h1 ?_ hr (by rw [rN_in, pV]; show_term (have zq46 : True := trivial; omega)) rfl
    rcases h3 with ⟨a, b, e, c, d⟩ | ⟨a, b, e, c, d, g9⟩ | ⟨a, b, L2, c, d, e⟩ | ⟨a, b, T, g1, g2, V2, c, d, d2, g9, g8⟩
    · left
      rw [if_pos a, if_pos a, hw.2.1 a]
      exact ⟨a, rfl, rfl, b 0 (by show_term (have zq47 : True := trivial; omega)), e, c, d, b e c⟩
    · rw [if_neg (by show_term (have zq48 : True := trivial; omega)), if_pos a, if_neg (by show_term (have zq49 : True := trivial; omega))]
      have hT := hf1 e c
      rcases shP_is l hwl b hA.2.2.1 (by show_term (have zq50 : True := trivial; omega)) (hw.2.2.1 (by show_term (have zq51 : True := trivial; omega))) with ⟨_, p, q, s⟩ | ⟨_, p, q, s⟩ | ⟨p, j, q, s⟩
      · exact Or.inr (Or.inr (Or.inr ⟨a, by show_term (have zq52 : True := trivial; omega)⟩))
      · exact Or.inr (Or.inr (Or.inr ⟨a, by show_term (have zq53 : True := trivial; omega)⟩))
      · exact Or.inr (Or.inr (Or.inl ⟨j, e, c, d, by show_term (have zq54 : True := trivial; omega), by show_term (have zq55 : True := trivial; omega)⟩))
    · rw [if_neg (by show_term (have zq56 : True := trivial; omega)), if_pos a, if_neg (by show_term (have zq57 : True := trivial; omega))]
      have hne := hw.2.2.1 (by show_term (have zq58 : True := trivial; omega))
      have hv := PL_S1 l e (NO_Pl l b hne)
      have hl := NS_is l c hwl hA.2.2.1 (fun e2 he2 => hf1 e2 (by show_term (have zq59 : True := trivial; omega))) e
      rcases hl with h | ⟨_, r1, r2, r3, e2, r4, r5, r6⟩ | ⟨_, r1, r2, r3, e2, r4, r5, r6⟩ | ⟨D2, e2, r4, r5, r6, r7⟩ | ⟨r0, r1⟩
      · exact absurd h hne
      · exact Or.inr (Or.inr (Or.inr ⟨a, by show_term (have zq60 : True := trivial; omega)⟩))
      · exact Or.inr (Or.inr (Or.inr ⟨a, by show_term (have zq61 : True := trivial; omega)⟩))
      · exact Or.inr (Or.inr (Or.inl ⟨D2, e2, by show_term (have zq62 : True := trivial; omega), r5, r6, by show_term (have zq63 : True := trivial; omega)⟩))
      · exact absurd (NO_Pl l b hne) r0
    · rw [if_neg (by show_term (have zq64 : True := trivial; omega)), if_neg (by show_term (have zq65 : True := trivial; omega)), if_neg (by show_term (have zq66 : True := trivial; omega))]
      have hne := hw.2.2.1 (by show_term (have zq67 : True := trivial; omega))
      have hv := PL_S1 l d b
      have hg : ∀ e : Nat, e < L → g1 e ≤ f1 e := fun e he => by
        by_cases hT : e < T
        · have := g9 e he hT; show_term (have zq68 : True := trivial; omega)
        · exact (g8 e he (by show_term (have zq69 : True := trivial; omega))).2.1
      have hl := NS_is l hL hwl hA.2.2.1 (fun e he => Nat.le_trans (hg e he) (hf1 e he)) d
      have hg0 := hg 0 (by show_term (have zq70 : True := trivial; omega))
      rcases hl with h | ⟨r0, r1, r2, r3, e2, r4, r5, r6⟩ | ⟨r0, r1, r2, r3, e2, r4, r5, r6⟩ | ⟨D2, e2, r4, r5, r6, r7⟩ | ⟨r0, r1⟩
      · exact absurd h hne
      · refine Or.inr (Or.inl ⟨a, r0, by show_term (have zq71 : True := trivial; omega), by show_term (have zq72 : True := trivial; omega), by show_term (have zq73 : True := trivial; omega), e2, r4, c e2 r5, ?_⟩)
        by_cases hT : e2 < T
        · have x1 := g9 e2 r4 hT
          have x2 := PL_S l d2 e2 r4
          show_term (have zq74 : True := trivial; omega)
        · have x1 := (g8 e2 r4 (by show_term (have zq75 : True := trivial; omega))).2.2 r5
          show_term (have zq76 : True := trivial; omega)
      · exact absurd r0 (hA.1 a)
      · by_cases hT : e2 < T
        · have x1 := g9 e2 r4 hT
          have x3 := g9 0 (by show_term (have zq77 : True := trivial; omega)) (by show_term (have zq78 : True := trivial; omega))
          have x4 := PL_S l d2 0 (by show_term (have zq79 : True := trivial; omega))
          exact Or.inr (Or.inr (Or.inl ⟨D2, e2, r4, c e2 r5, by show_term (have zq80 : True := trivial; omega), by show_term (have zq81 : True := trivial; omega)⟩))
        · have x1 := (g8 e2 r4 (by show_term (have zq82 : True := trivial; omega))).2.2 r5
          exact Or.inr (Or.inr (Or.inl ⟨D2 + 1, e2, r4, c e2 r5, by rw [Nat.pow_succ]; show_term (have zq83 : True := trivial; omega), by show_term (have zq84 : True := trivial; omega)⟩))
      · exact absurd b r0
/-- nodes, and those that could be options -/
theorem PL_N {w : Rw} {L : Nat} {V : Nat → Prop} {f : Nat → Nat} (hL : 1 ≤ L) (hw : rWF w) (hA : rAd w) (hf : ∀ e : Nat, e < L → f e ≤ 60) (h : PL w L V f) : rN w + pV w ≤ 4 * rL w + 120 := by
  have h0 := hf 0 (by show_term (have zq85 : True := trivial; omega))
  rcases NS_is w hL hw hA hf h with rfl | ⟨_, r1, r2, r3, _⟩ | ⟨_, r1, r2, r3, _⟩ | ⟨D2, e2, r4, r5, r6, r7⟩ | ⟨r0, r1⟩
  · exact Nat.zero_le _
  · show_term (have zq86 : True := trivial; omega)
  · show_term (have zq87 : True := trivial; omega)
  · have := hf e2 r4
    have := pow_le5 r6 (by show_term (have zq88 : True := trivial; omega))
    have h9 : 1 ≤ rL w ∨ rL w = 0 := by show_term (have zq89 : True := trivial; omega)
    show_term (have zq90 : True := trivial; omega)
  · show_term (have zq91 : True := trivial; omega)
theorem PL_RF : ∀ (w : Rw) {L : Nat} {V : Nat → Prop} {f : Nat → Nat}, rWF w → PL w L V f → rRF w
  | .leaf, _, _, _, _, _ => trivial
  | .inner z k v l r, L, V, f, hw, ⟨f1, f2, h1, h2, h3⟩ => by
    have hr := PL_RF r hw.2.2.2.2.2.2.2 h2
    have hwl := hw.2.2.2.2.2.2.1
    rcases h3 with ⟨a, _⟩ | ⟨a, b, _⟩ | ⟨a, b, L2, c, d, e⟩ | ⟨a, b, T, g1, g2, V2, c, d, _⟩
    · refine ⟨fun h => by show_term (have zq92 : True := trivial; omega), ?_, hr⟩
      rw [hw.2.1 a]; trivial
    · refine ⟨fun h => by show_term (have zq93 : True := trivial; omega), ?_, hr⟩
      have hp : ∀ x : Rw, rWF x → rPg x → rRF x := by
        intro x
        induction x with
        | leaf => intro _ _; trivial
        | inner z5 k5 v5 l5 r5 ih1 ih2 =>
          intro hx hq
          exact ⟨fun h => rPg_Pl _ hq.2.1 (hx.2.2.1 (by show_term (have zq94 : True := trivial; omega))), ih1 hx.2.2.2.2.2.2.1 hq.2.1, ih2 hx.2.2.2.2.2.2.2 hq.2.2⟩
      exact hp l hwl b
    · exact ⟨fun h => by show_term (have zq95 : True := trivial; omega), PL_RF l hwl e, hr⟩
    · exact ⟨fun _ => b, PL_RF l hwl d, hr⟩

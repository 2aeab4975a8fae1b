
/-! how many nodes a skeleton has -/
theorem NO_Pl : ∀ w : Rw, rNO w → w ≠ .leaf → rPl w
  | .leaf, _, h => h rfl
  | .inner _ _ _ _ _, h, _ => Or.inl h.1
def NS (w : Rw) (L : Nat) (V : Nat → Prop) (f : Nat → Nat) : Prop :=
  w = .leaf ∨ (rSg w ∧ rN w + pV w = 2 ∧ rL w = 1 ∧ 1 ≤ f 0 ∧ ∃ e : Nat, e < L ∧ V e ∧ 1 ≤ f e) ∨ (rBd w ∧ rN w + pV w = 3 ∧ rL w = 1 ∧ 1 ≤ f 0 ∧ ∃ e : Nat, e < L ∧ V e ∧ 2 ≤ f e) ∨ (∃ D e : Nat, e < L ∧ V e ∧ 2 ^ D ≤ f e ∧ rN w + pV w + 5 ≤ 4 * rL w + 2 * f 0 + D) ∨ (¬ rPl w ∧ rN w + pV w + 1 ≤ 4 * rL w + 2 * f 0)
def NI (k : Nat) (l : Rw) (c m : Nat) (L : Nat) (V : Nat → Prop) (f : Nat → Nat) : Prop :=
  (k < 3 ∧ c = 2 ∧ m = 1 ∧ 1 ≤ f 0 ∧ ∃ e : Nat, e < L ∧ V e ∧ 1 ≤ f e) ∨ (k = 4 ∧ rSg l ∧ c = 3 ∧ m = 1 ∧ 1 ≤ f 0 ∧ ∃ e : Nat, e < L ∧ V e ∧ 2 ≤ f e) ∨ (∃ D e : Nat, e < L ∧ V e ∧ 2 ^ D ≤ f e ∧ c + 5 ≤ 4 * m + 2 * f 0 + D) ∨ (k = 3 ∧ c + 1 ≤ 4 * m + 2 * f 0)
theorem NS_join {z k : Nat} {v : Int} {l r : Rw} {c m L : Nat} {V : Nat → Prop} {f f1 f2 : Nat → Nat} (hL : 1 ≤ L) (hf : ∀ e : Nat, e < L → f e ≤ 60) (h1 : ∀ e : Nat, e < L → f1 e + f2 e ≤ f e) (hi : NI k l c m L V f1) (hr : NS r L V f2) (hc : rN (Std.DTreeMap.Internal.Impl.inner z k v l r : Rw) + pV (Std.DTreeMap.Internal.Impl.inner z k v l r : Rw) = c + (rN r + pV r)) (hm : rL (Std.DTreeMap.Internal.Impl.inner z k v l r : Rw) = m + rL r) : NS (.inner z k v l r) L V f := by
  unfold NS
  rw [hc, hm]
  have h00 := h1 0 (by (first | ((try clear h00); (try clear hm); (try clear hc); (try clear h1); (try clear hf); omega) | omega))
  have h0N : rN (Std.DTreeMap.Internal.Impl.leaf : Rw) + pV (Std.DTreeMap.Internal.Impl.leaf : Rw) = 0 := rfl
  have h0L : rL (Std.DTreeMap.Internal.Impl.leaf : Rw) = 0 := rfl
  rcases hr with rfl | ⟨_, r1, r2, r3, e2, r4, r5, r6⟩ | ⟨_, r1, r2, r3, e2, r4, r5, r6⟩ | ⟨D2, e2, r4, r5, r6, r7⟩ | ⟨r0, r1⟩
  · rw [h0N, h0L]
    rcases hi with ⟨a, b, c9, d, e, g, g1, g2⟩ | ⟨a, a2, b, c9, d, e, g, g1, g2⟩ | ⟨D, e, g, g1, g2, g3⟩ | ⟨a, b⟩
    · exact Or.inr (Or.inl ⟨a, by (first | ((try clear a); (try clear g3); (try clear g2); (try clear g1); (try clear g); (try clear D); (try clear c9); (try clear a2); (try clear h0L); (try clear h0N); (try clear h00); (try clear hm); (try clear hc); (try clear h1); (try clear hf); (try clear hL); omega) | omega), by (first | ((try clear b); (try clear a); (try clear g3); (try clear g2); (try clear g1); (try clear g); (try clear D); (try clear a2); (try clear h0L); (try clear h0N); (try clear h00); (try clear hm); (try clear hc); (try clear h1); (try clear hf); (try clear hL); omega) | omega), by (first | ((try clear b); (try clear g3); (try clear g2); (try clear g1); (try clear g); (try clear D); (try clear c9); (try clear a2); (try clear h0L); (try clear h0N); (try clear hm); (try clear hc); (try clear h1); (try clear hf); (try clear hL); omega) | omega), e, g, g1, by have := h1 e g; (first | ((try clear b); (try clear g3); (try clear g1); (try clear g); (try clear D); (try clear c9); (try clear a2); (try clear h0L); (try clear h0N); (try clear h00); (try clear hm); (try clear hc); (try clear h1); (try clear hf); (try clear hL); omega) | omega)⟩)
    · exact Or.inr (Or.inr (Or.inl ⟨Or.inr ⟨a, a2⟩, by (first | ((try clear a); (try clear g3); (try clear g2); (try clear g1); (try clear g); (try clear D); (try clear c9); (try clear a2); (try clear h0L); (try clear h0N); (try clear h00); (try clear hm); (try clear hc); (try clear h1); (try clear hf); (try clear hL); omega) | omega), by (first | ((try clear b); (try clear a); (try clear g3); (try clear g2); (try clear g1); (try clear g); (try clear D); (try clear a2); (try clear h0L); (try clear h0N); (try clear h00); (try clear hm); (try clear hc); (try clear h1); (try clear hf); (try clear hL); omega) | omega), by (first | ((try clear b); (try clear g3); (try clear g2); (try clear g1); (try clear g); (try clear D); (try clear c9); (try clear a2); (try clear h0L); (try clear h0N); (try clear hm); (try clear hc); (try clear h1); (try clear hf); (try clear hL); omega) | omega), e, g, g1, by have := h1 e g; (first | ((try clear b); (try clear g3); (try clear g1); (try clear g); (try clear D); (try clear c9); (try clear a2); (try clear h0L); (try clear h0N); (try clear h00); (try clear hm); (try clear hc); (try clear h1); (try clear hf); (try clear hL); omega) | omega)⟩))
    · exact Or.inr (Or.inr (Or.inr (Or.inl ⟨D, e, g, g1, by have := h1 e g; (first | ((try clear b); (try clear g3); (try clear g1); (try clear g); (try clear c9); (try clear a2); (try clear h0L); (try clear h0N); (try clear h00); (try clear hm); (try clear hc); (try clear h1); (try clear hf); (try clear hL); omega) | omega), by (first | ((try clear b); (try clear g2); (try clear g1); (try clear g); (try clear c9); (try clear a2); (try clear h0L); (try clear h0N); (try clear hm); (try clear hc); (try clear h1); (try clear hf); (try clear hL); omega) | omega)⟩)))
    · exact Or.inr (Or.inr (Or.inr (Or.inr ⟨fun h => h.elim (fun h => h a) (fun h => h), by (first | ((try clear h); (try clear g3); (try clear g2); (try clear g1); (try clear g); (try clear D); (try clear c9); (try clear a2); (try clear h0L); (try clear h0N); (try clear hm); (try clear hc); (try clear h1); (try clear hf); (try clear hL); omega) | omega)⟩)))
  · have x2 := h1 e2 r4
    rcases hi with ⟨a, b, c9, d, e, g, g1, g2⟩ | ⟨a, a2, b, c9, d, e, g, g1, g2⟩ | ⟨D, e, g, g1, g2, g3⟩ | ⟨a, b⟩
    · exact Or.inr (Or.inr (Or.inr (Or.inl ⟨0, e2, r4, r5, by rw [Nat.pow_zero]; (first | ((try clear b); (try clear g3); (try clear g2); (try clear g1); (try clear g); (try clear D); (try clear c9); (try clear a2); (try clear h0L); (try clear h0N); (try clear h00); (try clear hm); (try clear hc); (try clear h1); (try clear hf); (try clear hL); omega) | omega), by (first | ((try clear g3); (try clear g2); (try clear g1); (try clear g); (try clear D); (try clear a2); (try clear x2); (try clear h0L); (try clear h0N); (try clear hm); (try clear hc); (try clear h1); (try clear hf); (try clear hL); omega) | omega)⟩)))
    · exact Or.inr (Or.inr (Or.inr (Or.inl ⟨0, e2, r4, r5, by rw [Nat.pow_zero]; (first | ((try clear b); (try clear g3); (try clear g2); (try clear g1); (try clear g); (try clear D); (try clear c9); (try clear a2); (try clear h0L); (try clear h0N); (try clear h00); (try clear hm); (try clear hc); (try clear h1); (try clear hf); (try clear hL); omega) | omega), by (first | ((try clear g3); (try clear g2); (try clear g1); (try clear g); (try clear D); (try clear a2); (try clear x2); (try clear h0L); (try clear h0N); (try clear hm); (try clear hc); (try clear h1); (try clear hf); (try clear hL); omega) | omega)⟩)))
    · exact Or.inr (Or.inr (Or.inr (Or.inl ⟨D, e, g, g1, by have := h1 e g; (first | ((try clear b); (try clear g3); (try clear g1); (try clear g); (try clear c9); (try clear a2); (try clear x2); (try clear h0L); (try clear h0N); (try clear h00); (try clear hm); (try clear hc); (try clear h1); (try clear hf); (try clear hL); omega) | omega), by (first | ((try clear b); (try clear g2); (try clear g1); (try clear g); (try clear c9); (try clear a2); (try clear x2); (try clear h0L); (try clear h0N); (try clear hm); (try clear hc); (try clear h1); (try clear hf); (try clear hL); omega) | omega)⟩)))
    · exact Or.inr (Or.inr (Or.inr (Or.inl ⟨0, e2, r4, r5, by rw [Nat.pow_zero]; (first | ((try clear b); (try clear g3); (try clear g2); (try clear g1); (try clear g); (try clear D); (try clear c9); (try clear a2); (try clear h0L); (try clear h0N); (try clear h00); (try clear hm); (try clear hc); (try clear h1); (try clear hf); (try clear hL); omega) | omega), by (first | ((try clear g3); (try clear g2); (try clear g1); (try clear g); (try clear D); (try clear c9); (try clear a2); (try clear x2); (try clear h0L); (try clear h0N); (try clear hm); (try clear hc); (try clear h1); (try clear hf); (try clear hL); omega) | omega)⟩)))
  · have x2 := h1 e2 r4
    rcases hi with ⟨a, b, c9, d, e, g, g1, g2⟩ | ⟨a, a2, b, c9, d, e, g, g1, g2⟩ | ⟨D, e, g, g1, g2, g3⟩ | ⟨a, b⟩
    · exact Or.inr (Or.inr (Or.inr (Or.inl ⟨0, e2, r4, r5, by rw [Nat.pow_zero]; (first | ((try clear b); (try clear g3); (try clear g2); (try clear g1); (try clear g); (try clear D); (try clear c9); (try clear a2); (try clear h0L); (try clear h0N); (try clear h00); (try clear hm); (try clear hc); (try clear h1); (try clear hf); (try clear hL); omega) | omega), by (first | ((try clear g3); (try clear g2); (try clear g1); (try clear g); (try clear D); (try clear a2); (try clear x2); (try clear h0L); (try clear h0N); (try clear hm); (try clear hc); (try clear h1); (try clear hf); (try clear hL); omega) | omega)⟩)))
    · exact Or.inr (Or.inr (Or.inr (Or.inl ⟨0, e2, r4, r5, by rw [Nat.pow_zero]; (first | ((try clear b); (try clear g3); (try clear g2); (try clear g1); (try clear g); (try clear D); (try clear c9); (try clear a2); (try clear h0L); (try clear h0N); (try clear h00); (try clear hm); (try clear hc); (try clear h1); (try clear hf); (try clear hL); omega) | omega), by (first | ((try clear g3); (try clear g2); (try clear g1); (try clear g); (try clear D); (try clear a2); (try clear x2); (try clear h0L); (try clear h0N); (try clear hm); (try clear hc); (try clear h1); (try clear hf); (try clear hL); omega) | omega)⟩)))
    · exact Or.inr (Or.inr (Or.inr (Or.inl ⟨D, e, g, g1, by have := h1 e g; (first | ((try clear b); (try clear g3); (try clear g1); (try clear g); (try clear c9); (try clear a2); (try clear x2); (try clear h0L); (try clear h0N); (try clear h00); (try clear hm); (try clear hc); (try clear h1); (try clear hf); (try clear hL); omega) | omega), by (first | ((try clear b); (try clear g2); (try clear g1); (try clear g); (try clear c9); (try clear a2); (try clear x2); (try clear h0L); (try clear h0N); (try clear hm); (try clear hc); (try clear h1); (try clear hf); (try clear hL); omega) | omega)⟩)))
    · exact Or.inr (Or.inr (Or.inr (Or.inl ⟨1, e2, r4, r5, by rw [Nat.pow_one]; (first | ((try clear b); (try clear g3); (try clear g2); (try clear g1); (try clear g); (try clear D); (try clear c9); (try clear a2); (try clear h0L); (try clear h0N); (try clear h00); (try clear hm); (try clear hc); (try clear h1); (try clear hf); (try clear hL); omega) | omega), by (first | ((try clear g3); (try clear g2); (try clear g1); (try clear g); (try clear D); (try clear c9); (try clear a2); (try clear x2); (try clear h0L); (try clear h0N); (try clear hm); (try clear hc); (try clear h1); (try clear hf); (try clear hL); omega) | omega)⟩)))
  · have x2 := h1 e2 r4
    rcases hi with ⟨a, b, c9, d, e, g, g1, g2⟩ | ⟨a, a2, b, c9, d, e, g, g1, g2⟩ | ⟨D, e, g, g1, g2, g3⟩ | ⟨a, b⟩
    · exact Or.inr (Or.inr (Or.inr (Or.inl ⟨D2, e2, r4, r5, by (first | ((try clear b); (try clear g3); (try clear g2); (try clear g1); (try clear g); (try clear D); (try clear c9); (try clear a2); (try clear h0L); (try clear h0N); (try clear h00); (try clear hm); (try clear hc); (try clear h1); (try clear hf); (try clear hL); omega) | omega), by (first | ((try clear g3); (try clear g2); (try clear g1); (try clear g); (try clear D); (try clear a2); (try clear x2); (try clear h0L); (try clear h0N); (try clear hm); (try clear hc); (try clear h1); (try clear hf); (try clear hL); omega) | omega)⟩)))
    · exact Or.inr (Or.inr (Or.inr (Or.inl ⟨D2, e2, r4, r5, by (first | ((try clear b); (try clear g3); (try clear g2); (try clear g1); (try clear g); (try clear D); (try clear c9); (try clear a2); (try clear h0L); (try clear h0N); (try clear h00); (try clear hm); (try clear hc); (try clear h1); (try clear hf); (try clear hL); omega) | omega), by (first | ((try clear g3); (try clear g2); (try clear g1); (try clear g); (try clear D); (try clear a2); (try clear x2); (try clear h0L); (try clear h0N); (try clear hm); (try clear hc); (try clear h1); (try clear hf); (try clear hL); omega) | omega)⟩)))
    · have x1 := h1 e g
      have y1 := hf e g
      have y2 := hf e2 r4
      have z1 := pow_le5 g2 (by (first | ((try clear z1); (try clear y2); (try clear b); (try clear g3); (try clear g2); (try clear g1); (try clear g); (try clear c9); (try clear a2); (try clear x2); (try clear h0L); (try clear h0N); (try clear h00); (try clear hm); (try clear hc); (try clear h1); (try clear hf); (try clear hL); omega) | omega))
      exact Or.inr (Or.inr (Or.inr (Or.inl ⟨D2, e2, r4, r5, by (first | ((try clear z1); (try clear y2); (try clear y1); (try clear x1); (try clear b); (try clear g3); (try clear g2); (try clear g1); (try clear g); (try clear c9); (try clear a2); (try clear h0L); (try clear h0N); (try clear h00); (try clear hm); (try clear hc); (try clear h1); (try clear hf); (try clear hL); omega) | omega), by (first | ((try clear y2); (try clear y1); (try clear x1); (try clear b); (try clear g2); (try clear g1); (try clear g); (try clear c9); (try clear a2); (try clear x2); (try clear h0L); (try clear h0N); (try clear hm); (try clear hc); (try clear h1); (try clear hf); (try clear hL); omega) | omega)⟩)))
    · exact Or.inr (Or.inr (Or.inr (Or.inl ⟨D2, e2, r4, r5, by (first | ((try clear b); (try clear g3); (try clear g2); (try clear g1); (try clear g); (try clear D); (try clear c9); (try clear a2); (try clear h0L); (try clear h0N); (try clear h00); (try clear hm); (try clear hc); (try clear h1); (try clear hf); (try clear hL); omega) | omega), by (first | ((try clear g3); (try clear g2); (try clear g1); (try clear g); (try clear D); (try clear c9); (try clear a2); (try clear x2); (try clear h0L); (try clear h0N); (try clear hm); (try clear hc); (try clear h1); (try clear hf); (try clear hL); omega) | omega)⟩)))
  · rcases hi with ⟨a, b, c9, d, e, g, g1, g2⟩ | ⟨a, a2, b, c9, d, e, g, g1, g2⟩ | ⟨D, e, g, g1, g2, g3⟩ | ⟨a, b⟩
    · exact Or.inr (Or.inr (Or.inr (Or.inl ⟨0, e, g, g1, by rw [Nat.pow_zero]; have := h1 e g; (first | ((try clear b); (try clear g3); (try clear g1); (try clear g); (try clear D); (try clear c9); (try clear a2); (try clear h0L); (try clear h0N); (try clear h00); (try clear hm); (try clear hc); (try clear h1); (try clear hf); (try clear hL); omega) | omega), by (first | ((try clear g3); (try clear g2); (try clear g1); (try clear g); (try clear D); (try clear a2); (try clear h0L); (try clear h0N); (try clear hm); (try clear hc); (try clear h1); (try clear hf); (try clear hL); omega) | omega)⟩)))
    · exact Or.inr (Or.inr (Or.inr (Or.inl ⟨1, e, g, g1, by rw [Nat.pow_one]; have := h1 e g; (first | ((try clear b); (try clear g3); (try clear g1); (try clear g); (try clear D); (try clear c9); (try clear a2); (try clear h0L); (try clear h0N); (try clear h00); (try clear hm); (try clear hc); (try clear h1); (try clear hf); (try clear hL); omega) | omega), by (first | ((try clear g3); (try clear g2); (try clear g1); (try clear g); (try clear D); (try clear a2); (try clear h0L); (try clear h0N); (try clear hm); (try clear hc); (try clear h1); (try clear hf); (try clear hL); omega) | omega)⟩)))
    · exact Or.inr (Or.inr (Or.inr (Or.inl ⟨D, e, g, g1, by have := h1 e g; (first | ((try clear b); (try clear g3); (try clear g1); (try clear g); (try clear c9); (try clear a2); (try clear h0L); (try clear h0N); (try clear h00); (try clear hm); (try clear hc); (try clear h1); (try clear hf); (try clear hL); omega) | omega), by (first | ((try clear b); (try clear g2); (try clear g1); (try clear g); (try clear c9); (try clear a2); (try clear h0L); (try clear h0N); (try clear hm); (try clear hc); (try clear h1); (try clear hf); (try clear hL); omega) | omega)⟩)))
    · exact Or.inr (Or.inr (Or.inr (Or.inr ⟨fun h => h.elim (fun h => h a) r0, by (first | ((try clear h); (try clear g3); (try clear g2); (try clear g1); (try clear g); (try clear D); (try clear c9); (try clear a2); (try clear h0L); (try clear h0N); (try clear hm); (try clear hc); (try clear h1); (try clear hf); (try clear hL); omega) | omega)⟩)))
theorem NS_is : ∀ (w : Rw) {L : Nat} {V : Nat → Prop} {f : Nat → Nat}, 1 ≤ L → rWF w → rAd w → (∀ e : Nat, e < L → f e ≤ 60) → PL w L V f → NS w L V f
  | .leaf, _, _, _, _, _, _, _, _ => Or.inl rfl
  | .inner z k v l r, L, V, f, hL, hw, hA, hf, ⟨f1, f2, h1, h2, h3⟩ => by
    have hr := NS_is r hL hw.2.2.2.2.2.2.2 hA.2.2.2 (fun e he => by have := h1 e he; have := hf e he; omega) h2
    have hf1 : ∀ e : Nat, e < L → f1 e ≤ 60 := fun e he => by have := h1 e he; have := hf e he; omega
    have hwl := hw.2.2.2.2.2.2.1
    refine NS_join (c := 1 + rN l + (if k < 3 then 1 else if k = 3 then 0 else pV l)) (m := (if k < 3 then 1 else 0) + rL l) hL hf h1 ?_ hr (by rw [rN_in, pV]; omega) rfl
    rcases h3 with ⟨a, b, e, c, d⟩ | ⟨a, b, e, c, d, g9⟩ | ⟨a, b, L2, c, d, e⟩ | ⟨a, b, T, g1, g2, V2, c, d, d2, g9, g8⟩
    · left
      rw [if_pos a, if_pos a, hw.2.1 a]
      exact ⟨a, rfl, rfl, b 0 (by omega), e, c, d, b e c⟩
    · rw [if_neg (by omega), if_pos a, if_neg (by omega)]
      have hT := hf1 e c
      rcases shP_is l hwl b hA.2.2.1 (by omega) (hw.2.2.1 (by omega)) with ⟨_, p, q, s⟩ | ⟨_, p, q, s⟩ | ⟨p, j, q, s⟩
      · exact Or.inr (Or.inr (Or.inr ⟨a, by omega⟩))
      · exact Or.inr (Or.inr (Or.inr ⟨a, by omega⟩))
      · exact Or.inr (Or.inr (Or.inl ⟨j, e, c, d, by omega, by omega⟩))
    · rw [if_neg (by omega), if_pos a, if_neg (by omega)]
      have hne := hw.2.2.1 (by omega)
      have hv := PL_S1 l e (NO_Pl l b hne)
      have hl := NS_is l c hwl hA.2.2.1 (fun e2 he2 => hf1 e2 (by omega)) e
      rcases hl with h | ⟨_, r1, r2, r3, e2, r4, r5, r6⟩ | ⟨_, r1, r2, r3, e2, r4, r5, r6⟩ | ⟨D2, e2, r4, r5, r6, r7⟩ | ⟨r0, r1⟩
      · exact absurd h hne
      · exact Or.inr (Or.inr (Or.inr ⟨a, by omega⟩))
      · exact Or.inr (Or.inr (Or.inr ⟨a, by omega⟩))
      · exact Or.inr (Or.inr (Or.inl ⟨D2, e2, by omega, r5, r6, by omega⟩))
      · exact absurd (NO_Pl l b hne) r0
    · rw [if_neg (by omega), if_neg (by omega), if_neg (by omega)]
      have hne := hw.2.2.1 (by omega)
      have hv := PL_S1 l d b
      have hg : ∀ e : Nat, e < L → g1 e ≤ f1 e := fun e he => by
        by_cases hT : e < T
        · have := g9 e he hT; omega
        · exact (g8 e he (by omega)).2.1
      have hl := NS_is l hL hwl hA.2.2.1 (fun e he => Nat.le_trans (hg e he) (hf1 e he)) d
      have hg0 := hg 0 (by omega)
      rcases hl with h | ⟨r0, r1, r2, r3, e2, r4, r5, r6⟩ | ⟨r0, r1, r2, r3, e2, r4, r5, r6⟩ | ⟨D2, e2, r4, r5, r6, r7⟩ | ⟨r0, r1⟩
      · exact absurd h hne
      · refine Or.inr (Or.inl ⟨a, r0, by omega, by omega, by omega, e2, r4, c e2 r5, ?_⟩)
        by_cases hT : e2 < T
        · have x1 := g9 e2 r4 hT
          have x2 := PL_S l d2 e2 r4
          omega
        · have x1 := (g8 e2 r4 (by omega)).2.2 r5
          omega
      · exact absurd r0 (hA.1 a)
      · by_cases hT : e2 < T
        · have x1 := g9 e2 r4 hT
          have x3 := g9 0 (by omega) (by omega)
          have x4 := PL_S l d2 0 (by omega)
          exact Or.inr (Or.inr (Or.inl ⟨D2, e2, r4, c e2 r5, by omega, by omega⟩))
        · have x1 := (g8 e2 r4 (by omega)).2.2 r5
          exact Or.inr (Or.inr (Or.inl ⟨D2 + 1, e2, r4, c e2 r5, by rw [Nat.pow_succ]; omega, by omega⟩))
      · exact absurd b r0
/-- nodes, and those that could be options -/
theorem PL_N {w : Rw} {L : Nat} {V : Nat → Prop} {f : Nat → Nat} (hL : 1 ≤ L) (hw : rWF w) (hA : rAd w) (hf : ∀ e : Nat, e < L → f e ≤ 60) (h : PL w L V f) : rN w + pV w ≤ 4 * rL w + 120 := by
  have h0 := hf 0 (by (first | ((try clear hf); omega) | omega))
  rcases NS_is w hL hw hA hf h with rfl | ⟨_, r1, r2, r3, _⟩ | ⟨_, r1, r2, r3, _⟩ | ⟨D2, e2, r4, r5, r6, r7⟩ | ⟨r0, r1⟩
  · exact Nat.zero_le _
  · (first | ((try clear hf); (try clear hL); omega) | omega)
  · (first | ((try clear hf); (try clear hL); omega) | omega)
  · have := hf e2 r4
    have := pow_le5 r6 (by (first | ((try clear hf); (try clear hL); omega) | omega))
    have h9 : 1 ≤ rL w ∨ rL w = 0 := by (first | ((try clear h9); (try clear hf); (try clear hL); omega) | omega)
    (first | ((try clear h9); (try clear hf); (try clear hL); omega) | omega)
  · (first | ((try clear hf); (try clear hL); omega) | omega)
theorem PL_RF : ∀ (w : Rw) {L : Nat} {V : Nat → Prop} {f : Nat → Nat}, rWF w → PL w L V f → rRF w
  | .leaf, _, _, _, _, _ => trivial
  | .inner z k v l r, L, V, f, hw, ⟨f1, f2, h1, h2, h3⟩ => by
    have hr := PL_RF r hw.2.2.2.2.2.2.2 h2
    have hwl := hw.2.2.2.2.2.2.1
    rcases h3 with ⟨a, _⟩ | ⟨a, b, _⟩ | ⟨a, b, L2, c, d, e⟩ | ⟨a, b, T, g1, g2, V2, c, d, _⟩
    · refine ⟨fun h => by omega, ?_, hr⟩
      rw [hw.2.1 a]; trivial
    · refine ⟨fun h => by omega, ?_, hr⟩
      have hp : ∀ x : Rw, rWF x → rPg x → rRF x := by
        intro x
        induction x with
        | leaf => intro _ _; trivial
        | inner z5 k5 v5 l5 r5 ih1 ih2 =>
          intro hx hq
          exact ⟨fun h => rPg_Pl _ hq.2.1 (hx.2.2.1 (by (first | ((try clear hq); (try clear ih2); (try clear ih1); (try clear r5); (try clear l5); (try clear v5); (try clear z5); (try clear x); omega) | omega))), ih1 hx.2.2.2.2.2.2.1 hq.2.1, ih2 hx.2.2.2.2.2.2.2 hq.2.2⟩
      exact hp l hwl b
    · exact ⟨fun h => by omega, PL_RF l hwl e, hr⟩
    · exact ⟨fun _ => b, PL_RF l hwl d, hr⟩

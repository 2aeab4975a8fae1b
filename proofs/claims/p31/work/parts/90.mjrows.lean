
/-! rows whose inner rows are tidied; which rows can come about as a skeleton is tidied -/
def RTd : Rw → Rw → Prop
  | .leaf, .leaf => True
  | .inner _ k v l r, .inner _ k2 v2 l2 r2 => k = k2 ∧ ((k < 3 ∧ v = v2 ∧ l = l2) ∨ (3 ≤ k ∧ v2 = -1 ∧ TDr l l2)) ∧ RTd r r2
  | .leaf, .inner _ _ _ _ _ => False
  | .inner _ _ _ _ _, .leaf => False
theorem RTd_0 : ∀ {w u : Rw}, RTd w u → (w = .leaf ↔ u = .leaf)
  | .leaf, .leaf, _ => Iff.rfl
  | .leaf, .inner _ _ _ _ _, h => h.elim
  | .inner _ _ _ _ _, .leaf, h => h.elim
  | .inner _ _ _ _ _, .inner _ _ _ _ _, _ => ⟨fun h => (by cases h), fun h => (by cases h)⟩
theorem RTd_I : ∀ {w u : Rw}, RTd w u → rI u = rI w
  | .leaf, .leaf, _ => rfl
  | .leaf, .inner _ _ _ _ _, h => h.elim
  | .inner _ _ _ _ _, .leaf, h => h.elim
  | .inner _ _ _ _ _, .inner _ _ _ _ _, h => by rw [rI_in, rI_in, RTd_I h.2.2]
theorem RTd_is : ∀ (w u : Rw), RTd w u → TDr w u ∧ (rWF w → rAd w → crH u = -5 ∨ crH u = crH w)
  | .leaf, .leaf, _ => ⟨TDr_refl _, fun _ _ => Or.inl rfl⟩
  | .leaf, .inner _ _ _ _ _, h => h.elim
  | .inner _ _ _ _ _, .leaf, h => h.elim
  | .inner z k v l r, .inner z2 k2 v2 l2 r2, ⟨h1, h2, h3⟩ => by
    subst h1
    obtain ⟨ih1, ih2⟩ := RTd_is r r2 h3
    have hr0 := RTd_0 h3
    have hcI : rWF (Std.DTreeMap.Internal.Impl.inner z k v l r : Rw) → rAd (Std.DTreeMap.Internal.Impl.inner z k v l r : Rw) → crI k v2 l2 = -5 ∨ crI k v2 l2 = crI k v l := fun hw hA => by
      rcases h2 with ⟨a, rfl, rfl⟩ | ⟨a, rfl, b⟩
      · exact Or.inr rfl
      · obtain ⟨_, _, _, _, _, _, _, _, _, t10, _⟩ := b hw.2.2.2.2.2.2.1 hA.2.2.1
        unfold crI
        have h0 : ¬ k = 0 := by omega
        rw [if_neg h0, if_neg h0]
        by_cases h4 : k = 4
        · rw [if_pos h4, if_pos h4]; exact t10
        · rw [if_neg h4]; exact Or.inl rfl
    refine ⟨fun hw hA => ?_, hcI⟩
    have hcI := hcI hw hA
    obtain ⟨i1, i2, i3, i4, i5, i6, i7, i8, i9, i10, i11⟩ := ih1 hw.2.2.2.2.2.2.2 hA.2.2.2
    have ih2 := ih2 hw.2.2.2.2.2.2.2 hA.2.2.2
    have hcr : 0 ≤ crI k v2 l2 → crI k v2 l2 ≠ crH r2 := fun h9 => by
      rcases hcI with h | h
      · rw [h] at h9; exact absurd h9 (by decide)
      · rw [h] at h9 ⊢
        rcases ih2 with h8 | h8
        · rw [h8]; omega
        · rw [h8]; exact hA.2.1 h9
    have eL : rL (Std.DTreeMap.Internal.Impl.inner z k v l r : Rw) = (if k < 3 then 1 else 0) + rL l + rL r := rfl
    have eL2 : rL (Std.DTreeMap.Internal.Impl.inner z2 k v2 l2 r2 : Rw) = (if k < 3 then 1 else 0) + rL l2 + rL r2 := rfl
    rcases h2 with ⟨a, rfl, rfl⟩ | ⟨a, rfl, b⟩
    · refine ⟨⟨hw.1, hw.2.1, hw.2.2.1, hw.2.2.2.1, hw.2.2.2.2.1, hw.2.2.2.2.2.1, hw.2.2.2.2.2.2.1, i1⟩, ⟨hA.1, hcr, hA.2.2.1, i2⟩, fun L V f h => ?_, fun h => ⟨⟨h.1, h.2.1, (i4 h.2.2).1⟩, ?_⟩, fun h => h.elim Or.inl (fun h => Or.inr (i5 h)), fun h => ⟨h.1, i6 h.2⟩, fun _ h => (by cases h), by rw [eL, eL2]; omega, fun h h9 => h ?_, ?_, fun h => ?_⟩
      · obtain ⟨f1, f2, g1, g2, g3⟩ := h
        exact ⟨f1, f2, g1, i3 L V f2 g2, g3⟩
      · rw [rT_in, rT_in]
        have := (i4 h.2.2).2
        omega
      · cases r2 with
        | leaf => rw [hr0.mpr rfl]; exact h9
        | inner _ _ _ _ _ => exact h9.elim
      · cases r2 with
        | leaf => rw [hr0.mpr rfl]; exact Or.inr rfl
        | inner _ _ _ _ _ => exact Or.inl rfl
      · cases r2 with
        | leaf => rw [hr0.mpr rfl]; exact h
        | inner _ _ _ _ _ => exact h.elim
    · obtain ⟨t1, t2, t3, t4, t5, t6, t7, t8, t9, t10, t11⟩ := b hw.2.2.2.2.2.2.1 hA.2.2.1
      refine ⟨⟨hw.1, fun h => by omega, fun _ => t7 (hw.2.2.1 a), by omega, by omega, fun h => by omega, t1, i1⟩, ⟨fun h => t9 (hA.1 h), hcr, t2, i2⟩, fun L V f h => ?_, fun h => ⟨⟨h.1, (t4 h.2.1).1, (i4 h.2.2).1⟩, ?_⟩, fun h => h.elim Or.inl (fun h => Or.inr (i5 h)), fun h => ⟨h.1, i6 h.2⟩, fun _ h => (by cases h), by rw [eL, eL2]; omega, fun h h9 => h ?_, ?_, fun h => ?_⟩
      · obtain ⟨f1, f2, g1, g2, g3⟩ := h
        refine ⟨f1, f2, g1, i3 L V f2 g2, ?_⟩
        rcases g3 with ⟨c, _⟩ | ⟨c, d, e, e1, e2, e3⟩ | ⟨c, d, L2, e1, e2, e3⟩ | ⟨c, d, T, x1, x2, V2, y1, y2, y3, y4⟩
        · omega
        · exact Or.inr (Or.inl ⟨c, (t4 d).1, e, e1, e2, Nat.le_trans (t4 d).2 e3⟩)
        · exact Or.inr (Or.inr (Or.inl ⟨c, t6 d, L2, e1, e2, t3 L2 V f1 e3⟩))
        · exact Or.inr (Or.inr (Or.inr ⟨c, t5 d, T, x1, x2, V2, y1, t3 L V2 x1 y2, t3 L V2 x2 y3, y4⟩))
      · rw [rT_ge (by omega), rT_ge (by omega)]
        have x1 := (i4 h.2.2).2
        have x2 := (t4 h.2.1).2
        omega
      · cases r2 with
        | leaf =>
          rw [hr0.mpr rfl]
          have h9 : isTx k ∨ (k = 4 ∧ rSg l2) := h9
          exact h9.elim Or.inl (fun h => Or.inr ⟨h.1, t11 h.2⟩)
        | inner _ _ _ _ _ => exact h9.elim
      · cases r2 with
        | leaf => exact Or.inl (if_neg (by omega))
        | inner _ _ _ _ _ => exact Or.inl rfl
      · cases r2 with
        | leaf =>
          have h : k < 3 := h
          omega
        | inner _ _ _ _ _ => exact h.elim
def OKr (w : Rw) : Prop := rWF w ∧ rAd w ∧ rL w ≤ 160 ∧ ((∃ (L : Nat) (V : Nat → Prop) (f : Nat → Nat), 1 ≤ L ∧ PL w L V f ∧ ∀ e : Nat, e < L → f e ≤ 60) ∨ (rPg w ∧ rT w ≤ 60))
theorem OKr_TD {w u : Rw} (h : TDr w u) (h2 : OKr w) : OKr u := by
  obtain ⟨a1, a2, a3, a4⟩ := h2
  obtain ⟨t1, t2, t3, t4, _, _, _, t8, _⟩ := h a1 a2
  refine ⟨t1, t2, by omega, ?_⟩
  rcases a4 with ⟨L, V, f, b1, b2, b3⟩ | ⟨b1, b2⟩
  · exact Or.inl ⟨L, V, f, b1, t3 L V f b2, b3⟩
  · exact Or.inr ⟨(t4 b1).1, Nat.le_trans (t4 b1).2 b2⟩
theorem OKr_b {w : Rw} (h : OKr w) : rN w ≤ 760 ∧ rI w ≤ 160 ∧ rH w ≤ 16 := by
  obtain ⟨a1, a2, a3, a4⟩ := h
  have h1 := rI_L w a1
  rcases a4 with ⟨L, V, f, b1, b2, b3⟩ | ⟨b1, b2⟩
  · have h2 := PL_N b1 a1 a2 b3 b2
    have h3 := PL_H a1 a2 b3 b2
    omega
  · have h2 := rPre_b ⟨a1, b1, b2⟩
    omega
theorem OKr_in {z k : Nat} {v : Int} {l r : Rw} (h : OKr (.inner z k v l r)) : OKr r ∧ (3 ≤ k → OKr l) := by
  obtain ⟨a1, a2, a3, a4⟩ := h
  have eL : rL (Std.DTreeMap.Internal.Impl.inner z k v l r : Rw) = (if k < 3 then 1 else 0) + rL l + rL r := rfl
  rw [eL] at a3
  refine ⟨⟨a1.2.2.2.2.2.2.2, a2.2.2.2, by omega, ?_⟩, fun hk => ⟨a1.2.2.2.2.2.2.1, a2.2.2.1, by omega, ?_⟩⟩
  · rcases a4 with ⟨L, V, f, b1, ⟨f1, f2, c1, c2, c3⟩, b3⟩ | ⟨b1, b2⟩
    · exact Or.inl ⟨L, V, f2, b1, c2, fun e he => by have := c1 e he; have := b3 e he; omega⟩
    · rw [rT_in] at b2
      exact Or.inr ⟨b1.2.2, by omega⟩
  · rcases a4 with ⟨L, V, f, b1, ⟨f1, f2, c1, c2, c3⟩, b3⟩ | ⟨b1, b2⟩
    · have hf1 : ∀ e : Nat, e < L → f1 e ≤ 60 := fun e he => by have := c1 e he; have := b3 e he; omega
      rcases c3 with ⟨c, _⟩ | ⟨c, d, e, e1, e2, e3⟩ | ⟨c, d, L2, e1, e2, e3⟩ | ⟨c, d, T, x1, x2, V2, y1, y2, y3, y4, y5⟩
      · omega
      · exact Or.inr ⟨d, Nat.le_trans e3 (hf1 e e1)⟩
      · exact Or.inl ⟨L2, V, f1, e1, e3, fun e he => hf1 e (by omega)⟩
      · refine Or.inl ⟨L, V2, x1, b1, y2, fun e he => ?_⟩
        have h1 := hf1 e he
        by_cases hT : e < T
        · have := y4 e he hT; omega
        · have := y5 e he (by omega); omega
    · rw [rT_ge (by omega)] at b2
      exact Or.inr ⟨b1.2.1, by omega⟩
theorem JS_OK {w : Rw} (h : JS w) : OKr w := by
  obtain ⟨⟨h1, h2, L, f, h3, h4, h5⟩, h6⟩ := h
  exact ⟨h1, h2, h6, Or.inl ⟨L, _, f, h3, h4, h5⟩⟩
theorem JS_TD {w u : Rw} (h : TDr w u) (h9 : JS w) : JS u := by
  obtain ⟨⟨h1, h2, L, f, h3, h4, h5⟩, h6⟩ := h9
  obtain ⟨t1, t2, t3, _, _, _, _, t8, _⟩ := h h1 h2
  exact ⟨⟨t1, t2, L, f, h3, t3 L _ f h4, h5⟩, by omega⟩
theorem crL_or {l : Rw} (hw : rWF l) : crL l = -5 ∨ (0 ≤ crL l ∧ ∃ (z : Nat) (v : Int), l = .inner z 0 v .leaf .leaf ∧ crL l = v) := by
  cases l with
  | leaf => exact Or.inl rfl
  | inner z k v l r =>
    cases r with
    | inner _ _ _ _ _ => exact Or.inl rfl
    | leaf =>
      have e : crL (Std.DTreeMap.Internal.Impl.inner z k v l .leaf : Rw) = if k = 0 then v else -5 := rfl
      by_cases h : k = 0
      · right
        subst h
        rw [e, if_pos rfl]
        refine ⟨hw.2.2.2.2.2.1 (by omega), z, v, ?_, rfl⟩
        rw [hw.2.1 (by omega)]
      · left; rw [e, if_neg h]
/-- a repeat of one tag has no such tag beside it -/
theorem crL_out {w l : Rw} {k f z : Nat} {v : Int} {r : Rw} (hw : rWF w) (hA : rAd w) (hk : rdrop k w = .inner z 4 v l r) (hn : nxt l (rdrop f w)) (hf : f = k + 1 ∨ f + rI l = k) : crL l = -5 := by
  have hWk := rdrop_WF k w hw
  have hAk := rAd_drop k w hA
  rw [hk] at hWk hAk
  rcases crL_or hWk.2.2.2.2.2.2.1 with h | ⟨h0, z5, v5, e5, e6⟩
  · exact h
  · exfalso
    have hcI : crI 4 v l = v5 := e6
    have hI : rI l = 1 := by rw [e5]; rfl
    rw [hI] at hf
    rw [e5] at hn
    cases hx : rdrop f w with
    | leaf => rw [hx] at hn; exact hn
    | inner z6 k6 v6 l6 r6 =>
      rw [hx] at hn
      have hal : ialk 0 v5 .leaf k6 v6 l6 := hn.1
      have h7 := alk_k hal
      have h6 : k6 = 0 := h7.2.1.mp rfl
      have h8 : v5 = v6 := h7.2.2.2.2.2 rfl
      have hc6 : crI k6 v6 l6 = v5 := by unfold crI; rw [if_pos h6, h8]
      rcases hf with hf | hf
      · have er : r = rdrop f w := by rw [hf]; exact (rdrop_S hk).symm
        refine hAk.2.1 (by rw [hcI]; omega) ?_
        rw [hcI, er, hx]
        exact hc6.symm
      · have hAf := rAd_drop f w hA
        rw [hx] at hAf
        have er : r6 = rdrop k w := by rw [← hf]; exact (rdrop_S hx).symm
        refine hAf.2.1 (by rw [hc6]; omega) ?_
        rw [hc6, er, hk]
        exact hcI.symm
theorem TDr_in {w l : Rw} {k f a b z : Nat} {v : Int} {r : Rw} (hw : rWF w) (hk : rdrop k w = .inner z 4 v l r) (hn : nxt l (rdrop f w)) (hab : (f = k + 1 ∧ a = k ∧ b = k + 1 + rI l) ∨ (f + rI l = k ∧ a = f ∧ b = k + 1)) (hbI : b ≤ rI w) : TDr w (rtk w a (rfus l (rdrop f w)) b) := by
  have hWk := rdrop_WF k w hw
  rw [hk] at hWk
  obtain ⟨a1, a2, a3⟩ := nxt_WF hWk.2.2.2.2.2.2.1 (rdrop_WF f w hw) hn
  exact TDr_rtk hk (by omega) (by omega) hbI a2 a1 (fun h1 h2 => crL_out h1 h2 hk hn (by omega))
theorem TDr_two {w la lb ra rb : Rw} {k za zb : Nat} {va vb : Int} (hw : rWF w) (hk : rdrop k w = .inner za 4 va la ra) (hk2 : rdrop (k + 1) w = .inner zb 4 vb lb rb) (hal : ralk la lb) : TDr w (rtk w k (rfus la lb) (k + 2)) := by
  have hWk := rdrop_WF k w hw
  have hWk2 := rdrop_WF (k + 1) w hw
  have hI := rdrop_I (k + 1) w
  rw [hk] at hWk
  rw [hk2] at hWk2 hI
  rw [rI_in] at hI
  refine TDr_rtk hk (Nat.le_refl _) (by omega) (by omega) (ralk_fus _ _ _ hal (ralk_refl la)) (rfus_WF _ _ hWk.2.2.2.2.2.2.1 hWk2.2.2.2.2.2.2.1 hal) (fun h1 h2 => ?_)
  have hAk := rAd_drop k w h2
  rw [hk] at hAk
  have er : ra = rdrop (k + 1) w := (rdrop_S hk).symm
  rcases crL_or hWk.2.2.2.2.2.2.1 with h | ⟨h0, _⟩
  · exact h
  · exfalso
    refine hAk.2.1 h0 ?_
    rw [er, hk2]
    exact alk_crL hal
theorem rtk_I {w x : Rw} {a b : Nat} (ha : a ≤ rI w) (hb9 : b ≤ rI w) : rI (rtk w a x b) = a + 1 + (rI w - b) := by
  unfold rtk
  rw [rpre_I _ _ _ ha, rI_in, rdrop_I]; omega

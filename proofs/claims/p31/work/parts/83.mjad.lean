
/-! laying puts no tags side by side; how many nodes, how many leaves there are behind it -/
theorem fus_alk {k : Nat} {v : Int} {l : Rw} {k2 : Nat} {v2 : Int} {l2 : Rw} (ha : ialk k v l k2 v2 l2) : ialk (fK k v k2 v2) (fV k v k2 v2) (rfus l l2) k v l :=
  (ralk_fus (Std.DTreeMap.Internal.Impl.inner 0 k v l .leaf) (Std.DTreeMap.Internal.Impl.inner 0 k2 v2 l2 .leaf) (Std.DTreeMap.Internal.Impl.inner 0 k v l .leaf) ⟨ha, trivial⟩ (ralk_refl _)).1
theorem crL_pre {m : Nat} {w : Rw} (h1 : 1 ≤ m) (h2 : m ≤ rI w) : crL (rpre m w .leaf) = -5 ∨ (m = 1 ∧ crL (rpre m w .leaf) = crH w) := by
  by_cases h : m = 1
  · subst h
    obtain ⟨z, k, v, l, r, rfl⟩ := rI_pos (w := w) (by (first | ((try clear r); (try clear v); (try clear k); (try clear z); (try clear h); (try clear h1); omega) | omega))
    rw [pre_1]
    have e1 : crL (Std.DTreeMap.Internal.Impl.inner z k v l .leaf : Rw) = if k = 0 then v else -5 := rfl
    have e2 : crH (Std.DTreeMap.Internal.Impl.inner z k v l r : Rw) = crI k v l := rfl
    rw [e1, e2]
    by_cases h0 : k = 0
    · right
      refine ⟨rfl, ?_⟩
      unfold crI
      rw [if_pos h0, if_pos h0]
    · left; exact if_neg h0
  · obtain ⟨y1, y2, y3, y4, y5, y6, y7, y8, y9, ey⟩ := pre_2 (w := w) (m := m) (by (first | ((try clear ey); (try clear y8); (try clear y7); (try clear y6); (try clear y5); (try clear y4); (try clear y3); (try clear y2); (try clear y1); (try clear h2); omega) | omega)) h2
    rw [ey]
    exact Or.inl rfl
theorem crL_no {k : Nat} {v : Int} {l Y : Rw} (h : 3 ≤ k) : crL (Std.DTreeMap.Internal.Impl.inner 0 k v l Y : Rw) = -5 := by
  cases Y with
  | leaf => exact if_neg (by omega)
  | inner _ _ _ _ _ => rfl
theorem rSg_no {k : Nat} {v : Int} {l Y : Rw} (h : 3 ≤ k) : ¬ rSg (Std.DTreeMap.Internal.Impl.inner 0 k v l Y : Rw) := by
  cases Y with
  | leaf => exact fun h9 => by have h9 : k < 3 := h9; omega
  | inner _ _ _ _ _ => exact fun h9 => h9
theorem rBd_no {v : Int} {l Y : Rw} : ¬ rBd (Std.DTreeMap.Internal.Impl.inner 0 3 v l Y : Rw) := by
  cases Y with
  | leaf =>
    intro h9
    have h9 : isTx 3 ∨ (3 = 4 ∧ rSg l) := h9
    unfold isTx at h9
    omega
  | inner _ _ _ _ _ => exact fun h9 => h9
theorem rBd_4 {k : Nat} {v : Int} {l Y : Rw} (h3 : 3 ≤ k) (h : rBd (Std.DTreeMap.Internal.Impl.inner 0 k v l Y : Rw)) : Y = .leaf ∧ k = 4 ∧ rSg l := by
  cases Y with
  | leaf =>
    have h9 : isTx k ∨ (k = 4 ∧ rSg l) := h
    rcases h9 with h9 | h9
    · unfold isTx at h9; omega
    · exact ⟨rfl, h9⟩
  | inner _ _ _ _ _ => exact h.elim
theorem crI_3 {k : Nat} {v v2 : Int} {l l2 : Rw} (h : 3 ≤ k) (e : crL l = crL l2) : crI k v l = crI k v2 l2 := by
  have h0 : ¬ k = 0 := by omega
  unfold crI
  rw [if_neg h0, if_neg h0, e]
theorem crI_o {v : Int} {l : Rw} : crI 3 v l = -5 := rfl
def AM (o : Nat) (w b X Y : Rw) : Prop := rAd w → rAd b → rAd X ∧ rAd Y ∧ (o = 0 → crH Y = -5 ∨ crH Y = crH w) ∧ (X = .leaf → Y = .leaf → w = .leaf ∧ b = .leaf) ∧ (X = .leaf → rSg Y → rSg w) ∧ (crL Y = -5 ∨ (X = .leaf → crL Y = crL w)) ∧ (X = .leaf → rBd Y → rBd w ∨ rBd b) ∧ (o = 4 → X = .leaf ∨ crH X = crH w) ∧ (o = 5 → X = .leaf ∨ crH X = crH b)
theorem rAd_hd {k : Nat} {v : Int} {l r X : Rw} (hA : rAd (Std.DTreeMap.Internal.Impl.inner 0 k v l r : Rw)) (hX : rAd X) (h : X = .leaf ∨ crH X = crH r) : rAd (Std.DTreeMap.Internal.Impl.inner 0 k v l X : Rw) := by
  refine ⟨hA.1, fun h9 => ?_, hA.2.2.1, hX⟩
  rcases h with rfl | h
  · intro h8
    have h8 : crI k v l = -5 := h8
    (first | ((try clear h); omega) | omega)
  · rw [h]; exact hA.2.1 h9
theorem AM_all : ∀ (n o : Nat) (w b : Rw), rN w + rN b < n → rN w + rN b ≤ 1800 → rWF w → rWF b → rPg b → AM o w b (wk o w b).1 (wk o w b).2 := by
  refine wk_ind (M := AM) ?_ ?_ ?_ ?_ ?_ ?_ ?_ ?_ ?_ ?_
  · intro o _ _
    exact ⟨trivial, trivial, fun _ => Or.inl rfl, fun _ _ => ⟨rfl, rfl⟩, fun _ h => h, Or.inl rfl, fun _ h => Or.inl h, fun _ => Or.inl rfl, fun _ => Or.inl rfl⟩
  · intro o z k v l r z2 k2 v2 l2 r2 X Y hw hb9 hp hk ha _ hX hY hA hB
    obtain ⟨_, y2, y3, y4, _, _, _, _, _⟩ := hY hA.2.2.2 hB.2.2.2
    have hfa := fus_alk ha
    have hcr := alk_crI hfa
    have hl := hw.2.1 hk
    subst hX
    have hr : Y = .leaf → r = .leaf := fun h => (y4 rfl h).1
    refine ⟨trivial, ⟨fun h9 => ?_, fun h9 => ?_, ?_, y2⟩, fun _ => Or.inr hcr, fun _ h => (by cases h), fun _ h => ?_, ?_, fun _ h => ?_, fun _ => Or.inl rfl, fun _ => Or.inl rfl⟩
    · have := fK_lt (v := v) (k2 := k2) (v2 := v2) hk
      (first | ((try clear h); (try clear hcr); (try clear hfa); (try clear y4); (try clear y3); (try clear y2); (try clear hB); (try clear hA); (try clear hY); (try clear ha); (try clear hk); (try clear hp); (try clear hb9); (try clear hw); (try clear Y); (try clear X); (try clear r2); (try clear z2); (try clear r); (try clear z); omega) | omega)
    · rw [hcr] at h9 ⊢
      rcases y3 rfl with h | h
      · rw [h]; (first | ((try clear h); (try clear hcr); (try clear hfa); (try clear y4); (try clear y3); (try clear y2); (try clear hB); (try clear hA); (try clear hY); (try clear ha); (try clear hk); (try clear hp); (try clear hb9); (try clear hw); (try clear X); (try clear r2); (try clear z2); (try clear r); (try clear z); omega) | omega)
      · rw [h]; exact hA.2.1 h9
    · subst hl
      cases l2 <;> trivial
    · cases Y with
      | leaf => rw [hr rfl]; exact hk
      | inner _ _ _ _ _ => exact h.elim
    · cases Y with
      | leaf =>
        refine Or.inr (fun _ => ?_)
        rw [hr rfl]
        exact alk_crL ⟨hfa, trivial⟩
      | inner _ _ _ _ _ => exact Or.inl rfl
    · cases Y with
      | leaf =>
        have h9 : isTx (fK k v k2 v2) ∨ (fK k v k2 v2 = 4 ∧ _) := h
        rw [hr rfl]
        rcases h9 with h9 | h9
        · exact Or.inl (Or.inl (fK_tx.mp h9))
        · have := fK_lt (v := v) (k2 := k2) (v2 := v2) hk
          (first | ((try clear h); (try clear hcr); (try clear hfa); (try clear y4); (try clear y3); (try clear y2); (try clear hB); (try clear hA); (try clear hY); (try clear ha); (try clear hk); (try clear hp); (try clear hb9); (try clear hw); (try clear Y); (try clear X); (try clear r2); (try clear z2); (try clear r); (try clear z); omega) | omega)
      | inner _ _ _ _ _ => exact h.elim
  · intro o z v l r z2 v2 l2 r2 X Y Xi hw hb9 hp h18 hf _ hXi hin hX hY hA hB
    obtain ⟨_, y2, y3, y4, _, _, _, _, _⟩ := hY hA.2.2.2 hB.2.2.2
    obtain ⟨_, i2, _, i4, i5, i6, i7, _, _⟩ := hin hA.2.2.1 hB.2.2.1
    subst hX
    have hcr : crI 4 (-1) (lrow l l2) = -5 ∨ crI 4 (-1) (lrow l l2) = crI 4 v l := i6.elim Or.inl (fun h => Or.inr (h hXi))
    refine ⟨trivial, ⟨fun _ h9 => ?_, fun h9 => ?_, i2, y2⟩, fun _ => hcr, fun _ h => (by cases h), fun _ h => absurd h (rSg_no (by (first | ((try clear h); (try clear h9); (try clear hcr); (try clear i7); (try clear i6); (try clear i5); (try clear i4); (try clear i2); (try clear y4); (try clear y3); (try clear y2); (try clear hB); (try clear hA); (try clear hY); (try clear hin); (try clear hXi); (try clear hf); (try clear h18); (try clear hp); (try clear hb9); (try clear hw); (try clear Xi); (try clear Y); (try clear X); (try clear r2); (try clear v2); (try clear z2); (try clear r); (try clear v); (try clear z); omega) | omega))), Or.inl (crL_no (by (first | ((try clear h); (try clear h9); (try clear hcr); (try clear i7); (try clear i6); (try clear i5); (try clear i4); (try clear i2); (try clear y4); (try clear y3); (try clear y2); (try clear hB); (try clear hA); (try clear hY); (try clear hin); (try clear hXi); (try clear hf); (try clear h18); (try clear hp); (try clear hb9); (try clear hw); (try clear Xi); (try clear Y); (try clear X); (try clear r2); (try clear v2); (try clear z2); (try clear r); (try clear v); (try clear z); omega) | omega))), fun _ h => ?_, fun _ => Or.inl rfl, fun _ => Or.inl rfl⟩
    · rcases i7 hXi h9 with h | h
      · exact hA.1 rfl h
      · exact hB.1 rfl h
    · rcases hcr with h | h
      · rw [h] at h9; exact absurd h9 (by decide)
      · rw [h] at h9 ⊢
        rcases y3 rfl with h8 | h8
        · rw [h8]; (first | ((try clear hcr); (try clear i7); (try clear i6); (try clear i5); (try clear i4); (try clear i2); (try clear y4); (try clear y3); (try clear y2); (try clear hB); (try clear hA); (try clear hY); (try clear hin); (try clear hXi); (try clear hf); (try clear h18); (try clear hp); (try clear hb9); (try clear hw); (try clear Xi); (try clear X); (try clear r2); (try clear v2); (try clear z2); (try clear r); (try clear z); omega) | omega)
        · rw [h8]; exact hA.2.1 h9
    · obtain ⟨e1, _, e3⟩ := rBd_4 (by (first | ((try clear e3); (try clear e1); (try clear h); (try clear h9); (try clear hcr); (try clear i7); (try clear i6); (try clear i5); (try clear i4); (try clear i2); (try clear y4); (try clear y3); (try clear y2); (try clear hB); (try clear hA); (try clear hY); (try clear hin); (try clear hXi); (try clear hf); (try clear h18); (try clear hp); (try clear hb9); (try clear hw); (try clear Xi); (try clear Y); (try clear X); (try clear r2); (try clear v2); (try clear z2); (try clear r); (try clear v); (try clear z); omega) | omega)) h
      rw [(y4 rfl e1).1]
      exact Or.inl (Or.inr ⟨rfl, i5 hXi e3⟩)
  · intro o z k v l r b X Y hw hb9 hp hk hnx _ hX hY hA hB
    obtain ⟨_, y2, y3, y4, _, _, _, _, _⟩ := hY hA.2.2.2 (rAd_drop _ _ hB)
    obtain ⟨a1, a2, a3⟩ := nxt_WF hw.2.2.2.2.2.2.1 hb9 hnx
    subst hX
    have hcr : crI k (-1) (rfus l b) = crI k v l := crI_3 hk (alk_crL a2)
    refine ⟨trivial, ⟨fun h4 h9 => hA.1 h4 (alk_Bd a2 h9), fun h9 => ?_, rAd_alk _ _ a2 a1 hA.2.2.1, y2⟩, fun _ => Or.inr hcr, fun _ h => (by cases h), fun _ h => absurd h (rSg_no hk), Or.inl (crL_no hk), fun _ h => ?_, fun _ => Or.inl rfl, fun _ => Or.inl rfl⟩
    · rw [hcr] at h9 ⊢
      rcases y3 rfl with h8 | h8
      · rw [h8]; (first | ((try clear h); (try clear hcr); (try clear a3); (try clear a2); (try clear a1); (try clear y4); (try clear y3); (try clear y2); (try clear hB); (try clear hA); (try clear hY); (try clear hnx); (try clear hk); (try clear hp); (try clear hb9); (try clear hw); (try clear X); (try clear r); (try clear z); omega) | omega)
      · rw [h8]; exact hA.2.1 h9
    · obtain ⟨e1, e2, e3⟩ := rBd_4 hk h
      rw [(y4 rfl e1).1]
      exact Or.inl (Or.inr ⟨e2, alk_Sg a2 e3⟩)
  · intro o z2 v2 w l2 r2 X Y hw hb9 hp hnx _ hX hY hA hB
    obtain ⟨_, y2, y3, y4, _, _, _, _, _⟩ := hY (rAd_drop _ _ hA) hB.2.2.2
    obtain ⟨a1, a2, a3⟩ := nxt_WF hb9.2.2.2.2.2.2.1 hw hnx
    subst hX
    have hl2 : 1 ≤ rI l2 := by
      cases l2 with
      | leaf => exact absurd rfl (hb9.2.2.1 (by (first | ((try clear hl2); (try clear a3); (try clear a2); (try clear a1); (try clear y4); (try clear y3); (try clear y2); (try clear hB); (try clear hA); (try clear hY); (try clear hnx); (try clear hp); (try clear hb9); (try clear hw); (try clear Y); (try clear X); (try clear r2); (try clear l2); (try clear v2); (try clear z2); omega) | omega)))
      | inner _ _ _ _ _ => rw [rI_in]; (first | ((try clear hl2); (try clear a3); (try clear a2); (try clear a1); (try clear y4); (try clear y3); (try clear y2); (try clear hB); (try clear hA); (try clear hY); (try clear hnx); (try clear hp); (try clear hb9); (try clear hw); (try clear Y); (try clear X); (try clear r2); (try clear l2); (try clear v2); (try clear z2); omega) | omega)
    have hcL : crL (rfus l2 w) = crL (rpre (rI l2) w .leaf) := alk_crL a3
    have hcr : crI 4 (-1) (rfus l2 w) = crL (rpre (rI l2) w .leaf) := hcL
    have hpr := crL_pre hl2 (nxt_I _ _ hnx)
    refine ⟨trivial, ⟨fun _ h9 => hB.1 rfl (alk_Bd a2 h9), fun h9 => ?_, rAd_alk _ _ a3 a1 (rAd_pre _ _ hA), y2⟩, fun _ => ?_, fun _ h => (by cases h), fun _ h => absurd h (rSg_no (by (first | ((try clear h); (try clear h9); (try clear hpr); (try clear hcr); (try clear hcL); (try clear hl2); (try clear a3); (try clear a2); (try clear a1); (try clear y4); (try clear y3); (try clear y2); (try clear hB); (try clear hA); (try clear hY); (try clear hnx); (try clear hp); (try clear hb9); (try clear hw); (try clear Y); (try clear X); (try clear r2); (try clear v2); (try clear z2); omega) | omega))), Or.inl (crL_no (by (first | ((try clear h); (try clear h9); (try clear hpr); (try clear hcr); (try clear hcL); (try clear hl2); (try clear a3); (try clear a2); (try clear a1); (try clear y4); (try clear y3); (try clear y2); (try clear hB); (try clear hA); (try clear hY); (try clear hnx); (try clear hp); (try clear hb9); (try clear hw); (try clear Y); (try clear X); (try clear r2); (try clear v2); (try clear z2); omega) | omega))), fun _ h => ?_, fun _ => Or.inl rfl, fun _ => Or.inl rfl⟩
    · rw [hcr] at h9 ⊢
      rcases hpr with h | ⟨h1, h⟩
      · rw [h] at h9; exact absurd h9 (by decide)
      · rw [h] at h9 ⊢
        rcases y3 rfl with h8 | h8
        · rw [h8]; (first | ((try clear h); (try clear hpr); (try clear hcr); (try clear hcL); (try clear hl2); (try clear a3); (try clear a2); (try clear a1); (try clear y4); (try clear y3); (try clear y2); (try clear hB); (try clear hA); (try clear hY); (try clear hnx); (try clear hp); (try clear hb9); (try clear hw); (try clear X); (try clear r2); (try clear v2); (try clear z2); omega) | omega)
        · rw [h8, h1]
          cases w with
          | leaf => exact absurd h9 (by decide)
          | inner z k v l r =>
            rw [show rdrop 1 (Std.DTreeMap.Internal.Impl.inner z k v l r : Rw) = r by cases r <;> rfl]
            exact hA.2.1 h9
    · show crI 4 (-1) (rfus l2 w) = -5 ∨ crI 4 (-1) (rfus l2 w) = crH w
      rw [hcr]
      exact hpr.elim Or.inl (fun h => Or.inr h.2)
    · obtain ⟨e1, e2, e3⟩ := rBd_4 (by (first | ((try clear e3); (try clear e2); (try clear e1); (try clear h); (try clear h9); (try clear hpr); (try clear hcr); (try clear hcL); (try clear hl2); (try clear a3); (try clear a2); (try clear a1); (try clear y4); (try clear y3); (try clear y2); (try clear hB); (try clear hA); (try clear hY); (try clear hnx); (try clear hp); (try clear hb9); (try clear hw); (try clear Y); (try clear X); (try clear r2); (try clear v2); (try clear z2); omega) | omega)) h
      rw [(y4 rfl e1).2]
      exact Or.inr (Or.inr ⟨rfl, alk_Sg a2 e3⟩)
  · intro o z v l r b X Y hw hb9 hp _ hX hY hA hB
    obtain ⟨_, y2, _, _, _, _, _, _, _⟩ := hY hA.2.2.2 hB
    exact ⟨trivial, ⟨fun h => by (first | ((try clear y2); (try clear hB); (try clear hA); (try clear hY); (try clear hp); (try clear hb9); (try clear hw); (try clear Y); (try clear X); (try clear r); (try clear v); (try clear z); omega) | omega), fun h => absurd h (by rw [crI_o]; decide), hA.2.2.1, y2⟩, fun _ => Or.inl rfl, fun _ h => (by cases h), fun _ h => absurd h (rSg_no (by (first | ((try clear h); (try clear y2); (try clear hB); (try clear hA); (try clear hY); (try clear hp); (try clear hb9); (try clear hw); (try clear Y); (try clear X); (try clear r); (try clear v); (try clear z); omega) | omega))), Or.inl (crL_no (by (first | ((try clear h); (try clear y2); (try clear hB); (try clear hA); (try clear hY); (try clear hp); (try clear hb9); (try clear hw); (try clear Y); (try clear X); (try clear r); (try clear v); (try clear z); omega) | omega))), fun _ h => absurd h rBd_no, fun _ => Or.inl rfl, fun _ => Or.inl rfl⟩
  · intro z k v l r b X Y hw hb9 hp hk _ hY hA hB
    obtain ⟨y1, y2, _, _, _, _, _, y8, _⟩ := hY hA.2.2.2 hB
    exact ⟨rAd_hd hA y1 (y8 rfl), y2, fun h => by (first | ((try clear y8); (try clear y2); (try clear y1); (try clear hB); (try clear hA); (try clear hY); (try clear hk); (try clear hp); (try clear hb9); (try clear hw); (try clear Y); (try clear X); (try clear r); (try clear v); (try clear k); (try clear z); omega) | omega), fun h => (by cases h), fun h => (by cases h), Or.inr (fun h => by cases h), fun h => (by cases h), fun _ => Or.inr rfl, fun h => by (first | ((try clear y8); (try clear y2); (try clear y1); (try clear hB); (try clear hA); (try clear hY); (try clear hk); (try clear hp); (try clear hb9); (try clear hw); (try clear Y); (try clear X); (try clear r); (try clear v); (try clear k); (try clear z); omega) | omega)⟩
  · intro o z k v l r b X Y hw hb9 hp hk _ _ hY hA hB
    obtain ⟨y1, y2, _, _, _, _, _, y8, _⟩ := hY hA.2.2.2 hB
    exact ⟨trivial, ⟨fun h => by (first | ((try clear y8); (try clear y2); (try clear y1); (try clear hB); (try clear hA); (try clear hY); (try clear hk); (try clear hp); (try clear hb9); (try clear hw); (try clear Y); (try clear X); (try clear r); (try clear v); (try clear k); (try clear z); omega) | omega), fun h => absurd h (by rw [crI_o]; decide), rAd_hd hA y1 (y8 rfl), y2⟩, fun _ => Or.inl rfl, fun _ h => (by cases h), fun _ h => absurd h (rSg_no (by (first | ((try clear h); (try clear y8); (try clear y2); (try clear y1); (try clear hB); (try clear hA); (try clear hY); (try clear hk); (try clear hp); (try clear hb9); (try clear hw); (try clear Y); (try clear X); (try clear r); (try clear v); (try clear k); (try clear z); omega) | omega))), Or.inl (crL_no (by (first | ((try clear h); (try clear y8); (try clear y2); (try clear y1); (try clear hB); (try clear hA); (try clear hY); (try clear hk); (try clear hp); (try clear hb9); (try clear hw); (try clear Y); (try clear X); (try clear r); (try clear v); (try clear k); (try clear z); omega) | omega))), fun _ h => absurd h rBd_no, fun _ => Or.inl rfl, fun _ => Or.inl rfl⟩
  · intro z2 k2 v2 w l2 r2 X Y hw hb9 hp _ hY hA hB
    obtain ⟨y1, y2, _, _, _, _, _, _, y9⟩ := hY hA hB.2.2.2
    exact ⟨rAd_hd hB y1 (y9 rfl), y2, fun h => by (first | ((try clear y2); (try clear y1); (try clear hB); (try clear hA); (try clear hY); (try clear hp); (try clear hb9); (try clear hw); (try clear Y); (try clear X); (try clear r2); (try clear l2); (try clear v2); (try clear k2); (try clear z2); omega) | omega), fun h => (by cases h), fun h => (by cases h), Or.inr (fun h => by cases h), fun h => (by cases h), fun h => by (first | ((try clear y2); (try clear y1); (try clear hB); (try clear hA); (try clear hY); (try clear hp); (try clear hb9); (try clear hw); (try clear Y); (try clear X); (try clear r2); (try clear l2); (try clear v2); (try clear k2); (try clear z2); omega) | omega), fun _ => Or.inr rfl⟩
  · intro o z2 k2 v2 w l2 r2 X Y hw hb9 hp _ _ hY hA hB
    obtain ⟨y1, y2, _, _, _, _, _, _, y9⟩ := hY hA hB.2.2.2
    exact ⟨trivial, ⟨fun h => by (first | ((try clear y2); (try clear y1); (try clear hB); (try clear hA); (try clear hY); (try clear hp); (try clear hb9); (try clear hw); (try clear Y); (try clear X); (try clear r2); (try clear l2); (try clear v2); (try clear k2); (try clear z2); omega) | omega), fun h => absurd h (by rw [crI_o]; decide), rAd_hd hB y1 (y9 rfl), y2⟩, fun _ => Or.inl rfl, fun _ h => (by cases h), fun _ h => absurd h (rSg_no (by (first | ((try clear h); (try clear y2); (try clear y1); (try clear hB); (try clear hA); (try clear hY); (try clear hp); (try clear hb9); (try clear hw); (try clear Y); (try clear X); (try clear r2); (try clear l2); (try clear v2); (try clear k2); (try clear z2); omega) | omega))), Or.inl (crL_no (by (first | ((try clear h); (try clear y2); (try clear y1); (try clear hB); (try clear hA); (try clear hY); (try clear hp); (try clear hb9); (try clear hw); (try clear Y); (try clear X); (try clear r2); (try clear l2); (try clear v2); (try clear k2); (try clear z2); omega) | omega))), fun _ h => absurd h rBd_no, fun _ => Or.inl rfl, fun _ => Or.inl rfl⟩
theorem lay_Ad {w b : Rw} (h18 : rN w + rN b ≤ 1800) (hw : rWF w) (hb9 : rWF b) (hp : rPg b) (hA : rAd w) (hB : rAd b) : rAd (lrow w b) := (AM_all _ 0 w b (Nat.lt_succ_self _) h18 hw hb9 hp hA hB).2.1
/-- each repeat holds an item that is no option: so it has plain leaves -/
theorem RF_V : ∀ w : Rw, rWF w → rRF w → rPl w → 1 ≤ pV w
  | .leaf, _, _, h => h.elim
  | .inner _ k _ l r, hw, ⟨h1, h2, h3⟩, hp => by
    have hk4 := hw.1
    rw [pV]
    by_cases hk : k < 3
    · rw [if_pos hk]; omega
    · rw [if_neg hk]
      by_cases h9 : k = 3
      · rw [if_pos h9]
        rcases hp with hp | hp
        · exact absurd h9 hp
        · have := RF_V r hw.2.2.2.2.2.2.2 h3 hp
          omega
      · rw [if_neg h9]
        have := RF_V l hw.2.2.2.2.2.2.1 h2 (h1 (by omega))
        omega
theorem alk_N : ∀ x y : Rw, ralk x y → rWF x → rWF y → rN x = rN y ∧ rL x = rL y
  | .leaf, .leaf, _, _, _ => ⟨rfl, rfl⟩
  | .leaf, .inner _ _ _ _ _, h, _, _ => h.elim
  | .inner _ _ _ _ _, .leaf, h, _, _ => h.elim
  | .inner z k v l r, .inner z2 k2 v2 l2 r2, h, hw, hw2 => by
    have e1 := alk_k h.1
    obtain ⟨a1, a2⟩ := alk_N r r2 h.2 hw.2.2.2.2.2.2.2 hw2.2.2.2.2.2.2.2
    have hl : rN l = rN l2 ∧ rL l = rL l2 := by
      rcases h.1 with ⟨a, b⟩ | ⟨_, _, _, a⟩
      · unfold isTx at a b
        rw [hw.2.1 (by omega), hw2.2.1 (by omega)]
        exact ⟨rfl, rfl⟩
      · exact alk_N l l2 a hw.2.2.2.2.2.2.1 hw2.2.2.2.2.2.2.1
    have e2 : rL (Std.DTreeMap.Internal.Impl.inner z k v l r : Rw) = (if k < 3 then 1 else 0) + rL l + rL r := rfl
    have e3 : rL (Std.DTreeMap.Internal.Impl.inner z2 k2 v2 l2 r2 : Rw) = (if k2 < 3 then 1 else 0) + rL l2 + rL r2 := rfl
    rw [rN_in, rN_in, e2, e3, a1, a2, hl.1, hl.2]
    refine ⟨rfl, ?_⟩
    by_cases h3 : k < 3
    · rw [if_pos h3, if_pos (e1.1.mp h3)]
    · rw [if_neg h3, if_neg (fun h9 => h3 (e1.1.mpr h9))]
theorem row_cut : ∀ (m : Nat) (w : Rw), rN (rpre m w .leaf) + rN (rdrop m w) = rN w ∧ rL (rpre m w .leaf) + rL (rdrop m w) = rL w ∧ pV (rpre m w .leaf) + pV (rdrop m w) = pV w
  | 0, w => by
    have e : rpre 0 w .leaf = .leaf := rfl
    have e2 : rdrop 0 w = w := rfl
    rw [e, e2]
    exact ⟨Nat.zero_add _, Nat.zero_add _, Nat.zero_add _⟩
  | m + 1, .leaf => ⟨rfl, rfl, rfl⟩
  | m + 1, .inner z k v l r => by
    obtain ⟨a1, a2, a3⟩ := row_cut m r
    have e2 : ∀ x : Rw, rL (Std.DTreeMap.Internal.Impl.inner z k v l x : Rw) = (if k < 3 then 1 else 0) + rL l + rL x := fun _ => rfl
    rw [rpre, rdrop, rN_in, rN_in, e2, e2, pV, pV]
    omega
theorem pV_lt {z k : Nat} {v : Int} {l r : Rw} (h : k < 3) : pV (Std.DTreeMap.Internal.Impl.inner z k v l r : Rw) = 1 + pV r := by rw [pV, if_pos h]
theorem pV_3 {z : Nat} {v : Int} {l r : Rw} : pV (Std.DTreeMap.Internal.Impl.inner z 3 v l r : Rw) = pV r := by rw [pV, if_neg (by omega), if_pos rfl, Nat.zero_add]
theorem pV_4 {z k : Nat} {v : Int} {l r : Rw} (h : ¬ k < 3) (h3 : k ≠ 3) : pV (Std.DTreeMap.Internal.Impl.inner z k v l r : Rw) = pV l + pV r := by rw [pV, if_neg h, if_neg h3]
theorem rL_lt {z k : Nat} {v : Int} {l r : Rw} (h : k < 3) : rL (Std.DTreeMap.Internal.Impl.inner z k v l r : Rw) = 1 + rL l + rL r := by
  have e : rL (Std.DTreeMap.Internal.Impl.inner z k v l r : Rw) = (if k < 3 then 1 else 0) + rL l + rL r := rfl
  rw [e, if_pos h]
theorem rL_ge {z k : Nat} {v : Int} {l r : Rw} (h : ¬ k < 3) : rL (Std.DTreeMap.Internal.Impl.inner z k v l r : Rw) = rL l + rL r := by
  have e : rL (Std.DTreeMap.Internal.Impl.inner z k v l r : Rw) = (if k < 3 then 1 else 0) + rL l + rL r := rfl
  rw [e, if_neg h, Nat.zero_add]
theorem rT_lt {z k : Nat} {v : Int} {l r : Rw} (h : k < 3) : rT (Std.DTreeMap.Internal.Impl.inner z k v l r : Rw) = 1 + rT r := by rw [rT_in, if_pos h]
theorem rT_ge {z k : Nat} {v : Int} {l r : Rw} (h : ¬ k < 3) : rT (Std.DTreeMap.Internal.Impl.inner z k v l r : Rw) = 2 * rT l + rT r := by rw [rT_in, if_neg h]
def CM (o : Nat) (w b X Y : Rw) : Prop := rRF w → rN X + rN Y + pV Y ≤ rN w + pV w + 2 * rT b ∧ rL X + rL Y ≤ rL w + rT b
theorem it_T {k : Nat} {v : Int} {l r : Rw} {z : Nat} (h : rWF (Std.DTreeMap.Internal.Impl.inner z k v l r : Rw)) : 1 + rN l + rT r ≤ rT (Std.DTreeMap.Internal.Impl.inner z k v l r : Rw) ∧ 1 + rT r ≤ rT (Std.DTreeMap.Internal.Impl.inner z k v l r : Rw) ∧ (if k < 3 then 1 else 0) + rL l + rT r ≤ rT (Std.DTreeMap.Internal.Impl.inner z k v l r : Rw) := by
  have h1 : rWF (Std.DTreeMap.Internal.Impl.inner 0 k v l .leaf : Rw) := ⟨h.1, h.2.1, h.2.2.1, h.2.2.2.1, h.2.2.2.2.1, h.2.2.2.2.2.1, h.2.2.2.2.2.2.1, trivial⟩
  have h2 := rN_T _ h1
  have h3 := rL_T _ h1
  have e0 : rT (Std.DTreeMap.Internal.Impl.leaf : Rw) = 0 := rfl
  have e1 : rN (Std.DTreeMap.Internal.Impl.leaf : Rw) = 0 := rfl
  have e2 : rL (Std.DTreeMap.Internal.Impl.leaf : Rw) = 0 := rfl
  have e3 : rL (Std.DTreeMap.Internal.Impl.inner 0 k v l .leaf : Rw) = (if k < 3 then 1 else 0) + rL l + 0 := rfl
  rw [rT_in, rN_in, e0, e1] at h2
  rw [rT_in, e3, e0] at h3
  rw [rT_in]
  (first | ((try clear e2); (try clear e1); (try clear e0); omega) | omega)
theorem CM_all : ∀ (n o : Nat) (w b : Rw), rN w + rN b < n → rN w + rN b ≤ 1800 → rWF w → rWF b → rPg b → CM o w b (wk o w b).1 (wk o w b).2 := by
  have eN : rN (Std.DTreeMap.Internal.Impl.leaf : Rw) = 0 := rfl
  have eL : rL (Std.DTreeMap.Internal.Impl.leaf : Rw) = 0 := rfl
  have eI : ∀ (z k : Nat) (v : Int) (l r : Rw), rL (Std.DTreeMap.Internal.Impl.inner z k v l r : Rw) = (if k < 3 then 1 else 0) + rL l + rL r := fun _ _ _ _ _ => rfl
  refine wk_ind (M := CM) ?_ ?_ ?_ ?_ ?_ ?_ ?_ ?_ ?_ ?_
  · intro o _
    exact ⟨Nat.zero_le _, Nat.zero_le _⟩
  · intro o z k v l r z2 k2 v2 l2 r2 X Y hw hb9 hp hk ha _ hX hY hR
    obtain ⟨y1, y2⟩ := hY hR.2.2
    have hl := hw.2.1 hk
    have hfl : rfus l l2 = .leaf := by rw [hl]; cases l2 <;> rfl
    have hk2 := (alk_k ha).1.mp hk
    have hk3 := fK_lt (v := v) (k2 := k2) (v2 := v2) hk
    rw [hfl, rN_in, rN_in, rT_lt hk2, rL_lt hk, rL_lt hk3, pV_lt hk, pV_lt hk3, eN, eL]
    (first | ((try clear hk3); (try clear hk2); (try clear hR); (try clear hY); (try clear ha); (try clear hk); (try clear hp); (try clear hb9); (try clear hw); (try clear l2); (try clear z2); (try clear eI); (try clear eL); (try clear eN); omega) | omega)
  · intro o z v l r z2 v2 l2 r2 X Y Xi hw hb9 hp h18 hf _ hXi hin hX hY hR
    obtain ⟨y1, y2⟩ := hY hR.2.2
    obtain ⟨i1, i2⟩ := hin hR.2.1
    rw [rN_in, rN_in, rT_ge (by (first | ((try clear i2); (try clear i1); (try clear y2); (try clear y1); (try clear hR); (try clear hY); (try clear hin); (try clear hXi); (try clear hf); (try clear h18); (try clear hp); (try clear hb9); (try clear hw); (try clear v2); (try clear z2); (try clear eI); (try clear eL); (try clear eN); omega) | omega)), rL_ge (by (first | ((try clear i2); (try clear i1); (try clear y2); (try clear y1); (try clear hR); (try clear hY); (try clear hin); (try clear hXi); (try clear hf); (try clear h18); (try clear hp); (try clear hb9); (try clear hw); (try clear v2); (try clear z2); (try clear eI); (try clear eL); (try clear eN); omega) | omega)), rL_ge (by (first | ((try clear i2); (try clear i1); (try clear y2); (try clear y1); (try clear hR); (try clear hY); (try clear hin); (try clear hXi); (try clear hf); (try clear h18); (try clear hp); (try clear hb9); (try clear hw); (try clear v2); (try clear z2); (try clear eI); (try clear eL); (try clear eN); omega) | omega)), pV_4 (by (first | ((try clear i2); (try clear i1); (try clear y2); (try clear y1); (try clear hR); (try clear hY); (try clear hin); (try clear hXi); (try clear hf); (try clear h18); (try clear hp); (try clear hb9); (try clear hw); (try clear v2); (try clear z2); (try clear eI); (try clear eL); (try clear eN); omega) | omega)) (by (first | ((try clear i2); (try clear i1); (try clear y2); (try clear y1); (try clear hR); (try clear hY); (try clear hin); (try clear hXi); (try clear hf); (try clear h18); (try clear hp); (try clear hb9); (try clear hw); (try clear v2); (try clear z2); (try clear eI); (try clear eL); (try clear eN); omega) | omega)), pV_4 (by (first | ((try clear i2); (try clear i1); (try clear y2); (try clear y1); (try clear hR); (try clear hY); (try clear hin); (try clear hXi); (try clear hf); (try clear h18); (try clear hp); (try clear hb9); (try clear hw); (try clear v2); (try clear z2); (try clear eI); (try clear eL); (try clear eN); omega) | omega)) (by (first | ((try clear i2); (try clear i1); (try clear y2); (try clear y1); (try clear hR); (try clear hY); (try clear hin); (try clear hXi); (try clear hf); (try clear h18); (try clear hp); (try clear hb9); (try clear hw); (try clear v2); (try clear z2); (try clear eI); (try clear eL); (try clear eN); omega) | omega)), eN, eL]
    (first | ((try clear hR); (try clear hY); (try clear hin); (try clear hXi); (try clear hf); (try clear h18); (try clear hp); (try clear hb9); (try clear hw); (try clear v2); (try clear z2); (try clear eI); (try clear eL); (try clear eN); omega) | omega)
  · intro o z k v l r b X Y hw hb9 hp hk hnx _ hX hY hR
    obtain ⟨y1, y2⟩ := hY hR.2.2
    obtain ⟨a1, a2, a3⟩ := nxt_WF hw.2.2.2.2.2.2.1 hb9 hnx
    obtain ⟨q1, q2⟩ := alk_N _ _ a2 a1 hw.2.2.2.2.2.2.1
    have q3 := alk_pV _ _ a2
    have q4 := rpre_T (rI l) b .leaf
    have e0 : rT (Std.DTreeMap.Internal.Impl.leaf : Rw) = 0 := rfl
    rw [rN_in, rN_in, eI, eI, pV, pV, q1, q2, q3, eN, eL]
    (first | ((try clear q3); (try clear q2); (try clear a3); (try clear a2); (try clear a1); (try clear hR); (try clear hY); (try clear hnx); (try clear hk); (try clear hp); (try clear hb9); (try clear hw); (try clear eI); (try clear eL); (try clear eN); omega) | omega)
  · intro o z2 v2 w l2 r2 X Y hw hb9 hp hnx _ hX hY hR
    obtain ⟨a1, a2, a3⟩ := nxt_WF hb9.2.2.2.2.2.2.1 hw hnx
    obtain ⟨y1, y2⟩ := hY (by
      have h9 : ∀ (m : Nat) (x : Rw), rRF x → rRF (rdrop m x) := by
        intro m
        induction m with
        | zero => intro x h; exact h
        | succ m ihm =>
          intro x h
          cases x with
          | leaf => exact h
          | inner _ _ _ _ _ => exact ihm _ h.2.2
      exact h9 _ _ hR)
    obtain ⟨q1, q2⟩ := alk_N _ _ a3 a1 (rpre_WF _ _ _ hw trivial)
    have q3 := alk_pV _ _ a3
    obtain ⟨p1, p2, p3⟩ := row_cut (rI l2) w
    have q5 : 1 ≤ rT l2 := rT_pos l2 hb9.2.2.2.2.2.2.1 (hb9.2.2.1 (by (first | ((try clear q5); (try clear p3); (try clear p2); (try clear p1); (try clear q3); (try clear q2); (try clear y2); (try clear y1); (try clear a3); (try clear a2); (try clear a1); (try clear hR); (try clear hY); (try clear hnx); (try clear hp); (try clear hb9); (try clear hw); (try clear v2); (try clear z2); (try clear eI); (try clear eL); (try clear eN); omega) | omega)))
    rw [rN_in, rL_ge (by (first | ((try clear q5); (try clear p3); (try clear p2); (try clear p1); (try clear q3); (try clear q2); (try clear y2); (try clear y1); (try clear a3); (try clear a2); (try clear a1); (try clear hR); (try clear hY); (try clear hnx); (try clear hp); (try clear hb9); (try clear hw); (try clear v2); (try clear z2); (try clear eI); (try clear eL); (try clear eN); omega) | omega)), rT_ge (by (first | ((try clear q5); (try clear p3); (try clear p2); (try clear p1); (try clear q3); (try clear q2); (try clear y2); (try clear y1); (try clear a3); (try clear a2); (try clear a1); (try clear hR); (try clear hY); (try clear hnx); (try clear hp); (try clear hb9); (try clear hw); (try clear v2); (try clear z2); (try clear eI); (try clear eL); (try clear eN); omega) | omega)), pV_4 (by (first | ((try clear q5); (try clear p3); (try clear p2); (try clear p1); (try clear q3); (try clear q2); (try clear y2); (try clear y1); (try clear a3); (try clear a2); (try clear a1); (try clear hR); (try clear hY); (try clear hnx); (try clear hp); (try clear hb9); (try clear hw); (try clear v2); (try clear z2); (try clear eI); (try clear eL); (try clear eN); omega) | omega)) (by (first | ((try clear q5); (try clear p3); (try clear p2); (try clear p1); (try clear q3); (try clear q2); (try clear y2); (try clear y1); (try clear a3); (try clear a2); (try clear a1); (try clear hR); (try clear hY); (try clear hnx); (try clear hp); (try clear hb9); (try clear hw); (try clear v2); (try clear z2); (try clear eI); (try clear eL); (try clear eN); omega) | omega)), q1, q2, q3, eN, eL]
    (first | ((try clear q3); (try clear q2); (try clear a3); (try clear a2); (try clear a1); (try clear hR); (try clear hY); (try clear hnx); (try clear hp); (try clear hb9); (try clear hw); (try clear v2); (try clear z2); (try clear eI); (try clear eL); (try clear eN); omega) | omega)
  · intro o z v l r b X Y hw hb9 hp _ hX hY hR
    obtain ⟨y1, y2⟩ := hY hR.2.2
    rw [rN_in, rN_in, rL_ge (by (first | ((try clear y2); (try clear y1); (try clear hR); (try clear hY); (try clear hp); (try clear hb9); (try clear hw); (try clear eI); (try clear eL); (try clear eN); omega) | omega)), rL_ge (by (first | ((try clear y2); (try clear y1); (try clear hR); (try clear hY); (try clear hp); (try clear hb9); (try clear hw); (try clear eI); (try clear eL); (try clear eN); omega) | omega)), pV_3, pV_3, eN, eL]
    (first | ((try clear hR); (try clear hY); (try clear hp); (try clear hb9); (try clear hw); (try clear eI); (try clear eL); (try clear eN); omega) | omega)
  · intro z k v l r b X Y hw hb9 hp hk _ hY hR
    obtain ⟨y1, y2⟩ := hY hR.2.2
    rw [rN_in, rN_in, eI, eI, pV]
    (first | ((try clear hR); (try clear hY); (try clear hk); (try clear hp); (try clear hb9); (try clear hw); (try clear eI); (try clear eL); (try clear eN); omega) | omega)
  · intro o z k v l r b X Y hw hb9 hp hk _ _ hY hR
    obtain ⟨y1, y2⟩ := hY hR.2.2
    have hv : 1 ≤ (if k < 3 then 1 else if k = 3 then 0 else pV l) := by
      by_cases h3 : k < 3
      · rw [if_pos h3]; (first | ((try clear h3); (try clear y2); (try clear y1); (try clear hR); (try clear hY); (try clear hk); (try clear hp); (try clear hb9); (try clear hw); (try clear eI); (try clear eL); (try clear eN); omega) | omega)
      · rw [if_neg h3, if_neg hk]
        have hk4 := hw.1
        exact RF_V l hw.2.2.2.2.2.2.1 hR.2.1 (hR.1 (by (first | ((try clear y2); (try clear y1); (try clear hR); (try clear hY); (try clear hp); (try clear hb9); (try clear hw); (try clear eI); (try clear eL); (try clear eN); omega) | omega)))
    have ep : pV (Std.DTreeMap.Internal.Impl.inner z k v l r : Rw) = (if k < 3 then 1 else if k = 3 then 0 else pV l) + pV r := by rw [pV]
    rw [rN_in, rN_in, rN_in, rL_ge (by (first | ((try clear ep); (try clear y2); (try clear y1); (try clear hR); (try clear hY); (try clear hk); (try clear hp); (try clear hb9); (try clear hw); (try clear eI); (try clear eL); (try clear eN); omega) | omega)), eI, eI, pV_3, ep, eN, eL]
    (first | ((try clear hR); (try clear hY); (try clear hk); (try clear hp); (try clear hb9); (try clear hw); (try clear eI); (try clear eL); (try clear eN); omega) | omega)
  · intro z2 k2 v2 w l2 r2 X Y hw hb9 hp _ hY hR
    obtain ⟨y1, y2⟩ := hY hR
    obtain ⟨t1, t2, t3⟩ := it_T hb9
    rw [rN_in, eI]
    (first | ((try clear t2); (try clear hR); (try clear hY); (try clear hp); (try clear hb9); (try clear hw); (try clear eI); (try clear eL); (try clear eN); omega) | omega)
  · intro o z2 k2 v2 w l2 r2 X Y hw hb9 hp _ _ hY hR
    obtain ⟨y1, y2⟩ := hY hR
    obtain ⟨t1, t2, t3⟩ := it_T hb9
    rw [rN_in, rN_in, rL_ge (by (first | ((try clear t3); (try clear t2); (try clear t1); (try clear y2); (try clear y1); (try clear hR); (try clear hY); (try clear hp); (try clear hb9); (try clear hw); (try clear eI); (try clear eL); (try clear eN); omega) | omega)), eI, pV_3, eN, eL]
    (first | ((try clear t2); (try clear hR); (try clear hY); (try clear hp); (try clear hb9); (try clear hw); (try clear eI); (try clear eL); (try clear eN); omega) | omega)
theorem lay_N {w b : Rw} (h18 : rN w + rN b ≤ 1800) (hw : rWF w) (hb9 : rWF b) (hp : rPg b) (hR : rRF w) : rN (lrow w b) + pV (lrow w b) ≤ rN w + pV w + 2 * rT b ∧ rL (lrow w b) ≤ rL w + rT b := by
  obtain ⟨h1, h2⟩ := CM_all _ 0 w b (Nat.lt_succ_self _) h18 hw hb9 hp hR
  have h3 : (wk 0 w b).2 = lrow w b := rfl
  rw [h3] at h1 h2
  (first | ((try clear h3); (try clear h18); omega) | omega)

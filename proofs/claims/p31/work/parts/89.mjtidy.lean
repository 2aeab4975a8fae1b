
/-! tidying keeps it -/
theorem ralk_trans : ∀ x y z : Rw, ralk x y → ralk y z → ralk x z
  | .leaf, .leaf, _, _, h => h
  | .leaf, .inner _ _ _ _ _, _, h, _ => h.elim
  | .inner _ _ _ _ _, .leaf, _, h, _ => h.elim
  | .inner _ _ _ _ _, .inner _ _ _ _ _, .leaf, _, h => h.elim
  | .inner z k v l r, .inner z2 k2 v2 l2 r2, .inner z3 k3 v3 l3 r3, h1, h2 => by
    refine ⟨?_, ralk_trans r r2 r3 h1.2 h2.2⟩
    rcases h1.1 with ⟨a, b⟩ | ⟨a, rfl, c, d⟩
    · rcases h2.1 with ⟨_, e⟩ | ⟨e, _⟩
      · exact Or.inl ⟨a, e⟩
      · exact absurd b e
    · rcases h2.1 with ⟨e, _⟩ | ⟨_, e, g, i⟩
      · exact absurd e a
      · exact Or.inr ⟨a, e, fun h9 => (c h9).trans (g h9), ralk_trans l l2 l3 d i⟩
def TDr (w u : Rw) : Prop := rWF w → rAd w → rWF u ∧ rAd u ∧ (∀ (L : Nat) (V : Nat → Prop) (f : Nat → Nat), PL w L V f → PL u L V f) ∧ (rPg w → rPg u ∧ rT u ≤ rT w) ∧ (rPl w → rPl u) ∧ (rNO w → rNO u) ∧ (w ≠ .leaf → u ≠ .leaf) ∧ rL u ≤ rL w ∧ (¬ rBd w → ¬ rBd u) ∧ (crL u = -5 ∨ crL u = crL w) ∧ (rSg u → rSg w)
theorem TDr_refl (w : Rw) : TDr w w := fun h1 h2 => ⟨h1, h2, fun _ _ _ h => h, fun h => ⟨h, Nat.le_refl _⟩, fun h => h, fun h => h, fun h => h, Nat.le_refl _, fun h => h, Or.inr rfl, fun h => h⟩
theorem TDr_trans {a b c : Rw} (h1 : TDr a b) (h2 : TDr b c) : TDr a c := fun g1 g2 => by
  obtain ⟨a1, a2, a3, a4, a5, a6, a7, a8, a9, a10, a11⟩ := h1 g1 g2
  obtain ⟨b1, b2, b3, b4, b5, b6, b7, b8, b9, b10, b11⟩ := h2 a1 a2
  refine ⟨b1, b2, fun L V f h => b3 L V f (a3 L V f h), fun h => ⟨(b4 (a4 h).1).1, Nat.le_trans (b4 (a4 h).1).2 (a4 h).2⟩, fun h => b5 (a5 h), fun h => b6 (a6 h), fun h => b7 (a7 h), Nat.le_trans b8 a8, fun h => b9 (a9 h), ?_, fun h => a11 (b11 h)⟩
  rcases b10 with h | h
  · exact Or.inl h
  · rw [h]; exact a10
theorem rPl_app : ∀ (m : Nat) (w x : Rw), rPl x → rPl (rpre m w x)
  | 0, _, _, h => h
  | _ + 1, .leaf, _, h => h
  | m + 1, .inner _ _ _ _ r, x, h => Or.inr (rPl_app m r x h)
theorem rNO_app : ∀ (m : Nat) (w x : Rw), rNO w → rNO x → rNO (rpre m w x)
  | 0, _, _, _, h => h
  | _ + 1, .leaf, _, _, h => h
  | m + 1, .inner _ _ _ _ r, x, h1, h => ⟨h1.1, rNO_app m r x h1.2 h⟩
theorem rNO_drop : ∀ (m : Nat) (w : Rw), rNO w → rNO (rdrop m w)
  | 0, _, h => h
  | _ + 1, .leaf, h => h
  | m + 1, .inner _ _ _ _ r, h => rNO_drop m r h.2
theorem pre_firm : ∀ (m n : Nat) (w : Rw), m < n → hfirm (rdrop m w) → rPl (rpre n w .leaf)
  | _, 0, _, h, _ => absurd h (Nat.not_lt_zero _)
  | 0, _ + 1, .leaf, _, h => h.elim
  | 0, n + 1, .inner _ k _ _ r, _, h => Or.inl (by
    have h : k = 0 ∨ k = 4 := h
    omega)
  | m + 1, _ + 1, .leaf, _, h => h.elim
  | m + 1, n + 1, .inner _ _ _ _ r, hm, h => Or.inr (pre_firm m n r (by omega) h)
theorem seg_alk : ∀ (n : Nat) (x y : Rw), (∀ m : Nat, m < n → halk (rdrop m x) (rdrop m y)) → ralk (rpre n x .leaf) (rpre n y .leaf)
  | 0, _, _, _ => trivial
  | n + 1, x, y, h => by
    have h0 := h 0 (by omega)
    cases x with
    | leaf => exact absurd h0 (by cases y <;> exact fun h => h)
    | inner z k v l r =>
      cases y with
      | leaf => exact absurd h0 (fun h => h)
      | inner z2 k2 v2 l2 r2 => exact ⟨h0, seg_alk n r r2 (fun m hm => h (m + 1) (by omega))⟩
/-- nothing of one item: neither one leaf nor one repeat of one -/
theorem big_no {a : Nat} {w F D : Rw} (ha : a ≤ rI w) (hF : ¬ rSg F) : ¬ rBd (rpre a w (.inner 0 4 (-1) F D)) ∧ crL (rpre a w (.inner 0 4 (-1) F D)) = -5 ∧ ¬ rSg (rpre a w (.inner 0 4 (-1) F D)) := by
  cases a with
  | zero =>
    exact ⟨fun h => hF (rBd_4 (by (first | ((try clear h); (try clear hF); (try clear ha); omega) | omega)) h).2.2, crL_no (by (first | ((try clear h); (try clear hF); (try clear ha); omega) | omega)), rSg_no (by (first | ((try clear h); (try clear hF); (try clear ha); omega) | omega))⟩
  | succ a =>
    cases w with
    | leaf => exact absurd ha (by show ¬ a + 1 ≤ 0; (first | ((try clear hF); (try clear ha); omega) | omega))
    | inner z k v l r =>
      have hne : ∃ (z5 k5 : Nat) (v5 : Int) (l5 r5 : Rw), rpre a r (.inner 0 4 (-1) F D) = .inner z5 k5 v5 l5 r5 := by
        cases a with
        | zero => exact ⟨0, 4, -1, F, D, rfl⟩
        | succ a =>
          cases r with
          | leaf => exact ⟨0, 4, -1, F, D, rfl⟩
          | inner z6 k6 v6 l6 r6 => exact ⟨z6, k6, v6, l6, _, rfl⟩
      obtain ⟨z5, k5, v5, l5, r5, e⟩ := hne
      have e2 : rpre (a + 1) (.inner z k v l r) (.inner 0 4 (-1) F D) = (.inner z k v l (.inner z5 k5 v5 l5 r5) : Rw) := by rw [rpre, e]
      rw [e2]
      exact ⟨fun h => h, rfl, fun h => h⟩
theorem pre_ne {a : Nat} {w F D : Rw} : rpre a w (.inner 0 4 (-1) F D) ≠ .leaf := by
  cases a with
  | zero => exact fun h => by cases h
  | succ a =>
    cases w with
    | leaf => exact fun h => by cases h
    | inner z k v l r => exact fun h => by cases h
/-- a repeat takes in what is beside it, or another one -/
theorem TDr_rtk {w x : Rw} {a k b z : Nat} {v : Int} {l r : Rw} (hk : rdrop k w = .inner z 4 v l r) (ha : a ≤ k) (hb9 : k + 1 ≤ b) (hbI : b ≤ rI w) (hx : ralk x l) (hxW : rWF x) (hcr : rWF w → rAd w → crL l = -5) : TDr w (rtk w a x b) := fun hw hA => by
  have hkI : k < rI w := by (first | ((try clear hcr); (try clear ha); (try clear hk); omega) | omega)
  have hWk := rdrop_WF k w hw
  have hAk := rAd_drop k w hA
  rw [hk] at hWk hAk
  have hcr := hcr hw hA
  have hcx : crL x = -5 := (alk_crL hx).trans hcr
  have hnB : ¬ rBd x := fun h => hAk.1 rfl (alk_Bd hx h)
  have hnS : ¬ rSg x := fun h => by
    obtain ⟨z5, k5, v5, e, h5⟩ := Sg_is h hxW
    rw [e] at hcx hnB hxW
    by_cases h0 : k5 = 0
    · have h9 : (if k5 = 0 then v5 else -5) = -5 := hcx
      rw [if_pos h0] at h9
      have := hxW.2.2.2.2.2.1 (by (first | ((try clear h9); (try clear h5); (try clear h); (try clear hnS); (try clear hnB); (try clear hcx); (try clear hcr); (try clear hAk); (try clear hWk); (try clear hbI); (try clear hb9); (try clear ha); (try clear hk); omega) | omega))
      (first | ((try clear h5); (try clear h); (try clear hnS); (try clear hnB); (try clear hcx); (try clear hcr); (try clear hAk); (try clear hWk); (try clear hbI); (try clear hb9); (try clear ha); (try clear hk); omega) | omega)
    · exact hnB (Or.inl (by unfold isTx; (first | ((try clear h); (try clear hnS); (try clear hnB); (try clear hcx); (try clear hcr); (try clear hAk); (try clear hWk); (try clear hbI); (try clear hb9); (try clear ha); (try clear hk); omega) | omega)))
  obtain ⟨g1, g2, g3⟩ := big_no (a := a) (w := w) (F := x) (D := rdrop b w) (by (first | ((try clear g3); (try clear g2); (try clear g1); (try clear hnS); (try clear hnB); (try clear hcx); (try clear hcr); (try clear hAk); (try clear hWk); (try clear hbI); (try clear hb9); (try clear hk); omega) | omega)) hnS
  have hxne : x ≠ .leaf := ralk_ne hx (hWk.2.2.1 (by (first | ((try clear hxne); (try clear g3); (try clear g2); (try clear g1); (try clear hnS); (try clear hnB); (try clear hcx); (try clear hcr); (try clear hAk); (try clear hWk); (try clear hbI); (try clear hb9); (try clear ha); (try clear hk); omega) | omega)))
  obtain ⟨p1, p2, p3⟩ := row_cut a w
  obtain ⟨q1, q2, q3⟩ := row_cut (k - a) (rdrop a w)
  have ek : rdrop (k - a) (rdrop a w) = .inner z 4 v l r := by rw [← rdrop_add, show a + (k - a) = k by (first | ((try clear ek); (try clear q3); (try clear q2); (try clear p3); (try clear p2); (try clear p1); (try clear hxne); (try clear g3); (try clear g2); (try clear g1); (try clear hnS); (try clear hnB); (try clear hcx); (try clear hcr); (try clear hAk); (try clear hWk); (try clear hbI); (try clear hb9); (try clear hk); omega) | omega)]; exact hk
  rw [ek] at q1 q2
  have er : r = rdrop (k + 1) w := (rdrop_S hk).symm
  obtain ⟨s1, s2, s3⟩ := row_cut (b - (k + 1)) r
  have eb : rdrop (b - (k + 1)) r = rdrop b w := by rw [er, ← rdrop_add, show k + 1 + (b - (k + 1)) = b by (first | ((try clear eb); (try clear s3); (try clear s2); (try clear s1); (try clear er); (try clear ek); (try clear q3); (try clear q2); (try clear p3); (try clear p2); (try clear p1); (try clear hxne); (try clear g3); (try clear g2); (try clear g1); (try clear hnS); (try clear hnB); (try clear hcx); (try clear hcr); (try clear hAk); (try clear hWk); (try clear hbI); (try clear ha); (try clear hk); omega) | omega)]
  rw [eb] at s1 s2
  have hWD := rdrop_WF b w hw
  unfold rtk
  refine ⟨rpre_WF _ _ _ hw ⟨by (first | ((try clear hWD); (try clear eb); (try clear s3); (try clear s2); (try clear s1); (try clear er); (try clear ek); (try clear q3); (try clear q2); (try clear p3); (try clear p2); (try clear p1); (try clear hxne); (try clear g3); (try clear g2); (try clear g1); (try clear hnS); (try clear hnB); (try clear hcx); (try clear hcr); (try clear hAk); (try clear hWk); (try clear hbI); (try clear hb9); (try clear ha); (try clear hk); omega) | omega), fun h => by (first | ((try clear hWD); (try clear eb); (try clear s3); (try clear s2); (try clear s1); (try clear er); (try clear ek); (try clear q3); (try clear q2); (try clear p3); (try clear p2); (try clear p1); (try clear hxne); (try clear g3); (try clear g2); (try clear g1); (try clear hnS); (try clear hnB); (try clear hcx); (try clear hcr); (try clear hAk); (try clear hWk); (try clear hbI); (try clear hb9); (try clear ha); (try clear hk); omega) | omega), fun _ => hxne, by (first | ((try clear h); (try clear hWD); (try clear eb); (try clear s3); (try clear s2); (try clear s1); (try clear er); (try clear ek); (try clear q3); (try clear q2); (try clear p3); (try clear p2); (try clear p1); (try clear hxne); (try clear g3); (try clear g2); (try clear g1); (try clear hnS); (try clear hnB); (try clear hcx); (try clear hcr); (try clear hAk); (try clear hWk); (try clear hbI); (try clear hb9); (try clear ha); (try clear hk); omega) | omega), by (first | ((try clear h); (try clear hWD); (try clear eb); (try clear s3); (try clear s2); (try clear s1); (try clear er); (try clear ek); (try clear q3); (try clear q2); (try clear p3); (try clear p2); (try clear p1); (try clear hxne); (try clear g3); (try clear g2); (try clear g1); (try clear hnS); (try clear hnB); (try clear hcx); (try clear hcr); (try clear hAk); (try clear hWk); (try clear hbI); (try clear hb9); (try clear ha); (try clear hk); omega) | omega), fun h => by (first | ((try clear hWD); (try clear eb); (try clear s3); (try clear s2); (try clear s1); (try clear er); (try clear ek); (try clear q3); (try clear q2); (try clear p3); (try clear p2); (try clear p1); (try clear hxne); (try clear g3); (try clear g2); (try clear g1); (try clear hnS); (try clear hnB); (try clear hcx); (try clear hcr); (try clear hAk); (try clear hWk); (try clear hbI); (try clear hb9); (try clear ha); (try clear hk); omega) | omega), hxW, hWD⟩, rAd_join a w _ (by (first | ((try clear hWD); (try clear eb); (try clear s3); (try clear s2); (try clear s1); (try clear er); (try clear ek); (try clear q3); (try clear q2); (try clear p3); (try clear p2); (try clear p1); (try clear hxne); (try clear g3); (try clear g2); (try clear g1); (try clear hnS); (try clear hnB); (try clear hcx); (try clear hcr); (try clear hAk); (try clear hWk); (try clear hbI); (try clear hb9); (try clear hk); omega) | omega)) (rAd_pre a w hA) ⟨fun _ => hnB, fun h9 => ?_, rAd_alk _ _ hx hxW hAk.2.2.1, rAd_drop b w hA⟩ (fun n0 z5 k5 v5 l5 r5 _ _ h9 h8 => ?_), fun L V f h => ?_, fun h => ⟨rpre_Pg _ _ _ h ⟨by (first | ((try clear h); (try clear f); (try clear V); (try clear L); (try clear h8); (try clear h9); (try clear r5); (try clear l5); (try clear v5); (try clear k5); (try clear z5); (try clear n0); (try clear hWD); (try clear eb); (try clear s3); (try clear s2); (try clear s1); (try clear er); (try clear ek); (try clear q3); (try clear q2); (try clear p3); (try clear p2); (try clear p1); (try clear hxne); (try clear g3); (try clear g2); (try clear g1); (try clear hnS); (try clear hnB); (try clear hcx); (try clear hcr); (try clear hAk); (try clear hWk); (try clear hbI); (try clear hb9); (try clear ha); (try clear hk); omega) | omega), ?_, rdrop_Pg _ _ h⟩, ?_⟩, fun _ => rPl_app _ _ _ (Or.inl (by (first | ((try clear h); (try clear f); (try clear V); (try clear L); (try clear h8); (try clear h9); (try clear r5); (try clear l5); (try clear v5); (try clear k5); (try clear z5); (try clear n0); (try clear hWD); (try clear eb); (try clear s3); (try clear s2); (try clear s1); (try clear er); (try clear ek); (try clear q3); (try clear q2); (try clear p3); (try clear p2); (try clear p1); (try clear hxne); (try clear g3); (try clear g2); (try clear g1); (try clear hnS); (try clear hnB); (try clear hcx); (try clear hcr); (try clear hAk); (try clear hWk); (try clear hbI); (try clear hb9); (try clear ha); (try clear hk); omega) | omega))), fun h => rNO_app _ _ _ h ⟨by (first | ((try clear h); (try clear f); (try clear V); (try clear L); (try clear h8); (try clear h9); (try clear r5); (try clear l5); (try clear v5); (try clear k5); (try clear z5); (try clear n0); (try clear hWD); (try clear eb); (try clear s3); (try clear s2); (try clear s1); (try clear er); (try clear ek); (try clear q3); (try clear q2); (try clear p3); (try clear p2); (try clear p1); (try clear hxne); (try clear g3); (try clear g2); (try clear g1); (try clear hnS); (try clear hnB); (try clear hcx); (try clear hcr); (try clear hAk); (try clear hWk); (try clear hbI); (try clear hb9); (try clear ha); (try clear hk); omega) | omega), rNO_drop _ _ h⟩, fun _ => pre_ne, ?_, fun _ => g1, Or.inl g2, fun h => absurd h g3⟩
  · have e9 : crI 4 (-1) x = -5 := hcx
    rw [e9] at h9
    exact absurd h9 (by decide)
  · have e9 : crH (Std.DTreeMap.Internal.Impl.inner 0 4 (-1) x (rdrop b w) : Rw) = -5 := hcx
    rw [e9] at h8
    (first | ((try clear h); (try clear f); (try clear V); (try clear L); (try clear r5); (try clear z5); (try clear hWD); (try clear eb); (try clear s3); (try clear s2); (try clear s1); (try clear er); (try clear ek); (try clear q3); (try clear q2); (try clear p3); (try clear p2); (try clear p1); (try clear hxne); (try clear g3); (try clear g2); (try clear g1); (try clear hnS); (try clear hnB); (try clear hcx); (try clear hcr); (try clear hAk); (try clear hWk); (try clear hbI); (try clear hb9); (try clear ha); (try clear hk); omega) | omega)
  · obtain ⟨fa, fb, c1, c2, c3⟩ := PL_cut a w (by (first | ((try clear c3); (try clear c2); (try clear c1); (try clear fb); (try clear fa); (try clear h); (try clear f); (try clear V); (try clear L); (try clear h8); (try clear h9); (try clear r5); (try clear l5); (try clear v5); (try clear k5); (try clear z5); (try clear n0); (try clear hWD); (try clear eb); (try clear s3); (try clear s2); (try clear s1); (try clear er); (try clear ek); (try clear q3); (try clear q2); (try clear p3); (try clear p2); (try clear p1); (try clear hxne); (try clear g3); (try clear g2); (try clear g1); (try clear hnS); (try clear hnB); (try clear hcx); (try clear hcr); (try clear hAk); (try clear hWk); (try clear hbI); (try clear hb9); (try clear hk); omega) | omega)) h
    obtain ⟨fc, fd, d1, d2, d3⟩ := PL_cut (k - a) (rdrop a w) (by rw [rdrop_I]; (first | ((try clear d3); (try clear d2); (try clear d1); (try clear fd); (try clear fc); (try clear c3); (try clear c2); (try clear c1); (try clear fb); (try clear fa); (try clear h); (try clear f); (try clear V); (try clear L); (try clear h8); (try clear h9); (try clear r5); (try clear l5); (try clear v5); (try clear k5); (try clear z5); (try clear n0); (try clear hWD); (try clear eb); (try clear s3); (try clear s2); (try clear s1); (try clear er); (try clear ek); (try clear q3); (try clear q2); (try clear p3); (try clear p2); (try clear p1); (try clear hxne); (try clear g3); (try clear g2); (try clear g1); (try clear hnS); (try clear hnB); (try clear hcx); (try clear hcr); (try clear hAk); (try clear hWk); (try clear hbI); (try clear hb9); (try clear hk); omega) | omega)) c3
    rw [ek] at d3
    obtain ⟨f1, f2, e1, e2, e3⟩ := d3
    obtain ⟨fe, ff, i1, i2, i3⟩ := PL_cut (b - (k + 1)) r (by rw [er, rdrop_I]; (first | ((try clear i3); (try clear i2); (try clear i1); (try clear ff); (try clear fe); (try clear e3); (try clear e2); (try clear e1); (try clear f2); (try clear f1); (try clear d3); (try clear d2); (try clear d1); (try clear fd); (try clear fc); (try clear c3); (try clear c2); (try clear c1); (try clear fb); (try clear fa); (try clear h); (try clear f); (try clear V); (try clear L); (try clear h8); (try clear h9); (try clear r5); (try clear l5); (try clear v5); (try clear k5); (try clear z5); (try clear n0); (try clear hWD); (try clear eb); (try clear s3); (try clear s2); (try clear s1); (try clear er); (try clear ek); (try clear q3); (try clear q2); (try clear p3); (try clear p2); (try clear p1); (try clear hxne); (try clear g3); (try clear g2); (try clear g1); (try clear hnS); (try clear hnB); (try clear hcx); (try clear hcr); (try clear hAk); (try clear hWk); (try clear ha); (try clear hk); omega) | omega)) e2
    rw [eb] at i3
    rcases e3 with ⟨j, _⟩ | ⟨j, _⟩ | ⟨j, _⟩ | ⟨_, j, T, h1, h2, V2, h3, h4, h5, h6⟩
    · (first | ((try clear h6); (try clear h5); (try clear h4); (try clear h3); (try clear V2); (try clear h2); (try clear h1); (try clear i3); (try clear i2); (try clear i1); (try clear ff); (try clear fe); (try clear e3); (try clear e2); (try clear e1); (try clear f2); (try clear f1); (try clear d3); (try clear d2); (try clear d1); (try clear fd); (try clear fc); (try clear c3); (try clear c2); (try clear c1); (try clear fb); (try clear fa); (try clear h); (try clear f); (try clear V); (try clear L); (try clear h8); (try clear h9); (try clear r5); (try clear l5); (try clear v5); (try clear k5); (try clear z5); (try clear n0); (try clear hWD); (try clear eb); (try clear s3); (try clear s2); (try clear s1); (try clear er); (try clear ek); (try clear q3); (try clear q2); (try clear p3); (try clear p2); (try clear p1); (try clear hxne); (try clear g3); (try clear g2); (try clear g1); (try clear hnS); (try clear hnB); (try clear hcx); (try clear hcr); (try clear hAk); (try clear hWk); (try clear hbI); (try clear hb9); (try clear ha); (try clear hk); omega) | omega)
    · (first | ((try clear h6); (try clear h5); (try clear h4); (try clear h3); (try clear V2); (try clear h2); (try clear h1); (try clear i3); (try clear i2); (try clear i1); (try clear ff); (try clear fe); (try clear e3); (try clear e2); (try clear e1); (try clear f2); (try clear f1); (try clear d3); (try clear d2); (try clear d1); (try clear fd); (try clear fc); (try clear c3); (try clear c2); (try clear c1); (try clear fb); (try clear fa); (try clear h); (try clear f); (try clear V); (try clear L); (try clear h8); (try clear h9); (try clear r5); (try clear l5); (try clear v5); (try clear k5); (try clear z5); (try clear n0); (try clear hWD); (try clear eb); (try clear s3); (try clear s2); (try clear s1); (try clear er); (try clear ek); (try clear q3); (try clear q2); (try clear p3); (try clear p2); (try clear p1); (try clear hxne); (try clear g3); (try clear g2); (try clear g1); (try clear hnS); (try clear hnB); (try clear hcx); (try clear hcr); (try clear hAk); (try clear hWk); (try clear hbI); (try clear hb9); (try clear ha); (try clear hk); omega) | omega)
    · (first | ((try clear h6); (try clear h5); (try clear h4); (try clear h3); (try clear V2); (try clear h2); (try clear h1); (try clear i3); (try clear i2); (try clear i1); (try clear ff); (try clear fe); (try clear e3); (try clear e2); (try clear e1); (try clear f2); (try clear f1); (try clear d3); (try clear d2); (try clear d1); (try clear fd); (try clear fc); (try clear c3); (try clear c2); (try clear c1); (try clear fb); (try clear fa); (try clear h); (try clear f); (try clear V); (try clear L); (try clear h8); (try clear h9); (try clear r5); (try clear l5); (try clear v5); (try clear k5); (try clear z5); (try clear n0); (try clear hWD); (try clear eb); (try clear s3); (try clear s2); (try clear s1); (try clear er); (try clear ek); (try clear q3); (try clear q2); (try clear p3); (try clear p2); (try clear p1); (try clear hxne); (try clear g3); (try clear g2); (try clear g1); (try clear hnS); (try clear hnB); (try clear hcx); (try clear hcr); (try clear hAk); (try clear hWk); (try clear hbI); (try clear hb9); (try clear ha); (try clear hk); omega) | omega)
    · refine PL_app a w _ (fa := fa) (fb := fun e => f1 e + ff e) (by (first | ((try clear h6); (try clear h5); (try clear h4); (try clear h3); (try clear V2); (try clear h2); (try clear h1); (try clear j); (try clear i3); (try clear i2); (try clear i1); (try clear ff); (try clear fe); (try clear e3); (try clear e2); (try clear e1); (try clear f2); (try clear f1); (try clear d3); (try clear d2); (try clear d1); (try clear fd); (try clear fc); (try clear c3); (try clear c2); (try clear c1); (try clear fb); (try clear fa); (try clear h); (try clear f); (try clear V); (try clear L); (try clear h8); (try clear h9); (try clear r5); (try clear l5); (try clear v5); (try clear k5); (try clear z5); (try clear n0); (try clear hWD); (try clear eb); (try clear s3); (try clear s2); (try clear s1); (try clear er); (try clear ek); (try clear q3); (try clear q2); (try clear p3); (try clear p2); (try clear p1); (try clear hxne); (try clear g3); (try clear g2); (try clear g1); (try clear hnS); (try clear hnB); (try clear hcx); (try clear hcr); (try clear hAk); (try clear hWk); (try clear hbI); (try clear hb9); (try clear hk); omega) | omega)) c2 ⟨f1, ff, fun e _ => Nat.le_refl _, i3, Or.inr (Or.inr (Or.inr ⟨rfl, alk_Pl _ _ hx j, T, h1, h2, V2, h3, PL_alk _ _ hx hxW h4, PL_alk _ _ hx hxW h5, h6⟩))⟩ (fun e he => ?_)
      have x1 := c1 e he
      have x2 := d1 e he
      have x3 := e1 e he
      have x4 := i1 e he
      show fa e + (f1 e + ff e) ≤ f e
      (first | ((try clear he); (try clear h6); (try clear h5); (try clear h4); (try clear h3); (try clear V2); (try clear h2); (try clear h1); (try clear j); (try clear i3); (try clear i2); (try clear i1); (try clear e3); (try clear e2); (try clear e1); (try clear d3); (try clear d2); (try clear d1); (try clear c3); (try clear c2); (try clear c1); (try clear h); (try clear V); (try clear h8); (try clear h9); (try clear r5); (try clear l5); (try clear v5); (try clear k5); (try clear z5); (try clear n0); (try clear hWD); (try clear eb); (try clear s3); (try clear s2); (try clear s1); (try clear er); (try clear ek); (try clear q3); (try clear q2); (try clear p3); (try clear p2); (try clear p1); (try clear hxne); (try clear g3); (try clear g2); (try clear g1); (try clear hnS); (try clear hnB); (try clear hcx); (try clear hcr); (try clear hAk); (try clear hWk); (try clear hbI); (try clear hb9); (try clear ha); (try clear hk); omega) | omega)
  · have h9 := rdrop_Pg k w h
    rw [hk] at h9
    exact alk_Pg _ _ hx hxW h9.2.1
  · have t1 := rpre_T a w (.inner 0 4 (-1) x (rdrop b w))
    have t2 := rpre_T (k - a) (rdrop a w) .leaf
    rw [ek] at t2
    have t3 := rpre_T (b - (k + 1)) r .leaf
    rw [eb] at t3
    rw [rT_ge (by (first | ((try clear t3); (try clear t2); (try clear t1); (try clear h); (try clear f); (try clear V); (try clear L); (try clear h8); (try clear h9); (try clear r5); (try clear l5); (try clear v5); (try clear k5); (try clear z5); (try clear n0); (try clear hWD); (try clear eb); (try clear s3); (try clear s2); (try clear s1); (try clear er); (try clear ek); (try clear q3); (try clear q2); (try clear p3); (try clear p2); (try clear p1); (try clear hxne); (try clear g3); (try clear g2); (try clear g1); (try clear hnS); (try clear hnB); (try clear hcx); (try clear hcr); (try clear hAk); (try clear hWk); (try clear hbI); (try clear hb9); (try clear ha); (try clear hk); omega) | omega)), ralk_T _ _ hx] at t1
    rw [rT_ge (by (first | ((try clear t3); (try clear t2); (try clear t1); (try clear h); (try clear f); (try clear V); (try clear L); (try clear h8); (try clear h9); (try clear r5); (try clear l5); (try clear v5); (try clear k5); (try clear z5); (try clear n0); (try clear hWD); (try clear eb); (try clear s3); (try clear s2); (try clear s1); (try clear er); (try clear ek); (try clear q3); (try clear q2); (try clear p3); (try clear p2); (try clear p1); (try clear hxne); (try clear g3); (try clear g2); (try clear g1); (try clear hnS); (try clear hnB); (try clear hcx); (try clear hcr); (try clear hAk); (try clear hWk); (try clear hbI); (try clear hb9); (try clear ha); (try clear hk); omega) | omega))] at t2
    have e0 : rT (Std.DTreeMap.Internal.Impl.leaf : Rw) = 0 := rfl
    (first | ((try clear h); (try clear f); (try clear V); (try clear L); (try clear h8); (try clear h9); (try clear r5); (try clear l5); (try clear v5); (try clear k5); (try clear z5); (try clear n0); (try clear hWD); (try clear eb); (try clear s3); (try clear s2); (try clear s1); (try clear er); (try clear ek); (try clear q3); (try clear q2); (try clear p3); (try clear p2); (try clear p1); (try clear hxne); (try clear g3); (try clear g2); (try clear g1); (try clear hnS); (try clear hnB); (try clear hcx); (try clear hcr); (try clear hAk); (try clear hWk); (try clear hbI); (try clear hb9); (try clear ha); (try clear hk); omega) | omega)
  · obtain ⟨y1, y2, y3⟩ := row_cut a w
    have hl : ∀ (m : Nat) (y X : Rw), rL (rpre m y X) = rL (rpre m y .leaf) + rL X := by
      intro m
      induction m with
      | zero => intro y X; exact (Nat.zero_add _).symm
      | succ m ih =>
        intro y X
        cases y with
        | leaf => exact (Nat.zero_add _).symm
        | inner z6 k6 v6 l6 r6 =>
          have e6 : ∀ x : Rw, rL (Std.DTreeMap.Internal.Impl.inner z6 k6 v6 l6 x : Rw) = (if k6 < 3 then 1 else 0) + rL l6 + rL x := fun _ => rfl
          rw [rpre, rpre, e6, e6, ih r6 X]; (first | ((try clear e6); (try clear v6); (try clear z6); (try clear y3); (try clear y2); (try clear y1); (try clear h); (try clear f); (try clear V); (try clear L); (try clear h8); (try clear h9); (try clear r5); (try clear l5); (try clear v5); (try clear k5); (try clear z5); (try clear n0); (try clear hWD); (try clear eb); (try clear s3); (try clear s2); (try clear s1); (try clear er); (try clear ek); (try clear q3); (try clear q2); (try clear p3); (try clear p2); (try clear p1); (try clear hxne); (try clear g3); (try clear g2); (try clear g1); (try clear hnS); (try clear hnB); (try clear hcx); (try clear hcr); (try clear hAk); (try clear hWk); (try clear hbI); (try clear hb9); (try clear ha); (try clear hk); omega) | omega)
    rw [hl, rL_ge (by (first | ((try clear y3); (try clear y2); (try clear y1); (try clear h); (try clear f); (try clear V); (try clear L); (try clear h8); (try clear h9); (try clear r5); (try clear l5); (try clear v5); (try clear k5); (try clear z5); (try clear n0); (try clear hWD); (try clear eb); (try clear s3); (try clear s2); (try clear s1); (try clear er); (try clear ek); (try clear q3); (try clear q2); (try clear p3); (try clear p2); (try clear p1); (try clear hxne); (try clear g3); (try clear g2); (try clear g1); (try clear hnS); (try clear hnB); (try clear hcx); (try clear hcr); (try clear hAk); (try clear hWk); (try clear hbI); (try clear hb9); (try clear ha); (try clear hk); omega) | omega)), (alk_N _ _ hx hxW hWk.2.2.2.2.2.2.1).2]
    rw [rL_ge (by (first | ((try clear y3); (try clear y2); (try clear y1); (try clear h); (try clear f); (try clear V); (try clear L); (try clear h8); (try clear h9); (try clear r5); (try clear l5); (try clear v5); (try clear k5); (try clear z5); (try clear n0); (try clear hWD); (try clear eb); (try clear s3); (try clear s2); (try clear s1); (try clear er); (try clear ek); (try clear q3); (try clear q2); (try clear p3); (try clear p2); (try clear p1); (try clear hxne); (try clear g3); (try clear g2); (try clear g1); (try clear hnS); (try clear hnB); (try clear hcx); (try clear hcr); (try clear hAk); (try clear hWk); (try clear hbI); (try clear hb9); (try clear ha); (try clear hk); omega) | omega))] at q2
    (first | ((try clear y3); (try clear y2); (try clear y1); (try clear h); (try clear f); (try clear V); (try clear L); (try clear h8); (try clear h9); (try clear r5); (try clear l5); (try clear v5); (try clear k5); (try clear z5); (try clear n0); (try clear hWD); (try clear eb); (try clear s3); (try clear s1); (try clear er); (try clear ek); (try clear q3); (try clear p3); (try clear p1); (try clear hxne); (try clear g3); (try clear g2); (try clear g1); (try clear hnS); (try clear hnB); (try clear hcx); (try clear hcr); (try clear hAk); (try clear hWk); (try clear hbI); (try clear hb9); (try clear ha); (try clear hk); omega) | omega)
/-- a fold -/
theorem TDr_put {w : Rw} {a n1 n : Nat} (hf : isFold w a n1 n) : TDr w (rput w a n1 n) := fun hwf hA => by
  have hf0 := hf
  obtain ⟨g1, g2, g3, g4, mf, g5, g6⟩ := hf
  have g7 : 2 * n1 ≤ n * n1 := Nat.mul_le_mul_right _ g2
  have hF := frow_alk (n := n) (by omega) hwf g4 (by omega) n1 0 (by omega)
  have hFW := frow_WF (n := n) (by omega) hwf g4 n1 0 (by omega)
  have hw8 := rput_WF hwf hf0
  have hT8 := rput_T hwf hf0
  have hpg8 : rPg w → rPg (rput w a n1 n) := fun h => rput_Pg h
  rw [Nat.add_zero] at hF
  unfold rput at hw8 hT8 hpg8 ⊢
  generalize frow w a n1 n 0 n1 = F at hF hFW hw8 hT8 hpg8 ⊢
  -- the first copy is not one tag, nor one repeat of one token
  have hP : crL (rpre n1 (rdrop a w) .leaf) = -5 ∧ ¬ rBd (rpre n1 (rdrop a w) .leaf) ∧ ¬ rSg (rpre n1 (rdrop a w) .leaf) := by
    by_cases h1 : n1 = 1
    · subst h1
      obtain rfl : mf = 0 := by (first | ((try clear h1); omega) | omega)
      obtain ⟨z, k, v, l, r, e⟩ := rI_pos (w := rdrop a w) (by rw [rdrop_I]; (first | ((try clear r); (try clear v); (try clear k); (try clear z); (try clear h1); omega) | omega))
      have hqa := rAd_drop a w hA
      have hwa := rdrop_WF a w hwf
      rw [Nat.add_zero, e] at g6
      have g6 : k = 0 ∨ k = 4 := g6
      have er := rdrop_S e
      have ha1 := g4 1 0 (by (first | ((try clear ha1); (try clear er); (try clear g6); (try clear hwa); (try clear hqa); (try clear r); (try clear v); (try clear k); (try clear z); (try clear h1); omega) | omega)) (by (first | ((try clear ha1); (try clear er); (try clear g6); (try clear hwa); (try clear hqa); (try clear r); (try clear v); (try clear k); (try clear z); (try clear h1); omega) | omega)) (by (first | ((try clear ha1); (try clear er); (try clear g6); (try clear hwa); (try clear hqa); (try clear r); (try clear v); (try clear k); (try clear z); (try clear h1); omega) | omega))
      rw [show a + 0 = a by (first | ((try clear ha1); (try clear er); (try clear g6); (try clear hwa); (try clear hqa); (try clear r); (try clear v); (try clear k); (try clear z); (try clear h1); omega) | omega), show a + 1 * 1 + 0 = a + 1 by (first | ((try clear ha1); (try clear er); (try clear g6); (try clear hwa); (try clear hqa); (try clear r); (try clear v); (try clear k); (try clear z); (try clear h1); omega) | omega), e, er] at ha1
      rw [e] at hqa hwa ⊢
      obtain ⟨z2, k2, v2, l2, r2, rfl⟩ := rI_pos (w := r) (by
        have h9 := rdrop_I (a + 1) w
        rw [er] at h9
        (first | ((try clear r2); (try clear l2); (try clear v2); (try clear k2); (try clear z2); (try clear ha1); (try clear er); (try clear g6); (try clear hwa); (try clear hqa); (try clear v); (try clear k); (try clear z); (try clear h1); omega) | omega))
      have ha1 : ialk k v l k2 v2 l2 := ha1
      have hcr : crI k v l = crI k2 v2 l2 := alk_crI ha1
      have hno : ¬ 0 ≤ crI k v l := fun h => hqa.2.1 h hcr
      have hk4 : k = 4 := by
        rcases g6 with h | h
        · exfalso
          refine hno ?_
          unfold crI
          rw [if_pos h]
          exact hwa.2.2.2.2.2.1 (by (first | ((try clear hk4); (try clear hno); (try clear hcr); (try clear r2); (try clear z2); (try clear ha1); (try clear er); (try clear g6); (try clear hwa); (try clear hqa); (try clear r); (try clear z); (try clear h1); omega) | omega))
        · exact h
      rw [pre_1]
      have hnl : ¬ rSg l := fun h => by
        obtain ⟨z5, k5, v5, e5, h5⟩ := Sg_is h hwa.2.2.2.2.2.2.1
        by_cases h0 : k5 = 0
        · refine hno ?_
          unfold crI
          rw [if_neg (by (first | ((try clear h5); (try clear e5); (try clear v5); (try clear z5); (try clear h); (try clear hnl); (try clear hno); (try clear hcr); (try clear r2); (try clear z2); (try clear ha1); (try clear er); (try clear g6); (try clear hwa); (try clear hqa); (try clear r); (try clear z); (try clear h1); omega) | omega)), if_pos hk4, e5]
          show 0 ≤ (if k5 = 0 then v5 else -5)
          rw [if_pos h0]
          have h9 := hwa.2.2.2.2.2.2.1
          rw [e5] at h9
          exact h9.2.2.2.2.2.1 (by (first | ((try clear h9); (try clear h5); (try clear e5); (try clear v5); (try clear z5); (try clear h); (try clear hnl); (try clear hk4); (try clear hno); (try clear hcr); (try clear r2); (try clear z2); (try clear ha1); (try clear er); (try clear g6); (try clear hwa); (try clear hqa); (try clear r); (try clear z); (try clear h1); omega) | omega))
        · refine hqa.1 hk4 ?_
          rw [e5]
          exact Or.inl (by unfold isTx; (first | ((try clear e5); (try clear v5); (try clear z5); (try clear h); (try clear hnl); (try clear hk4); (try clear hno); (try clear hcr); (try clear r2); (try clear z2); (try clear ha1); (try clear er); (try clear g6); (try clear hwa); (try clear hqa); (try clear r); (try clear z); (try clear h1); omega) | omega))
      refine ⟨?_, fun h => ?_, fun h => ?_⟩
      · show (if k = 0 then v else -5) = -5
        rw [if_neg (by (first | ((try clear h); (try clear hnl); (try clear hno); (try clear hcr); (try clear r2); (try clear z2); (try clear ha1); (try clear er); (try clear g6); (try clear hwa); (try clear hqa); (try clear r); (try clear z); (try clear h1); omega) | omega))]
      · have h : isTx k ∨ (k = 4 ∧ rSg l) := h
        rcases h with h | h
        · unfold isTx at h; (first | ((try clear hnl); (try clear hno); (try clear hcr); (try clear r2); (try clear z2); (try clear ha1); (try clear er); (try clear g6); (try clear hwa); (try clear hqa); (try clear r); (try clear z); (try clear h1); omega) | omega)
        · exact hnl h.2
      · have h : k < 3 := h
        (first | ((try clear hnl); (try clear hno); (try clear hcr); (try clear r2); (try clear z2); (try clear ha1); (try clear er); (try clear g6); (try clear hwa); (try clear hqa); (try clear r); (try clear z); (try clear h1); omega) | omega)
    · obtain ⟨y1, y2, y3, y4, y5, y6, y7, y8, y9, ey⟩ := pre_2 (w := rdrop a w) (m := n1) (by (first | ((try clear ey); (try clear y8); (try clear y7); (try clear y6); (try clear y5); (try clear y4); (try clear y3); (try clear y2); (try clear y1); omega) | omega)) (by rw [rdrop_I]; (first | ((try clear ey); (try clear y8); (try clear y7); (try clear y6); (try clear y5); (try clear y4); (try clear y3); (try clear y2); (try clear y1); (try clear h1); omega) | omega))
      rw [ey]
      exact ⟨rfl, fun h => h, fun h => h⟩
  have hcF : crL F = -5 := (alk_crL hF).trans hP.1
  have hnB : ¬ rBd F := fun h => hP.2.1 (alk_Bd hF h)
  have hnS : ¬ rSg F := fun h => hP.2.2 (alk_Sg hF h)
  obtain ⟨x1, x2, x3⟩ := big_no (a := a) (w := w) (F := F) (D := rdrop (a + n * n1) w) (by (first | ((try clear x3); (try clear x2); (try clear x1); (try clear hnS); (try clear hnB); (try clear hcF); omega) | omega)) hnS
  have hseg : ralk (rpre n1 (rdrop a w) .leaf) (rpre n1 (rdrop (a + n1) w) .leaf) := seg_alk n1 _ _ (fun m hm => by
    have h9 := g4 1 m (by (first | ((try clear h9); (try clear hm); (try clear x3); (try clear x2); (try clear x1); (try clear hnS); (try clear hnB); (try clear hcF); omega) | omega)) (by (first | ((try clear h9); (try clear hm); (try clear x3); (try clear x2); (try clear x1); (try clear hnS); (try clear hnB); (try clear hcF); omega) | omega)) hm
    rw [Nat.one_mul] at h9
    rw [← rdrop_add, ← rdrop_add]
    exact h9)
  have hF2 := ralk_trans _ _ _ hF hseg
  refine ⟨hw8, rAd_join a w _ (by (first | ((try clear hF2); (try clear x3); (try clear x2); (try clear x1); (try clear hnS); (try clear hnB); (try clear hcF); omega) | omega)) (rAd_pre a w hA) ⟨fun _ => hnB, fun h9 => ?_, rAd_alk _ _ hF hFW (rAd_pre n1 _ (rAd_drop a w hA)), rAd_drop _ w hA⟩ (fun n0 z5 k5 v5 l5 r5 _ _ h9 h8 => ?_), fun L V f h => ?_, fun h => ⟨hpg8 h, hT8⟩, fun _ => rPl_app _ _ _ (Or.inl (by (first | ((try clear h); (try clear f); (try clear V); (try clear L); (try clear h8); (try clear h9); (try clear r5); (try clear l5); (try clear v5); (try clear k5); (try clear z5); (try clear n0); (try clear hF2); (try clear x3); (try clear x2); (try clear x1); (try clear hnS); (try clear hnB); (try clear hcF); omega) | omega))), fun h => rNO_app _ _ _ h ⟨by (first | ((try clear h); (try clear f); (try clear V); (try clear L); (try clear h8); (try clear h9); (try clear r5); (try clear l5); (try clear v5); (try clear k5); (try clear z5); (try clear n0); (try clear hF2); (try clear x3); (try clear x2); (try clear x1); (try clear hnS); (try clear hnB); (try clear hcF); omega) | omega), rNO_drop _ _ h⟩, fun _ => pre_ne, ?_, fun _ => x1, Or.inl x2, fun h => absurd h x3⟩
  · have e9 : crI 4 (-1) F = -5 := hcF
    rw [e9] at h9
    exact absurd h9 (by decide)
  · have e9 : crH (Std.DTreeMap.Internal.Impl.inner 0 4 (-1) F (rdrop (a + n * n1) w) : Rw) = -5 := hcF
    rw [e9] at h8
    (first | ((try clear h); (try clear f); (try clear V); (try clear L); (try clear r5); (try clear z5); (try clear hF2); (try clear x3); (try clear x2); (try clear x1); (try clear hnS); (try clear hnB); (try clear hcF); omega) | omega)
  · obtain ⟨fa, fb, c1, c2, c3⟩ := PL_cut a w (by (first | ((try clear c3); (try clear c2); (try clear c1); (try clear fb); (try clear fa); (try clear h); (try clear f); (try clear V); (try clear L); (try clear h8); (try clear h9); (try clear r5); (try clear l5); (try clear v5); (try clear k5); (try clear z5); (try clear n0); (try clear hF2); (try clear x3); (try clear x2); (try clear x1); (try clear hnS); (try clear hnB); (try clear hcF); omega) | omega)) h
    obtain ⟨fc, fd, d1, d2, d3⟩ := PL_cut n1 (rdrop a w) (by rw [rdrop_I]; (first | ((try clear d3); (try clear d2); (try clear d1); (try clear fd); (try clear fc); (try clear c3); (try clear c2); (try clear c1); (try clear fb); (try clear fa); (try clear h); (try clear f); (try clear V); (try clear L); (try clear h8); (try clear h9); (try clear r5); (try clear l5); (try clear v5); (try clear k5); (try clear z5); (try clear n0); (try clear hF2); (try clear x3); (try clear x2); (try clear x1); (try clear hnS); (try clear hnB); (try clear hcF); omega) | omega)) c3
    rw [← rdrop_add] at d3
    obtain ⟨fe, ff, e1, e2, e3⟩ := PL_cut n1 (rdrop (a + n1) w) (by rw [rdrop_I]; (first | ((try clear e3); (try clear e2); (try clear e1); (try clear ff); (try clear fe); (try clear d3); (try clear d2); (try clear d1); (try clear fd); (try clear fc); (try clear c3); (try clear c2); (try clear c1); (try clear fb); (try clear fa); (try clear h); (try clear f); (try clear V); (try clear L); (try clear h8); (try clear h9); (try clear r5); (try clear l5); (try clear v5); (try clear k5); (try clear z5); (try clear n0); (try clear hF2); (try clear x3); (try clear x2); (try clear x1); (try clear hnS); (try clear hnB); (try clear hcF); omega) | omega)) d3
    rw [← rdrop_add] at e3
    obtain ⟨fg, fh, i1, i2, i3⟩ := PL_cut (n * n1 - 2 * n1) (rdrop (a + n1 + n1) w) (by rw [rdrop_I]; (first | ((try clear i3); (try clear i2); (try clear i1); (try clear fh); (try clear fg); (try clear e3); (try clear e2); (try clear e1); (try clear ff); (try clear fe); (try clear d3); (try clear d2); (try clear d1); (try clear fd); (try clear fc); (try clear c3); (try clear c2); (try clear c1); (try clear fb); (try clear fa); (try clear h); (try clear f); (try clear V); (try clear L); (try clear h8); (try clear h9); (try clear r5); (try clear l5); (try clear v5); (try clear k5); (try clear z5); (try clear n0); (try clear hF2); (try clear x3); (try clear x2); (try clear x1); (try clear hnS); (try clear hnB); (try clear hcF); omega) | omega)) e3
    rw [← rdrop_add, show a + n1 + n1 + (n * n1 - 2 * n1) = a + n * n1 by (first | ((try clear i3); (try clear i2); (try clear i1); (try clear fh); (try clear fg); (try clear e3); (try clear e2); (try clear e1); (try clear ff); (try clear fe); (try clear d3); (try clear d2); (try clear d1); (try clear fd); (try clear fc); (try clear c3); (try clear c2); (try clear c1); (try clear fb); (try clear fa); (try clear h); (try clear f); (try clear V); (try clear L); (try clear h8); (try clear h9); (try clear r5); (try clear l5); (try clear v5); (try clear k5); (try clear z5); (try clear n0); (try clear hF2); (try clear x3); (try clear x2); (try clear x1); (try clear hnS); (try clear hnB); (try clear hcF); omega) | omega)] at i3
    refine PL_app a w _ (fa := fa) (fb := fun e => fc e + fe e + fh e) (by (first | ((try clear i3); (try clear i2); (try clear i1); (try clear fh); (try clear fg); (try clear e3); (try clear e2); (try clear e1); (try clear ff); (try clear fe); (try clear d3); (try clear d2); (try clear d1); (try clear fd); (try clear fc); (try clear c3); (try clear c2); (try clear c1); (try clear fb); (try clear fa); (try clear h); (try clear f); (try clear V); (try clear L); (try clear h8); (try clear h9); (try clear r5); (try clear l5); (try clear v5); (try clear k5); (try clear z5); (try clear n0); (try clear hF2); (try clear x3); (try clear x2); (try clear x1); (try clear hnS); (try clear hnB); (try clear hcF); omega) | omega)) c2 ⟨fun e => fc e + fe e, fh, fun e _ => Nat.le_refl _, i3, Or.inr (Or.inr (Or.inr ⟨rfl, alk_Pl _ _ hF (pre_firm mf n1 _ g5 (by rw [← rdrop_add]; exact g6)), L, fc, fe, V, fun _ h => h, PL_alk _ _ hF hFW d2, PL_alk _ _ hF2 hFW e2, fun e _ _ => Nat.le_refl _, fun e he hT => by (first | ((try clear h); (try clear i3); (try clear i2); (try clear i1); (try clear fh); (try clear fg); (try clear e3); (try clear e2); (try clear e1); (try clear ff); (try clear fe); (try clear d3); (try clear d2); (try clear d1); (try clear fd); (try clear fc); (try clear c3); (try clear c2); (try clear c1); (try clear fb); (try clear fa); (try clear f); (try clear V); (try clear h8); (try clear h9); (try clear r5); (try clear l5); (try clear v5); (try clear k5); (try clear z5); (try clear n0); (try clear hF2); (try clear x3); (try clear x2); (try clear x1); (try clear hnS); (try clear hnB); (try clear hcF); omega) | omega)⟩))⟩ (fun e he => ?_)
    have y1 := c1 e he
    have y2 := d1 e he
    have y3 := e1 e he
    have y4 := i1 e he
    show fa e + (fc e + fe e + fh e) ≤ f e
    (first | ((try clear he); (try clear i3); (try clear i2); (try clear i1); (try clear e3); (try clear e2); (try clear e1); (try clear d3); (try clear d2); (try clear d1); (try clear c3); (try clear c2); (try clear c1); (try clear h); (try clear V); (try clear h8); (try clear h9); (try clear r5); (try clear l5); (try clear v5); (try clear k5); (try clear z5); (try clear n0); (try clear hF2); (try clear x3); (try clear x2); (try clear x1); (try clear hnS); (try clear hnB); (try clear hcF); omega) | omega)
  · have hl : ∀ (m : Nat) (y X : Rw), rL (rpre m y X) = rL (rpre m y .leaf) + rL X := by
      intro m
      induction m with
      | zero => intro y X; exact (Nat.zero_add _).symm
      | succ m ih =>
        intro y X
        cases y with
        | leaf => exact (Nat.zero_add _).symm
        | inner z6 k6 v6 l6 r6 =>
          have e6 : ∀ x : Rw, rL (Std.DTreeMap.Internal.Impl.inner z6 k6 v6 l6 x : Rw) = (if k6 < 3 then 1 else 0) + rL l6 + rL x := fun _ => rfl
          rw [rpre, rpre, e6, e6, ih r6 X]; (first | ((try clear e6); (try clear v6); (try clear z6); (try clear h); (try clear f); (try clear V); (try clear L); (try clear h8); (try clear h9); (try clear r5); (try clear l5); (try clear v5); (try clear k5); (try clear z5); (try clear n0); (try clear hF2); (try clear x3); (try clear x2); (try clear x1); (try clear hnS); (try clear hnB); (try clear hcF); omega) | omega)
    obtain ⟨p1, p2, p3⟩ := row_cut a w
    obtain ⟨q1, q2, q3⟩ := row_cut n1 (rdrop a w)
    obtain ⟨s1, s2, s3⟩ := row_cut (n * n1 - n1) (rdrop n1 (rdrop a w))
    rw [← rdrop_add, ← rdrop_add, show a + n1 + (n * n1 - n1) = a + n * n1 by (first | ((try clear s3); (try clear s2); (try clear s1); (try clear q3); (try clear q2); (try clear p3); (try clear p2); (try clear p1); (try clear h); (try clear f); (try clear V); (try clear L); (try clear h8); (try clear h9); (try clear r5); (try clear l5); (try clear v5); (try clear k5); (try clear z5); (try clear n0); (try clear hF2); (try clear x3); (try clear x2); (try clear x1); (try clear hnS); (try clear hnB); (try clear hcF); omega) | omega)] at s2
    rw [← rdrop_add] at q2
    rw [hl, rL_ge (by (first | ((try clear s3); (try clear s2); (try clear s1); (try clear q3); (try clear q2); (try clear p3); (try clear p2); (try clear p1); (try clear h); (try clear f); (try clear V); (try clear L); (try clear h8); (try clear h9); (try clear r5); (try clear l5); (try clear v5); (try clear k5); (try clear z5); (try clear n0); (try clear hF2); (try clear x3); (try clear x2); (try clear x1); (try clear hnS); (try clear hnB); (try clear hcF); omega) | omega)), (alk_N _ _ hF hFW (rpre_WF _ _ _ (rdrop_WF a w hwf) trivial)).2]
    (first | ((try clear s3); (try clear s1); (try clear q3); (try clear p3); (try clear p1); (try clear h); (try clear f); (try clear V); (try clear L); (try clear h8); (try clear h9); (try clear r5); (try clear l5); (try clear v5); (try clear k5); (try clear z5); (try clear n0); (try clear hF2); (try clear x3); (try clear x2); (try clear x1); (try clear hnS); (try clear hnB); (try clear hcF); omega) | omega)

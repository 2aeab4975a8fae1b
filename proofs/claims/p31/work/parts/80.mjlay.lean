
/-! the row that comes of laying: what holds of it, step by step -/
theorem wk_ind {M : Nat → Rw → Rw → Rw → Rw → Prop}
    (c0 : ∀ o : Nat, M o .leaf .leaf .leaf .leaf)
    (c1a : ∀ (o z k : Nat) (v : Int) (l r : Rw) (z2 k2 : Nat) (v2 : Int) (l2 r2 X Y : Rw), rWF (.inner z k v l r) → rWF (.inner z2 k2 v2 l2 r2) → rPg (.inner z2 k2 v2 l2 r2) → k < 3 → ialk k v l k2 v2 l2 → (lay (.inner z k v l r) (.inner z2 k2 v2 l2 r2)).2 = false → X = .leaf → M 0 r r2 X Y → M o (.inner z k v l r) (.inner z2 k2 v2 l2 r2) .leaf (.inner 0 (fK k v k2 v2) (fV k v k2 v2) (rfus l l2) Y))
    (c1b : ∀ (o z : Nat) (v : Int) (l r : Rw) (z2 : Nat) (v2 : Int) (l2 r2 X Y Xi : Rw), rWF (.inner z 4 v l r) → rWF (.inner z2 4 v2 l2 r2) → rPg (.inner z2 4 v2 l2 r2) → rN l + rN l2 ≤ 1800 → (lay l l2).2 = false → (lay (.inner z 4 v l r) (.inner z2 4 v2 l2 r2)).2 = false → Xi = .leaf → M 0 l l2 Xi (lrow l l2) → X = .leaf → M 0 r r2 X Y → M o (.inner z 4 v l r) (.inner z2 4 v2 l2 r2) .leaf (.inner 0 4 (-1) (lrow l l2) Y))
    (c2 : ∀ (o z k : Nat) (v : Int) (l r b X Y : Rw), rWF (.inner z k v l r) → rWF b → rPg b → 3 ≤ k → nxt l b → (lay (.inner z k v l r) b).2 = (k == 3 && (lay r (rdrop (rI l) b)).2) → X = .leaf → M 0 r (rdrop (rI l) b) X Y → M o (.inner z k v l r) b .leaf (.inner 0 k (-1) (rfus l b) Y))
    (c3 : ∀ (o z2 : Nat) (v2 : Int) (w l2 r2 X Y : Rw), rWF w → rWF (.inner z2 4 v2 l2 r2) → rPg (.inner z2 4 v2 l2 r2) → nxt l2 w → (lay w (.inner z2 4 v2 l2 r2)).2 = false → X = .leaf → M 0 (rdrop (rI l2) w) r2 X Y → M o w (.inner z2 4 v2 l2 r2) .leaf (.inner 0 4 (-1) (rfus l2 w) Y))
    (c4a : ∀ (o z : Nat) (v : Int) (l r b X Y : Rw), rWF (.inner z 3 v l r) → rWF b → rPg b → (lay (.inner z 3 v l r) b).2 = (lay r b).2 → X = .leaf → M 0 r b X Y → M o (.inner z 3 v l r) b .leaf (.inner 0 3 v l Y))
    (c4b : ∀ (z k : Nat) (v : Int) (l r b X Y : Rw), rWF (.inner z k v l r) → rWF b → rPg b → k ≠ 3 → (lay (.inner z k v l r) b).2 = (lay r b).2 → M 4 r b X Y → M 4 (.inner z k v l r) b (.inner 0 k v l X) Y)
    (c4c : ∀ (o z k : Nat) (v : Int) (l r b X Y : Rw), rWF (.inner z k v l r) → rWF b → rPg b → k ≠ 3 → o ≠ 4 → (lay (.inner z k v l r) b).2 = (lay r b).2 → M 4 r b X Y → M o (.inner z k v l r) b .leaf (.inner 0 3 (-1) (.inner 0 k v l X) Y))
    (c5b : ∀ (z2 k2 : Nat) (v2 : Int) (w l2 r2 X Y : Rw), rWF w → rWF (.inner z2 k2 v2 l2 r2) → rPg (.inner z2 k2 v2 l2 r2) → (lay w (.inner z2 k2 v2 l2 r2)).2 = (lay w r2).2 → M 5 w r2 X Y → M 5 w (.inner z2 k2 v2 l2 r2) (.inner 0 k2 v2 l2 X) Y)
    (c5c : ∀ (o z2 k2 : Nat) (v2 : Int) (w l2 r2 X Y : Rw), rWF w → rWF (.inner z2 k2 v2 l2 r2) → rPg (.inner z2 k2 v2 l2 r2) → o ≠ 5 → (lay w (.inner z2 k2 v2 l2 r2)).2 = (lay w r2).2 → M 5 w r2 X Y → M o w (.inner z2 k2 v2 l2 r2) .leaf (.inner 0 3 (-1) (.inner 0 k2 v2 l2 X) Y)) :
    ∀ (n o : Nat) (w b : Rw), rN w + rN b < n → rN w + rN b ≤ 1800 → rWF w → rWF b → rPg b → M o w b (wk o w b).1 (wk o w b).2 := by
  intro n
  induction n with
  | zero => intro o w b h; exact absurd h (Nat.not_lt_zero _)
  | succ n ih =>
    intro o w b h h18 hw hb9 hp
    have hm := wmin_lt h18
    by_cases hne : hsd w = true ∨ hsd b = true
    · obtain ⟨g1, g2, _, _⟩ := way_is hne hm
      obtain ⟨a1, a2, a3, a4, a5⟩ := al_is hne hm
      obtain ⟨s1, s2, s3⟩ := way_hsd (w := w) (b := b)
      have hcases : wayOf w b = 1 ∨ wayOf w b = 2 ∨ wayOf w b = 3 ∨ wayOf w b = 4 ∨ wayOf w b = 5 := by omega
      rcases hcases with hy | hy | hy | hy | hy
      · obtain ⟨t1, t2⟩ := s1 (Or.inl hy)
        cases w with
        | leaf => cases t1
        | inner z k v l r =>
          cases b with
          | leaf => cases t2
          | inner z2 k2 v2 l2 r2 =>
            rw [rN_in, rN_in] at h h18
            have hc := way1_c hy hm
            have hr := ih 0 r r2 (by omega) (by omega) hw.2.2.2.2.2.2.2 hb9.2.2.2.2.2.2.2 hp.2.2
            rw [wk_1 hy]
            by_cases hk : k < 3
            · rw [if_pos hk]
              unfold mtC at hc
              rw [if_pos hk] at hc
              by_cases hB : ialkB k v l k2 v2 l2 = true
              · exact c1a o z k v l r z2 k2 v2 l2 r2 _ _ hw hb9 hp hk (ialkB_is.mp hB) (a1 hy) wk_01 hr
              · rw [if_neg hB] at hc; omega
            · rw [if_neg hk]
              unfold mtC at hc
              rw [if_neg hk] at hc
              by_cases h4 : k = 4 ∧ k2 = 4
              · rw [if_pos h4] at hc
                obtain ⟨rfl, rfl⟩ := h4
                have hin := ih 0 l l2 (by omega) (by omega) hw.2.2.2.2.2.2.1 hb9.2.2.2.2.2.2.1 hp.2.1
                refine c1b o z v l r z2 v2 l2 r2 _ _ _ hw hb9 hp (by omega) ?_ (a1 hy) wk_01 hin wk_01 hr
                cases hf : (lay l l2).2 with
                | false => rfl
                | true => rw [hf, if_pos rfl] at hc; omega
              · rw [if_neg h4] at hc; omega
      · obtain ⟨t1, t2⟩ := s1 (Or.inr (Or.inl hy))
        cases w with
        | leaf => cases t1
        | inner z k v l r =>
          rw [rN_in] at h h18
          obtain ⟨k3, hnx⟩ := way2_c hy hm
          have hd := rdrop_N2 (rI l) b
          have hr := ih 0 r (rdrop (rI l) b) (by omega) (by omega) hw.2.2.2.2.2.2.2 (rdrop_WF _ _ hb9) (rdrop_Pg _ _ hp)
          rw [wk_2 hy]
          exact c2 o z k v l r b _ _ hw hb9 hp k3 hnx (a2 hy) wk_01 hr
      · obtain ⟨t1, t2⟩ := s1 (Or.inr (Or.inr hy))
        cases b with
        | leaf => cases t2
        | inner z2 k2 v2 l2 r2 =>
          rw [rN_in] at h h18
          obtain ⟨k4, hnx⟩ := way3_c hy hm
          have hd := rdrop_N2 (rI l2) w
          have hr := ih 0 (rdrop (rI l2) w) r2 (by omega) (by omega) (rdrop_WF _ _ hw) hb9.2.2.2.2.2.2.2 hp.2.2
          rw [wk_3 hy]
          subst k4
          exact c3 o z2 v2 w l2 r2 _ _ hw hb9 hp hnx (a3 hy) wk_01 hr
      · have t1 := s2 hy
        cases w with
        | leaf => cases t1
        | inner z k v l r =>
          rw [rN_in] at h h18
          have ha := a4 hy
          rw [wk_4 hy]
          by_cases hk : k = 3
          · rw [if_pos hk]
            subst hk
            exact c4a o z v l r b _ _ hw hb9 hp ha wk_01 (ih 0 r b (by omega) (by omega) hw.2.2.2.2.2.2.2 hb9 hp)
          · rw [if_neg hk]
            have hr := ih 4 r b (by omega) (by omega) hw.2.2.2.2.2.2.2 hb9 hp
            by_cases ho : o = 4
            · rw [if_pos ho]
              subst ho
              exact c4b z k v l r b _ _ hw hb9 hp hk ha hr
            · rw [if_neg ho]
              exact c4c o z k v l r b _ _ hw hb9 hp hk ho ha hr
      · have t1 := s3 hy
        cases b with
        | leaf => cases t1
        | inner z2 k2 v2 l2 r2 =>
          rw [rN_in] at h h18
          have ha : (lay w (.inner z2 k2 v2 l2 r2)).2 = (lay w r2).2 := (a5 hy).trans (by cases w <;> rfl)
          rw [wk_5 hy]
          have hr := ih 5 w r2 (by omega) (by omega) hw hb9.2.2.2.2.2.2.2 hp.2.2
          by_cases ho : o = 5
          · rw [if_pos ho]
            subst ho
            exact c5b z2 k2 v2 w l2 r2 _ _ hw hb9 hp ha hr
          · rw [if_neg ho]
            exact c5c o z2 k2 v2 w l2 r2 _ _ hw hb9 hp ho ha hr
    · cases w with
      | leaf =>
        cases b with
        | leaf => exact c0 o
        | inner z2 k2 v2 l2 r2 => exact absurd (Or.inr rfl) hne
      | inner z k v l r => exact absurd (Or.inl rfl) hne
theorem fK_lt {k : Nat} {v : Int} {k2 : Nat} {v2 : Int} (h : k < 3) : fK k v k2 v2 < 3 := by
  unfold fK
  split
  · split <;> omega
  · exact h
/-- not of options alone: an item that is none -/
theorem lay_Pl {w b : Rw} (h18 : rN w + rN b ≤ 1800) (hw : rWF w) (hb9 : rWF b) (hp : rPg b) (h : (lay w b).2 = false) : rPl (lrow w b) := by
  have H := wk_ind (M := fun _ w b _ Y => (lay w b).2 = false → rPl Y)
    (fun _ h => absurd h (by rw [lay_S]; decide))
    (fun o z k v l r z2 k2 v2 l2 r2 X Y _ _ _ hk _ _ _ _ _ => Or.inl (by have := fK_lt (v := v) (k2 := k2) (v2 := v2) hk; omega))
    (fun o z v l r z2 v2 l2 r2 X Y Xi _ _ _ _ _ _ _ _ _ _ _ => Or.inl (by omega))
    (fun o z k v l r b X Y _ _ _ hk _ hf _ hY h => by
      rw [hf] at h
      by_cases h3 : k = 3
      · refine Or.inr (hY ?_)
        rw [h3] at h
        exact h
      · exact Or.inl h3)
    (fun o z2 v2 w l2 r2 X Y _ _ _ _ _ _ _ _ => Or.inl (by omega))
    (fun o z v l r b X Y _ _ _ hf _ hY h => Or.inr (hY (hf ▸ h)))
    (fun z k v l r b X Y _ _ _ _ hf hY h => hY (hf ▸ h))
    (fun o z k v l r b X Y _ _ _ _ _ hf hY h => Or.inr (hY (hf ▸ h)))
    (fun z2 k2 v2 w l2 r2 X Y _ _ _ hf hY h => hY (hf ▸ h))
    (fun o z2 k2 v2 w l2 r2 X Y _ _ _ _ hf hY h => Or.inr (hY (hf ▸ h)))
    (rN w + rN b + 1) 0 w b (Nat.lt_succ_self _) h18 hw hb9 hp
  exact H h
theorem fus_it {k : Nat} {v : Int} {l : Rw} {k2 : Nat} {v2 : Int} {l2 : Rw} (h : iWF k v l) (h2 : iWF k2 v2 l2) (ha : ialk k v l k2 v2 l2) (r : Rw) (hr : rWF r) : rWF (.inner 0 (fK k v k2 v2) (fV k v k2 v2) (rfus l l2) r) := by
  have h9 := rfus_WF (Std.DTreeMap.Internal.Impl.inner 0 k v l .leaf) (Std.DTreeMap.Internal.Impl.inner 0 k2 v2 l2 .leaf) ⟨h.1, h.2.1, h.2.2.1, h.2.2.2.1, h.2.2.2.2.1, h.2.2.2.2.2.1, h.2.2.2.2.2.2, trivial⟩ ⟨h2.1, h2.2.1, h2.2.2.1, h2.2.2.2.1, h2.2.2.2.2.1, h2.2.2.2.2.2.1, h2.2.2.2.2.2.2, trivial⟩ ⟨ha, trivial⟩
  exact ⟨h9.1, h9.2.1, h9.2.2.1, h9.2.2.2.1, h9.2.2.2.2.1, h9.2.2.2.2.2.1, h9.2.2.2.2.2.2.1, hr⟩
theorem nxt_WF {l b : Rw} (h1 : rWF l) (h2 : rWF b) (h : nxt l b) : rWF (rfus l b) ∧ ralk (rfus l b) l ∧ ralk (rfus l b) (rpre (rI l) b .leaf) := by
  obtain ⟨a1, a2, _⟩ := nxt_ralk l b h
  rw [a2]
  exact ⟨rfus_WF _ _ h1 (rpre_WF _ _ _ h2 trivial) a1, ralk_fus _ _ _ a1 (ralk_refl l), ralk_fus _ _ _ a1 a1⟩
theorem ralk_ne {x y : Rw} (h : ralk x y) (hy : y ≠ .leaf) : x ≠ .leaf := fun e => by
  rw [e] at h
  cases y with
  | leaf => exact hy rfl
  | inner z k v l r => exact h
/-- it is well formed -/
theorem lay_WF : ∀ (n o : Nat) (w b : Rw), rN w + rN b < n → rN w + rN b ≤ 1800 → rWF w → rWF b → rPg b → rWF (wk o w b).1 ∧ rWF (wk o w b).2 :=
  wk_ind (M := fun _ _ _ X Y => rWF X ∧ rWF Y)
    (fun _ => ⟨trivial, trivial⟩)
    (fun o z k v l r z2 k2 v2 l2 r2 X Y hw hb9 _ _ ha _ _ hY => ⟨trivial, fus_it ⟨hw.1, hw.2.1, hw.2.2.1, hw.2.2.2.1, hw.2.2.2.2.1, hw.2.2.2.2.2.1, hw.2.2.2.2.2.2.1⟩ ⟨hb9.1, hb9.2.1, hb9.2.2.1, hb9.2.2.2.1, hb9.2.2.2.2.1, hb9.2.2.2.2.2.1, hb9.2.2.2.2.2.2.1⟩ ha Y hY.2⟩)
    (fun o z v l r z2 v2 l2 r2 X Y Xi hw hb9 hp h18 hf _ _ hin _ hY => ⟨trivial, ⟨by omega, fun h => by omega, fun _ he => by
      have h9 := lay_Pl h18 hw.2.2.2.2.2.2.1 hb9.2.2.2.2.2.2.1 hp.2.1 hf
      rw [he] at h9
      exact h9, by omega, by omega, fun h => by omega, hin.2, hY.2⟩⟩)
    (fun o z k v l r b X Y hw hb9 _ hk hnx _ _ hY => by
      obtain ⟨a1, a2, _⟩ := nxt_WF hw.2.2.2.2.2.2.1 hb9 hnx
      exact ⟨trivial, ⟨hw.1, fun h => by omega, fun _ => ralk_ne a2 (hw.2.2.1 hk), by omega, by omega, fun h => by omega, a1, hY.2⟩⟩)
    (fun o z2 v2 w l2 r2 X Y hw hb9 _ hnx _ _ hY => by
      obtain ⟨a1, a2, _⟩ := nxt_WF hb9.2.2.2.2.2.2.1 hw hnx
      exact ⟨trivial, ⟨by omega, fun h => by omega, fun _ => ralk_ne a2 (hb9.2.2.1 (by omega)), by omega, by omega, fun h => by omega, a1, hY.2⟩⟩)
    (fun o z v l r b X Y hw _ _ _ _ hY => ⟨trivial, ⟨hw.1, hw.2.1, hw.2.2.1, hw.2.2.2.1, hw.2.2.2.2.1, hw.2.2.2.2.2.1, hw.2.2.2.2.2.2.1, hY.2⟩⟩)
    (fun z k v l r b X Y hw _ _ _ _ hY => ⟨⟨hw.1, hw.2.1, hw.2.2.1, hw.2.2.2.1, hw.2.2.2.2.1, hw.2.2.2.2.2.1, hw.2.2.2.2.2.2.1, hY.1⟩, hY.2⟩)
    (fun o z k v l r b X Y hw _ _ _ _ _ hY => ⟨trivial, ⟨by omega, fun h => by omega, fun _ h => (by cases h), by omega, by omega, fun h => by omega, ⟨hw.1, hw.2.1, hw.2.2.1, hw.2.2.2.1, hw.2.2.2.2.1, hw.2.2.2.2.2.1, hw.2.2.2.2.2.2.1, hY.1⟩, hY.2⟩⟩)
    (fun z2 k2 v2 w l2 r2 X Y _ hw _ _ hY => ⟨⟨hw.1, hw.2.1, hw.2.2.1, hw.2.2.2.1, hw.2.2.2.2.1, hw.2.2.2.2.2.1, hw.2.2.2.2.2.2.1, hY.1⟩, hY.2⟩)
    (fun o z2 k2 v2 w l2 r2 X Y _ hw _ _ _ hY => ⟨trivial, ⟨by omega, fun h => by omega, fun _ h => (by cases h), by omega, by omega, fun h => by omega, ⟨hw.1, hw.2.1, hw.2.2.1, hw.2.2.2.1, hw.2.2.2.2.1, hw.2.2.2.2.2.1, hw.2.2.2.2.2.2.1, hY.1⟩, hY.2⟩⟩)

/-! laying keeps it, with one page more -/
theorem QL_rest {w : Rw} {L : Nat} {V : Nat → Prop} {f h : Nat → Nat} {q q9 : Prop} (hq : q9 → w = .leaf) (h9 : QL w L V f h q) : QL w L V f h q9 := by
  by_cases hq9 : q9
  · rw [hq hq9]; trivial
  · exact QL_mono w (fun _ h => h) (fun _ _ => Nat.le_refl _) (fun _ _ _ => Nat.le_refl _) (fun h => absurd h hq9) h9
/-- a row of no items comes of none; one token alone of one token alone -/
def LQzN (o : Nat) (w X Y : Rw) (b : Rw) : Prop := (X = .leaf → Y = .leaf → w = .leaf ∧ b = .leaf) ∧ (o = 0 → rSg Y → rSg w)
/-- an option stays as it is -/
theorem QL_opt {l l9 : Rw} {E : Nat} {V : Nat → Prop} {f1 h h9 : Nat → Nat} {x : Nat} (hh : ∀ e : Nat, e < E → V e → h e ≤ h9 e) (ha : ralk l9 l) (hw : rWF l9) (h3 : (3 = 3 ∧ (rPg l ∧ pH l) ∧ ∃ e : Nat, e < E ∧ V e ∧ rT l ≤ f1 e) ∨ (3 = 3 ∧ rNO l ∧ ∃ L2 : Nat, 1 ≤ L2 ∧ L2 ≤ E ∧ QL l L2 V f1 h False)) : (3 = 3 ∧ (rPg l9 ∧ pH l9) ∧ ∃ e : Nat, e < E + 1 ∧ vE V E e ∧ rT l9 ≤ uqd f1 E x e) ∨ (3 = 3 ∧ rNO l9 ∧ ∃ L2 : Nat, 1 ≤ L2 ∧ L2 ≤ E + 1 ∧ QL l9 L2 (vE V E) (uqd f1 E x) h9 False) := by
  rcases h3 with ⟨_, ⟨b, b2⟩, e, c, d, g9⟩ | ⟨_, b, L2, c, d, e⟩
  · exact Or.inl ⟨rfl, ⟨alk_Pg _ _ ha hw b, pH_alk _ _ ha hw b2⟩, e, by omega, Or.inl d, by rw [uqd_n c, ralk_T _ _ ha]; exact g9⟩
  · refine Or.inr ⟨rfl, alk_NO _ _ ha b, L2, c, by omega, QL_alk _ _ ha hw ?_⟩
    have e9 := QL_mono l (V9 := V) (g := uqd f1 E x) (h9 := h9) (q9 := False) (fun _ h => h) (fun e he => by rw [uqd_n (by omega)]; exact Nat.le_refl _) (fun e he hv => hh e (by omega) hv) (fun q => q) e
    exact QL_mono l (fun _ h => Or.inl h) (fun _ _ => Nat.le_refl _) (fun _ _ _ => Nat.le_refl _) (fun q => q) e9
def LQz (o : Nat) (w b X Y : Rw) : Prop := LQzN o w X Y b ∧ ∀ (E : Nat) (V : Nat → Prop) (f h h9 : Nat → Nat) (q q9 : Prop) (x : Nat), 1 ≤ E → QL w E V f h q → pH b → pgH b x → rT b ≤ 100 → (∀ e : Nat, e < E → V e → h e ≤ h9 e) → x ≤ h9 E → (q9 → o = 0 ∧ rI Y = 1 ∧ (rI w = 1 → q) ∧ (∀ (z2 : Nat) (v2 : Int) (l2 : Rw), b = .inner z2 4 v2 l2 .leaf → 3 ≤ pV l2)) → ∃ fX fY : Nat → Nat, (∀ e : Nat, e < E → fX e + fY e ≤ f e) ∧ fX E + fY E ≤ rT b ∧ QL Y (E + 1) (vE V E) fY h9 q9 ∧ (o = 4 → rNO X ∧ QL X E V fX h False) ∧ (o = 5 → rPg X ∧ rT X ≤ fX E ∧ rWF X ∧ ∃ n : Nat, n ≤ rI b ∧ ralk X (rpre n b .leaf))
theorem LQ_all : ∀ (n o : Nat) (w b : Rw), rN w + rN b < n → rN w + rN b ≤ 1800 → rWF w → rWF b → rPg b → LQz o w b (wk o w b).1 (wk o w b).2 := by
  refine wk_ind (M := LQz) ?_ ?_ ?_ ?_ ?_ ?_ ?_ ?_ ?_ ?_
  · intro o
    refine ⟨⟨fun _ _ => ⟨rfl, rfl⟩, fun _ h => h⟩, fun E V f h h9 q q9 x hE hq hpH hpg hT hh hx hq9 => ?_⟩
    exact ⟨fun _ => 0, fun _ => 0, fun e _ => Nat.zero_le _, Nat.zero_le _, trivial, fun _ => ⟨trivial, trivial⟩, fun _ => ⟨trivial, Nat.zero_le _, trivial, 0, Nat.le_refl _, trivial⟩⟩
  · intro o z k v l r z2 k2 v2 l2 r2 X Y hw hb9 hp hk ha _ hX hY
    obtain ⟨⟨y8, _⟩, hY⟩ := hY
    have hk3 := fK_lt (v := v) (k2 := k2) (v2 := v2) hk
    refine ⟨⟨fun _ h => (by cases h), fun _ h => ?_⟩, fun E V f h h9 q q9 x hE hq hpH hpg hT hh hx hq9 => ?_⟩
    · cases Y with
      | inner _ _ _ _ _ => exact h.elim
      | leaf =>
        obtain ⟨e1, _⟩ := y8 hX rfl
        rw [e1]
        exact hk
    · obtain ⟨f1, f2, h1, h2, h3⟩ := hq
      have hk2 := (alk_k ha).1.mp hk
      rw [rT_in, if_pos hk2] at hT ⊢
      obtain ⟨fX, fY, y1, y2, y3, _, _⟩ := hY E V f2 h h9 q False x hE h2 (pH_drop 1 hpH) hpg.2 (by omega) hh hx (fun q => q.elim)
      have y3 := QL_rest (q9 := q9) (fun hq => rI_1 (hq9 hq).2.1) y3
      refine ⟨fun _ => 0, fun e => uqd f1 E 1 e + fY e, fun e he => ?_, ?_, ⟨uqd f1 E 1, fY, fun e _ => Nat.le_refl _, y3, ?_⟩, fun _ => ⟨trivial, trivial⟩, fun _ => ⟨trivial, Nat.zero_le _, trivial, 0, Nat.zero_le _, trivial⟩⟩
      · show 0 + (uqd f1 E 1 e + fY e) ≤ f e
        rw [uqd_n he]
        have a1 := h1 e he
        have a2 := y1 e he
        omega
      · show 0 + (uqd f1 E 1 E + fY E) ≤ _
        rw [uqd_s]; omega
      · rcases h3 with ⟨a, b, e, c, d⟩ | ⟨a, _⟩ | ⟨a, _⟩ | ⟨a, _⟩
        · refine Or.inl ⟨hk3, fun e2 he2 => ?_, e, by omega, Or.inl d⟩
          by_cases hE2 : e2 = E
          · rw [hE2, uqd_s]; omega
          · rw [uqd_n (by omega)]
            exact b e2 (by omega)
        · omega
        · omega
        · omega
  · intro o z v l r z2 v2 l2 r2 X Y Xi hw hb9 hp h18 hf _ hXi hin hX hY
    obtain ⟨⟨y8, _⟩, hY⟩ := hY
    obtain ⟨⟨_, i8⟩, hin⟩ := hin
    refine ⟨⟨fun _ h => (by cases h), fun _ h => absurd h (rSg_no (by omega))⟩, fun E V f h h9 q q9 x hE hq hpH hpg hT hh hx hq9 => ?_⟩
    obtain ⟨f1, f2, h1, h2, h3⟩ := hq
    rw [rT_in, if_neg (by omega)] at hT ⊢
    obtain ⟨fX, fY, y1, y2, y3, _, _⟩ := hY E V f2 h h9 q False x hE h2 (pH_drop 1 hpH) hpg.2 (by omega) hh hx (fun q => q.elim)
    have y3 := QL_rest (q9 := q9) (fun hq => rI_1 (hq9 hq).2.1) y3
    have hPl := lay_Pl h18 hw.2.2.2.2.2.2.1 hb9.2.2.2.2.2.2.1 hp.2.1 hf
    obtain ⟨p5, p6, p7⟩ := hpg.1 rfl
    have hpl : pH l2 := ⟨(hpH.2.1 rfl).2.1, hpH.2.2.1⟩
    refine ⟨fun _ => 0, fun e => uqd f1 E (2 * rT l2) e + fY e, fun e he => ?_, ?_, ⟨uqd f1 E (2 * rT l2), fY, fun e _ => Nat.le_refl _, y3, ?_⟩, fun _ => ⟨trivial, trivial⟩, fun _ => ⟨trivial, Nat.zero_le _, trivial, 0, Nat.zero_le _, trivial⟩⟩
    · show 0 + (uqd f1 E (2 * rT l2) e + fY e) ≤ f e
      rw [uqd_n he]
      have a1 := h1 e he
      have a2 := y1 e he
      omega
    · show 0 + (uqd f1 E (2 * rT l2) E + fY E) ≤ _
      rw [uqd_s]; omega
    · rcases h3 with ⟨a, _⟩ | ⟨a, _⟩ | ⟨a, _⟩ | ⟨a, b, T, g1, g2, V2, c, d, d2, g9, g8, d5, d6⟩
      · omega
      · omega
      · omega
      · have hi : ∀ g : Nat → Nat, QL l E V2 g (hW T g) (rI l = 1) → QL (lrow l l2) (E + 1) (vE V2 E) (uqd g E (rT l2)) (hW T (uqd g E (rT l2))) (rI (lrow l l2) = 1) := fun g hg => by
          obtain ⟨fX3, fY3, i1, i2, i3, _, _⟩ := hin E V2 g (hW T g) (hW T (uqd g E (rT l2))) (rI l = 1) (rI (lrow l l2) = 1) (rT l2) hE hg hpl p6 (by omega) (fun e he _ => by
            by_cases hT2 : e < T
            · rw [hW_lt hT2, hW_lt hT2]; exact Nat.le_refl _
            · rw [hW_ge (by omega), hW_ge (by omega), uqd_n he]; exact Nat.le_refl _) (by
            by_cases hT2 : E < T
            · rw [hW_lt hT2]; omega
            · rw [hW_ge (by omega), uqd_s]; exact Nat.le_refl _) (fun hI => ⟨rfl, hI, fun h => h, fun z5 v5 l5 e5 => p7 (by rw [e5]; rfl) z5 4 v5 l5 .leaf e5 rfl⟩)
          refine QL_mono _ (fun _ h => h) (fun e he => ?_) (fun _ _ _ => Nat.le_refl _) (fun h => h) i3
          by_cases hE2 : e = E
          · rw [hE2, uqd_s]; omega
          · rw [uqd_n (by omega)]
            have := i1 e (by omega)
            omega
        refine Or.inr (Or.inr (Or.inr ⟨rfl, hPl, T, uqd g1 E (rT l2), uqd g2 E (rT l2), vE V2 E, fun e he => he.elim (fun h => Or.inl (c e h)) Or.inr, hi g1 d, hi g2 d2, fun e he hT => ?_, fun e he hT => ?_, fun hT hS => d5 hT (i8 rfl hS), fun hq => ?_⟩))
        · by_cases hE2 : e = E
          · rw [hE2, uqd_s, uqd_s, uqd_s]; omega
          · rw [uqd_n (by omega), uqd_n (by omega), uqd_n (by omega)]
            exact g9 e (by omega) hT
        · by_cases hE2 : e = E
          · rw [hE2, uqd_s, uqd_s, uqd_s]
            exact ⟨rfl, by omega, fun _ => ⟨Nat.le_refl _, bH_mono hx p5⟩⟩
          · rw [uqd_n (by omega), uqd_n (by omega), uqd_n (by omega)]
            have h8 := g8 e (by omega) hT
            refine ⟨h8.1, h8.2.1, fun h => ?_⟩
            have hv := h.elim (fun h => h) (fun h => absurd h hE2)
            have h7 := h8.2.2 hv
            exact ⟨h7.1, bH_mono (hh e (by omega) (c e hv)) h7.2⟩
        · obtain ⟨_, j1, j2, _⟩ := hq9 hq
          obtain ⟨e1, _⟩ := y8 hX (rI_1 j1)
          rw [uqd_n (by omega)]
          exact d6 (j2 (by rw [e1]; rfl))
  · intro o z k v l r b X Y hw hb9 hp hk hnx _ hX hY
    obtain ⟨⟨y8, _⟩, hY⟩ := hY
    refine ⟨⟨fun _ h => (by cases h), fun _ h => absurd h (rSg_no hk)⟩, fun E V f h h9 q q9 x hE hq hpH hpg hT hh hx hq9 => ?_⟩
    obtain ⟨f1, f2, h1, h2, h3⟩ := hq
    obtain ⟨a1, a2, a3⟩ := nxt_WF hw.2.2.2.2.2.2.1 hb9 hnx
    have hlP := (nxt_ralk l b hnx).1
    have hT1 := ralk_T _ _ hlP
    have hT2 := rpre_T (rI l) b .leaf
    rw [rT_0, Nat.add_zero] at hT2
    obtain ⟨fX, fY, y1, y2, y3, _, _⟩ := hY E V f2 h h9 q False x hE h2 (pH_drop _ hpH) (pgH_drop _ _ _ hpg) (by omega) hh hx (fun q => q.elim)
    have y3 := QL_rest (q9 := q9) (fun hq => rI_1 (hq9 hq).2.1) y3
    refine ⟨fun _ => 0, fun e => uqd f1 E (rT l) e + fY e, fun e he => ?_, ?_, ⟨uqd f1 E (rT l), fY, fun e _ => Nat.le_refl _, y3, ?_⟩, fun _ => ⟨trivial, trivial⟩, fun _ => ⟨trivial, Nat.zero_le _, trivial, 0, Nat.zero_le _, trivial⟩⟩
    · show 0 + (uqd f1 E (rT l) e + fY e) ≤ f e
      rw [uqd_n he]
      have q1 := h1 e he
      have q2 := y1 e he
      omega
    · show 0 + (uqd f1 E (rT l) E + fY E) ≤ _
      rw [uqd_s]; omega
    · rcases h3 with ⟨a, _⟩ | h3 | h3 | ⟨a, b9, T, g1, g2, V2, c, d, d2, g9, g8, d5, d6⟩
      · omega
      · obtain rfl := h3.1
        exact Or.inr ((QL_opt hh a2 a1 (Or.inl h3)).elim Or.inl (fun h => Or.inr (Or.inl h)))
      · obtain rfl := h3.1
        exact Or.inr ((QL_opt hh a2 a1 (Or.inr h3)).elim Or.inl (fun h => Or.inr (Or.inl h)))
      · have hPl := alk_Pg l _ hlP hw.2.2.2.2.2.2.1 (rpre_Pg _ _ _ hp trivial)
        have hI := ralk_rI _ _ a2
        have hc : ∀ g : Nat → Nat, QL l E V2 g (hW T g) (rI l = 1) → QL (rfus l b) (E + 1) (fun e => V2 e ∧ e < E) (uqd g E (rT l)) (hW (min T E) (uqd g E (rT l))) (rI (rfus l b) = 1) := fun g hg => by
          refine QL_alk _ _ a2 a1 (QL_mono l (fun _ h => h) (fun _ _ => Nat.le_refl _) (fun e he hv => ?_) (fun q => by rw [← hI]; exact q) (QL_touch (x := rT l) l hE hg hPl))
          rw [uqd_n hv.2]
          by_cases hT3 : e < T
          · rw [hW_lt hT3, hW_lt (by have := hv.2; omega)]; exact Nat.le_refl _
          · rw [hW_ge (by omega), hW_ge (by omega), uqd_n hv.2]; exact Nat.le_refl _
        refine Or.inr (Or.inr (Or.inr ⟨a, alk_Pl _ _ a2 b9, min T E, uqd g1 E (rT l), uqd g2 E (rT l), fun e => V2 e ∧ e < E, fun e he => Or.inl (c e he.1), hc g1 d, hc g2 d2, fun e he hT => ?_, fun e he hT => ?_, fun hT hS => d5 (by omega) (alk_Sg a2 hS), fun hq => ?_⟩))
        · rw [uqd_n (by omega), uqd_n (by omega), uqd_n (by omega)]
          exact g9 e (by omega) (by omega)
        · by_cases hE2 : e = E
          · rw [hE2, uqd_s, uqd_s, uqd_s]
            exact ⟨rfl, Nat.le_refl _, fun h => by omega⟩
          · rw [uqd_n (by omega), uqd_n (by omega), uqd_n (by omega)]
            have h8 := g8 e (by omega) (by omega)
            refine ⟨h8.1, h8.2.1, fun h => ?_⟩
            have h7 := h8.2.2 h.1
            exact ⟨h7.1, bH_mono (hh e (by omega) (c e h.1)) h7.2⟩
        · obtain ⟨_, j1, j2, _⟩ := hq9 hq
          obtain ⟨e1, _⟩ := y8 hX (rI_1 j1)
          rw [uqd_n (by omega)]
          rcases d6 (j2 (by rw [e1]; rfl)) with h5 | h5
          · exact Or.inl (by omega)
          · exact Or.inr h5
  · intro o z2 v2 w l2 r2 X Y hw hb9 hp hnx _ hX hY
    obtain ⟨⟨y8, _⟩, hY⟩ := hY
    refine ⟨⟨fun _ h => (by cases h), fun _ h => absurd h (rSg_no (by omega))⟩, fun E V f h h9 q q9 x hE hq hpH hpg hT hh hx hq9 => ?_⟩
    obtain ⟨fa, fb, q1, q2, q3⟩ := QL_cut (rI l2) w (nxt_I _ _ hnx) hq
    rw [rT_in, if_neg (by omega)] at hT ⊢
    obtain ⟨fX, fY, y1, y2, y3, _, _⟩ := hY E V fb h h9 q False x hE q3 (pH_drop 1 hpH) hpg.2 (by omega) hh hx (fun q => q.elim)
    have y3 := QL_rest (q9 := q9) (fun hq => rI_1 (hq9 hq).2.1) y3
    obtain ⟨a1, a2, a3⟩ := nxt_WF hb9.2.2.2.2.2.2.1 hw hnx
    have hlP := (nxt_ralk l2 w hnx).1
    have hT1 := ralk_T _ _ hlP
    have hPW := rpre_WF (rI l2) _ .leaf hw trivial
    have hPP := alk_Pg _ _ (ralk_symm _ _ hlP) hPW hp.2.1
    obtain ⟨p5, p6, p7⟩ := hpg.1 rfl
    have hPI := ralk_rI _ _ hlP
    have hpgP : pgH (rpre (rI l2) w .leaf) (rT l2) := pgH_alk _ _ _ (ralk_symm _ _ hlP) hPW p6
    have hI3 := ralk_rI _ _ a3
    have hS3 : rI (rpre (rI l2) w .leaf) = 1 → ∀ (z k : Nat) (v : Int) (l r : Rw), rpre (rI l2) w .leaf = .inner z k v l r → k = 4 → 3 ≤ pV l := fun hI z k v l r e hk => by
      rw [e] at hlP
      cases l2 with
      | leaf => exact hlP.elim
      | inner z6 k6 v6 l6 r6 =>
        have e6 := alk_k hlP.1
        have hl6 : ralk l6 l := by
          rcases hlP.1 with ⟨a, b⟩ | ⟨_, _, _, a⟩
          · unfold isTx at b; omega
          · exact a
        rw [← alk_pV _ _ hl6]
        exact p7 (hPI.trans hI) z6 k6 v6 l6 r6 rfl (e6.2.2.2.1.mpr hk)
    have hB := QL_alk _ _ a3 a1 (QL_mono _ (h9 := hW 0 (uqd fa E (rT (rpre (rI l2) w .leaf)))) (q9 := rI (rfus l2 w) = 1) (fun _ h => h) (fun _ _ => Nat.le_refl _) (fun e he (hE2 : e = E) => by
      rw [hW_ge (Nat.zero_le _), hE2, uqd_s, uqd_s, ← hT1]
      exact Nat.le_refl _) (fun hI => by rw [← hI3]; exact hI) (QL_born (q9 := rI (rpre (rI l2) w .leaf) = 1) (x := rT l2) _ hE q2 hPP hpgP hS3 (fun h => h)))
    rw [← hT1] at hB
    refine ⟨fun _ => 0, fun e => uqd fa E (2 * rT l2) e + fY e, fun e he => ?_, ?_, ⟨uqd fa E (2 * rT l2), fY, fun e _ => Nat.le_refl _, y3, ?_⟩, fun _ => ⟨trivial, trivial⟩, fun _ => ⟨trivial, Nat.zero_le _, trivial, 0, Nat.zero_le _, trivial⟩⟩
    · show 0 + (uqd fa E (2 * rT l2) e + fY e) ≤ f e
      rw [uqd_n he]
      have p1 := q1 e he
      have p2 := y1 e he
      omega
    · show 0 + (uqd fa E (2 * rT l2) E + fY E) ≤ _
      rw [uqd_s]; omega
    · refine Or.inr (Or.inr (Or.inr ⟨rfl, rPg_Pl _ (alk_Pg _ _ a3 a1 hPP) (ralk_ne a2 (hb9.2.2.1 (by omega))), 0, _, _, fun e => e = E, fun e he => Or.inr he, hB, hB, fun e he hT => absurd hT (Nat.not_lt_zero _), fun e he _ => ⟨rfl, ?_, fun hE2 => ?_⟩, fun h => by omega, fun hq => ?_⟩))
      · by_cases hE2 : e = E
        · rw [hE2, uqd_s, uqd_s]; omega
        · rw [uqd_n (by omega), uqd_n (by omega)]; exact Nat.le_refl _
      · rw [hE2, uqd_s, uqd_s]
        exact ⟨Nat.le_refl _, bH_mono hx p5⟩
      · obtain ⟨_, j1, _, j3⟩ := hq9 hq
        obtain ⟨_, e1⟩ := y8 hX (rI_1 j1)
        have h7 := j3 z2 v2 l2 (by rw [e1])
        have h8 := PL_S _ (QL_PL _ q2) 0 (by omega)
        rw [← alk_pV _ _ hlP] at h8
        rw [uqd_n (by omega)]
        exact Or.inr (by omega)
  · intro o z v l r b X Y hw hb9 hp _ hX hY
    obtain ⟨⟨y8, _⟩, hY⟩ := hY
    refine ⟨⟨fun _ h => (by cases h), fun _ h => absurd h (rSg_no (by omega))⟩, fun E V f h h9 q q9 x hE hq hpH hpg hT hh hx hq9 => ?_⟩
    obtain ⟨f1, f2, h1, h2, h3⟩ := hq
    obtain ⟨fX, fY, y1, y2, y3, _, _⟩ := hY E V f2 h h9 q False x hE h2 hpH hpg hT hh hx (fun q => q.elim)
    have y3 := QL_rest (q9 := q9) (fun hq => rI_1 (hq9 hq).2.1) y3
    have hl := hw.2.2.2.2.2.2.1
    refine ⟨fun _ => 0, fun e => uqd f1 E 0 e + fY e, fun e he => ?_, ?_, ⟨uqd f1 E 0, fY, fun e _ => Nat.le_refl _, y3, ?_⟩, fun _ => ⟨trivial, trivial⟩, fun _ => ⟨trivial, Nat.zero_le _, trivial, 0, Nat.zero_le _, trivial⟩⟩
    · show 0 + (uqd f1 E 0 e + fY e) ≤ f e
      rw [uqd_n he]
      have q1 := h1 e he
      have q2 := y1 e he
      omega
    · show 0 + (uqd f1 E 0 E + fY E) ≤ _
      rw [uqd_s]; omega
    · rcases h3 with ⟨a, _⟩ | h3 | h3 | ⟨a, _⟩
      · omega
      · exact Or.inr ((QL_opt hh (ralk_refl l) hl (Or.inl h3)).elim Or.inl (fun h => Or.inr (Or.inl h)))
      · exact Or.inr ((QL_opt hh (ralk_refl l) hl (Or.inr h3)).elim Or.inl (fun h => Or.inr (Or.inl h)))
      · omega
  · intro z k v l r b X Y hw hb9 hp hk _ hY
    obtain ⟨⟨y8, _⟩, hY⟩ := hY
    refine ⟨⟨fun h => (by cases h), fun h => by omega⟩, fun E V f h h9 q q9 x hE hq hpH hpg hT hh hx hq9 => ?_⟩
    obtain ⟨f1, f2, h1, h2, h3⟩ := QL_mono (V9 := V) (g := f) (h9 := h) (q9 := False) _ (fun _ h => h) (fun _ _ => Nat.le_refl _) (fun _ _ _ => Nat.le_refl _) (fun h => h.elim) hq
    obtain ⟨fX, fY, y1, y2, y3, y4, _⟩ := hY E V f2 h h9 False q9 x hE h2 hpH hpg hT hh hx (fun hq => absurd (hq9 hq).1 (by omega))
    obtain ⟨y4, y6⟩ := y4 rfl
    refine ⟨uqd (fun e => f1 e + fX e) E (fX E), fY, fun e he => ?_, ?_, y3, fun _ => ⟨⟨hk, y4⟩, f1, fX, fun e he => ?_, y6, h3⟩, fun h => by omega⟩
    · rw [uqd_n he]
      have q1 := h1 e he
      have q2 := y1 e he
      show f1 e + fX e + fY e ≤ f e
      omega
    · rw [uqd_s]; exact y2
    · rw [uqd_n he]; exact Nat.le_refl _
  · intro o z k v l r b X Y hw hb9 hp hk ho _ hY
    obtain ⟨⟨y8, _⟩, hY⟩ := hY
    refine ⟨⟨fun _ h => (by cases h), fun _ h => absurd h (rSg_no (by omega))⟩, fun E V f h h9 q q9 x hE hq hpH hpg hT hh hx hq9 => ?_⟩
    obtain ⟨f1, f2, h1, h2, h3⟩ := QL_mono (V9 := V) (g := f) (h9 := h) (q9 := False) _ (fun _ h => h) (fun _ _ => Nat.le_refl _) (fun _ _ _ => Nat.le_refl _) (fun h => h.elim) hq
    obtain ⟨fX, fY, y1, y2, y3, y4, _⟩ := hY E V f2 h h9 False False x hE h2 hpH hpg hT hh hx (fun h => h.elim)
    have y3 := QL_rest (q9 := q9) (fun hq => rI_1 (hq9 hq).2.1) y3
    obtain ⟨y4, y6⟩ := y4 rfl
    have hX : QL (Std.DTreeMap.Internal.Impl.inner 0 k v l X) E V (fun e => f1 e + fX e) h False := ⟨f1, fX, fun e _ => Nat.le_refl _, y6, h3⟩
    have hX2 := QL_mono _ (V9 := V) (g := uqd (fun e => f1 e + fX e) E 0) (h9 := h9) (q9 := False) (fun _ h => h) (fun e he => by rw [uqd_n he]; exact Nat.le_refl _) hh (fun h => h) hX
    refine ⟨fun _ => 0, fun e => uqd (fun e => f1 e + fX e) E 0 e + fY e, fun e he => ?_, ?_, ⟨uqd (fun e => f1 e + fX e) E 0, fY, fun e _ => Nat.le_refl _, y3, Or.inr (Or.inr (Or.inl ⟨rfl, ⟨hk, y4⟩, E, hE, by omega, QL_mono _ (fun _ h => Or.inl h) (fun _ _ => Nat.le_refl _) (fun _ _ _ => Nat.le_refl _) (fun h => h) hX2⟩))⟩, fun _ => ⟨trivial, trivial⟩, fun _ => ⟨trivial, Nat.zero_le _, trivial, 0, Nat.zero_le _, trivial⟩⟩
    · show 0 + (uqd (fun e => f1 e + fX e) E 0 e + fY e) ≤ f e
      rw [uqd_n he]
      have q1 := h1 e he
      have q2 := y1 e he
      show 0 + (f1 e + fX e + fY e) ≤ f e
      omega
    · show 0 + (uqd (fun e => f1 e + fX e) E 0 E + fY E) ≤ _
      rw [uqd_s]; omega
  · intro z2 k2 v2 w l2 r2 X Y hw hb9 hp _ hY
    obtain ⟨⟨y8, _⟩, hY⟩ := hY
    refine ⟨⟨fun h => (by cases h), fun h => by omega⟩, fun E V f h h9 q q9 x hE hq hpH hpg hT hh hx hq9 => ?_⟩
    rw [rT_in] at hT ⊢
    obtain ⟨fX, fY, y1, y2, y3, _, y5⟩ := hY E V f h h9 q q9 x hE hq (pH_drop 1 hpH) hpg.2 (by omega) hh hx (fun hq => absurd (hq9 hq).1 (by omega))
    obtain ⟨y5, y6, y7, n, y9, y10⟩ := y5 rfl
    refine ⟨uqd fX E (fX E + (if k2 < 3 then 1 else 2 * rT l2)), fY, fun e he => ?_, ?_, y3, fun h => by omega, fun _ => ⟨⟨hp.1, hp.2.1, y5⟩, ?_, ⟨hb9.1, hb9.2.1, hb9.2.2.1, hb9.2.2.2.1, hb9.2.2.2.2.1, hb9.2.2.2.2.2.1, hb9.2.2.2.2.2.2.1, y7⟩, n + 1, by rw [rI_in]; omega, ⟨(ralk_refl (.inner 0 k2 v2 l2 .leaf)).1, y10⟩⟩⟩
    · rw [uqd_n he]; exact y1 e he
    · rw [uqd_s]; omega
    · rw [uqd_s, rT_in]; omega
  · intro o z2 k2 v2 w l2 r2 X Y hw hb9 hp ho _ hY
    obtain ⟨⟨y8, _⟩, hY⟩ := hY
    refine ⟨⟨fun _ h => (by cases h), fun _ h => absurd h (rSg_no (by omega))⟩, fun E V f h h9 q q9 x hE hq hpH hpg hT hh hx hq9 => ?_⟩
    have hpH9 := hpH
    rw [rT_in] at hT ⊢
    obtain ⟨fX, fY, y1, y2, y3, _, y5⟩ := hY E V f h h9 q False x hE hq (pH_drop 1 hpH) hpg.2 (by omega) hh hx (fun h => h.elim)
    have y3 := QL_rest (q9 := q9) (fun hq => rI_1 (hq9 hq).2.1) y3
    obtain ⟨y5, y6, y7, n, y9, y10⟩ := y5 rfl
    have hpX : pH (.inner 0 k2 v2 l2 X) := by
      have h5 := pH_win (a := 0) (n := n + 1) (by rw [rI_in]; omega) hpH9
      refine pH_alk _ (.inner z2 k2 v2 l2 (rpre n r2 .leaf)) ⟨(ralk_refl (.inner 0 k2 v2 l2 .leaf)).1, y10⟩ ⟨hb9.1, hb9.2.1, hb9.2.2.1, hb9.2.2.2.1, hb9.2.2.2.2.1, hb9.2.2.2.2.2.1, hb9.2.2.2.2.2.2.1, y7⟩ h5
    refine ⟨fun _ => 0, fun e => uqd fX E (fX E + (if k2 < 3 then 1 else 2 * rT l2)) e + fY e, fun e he => ?_, ?_, ⟨uqd fX E (fX E + (if k2 < 3 then 1 else 2 * rT l2)), fY, fun e _ => Nat.le_refl _, y3, Or.inr (Or.inl ⟨rfl, ⟨⟨hp.1, hp.2.1, y5⟩, hpX⟩, E, by omega, Or.inr rfl, ?_⟩)⟩, fun _ => ⟨trivial, trivial⟩, fun _ => ⟨trivial, Nat.zero_le _, trivial, 0, Nat.zero_le _, trivial⟩⟩
    · show 0 + (uqd fX E _ e + fY e) ≤ f e
      rw [uqd_n he]
      have := y1 e he
      omega
    · show 0 + (uqd fX E _ E + fY E) ≤ _
      rw [uqd_s]; omega
    · rw [uqd_s, rT_in]; omega
/-- a page laid: one event more -/
theorem QL_lay {w b : Rw} {E : Nat} {V : Nat → Prop} {f : Nat → Nat} (h18 : rN w + rN b ≤ 1800) (hw : rWF w) (hb9 : rWF b) (hp : rPg b) (hpH : pH b) (hpg : pgH b 100) (hT : rT b ≤ 60) (hE : 1 ≤ E) (h : QL w E V f (fun _ => 100) False) : QL (lrow w b) (E + 1) (vE V E) (uqd f E (rT b)) (fun _ => 100) False := by
  obtain ⟨fX, fY, y1, y2, y3, _, _⟩ := (LQ_all _ 0 w b (Nat.lt_succ_self _) h18 hw hb9 hp).2 E V f (fun _ => 100) (fun _ => 100) False False 100 hE h hpH hpg (by omega) (fun _ _ _ => Nat.le_refl _) (Nat.le_refl _) (fun h => h.elim)
  refine QL_mono _ (fun _ h => h) (fun e he => ?_) (fun _ _ _ => Nat.le_refl _) (fun h => h) y3
  by_cases hE2 : e = E
  · rw [hE2, uqd_s]; omega
  · rw [uqd_n (by omega)]
    have := y1 e (by omega)
    omega
/-! the first page; what a page's row says of what stands beside its repeats -/
theorem QL_pg : ∀ (w : Rw) {V : Nat → Prop} {f h : Nat → Nat} {q : Prop} {x : Nat}, rWF w → rPg w → V 0 → rT w ≤ f 0 → pgH w x → x ≤ h 0 → (q → rI w = 1 ∧ ∀ (z k : Nat) (v : Int) (l r : Rw), w = .inner z k v l r → k = 4 → 3 ≤ pV l) → QL w 1 V f h q
  | .leaf, _, _, _, _, _, _, _, _, _, _, _, _ => trivial
  | .inner z k v l r, V, f, h, q, x, hw, hp, hV, hf, hpg, hx, hq => by
    rw [rT_in] at hf
    have hr := QL_pg r (q := False) (h := h) hw.2.2.2.2.2.2.2 hp.2.2 hV (Nat.le_refl (rT r)) hpg.2 hx (fun h => h.elim) (f := fun _ => rT r)
    refine ⟨fun _ => if k < 3 then 1 else 2 * rT l, fun _ => rT r, fun e he => ?_, QL_rest (fun h => rI_1 (hq h).1) hr, ?_⟩
    · obtain rfl : e = 0 := by omega
      exact hf
    · by_cases hk : k < 3
      · exact Or.inl ⟨hk, fun e _ => by show 1 ≤ (if k < 3 then 1 else 2 * rT l); rw [if_pos hk]; omega, 0, by omega, hV⟩
      · have hk4 : k = 4 := by have := hw.1; have := hp.1; omega
        obtain ⟨p1, p2, p3⟩ := hpg.1 hk4
        have hl := QL_pg l (f := fun _ => rT l) (h := hW 0 (fun _ => rT l)) (q := rI l = 1) hw.2.2.2.2.2.2.1 hp.2.1 hV (Nat.le_refl _) p2 (by rw [hW_ge (Nat.zero_le _)]; exact Nat.le_refl _) (fun hI => ⟨hI, p3 hI⟩)
        have hlS := PL_S l (QL_PL l hl) 0 (by omega)
        refine Or.inr (Or.inr (Or.inr ⟨hk4, rPg_Pl l hp.2.1 (hw.2.2.1 (by omega)), 0, fun _ => rT l, fun _ => rT l, V, fun _ h => h, hl, hl, fun e _ h => absurd h (Nat.not_lt_zero _), fun e he _ => ⟨rfl, ?_, fun _ => ?_⟩, fun h => by omega, fun h9 => Or.inr ?_⟩))
        · show rT l ≤ (if k < 3 then 1 else 2 * rT l)
          rw [if_neg hk]; omega
        · obtain rfl : e = 0 := by omega
          show 2 * rT l ≤ (if k < 3 then 1 else 2 * rT l) ∧ bH (if k < 3 then 1 else 2 * rT l) (h 0)
          rw [if_neg hk]
          exact ⟨Nat.le_refl _, bH_mono hx p1⟩
        · have h8 := (hq h9).2 z k v l r rfl hk4
          have hlS : pV l ≤ rT l := hlS
          show 3 ≤ (if k < 3 then 1 else 2 * rT l)
          rw [if_neg hk]; omega

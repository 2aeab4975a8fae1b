
/-! laying keeps it, with one page more -/
def vE (V : Nat → Prop) (E : Nat) : Nat → Prop := fun e => V e ∨ e = E
theorem rT_0 : rT (Std.DTreeMap.Internal.Impl.leaf : Rw) = 0 := rfl
def LM (o : Nat) (w b X Y : Rw) : Prop := ∀ (E : Nat) (V : Nat → Prop) (f : Nat → Nat), 1 ≤ E → PL w E V f → ∃ fX fY : Nat → Nat, (∀ e : Nat, e < E → fX e + fY e ≤ f e) ∧ fX E + fY E ≤ rT b ∧ PL Y (E + 1) (vE V E) fY ∧ (o = 4 → rNO X ∧ PL X E V fX) ∧ (o = 5 → rPg X ∧ rT X ≤ fX E)
/-- an option stays as it is -/
theorem PL_opt {l l9 : Rw} {E : Nat} {V : Nat → Prop} {f1 : Nat → Nat} {x : Nat} (ha : ralk l9 l) (hw : rWF l9) (h3 : (3 = 3 ∧ rPg l ∧ ∃ e : Nat, e < E ∧ V e ∧ rT l ≤ f1 e) ∨ (3 = 3 ∧ rNO l ∧ ∃ L2 : Nat, 1 ≤ L2 ∧ L2 ≤ E ∧ PL l L2 V f1)) : (3 = 3 ∧ rPg l9 ∧ ∃ e : Nat, e < E + 1 ∧ vE V E e ∧ rT l9 ≤ uqd f1 E x e) ∨ (3 = 3 ∧ rNO l9 ∧ ∃ L2 : Nat, 1 ≤ L2 ∧ L2 ≤ E + 1 ∧ PL l9 L2 (vE V E) (uqd f1 E x)) := by
  rcases h3 with ⟨_, b, e, c, d, g9⟩ | ⟨_, b, L2, c, d, e⟩
  · exact Or.inl ⟨rfl, alk_Pg _ _ ha hw b, e, by omega, Or.inl d, by rw [uqd_n c, ralk_T _ _ ha]; exact g9⟩
  · exact Or.inr ⟨rfl, alk_NO _ _ ha b, L2, c, by omega, PL_alk _ _ ha hw (PL_mono l (fun _ h => Or.inl h) (fun e he => by rw [uqd_n (by omega)]; exact Nat.le_refl _) e)⟩
theorem LM_all : ∀ (n o : Nat) (w b : Rw), rN w + rN b < n → rN w + rN b ≤ 1800 → rWF w → rWF b → rPg b → LM o w b (wk o w b).1 (wk o w b).2 := by
  refine wk_ind (M := LM) ?_ ?_ ?_ ?_ ?_ ?_ ?_ ?_ ?_ ?_
  · intro o E V f hE h
    exact ⟨fun _ => 0, fun _ => 0, fun e _ => Nat.zero_le _, Nat.zero_le _, trivial, fun _ => ⟨trivial, trivial⟩, fun _ => ⟨trivial, Nat.zero_le _⟩⟩
  · intro o z k v l r z2 k2 v2 l2 r2 X Y hw hb9 hp hk ha _ _ hY E V f hE h
    obtain ⟨f1, f2, h1, h2, h3⟩ := h
    obtain ⟨fX, fY, y1, y2, y3, _, _⟩ := hY E V f2 hE h2
    have hk2 := (alk_k ha).1.mp hk
    refine ⟨fun _ => 0, fun e => uqd f1 E 1 e + fY e, fun e he => ?_, ?_, ⟨uqd f1 E 1, fY, fun e _ => Nat.le_refl _, y3, ?_⟩, fun _ => ⟨trivial, trivial⟩, fun _ => ⟨trivial, Nat.zero_le _⟩⟩
    · show 0 + (uqd f1 E 1 e + fY e) ≤ f e
      rw [uqd_n he]
      have a1 := h1 e he
      have a2 := y1 e he
      omega
    · show 0 + (uqd f1 E 1 E + fY E) ≤ _
      rw [uqd_s, rT_in, if_pos hk2]; omega
    · rcases h3 with ⟨a, b, e, c, d⟩ | ⟨a, _⟩ | ⟨a, _⟩ | ⟨a, _⟩
      · refine Or.inl ⟨fK_lt hk, fun e2 he2 => ?_, e, by omega, Or.inl d⟩
        by_cases hE2 : e2 = E
        · rw [hE2, uqd_s]; omega
        · rw [uqd_n (by omega)]
          exact b e2 (by omega)
      · omega
      · omega
      · omega
  · intro o z v l r z2 v2 l2 r2 X Y Xi hw hb9 hp h18 hf _ _ hin _ hY E V f hE h
    obtain ⟨f1, f2, h1, h2, h3⟩ := h
    obtain ⟨fX, fY, y1, y2, y3, _, _⟩ := hY E V f2 hE h2
    have hPl := lay_Pl h18 hw.2.2.2.2.2.2.1 hb9.2.2.2.2.2.2.1 hp.2.1 hf
    refine ⟨fun _ => 0, fun e => uqd f1 E (2 * rT l2) e + fY e, fun e he => ?_, ?_, ⟨uqd f1 E (2 * rT l2), fY, fun e _ => Nat.le_refl _, y3, ?_⟩, fun _ => ⟨trivial, trivial⟩, fun _ => ⟨trivial, Nat.zero_le _⟩⟩
    · show 0 + (uqd f1 E (2 * rT l2) e + fY e) ≤ f e
      rw [uqd_n he]
      have a1 := h1 e he
      have a2 := y1 e he
      omega
    · show 0 + (uqd f1 E (2 * rT l2) E + fY E) ≤ _
      rw [uqd_s, rT_in, if_neg (by omega)]; omega
    · rcases h3 with ⟨a, _⟩ | ⟨a, _⟩ | ⟨a, _⟩ | ⟨a, b, T, g1, g2, V2, c, d, d2, g9, g8⟩
      · omega
      · omega
      · omega
      · have hi : ∀ g : Nat → Nat, PL l E V2 g → PL (lrow l l2) (E + 1) (vE V2 E) (uqd g E (rT l2)) := fun g hg => by
          obtain ⟨fX3, fY3, i1, i2, i3, _, _⟩ := hin E V2 g hE hg
          refine PL_mono _ (fun _ h => h) (fun e he => ?_) i3
          by_cases hE2 : e = E
          · rw [hE2, uqd_s]; omega
          · rw [uqd_n (by omega)]
            have := i1 e (by omega)
            omega
        refine Or.inr (Or.inr (Or.inr ⟨rfl, hPl, T, uqd g1 E (rT l2), uqd g2 E (rT l2), vE V2 E, fun e he => he.elim (fun h => Or.inl (c e h)) Or.inr, hi g1 d, hi g2 d2, fun e he hT => ?_, fun e he hT => ?_⟩))
        · by_cases hE2 : e = E
          · rw [hE2, uqd_s, uqd_s, uqd_s]; omega
          · rw [uqd_n (by omega), uqd_n (by omega), uqd_n (by omega)]
            exact g9 e (by omega) hT
        · by_cases hE2 : e = E
          · rw [hE2, uqd_s, uqd_s, uqd_s]
            exact ⟨rfl, by omega, fun _ => Nat.le_refl _⟩
          · rw [uqd_n (by omega), uqd_n (by omega), uqd_n (by omega)]
            have h8 := g8 e (by omega) hT
            exact ⟨h8.1, h8.2.1, fun h => h8.2.2 (h.elim (fun h => h) (fun h => absurd h hE2))⟩
  · intro o z k v l r b X Y hw hb9 hp hk hnx _ _ hY E V f hE h
    obtain ⟨f1, f2, h1, h2, h3⟩ := h
    obtain ⟨fX, fY, y1, y2, y3, _, _⟩ := hY E V f2 hE h2
    obtain ⟨a1, a2, a3⟩ := nxt_WF hw.2.2.2.2.2.2.1 hb9 hnx
    have hlP := (nxt_ralk l b hnx).1
    have hT1 := ralk_T _ _ hlP
    have hT2 := rpre_T (rI l) b .leaf
    rw [rT_0, Nat.add_zero] at hT2
    refine ⟨fun _ => 0, fun e => uqd f1 E (rT l) e + fY e, fun e he => ?_, ?_, ⟨uqd f1 E (rT l), fY, fun e _ => Nat.le_refl _, y3, ?_⟩, fun _ => ⟨trivial, trivial⟩, fun _ => ⟨trivial, Nat.zero_le _⟩⟩
    · show 0 + (uqd f1 E (rT l) e + fY e) ≤ f e
      rw [uqd_n he]
      have q1 := h1 e he
      have q2 := y1 e he
      omega
    · show 0 + (uqd f1 E (rT l) E + fY E) ≤ _
      rw [uqd_s]; omega
    · rcases h3 with ⟨a, _⟩ | h3 | h3 | ⟨a, b9, T, g1, g2, V2, c, d, d2, g9, g8⟩
      · omega
      · obtain rfl := h3.1
        exact Or.inr ((PL_opt a2 a1 (Or.inl h3)).elim Or.inl (fun h => Or.inr (Or.inl h)))
      · obtain rfl := h3.1
        exact Or.inr ((PL_opt a2 a1 (Or.inr h3)).elim Or.inl (fun h => Or.inr (Or.inl h)))
      · have hPl := alk_Pg l _ hlP hw.2.2.2.2.2.2.1 (rpre_Pg _ _ _ hp trivial)
        refine Or.inr (Or.inr (Or.inr ⟨a, alk_Pl _ _ a2 b9, min T E, uqd g1 E (rT l), uqd g2 E (rT l), fun e => V2 e ∧ e < E, fun e he => Or.inl (c e he.1), PL_alk _ _ a2 a1 (PL_touch l d hPl), PL_alk _ _ a2 a1 (PL_touch l d2 hPl), fun e he hT => ?_, fun e he hT => ?_⟩))
        · rw [uqd_n (by omega), uqd_n (by omega), uqd_n (by omega)]
          exact g9 e (by omega) (by omega)
        · by_cases hE2 : e = E
          · rw [hE2, uqd_s, uqd_s, uqd_s]
            exact ⟨rfl, Nat.le_refl _, fun h => by omega⟩
          · rw [uqd_n (by omega), uqd_n (by omega), uqd_n (by omega)]
            have h8 := g8 e (by omega) (by omega)
            exact ⟨h8.1, h8.2.1, fun h => h8.2.2 h.1⟩
  · intro o z2 v2 w l2 r2 X Y hw hb9 hp hnx _ _ hY E V f hE h
    obtain ⟨fa, fb, q1, q2, q3⟩ := PL_cut (rI l2) w (nxt_I _ _ hnx) h
    obtain ⟨fX, fY, y1, y2, y3, _, _⟩ := hY E V fb hE q3
    obtain ⟨a1, a2, a3⟩ := nxt_WF hb9.2.2.2.2.2.2.1 hw hnx
    have hlP := (nxt_ralk l2 w hnx).1
    have hT1 := ralk_T _ _ hlP
    have hPP := alk_Pg _ _ (ralk_symm _ _ hlP) (rpre_WF _ _ _ hw trivial) hp.2.1
    have hB := PL_alk _ _ a3 a1 (PL_born _ q2 hPP)
    refine ⟨fun _ => 0, fun e => uqd fa E (2 * rT l2) e + fY e, fun e he => ?_, ?_, ⟨uqd fa E (2 * rT l2), fY, fun e _ => Nat.le_refl _, y3, ?_⟩, fun _ => ⟨trivial, trivial⟩, fun _ => ⟨trivial, Nat.zero_le _⟩⟩
    · show 0 + (uqd fa E (2 * rT l2) e + fY e) ≤ f e
      rw [uqd_n he]
      have p1 := q1 e he
      have p2 := y1 e he
      omega
    · show 0 + (uqd fa E (2 * rT l2) E + fY E) ≤ _
      rw [uqd_s, rT_in, if_neg (by omega)]; omega
    · refine Or.inr (Or.inr (Or.inr ⟨rfl, rPg_Pl _ (alk_Pg _ _ a3 a1 hPP) (ralk_ne a2 (hb9.2.2.1 (by omega))), 0, _, _, fun e => e = E, fun e he => Or.inr he, hB, hB, fun e he hT => absurd hT (Nat.not_lt_zero _), fun e he _ => ⟨rfl, ?_, fun hE2 => ?_⟩⟩))
      · by_cases hE2 : e = E
        · rw [hE2, uqd_s, uqd_s]; omega
        · rw [uqd_n (by omega), uqd_n (by omega)]; exact Nat.le_refl _
      · rw [hE2, uqd_s, uqd_s]; omega
  · intro o z v l r b X Y hw hb9 hp _ _ hY E V f hE h
    obtain ⟨f1, f2, h1, h2, h3⟩ := h
    obtain ⟨fX, fY, y1, y2, y3, _, _⟩ := hY E V f2 hE h2
    have hl := hw.2.2.2.2.2.2.1
    refine ⟨fun _ => 0, fun e => uqd f1 E 0 e + fY e, fun e he => ?_, ?_, ⟨uqd f1 E 0, fY, fun e _ => Nat.le_refl _, y3, ?_⟩, fun _ => ⟨trivial, trivial⟩, fun _ => ⟨trivial, Nat.zero_le _⟩⟩
    · show 0 + (uqd f1 E 0 e + fY e) ≤ f e
      rw [uqd_n he]
      have q1 := h1 e he
      have q2 := y1 e he
      omega
    · show 0 + (uqd f1 E 0 E + fY E) ≤ _
      rw [uqd_s]; omega
    · rcases h3 with ⟨a, _⟩ | h3 | h3 | ⟨a, _⟩
      · omega
      · exact Or.inr ((PL_opt (ralk_refl l) hl (Or.inl h3)).elim Or.inl (fun h => Or.inr (Or.inl h)))
      · exact Or.inr ((PL_opt (ralk_refl l) hl (Or.inr h3)).elim Or.inl (fun h => Or.inr (Or.inl h)))
      · omega
  · intro z k v l r b X Y hw hb9 hp hk _ hY E V f hE h
    obtain ⟨f1, f2, h1, h2, h3⟩ := h
    obtain ⟨fX, fY, y1, y2, y3, y4, _⟩ := hY E V f2 hE h2
    obtain ⟨y4, y6⟩ := y4 rfl
    refine ⟨uqd (fun e => f1 e + fX e) E (fX E), fY, fun e he => ?_, ?_, y3, fun _ => ⟨⟨hk, y4⟩, f1, fX, fun e he => ?_, y6, h3⟩, fun h => by omega⟩
    · rw [uqd_n he]
      have q1 := h1 e he
      have q2 := y1 e he
      show f1 e + fX e + fY e ≤ f e
      omega
    · rw [uqd_s]; exact y2
    · rw [uqd_n he]; exact Nat.le_refl _
  · intro o z k v l r b X Y hw hb9 hp hk _ _ hY E V f hE h
    obtain ⟨f1, f2, h1, h2, h3⟩ := h
    obtain ⟨fX, fY, y1, y2, y3, y4, _⟩ := hY E V f2 hE h2
    obtain ⟨y4, y6⟩ := y4 rfl
    have hX : PL (Std.DTreeMap.Internal.Impl.inner 0 k v l X) E V (fun e => f1 e + fX e) := ⟨f1, fX, fun e _ => Nat.le_refl _, y6, h3⟩
    refine ⟨fun _ => 0, fun e => uqd (fun e => f1 e + fX e) E 0 e + fY e, fun e he => ?_, ?_, ⟨uqd (fun e => f1 e + fX e) E 0, fY, fun e _ => Nat.le_refl _, y3, Or.inr (Or.inr (Or.inl ⟨rfl, ⟨hk, y4⟩, E, hE, by omega, PL_mono _ (fun _ h => Or.inl h) (fun e he => ?_) hX⟩))⟩, fun _ => ⟨trivial, trivial⟩, fun _ => ⟨trivial, Nat.zero_le _⟩⟩
    · show 0 + (uqd (fun e => f1 e + fX e) E 0 e + fY e) ≤ f e
      rw [uqd_n he]
      have q1 := h1 e he
      have q2 := y1 e he
      show 0 + (f1 e + fX e + fY e) ≤ f e
      omega
    · show 0 + (uqd (fun e => f1 e + fX e) E 0 E + fY E) ≤ _
      rw [uqd_s]; omega
    · rw [uqd_n he]; exact Nat.le_refl _
  · intro z2 k2 v2 w l2 r2 X Y hw hb9 hp _ hY E V f hE h
    obtain ⟨fX, fY, y1, y2, y3, _, y5⟩ := hY E V f hE h
    obtain ⟨y5, y6⟩ := y5 rfl
    refine ⟨uqd fX E (fX E + (if k2 < 3 then 1 else 2 * rT l2)), fY, fun e he => ?_, ?_, y3, fun h => by omega, fun _ => ⟨⟨hp.1, hp.2.1, y5⟩, ?_⟩⟩
    · rw [uqd_n he]; exact y1 e he
    · rw [uqd_s, rT_in]; omega
    · rw [uqd_s, rT_in]; omega
  · intro o z2 k2 v2 w l2 r2 X Y hw hb9 hp _ _ hY E V f hE h
    obtain ⟨fX, fY, y1, y2, y3, _, y5⟩ := hY E V f hE h
    obtain ⟨y5, y6⟩ := y5 rfl
    refine ⟨fun _ => 0, fun e => uqd fX E (fX E + (if k2 < 3 then 1 else 2 * rT l2)) e + fY e, fun e he => ?_, ?_, ⟨uqd fX E (fX E + (if k2 < 3 then 1 else 2 * rT l2)), fY, fun e _ => Nat.le_refl _, y3, Or.inr (Or.inl ⟨rfl, ⟨hp.1, hp.2.1, y5⟩, E, by omega, Or.inr rfl, ?_⟩)⟩, fun _ => ⟨trivial, trivial⟩, fun _ => ⟨trivial, Nat.zero_le _⟩⟩
    · show 0 + (uqd fX E _ e + fY e) ≤ f e
      rw [uqd_n he]
      have := y1 e he
      omega
    · show 0 + (uqd fX E _ E + fY E) ≤ _
      rw [uqd_s, rT_in]; omega
    · rw [uqd_s, rT_in]; omega
/-- a page laid: one event more -/
theorem PL_lay {w b : Rw} {E : Nat} {V : Nat → Prop} {f : Nat → Nat} (h18 : rN w + rN b ≤ 1800) (hw : rWF w) (hb9 : rWF b) (hp : rPg b) (hE : 1 ≤ E) (h : PL w E V f) : PL (lrow w b) (E + 1) (vE V E) (uqd f E (rT b)) := by
  obtain ⟨fX, fY, y1, y2, y3, _, _⟩ := LM_all _ 0 w b (Nat.lt_succ_self _) h18 hw hb9 hp E V f hE h
  refine PL_mono _ (fun _ h => h) (fun e he => ?_) y3
  by_cases hE2 : e = E
  · rw [hE2, uqd_s]; omega
  · rw [uqd_n (by omega)]
    have := y1 e (by omega)
    omega

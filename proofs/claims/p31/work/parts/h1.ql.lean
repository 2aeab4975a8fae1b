/-! the pages' tokens once more, with what is beside a repeat in a repeat: what holds of it -/
/-- the share of the row as a repeat's content: what counts from its fold on -/
def hW (T : Nat) (g : Nat → Nat) : Nat → Nat := fun e => if e < T then 100 else g e
theorem hW_lt {T e : Nat} {g : Nat → Nat} (h : e < T) : hW T g e = 100 := if_pos h
theorem hW_ge {T e : Nat} {g : Nat → Nat} (h : T ≤ e) : hW T g e = g e := if_neg (by omega)
def bH (f h : Nat) : Prop := f + 1 ≤ h ∨ 10 ≤ h
def QL : Rw → Nat → (Nat → Prop) → (Nat → Nat) → (Nat → Nat) → Prop → Prop
  | .leaf, _, _, _, _, _ => True
  | .inner _ k _ l r, L, V, f, h, q => ∃ f1 f2 : Nat → Nat, (∀ e : Nat, e < L → f1 e + f2 e ≤ f e) ∧ QL r L V f2 h q ∧
      ((k < 3 ∧ (∀ e : Nat, e < L → 1 ≤ f1 e) ∧ ∃ e : Nat, e < L ∧ V e) ∨
       (k = 3 ∧ (rPg l ∧ pH l) ∧ ∃ e : Nat, e < L ∧ V e ∧ rT l ≤ f1 e) ∨
       (k = 3 ∧ rNO l ∧ ∃ L2 : Nat, 1 ≤ L2 ∧ L2 ≤ L ∧ QL l L2 V f1 h False) ∨
       (k = 4 ∧ rPl l ∧ ∃ (T : Nat) (g1 g2 : Nat → Nat) (V2 : Nat → Prop), (∀ e : Nat, V2 e → V e) ∧ QL l L V2 g1 (hW T g1) (rI l = 1) ∧ QL l L V2 g2 (hW T g2) (rI l = 1) ∧ (∀ e : Nat, e < L → e < T → g1 e + g2 e ≤ f1 e) ∧ (∀ e : Nat, e < L → T ≤ e → g1 e = g2 e ∧ g1 e ≤ f1 e ∧ (V2 e → 2 * g1 e ≤ f1 e ∧ bH (f1 e) (h e))) ∧ (1 ≤ T → ¬ rSg l) ∧ (q → 1 ≤ T ∨ 3 ≤ f1 0)))
theorem bH_mono {f h h9 : Nat} (hh : h ≤ h9) (h1 : bH f h) : bH f h9 := h1.elim (fun q => Or.inl (by omega)) (fun q => Or.inr (by omega))
/-- more tokens in all, more of the whole row, more pages that count: it goes on -/
theorem QL_mono : ∀ (w : Rw) {L : Nat} {V V9 : Nat → Prop} {f g h h9 : Nat → Nat} {q q9 : Prop}, (∀ e : Nat, V e → V9 e) → (∀ e : Nat, e < L → f e ≤ g e) → (∀ e : Nat, e < L → V e → h e ≤ h9 e) → (q9 → q) → QL w L V f h q → QL w L V9 g h9 q9
  | .leaf, _, _, _, _, _, _, _, _, _, _, _, _, _, _ => trivial
  | .inner _ k _ l r, L, V, V9, f, g, h, h9, q, q9, hV, hf, hh, hq, ⟨f1, f2, h1, h2, h3⟩ => by
    refine ⟨f1, f2, fun e he => Nat.le_trans (h1 e he) (hf e he), QL_mono r hV (fun _ _ => Nat.le_refl _) hh hq h2, ?_⟩
    rcases h3 with ⟨a, b, e, c, d⟩ | ⟨a, b, e, c, d, g9⟩ | ⟨a, b, L2, c, d, e⟩ | ⟨a, b, T, g1, g2, V2, c, d, d2, d3, d4, d5, d6⟩
    · exact Or.inl ⟨a, b, e, c, hV e d⟩
    · exact Or.inr (Or.inl ⟨a, b, e, c, hV e d, g9⟩)
    · exact Or.inr (Or.inr (Or.inl ⟨a, b, L2, c, d, QL_mono l hV (fun _ _ => Nat.le_refl _) (fun e he => hh e (by omega)) (fun q => q) e⟩))
    · exact Or.inr (Or.inr (Or.inr ⟨a, b, T, g1, g2, V2, fun e he => hV e (c e he), d, d2, d3, fun e he hT => ⟨(d4 e he hT).1, (d4 e he hT).2.1, fun hv => ⟨((d4 e he hT).2.2 hv).1, bH_mono (hh e he (c e hv)) ((d4 e he hT).2.2 hv).2⟩⟩, d5, fun q => d6 (hq q)⟩))
/-- it is told by what is alike -/
theorem QL_alk : ∀ (x y : Rw) {L : Nat} {V : Nat → Prop} {f h : Nat → Nat} {q : Prop}, ralk x y → rWF x → QL y L V f h q → QL x L V f h q
  | .leaf, _, _, _, _, _, _, _, _, _ => trivial
  | .inner _ _ _ _ _, .leaf, _, _, _, _, _, h, _, _ => h.elim
  | .inner z k v l r, .inner z2 k2 v2 l2 r2, L, V, f, h9, q, h, hw, ⟨f1, f2, h1, h2, h3⟩ => by
    have e1 := alk_k h.1
    have hl : ¬ k < 3 → ralk l l2 := fun h9 => by
      rcases h.1 with ⟨a, _⟩ | ⟨_, _, _, a⟩
      · unfold isTx at a; omega
      · exact a
    have hwl := hw.2.2.2.2.2.2.1
    refine ⟨f1, f2, h1, QL_alk r r2 h.2 hw.2.2.2.2.2.2.2 h2, ?_⟩
    rcases h3 with ⟨a, b⟩ | ⟨a, ⟨b, b2⟩, e, c, d, g9⟩ | ⟨a, b, L2, c, d, e⟩ | ⟨a, b, T, g1, g2, V2, c, d, d2, d3, d4, d5, d6⟩
    · exact Or.inl ⟨e1.1.mpr a, b⟩
    · have hk := e1.2.2.1.mpr a
      exact Or.inr (Or.inl ⟨hk, ⟨alk_Pg l l2 (hl (by omega)) hwl b, pH_alk l l2 (hl (by omega)) hwl b2⟩, e, c, d, by rw [ralk_T l l2 (hl (by omega))]; exact g9⟩)
    · have hk := e1.2.2.1.mpr a
      exact Or.inr (Or.inr (Or.inl ⟨hk, alk_NO l l2 (hl (by omega)) b, L2, c, d, QL_alk l l2 (hl (by omega)) hwl e⟩))
    · have hk := e1.2.2.2.1.mpr a
      have hll := hl (by omega)
      have hI := ralk_rI _ _ hll
      refine Or.inr (Or.inr (Or.inr ⟨hk, alk_Pl l l2 hll b, T, g1, g2, V2, c, ?_, ?_, d3, d4, fun hT hs => d5 hT (alk_Sg hll hs), d6⟩))
      · rw [hI]; exact QL_alk l l2 hll hwl d
      · rw [hI]; exact QL_alk l l2 hll hwl d2
/-- a row in two pieces -/
theorem QL_cut : ∀ (m : Nat) (w : Rw) {L : Nat} {V : Nat → Prop} {f h : Nat → Nat} {q : Prop}, m ≤ rI w → QL w L V f h q → ∃ fa fb : Nat → Nat, (∀ e : Nat, e < L → fa e + fb e ≤ f e) ∧ QL (rpre m w .leaf) L V fa h q ∧ QL (rdrop m w) L V fb h q
  | 0, w, _, _, f, _, _, _, h => ⟨fun _ => 0, f, fun e _ => Nat.le_of_eq (Nat.zero_add _), trivial, h⟩
  | m + 1, .leaf, _, _, _, _, _, h, _ => absurd h (by show ¬ m + 1 ≤ 0; omega)
  | m + 1, .inner _ k _ l r, L, V, f, h, q, hm, ⟨f1, f2, h1, h2, h3⟩ => by
    rw [rI_in] at hm
    obtain ⟨fa, fb, c1, c2, c3⟩ := QL_cut m r (by omega) h2
    refine ⟨fun e => f1 e + fa e, fb, fun e he => ?_, ⟨f1, fa, fun e _ => Nat.le_refl _, c2, h3⟩, c3⟩
    have a1 := h1 e he
    have a2 := c1 e he
    show f1 e + fa e + fb e ≤ f e
    omega
theorem QL_app : ∀ (m : Nat) (w x : Rw) {L : Nat} {V : Nat → Prop} {f fa fb h : Nat → Nat} {q : Prop}, m ≤ rI w → QL (rpre m w .leaf) L V fa h q → QL x L V fb h q → (∀ e : Nat, e < L → fa e + fb e ≤ f e) → QL (rpre m w x) L V f h q
  | 0, w, x, _, _, _, _, _, _, _, _, _, h, hf => QL_mono x (fun _ h => h) (fun e he => by have := hf e he; omega) (fun _ _ _ => Nat.le_refl _) (fun q => q) h
  | m + 1, .leaf, x, _, _, _, _, _, _, _, h, _, _, _ => absurd h (by show ¬ m + 1 ≤ 0; omega)
  | m + 1, .inner _ k _ l r, x, L, V, f, fa, fb, h, q, hm, ⟨f1, f2, h1, h2, h3⟩, hx, hf => by
    rw [rI_in] at hm
    refine ⟨f1, fun e => f2 e + fb e, fun e he => ?_, QL_app m r x (by omega) h2 hx (fun e _ => Nat.le_refl _), h3⟩
    have a1 := h1 e he
    have a2 := hf e he
    show f1 e + (f2 e + fb e) ≤ f e
    omega
/-- what was told before follows -/
theorem QL_PL : ∀ (w : Rw) {L : Nat} {V : Nat → Prop} {f h : Nat → Nat} {q : Prop}, QL w L V f h q → PL w L V f
  | .leaf, _, _, _, _, _, _ => trivial
  | .inner _ k _ l r, L, V, f, h, q, ⟨f1, f2, h1, h2, h3⟩ => by
    refine ⟨f1, f2, h1, QL_PL r h2, ?_⟩
    rcases h3 with h3 | ⟨a, ⟨b, _⟩, c⟩ | ⟨a, b, L2, c, d, e⟩ | ⟨a, b, T, g1, g2, V2, c, d, d2, d3, d4, _, _⟩
    · exact Or.inl h3
    · exact Or.inr (Or.inl ⟨a, b, c⟩)
    · exact Or.inr (Or.inr (Or.inl ⟨a, b, L2, c, d, QL_PL l e⟩))
    · exact Or.inr (Or.inr (Or.inr ⟨a, b, T, g1, g2, V2, c, QL_PL l d, QL_PL l d2, d3, fun e he hT => ⟨(d4 e he hT).1, (d4 e he hT).2.1, fun hv => ((d4 e he hT).2.2 hv).1⟩⟩))
/-- a page goes through what has no options, once -/
theorem QL_touch : ∀ (w : Rw) {E : Nat} {V : Nat → Prop} {f h : Nat → Nat} {q : Prop} {x : Nat}, 1 ≤ E → QL w E V f h q → rPg w → QL w (E + 1) (fun e => V e ∧ e < E) (uqd f E (rT w)) (uqd h E x) q
  | .leaf, _, _, _, _, _, _, _, _, _ => trivial
  | .inner _ k _ l r, E, V, f, h, q, x, hE1, ⟨f1, f2, h1, h2, h3⟩, ⟨p1, p2, p3⟩ => by
    have hr := QL_touch (x := x) r hE1 h2 p3
    refine ⟨uqd f1 E (if k < 3 then 1 else 2 * rT l), uqd f2 E (rT r), fun e he => ?_, hr, ?_⟩
    · by_cases hE : e = E
      · rw [hE, uqd_s, uqd_s, uqd_s, rT_in]; omega
      · rw [uqd_n (by omega), uqd_n (by omega), uqd_n (by omega)]
        exact h1 e (by omega)
    · rcases h3 with ⟨a, b, e, c, d⟩ | ⟨a, _⟩ | ⟨a, _⟩ | ⟨a, b, T, g1, g2, V2, c, d, d2, g9, g8, d5, d6⟩
      · refine Or.inl ⟨a, fun e2 he2 => ?_, e, by omega, d, c⟩
        by_cases hE : e2 = E
        · rw [hE, uqd_s, if_pos a]; omega
        · rw [uqd_n (by omega)]
          exact b e2 (by omega)
      · exact absurd a p1
      · exact absurd a p1
      · have hh : ∀ g : Nat → Nat, QL l E V2 g (hW T g) (rI l = 1) → QL l (E + 1) (fun e => V2 e ∧ e < E) (uqd g E (rT l)) (hW (min T E) (uqd g E (rT l))) (rI l = 1) := fun g hg =>
          QL_mono l (fun _ h => h) (fun _ _ => Nat.le_refl _) (fun e he _ => by
            by_cases hE : e = E
            · rw [hE, uqd_s, hW_ge (by omega), uqd_s]
              exact Nat.le_refl _
            · rw [uqd_n (by omega)]
              by_cases hT : e < T
              · rw [hW_lt hT, hW_lt (by omega)]
                exact Nat.le_refl _
              · rw [hW_ge (by omega), hW_ge (by omega), uqd_n (by omega)]
                exact Nat.le_refl _) (fun q => q) (QL_touch (x := rT l) l hE1 hg p2)
        refine Or.inr (Or.inr (Or.inr ⟨a, b, min T E, uqd g1 E (rT l), uqd g2 E (rT l), fun e => V2 e ∧ e < E, fun e he => ⟨c e he.1, he.2⟩, hh g1 d, hh g2 d2, fun e he hT => ?_, fun e he hT => ?_, fun hT => d5 (by omega), fun hq => ?_⟩))
        · rw [uqd_n (by omega), uqd_n (by omega), uqd_n (by omega)]
          exact g9 e (by omega) (by omega)
        · by_cases hE : e = E
          · rw [hE, uqd_s, uqd_s, uqd_s, if_neg (by omega)]
            exact ⟨rfl, by omega, fun h => by omega⟩
          · rw [uqd_n (by omega), uqd_n (by omega), uqd_n (by omega), uqd_n (by omega)]
            have h8 := g8 e (by omega) (by omega)
            exact ⟨h8.1, h8.2.1, fun h => h8.2.2 h.1⟩
        · rw [uqd_n (by omega)]
          rcases d6 hq with h | h
          · exact Or.inl (by omega)
          · exact Or.inr h
/-- what a page's row says of its repeats: what stands beside them -/
def pgH : Rw → Nat → Prop
  | .leaf, _ => True
  | .inner _ k _ l r, x => (k = 4 → bH (2 * rT l) x ∧ pgH l (rT l) ∧ (rI l = 1 → ∀ (z2 k2 : Nat) (v2 : Int) (l2 r2 : Rw), l = .inner z2 k2 v2 l2 r2 → k2 = 4 → 3 ≤ pV l2)) ∧ pgH r x
theorem pgH_drop : ∀ (m : Nat) (w : Rw) (x : Nat), pgH w x → pgH (rdrop m w) x
  | 0, _, _, h => h
  | _ + 1, .leaf, _, h => h
  | m + 1, .inner _ _ _ _ r, x, h => pgH_drop m r x h.2
theorem pgH_alk : ∀ (w b : Rw) (x : Nat), ralk w b → rWF w → pgH b x → pgH w x
  | .leaf, _, _, _, _, _ => trivial
  | .inner _ _ _ _ _, .leaf, _, h, _, _ => h.elim
  | .inner z k v l r, .inner z2 k2 v2 l2 r2, x, h, hw, ⟨p1, p2⟩ => by
    have e1 := alk_k h.1
    refine ⟨fun hk => ?_, pgH_alk r r2 x h.2 hw.2.2.2.2.2.2.2 p2⟩
    have hll : ralk l l2 := by
      rcases h.1 with ⟨a, _⟩ | ⟨_, _, _, a⟩
      · unfold isTx at a; omega
      · exact a
    obtain ⟨q1, q2, q3⟩ := p1 (e1.2.2.2.1.mp hk)
    rw [ralk_T _ _ hll]
    refine ⟨q1, pgH_alk l l2 _ hll hw.2.2.2.2.2.2.1 q2, fun hI z5 k5 v5 l5 r5 e5 hk5 => ?_⟩
    subst e5
    cases l2 with
    | leaf => exact hll.elim
    | inner z6 k6 v6 l6 r6 =>
      have e6 := alk_k hll.1
      have hl6 : ralk l5 l6 := by
        rcases hll.1 with ⟨a, _⟩ | ⟨_, _, _, a⟩
        · unfold isTx at a; omega
        · exact a
      rw [alk_pV _ _ hl6]
      exact q3 (by rw [← ralk_rI _ _ hll]; exact hI) z6 k6 v6 l6 r6 rfl (e6.2.2.2.1.mp hk5)
/-- what has no options is as if it came now -/
theorem QL_born : ∀ (w : Rw) {E : Nat} {V : Nat → Prop} {f h : Nat → Nat} {q q9 : Prop} {x : Nat}, 1 ≤ E → QL w E V f h q → rPg w → pgH w x → (q9 → ∀ (z k : Nat) (v : Int) (l r : Rw), w = .inner z k v l r → k = 4 → 3 ≤ pV l) → (q9 → rI w = 1) → QL w (E + 1) (fun e => e = E) (uqd f E (rT w)) (uqd h E x) q9
  | .leaf, _, _, _, _, _, _, _, _, _, _, _, _, _ => trivial
  | .inner z k v l r, E, V, f, h, q, q9, x, hE1, ⟨f1, f2, h1, h2, h3⟩, ⟨p1, p2, p3⟩, ⟨j1, j2⟩, hq9, hI9 => by
    have hr := QL_born (q9 := False) (x := x) r hE1 h2 p3 j2 (fun q => q.elim) (fun q => q.elim)
    have hr9 : QL r (E + 1) (fun e => e = E) (uqd f2 E (rT r)) (uqd h E x) q9 := by
      by_cases hq : q9
      · have := hI9 hq
        rw [rI_in] at this
        cases r with
        | leaf => trivial
        | inner _ _ _ _ _ => rw [rI_in] at this; omega
      · exact QL_mono r (fun _ h => h) (fun _ _ => Nat.le_refl _) (fun _ _ _ => Nat.le_refl _) (fun h => hq h) hr
    refine ⟨uqd f1 E (if k < 3 then 1 else 2 * rT l), uqd f2 E (rT r), fun e he => ?_, hr9, ?_⟩
    · by_cases hE : e = E
      · rw [hE, uqd_s, uqd_s, uqd_s, rT_in]; omega
      · rw [uqd_n (by omega), uqd_n (by omega), uqd_n (by omega)]
        exact h1 e (by omega)
    · rcases h3 with ⟨a, b, e, c, d⟩ | ⟨a, _⟩ | ⟨a, _⟩ | ⟨a, b, T, g1, g2, V2, c, d, d2, g9, g8, d5, d6⟩
      · refine Or.inl ⟨a, fun e2 he2 => ?_, E, by omega, rfl⟩
        by_cases hE : e2 = E
        · rw [hE, uqd_s, if_pos a]; omega
        · rw [uqd_n (by omega)]
          exact b e2 (by omega)
      · exact absurd a p1
      · exact absurd a p1
      · obtain ⟨j3, j4, j5⟩ := j1 a
        have hv := PL_S l (QL_PL l d) 0 (by omega)
        have hgf : ∀ e : Nat, e < E → g1 e ≤ f1 e := fun e he => by
          by_cases hT : e < T
          · have := g9 e he hT; omega
          · exact (g8 e he (by omega)).2.1
        have hl9 := QL_born (q9 := rI l = 1) (x := rT l) l hE1 d p2 j4 (fun hI => by
          intro z5 k5 v5 l5 r5 e5 hk5
          exact j5 hI z5 k5 v5 l5 r5 e5 hk5) (fun h => h)
        have hl8 : QL l (E + 1) (fun e => e = E) (uqd g1 E (rT l)) (hW 0 (uqd g1 E (rT l))) (rI l = 1) := QL_mono l (fun _ h => h) (fun _ _ => Nat.le_refl _) (fun e he (hE : e = E) => by
          rw [hW_ge (Nat.zero_le _), hE, uqd_s, uqd_s]
          exact Nat.le_refl _) (fun q => q) hl9
        refine Or.inr (Or.inr (Or.inr ⟨a, b, 0, uqd g1 E (rT l), uqd g1 E (rT l), fun e => e = E, fun e he => he, hl8, hl8, fun e he hT => absurd hT (Nat.not_lt_zero _), fun e he _ => ⟨rfl, ?_, fun hE => ?_⟩, fun h => by omega, fun hq => Or.inr ?_⟩))
        · by_cases hE : e = E
          · rw [hE, uqd_s, uqd_s, if_neg (by omega)]; omega
          · rw [uqd_n (by omega), uqd_n (by omega)]
            exact hgf e (by omega)
        · rw [hE, uqd_s, uqd_s, uqd_s, if_neg (by omega)]
          exact ⟨Nat.le_refl _, j3⟩
        · rw [uqd_n (by omega)]
          have h7 := hq9 hq z k v l r rfl a
          have h6 := hgf 0 (by omega)
          omega

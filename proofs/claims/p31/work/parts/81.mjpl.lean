
/-! how many tokens of each page went through the items of a skeleton: what holds of it -/
def rNO : Rw → Prop
  | .leaf => True
  | .inner _ k _ _ r => k ≠ 3 ∧ rNO r
/-- tokens, tags, fields in no option -/
def pV : Rw → Nat
  | .leaf => 0
  | .inner _ k _ l r => (if k < 3 then 1 else if k = 3 then 0 else pV l) + pV r
def PL : Rw → Nat → (Nat → Prop) → (Nat → Nat) → Prop
  | .leaf, _, _, _ => True
  | .inner _ k _ l r, L, V, f => ∃ f1 f2 : Nat → Nat, (∀ e : Nat, e < L → f1 e + f2 e ≤ f e) ∧ PL r L V f2 ∧
      ((k < 3 ∧ (∀ e : Nat, e < L → 1 ≤ f1 e) ∧ ∃ e : Nat, e < L ∧ V e) ∨
       (k = 3 ∧ rPg l ∧ ∃ e : Nat, e < L ∧ V e ∧ rT l ≤ f1 e) ∨
       (k = 3 ∧ rNO l ∧ ∃ L2 : Nat, 1 ≤ L2 ∧ L2 ≤ L ∧ PL l L2 V f1) ∨
       (k = 4 ∧ rPl l ∧ ∃ (T : Nat) (g1 g2 : Nat → Nat) (V2 : Nat → Prop), (∀ e : Nat, V2 e → V e) ∧ PL l L V2 g1 ∧ PL l L V2 g2 ∧ (∀ e : Nat, e < L → e < T → g1 e + g2 e ≤ f1 e) ∧ (∀ e : Nat, e < L → T ≤ e → g1 e = g2 e ∧ g1 e ≤ f1 e ∧ (V2 e → 2 * g1 e ≤ f1 e))))
theorem PL_mono : ∀ (w : Rw) {L : Nat} {V V9 : Nat → Prop} {f g : Nat → Nat}, (∀ e : Nat, V e → V9 e) → (∀ e : Nat, e < L → f e ≤ g e) → PL w L V f → PL w L V9 g
  | .leaf, _, _, _, _, _, _, _, _ => trivial
  | .inner _ k _ l r, L, V, V9, f, g, hV, hf, ⟨f1, f2, h1, h2, h3⟩ => by
    refine ⟨f1, f2, fun e he => Nat.le_trans (h1 e he) (hf e he), PL_mono r hV (fun _ _ => Nat.le_refl _) h2, ?_⟩
    rcases h3 with ⟨a, b, e, c, d⟩ | ⟨a, b, e, c, d, g9⟩ | ⟨a, b, L2, c, d, e⟩ | ⟨a, b, T, g1, g2, V2, c, d, e⟩
    · exact Or.inl ⟨a, b, e, c, hV e d⟩
    · exact Or.inr (Or.inl ⟨a, b, e, c, hV e d, g9⟩)
    · exact Or.inr (Or.inr (Or.inl ⟨a, b, L2, c, d, PL_mono l hV (fun _ _ => Nat.le_refl _) e⟩))
    · exact Or.inr (Or.inr (Or.inr ⟨a, b, T, g1, g2, V2, fun e he => hV e (c e he), d, e⟩))
theorem alk_Pg : ∀ x y : Rw, ralk x y → rWF x → rPg y → rPg x
  | .leaf, _, _, _, _ => trivial
  | .inner _ _ _ _ _, .leaf, h, _, _ => h.elim
  | .inner z k v l r, .inner z2 k2 v2 l2 r2, h, hw, ⟨h1, h2, h3⟩ => by
    have e1 := alk_k h.1
    refine ⟨fun h9 => h1 (e1.2.2.1.mp h9), ?_, alk_Pg r r2 h.2 hw.2.2.2.2.2.2.2 h3⟩
    rcases h.1 with ⟨a, _⟩ | ⟨_, _, _, a⟩
    · unfold isTx at a
      obtain rfl := hw.2.1 (by omega)
      trivial
    · exact alk_Pg l l2 a hw.2.2.2.2.2.2.1 h2
theorem alk_Pl : ∀ x y : Rw, ralk x y → rPl y → rPl x
  | .leaf, .leaf, _, h => h.elim
  | .leaf, .inner _ _ _ _ _, h, _ => h.elim
  | .inner _ _ _ _ _, .leaf, h, _ => h.elim
  | .inner z k v l r, .inner z2 k2 v2 l2 r2, h, hp => by
    have e1 := alk_k h.1
    rcases hp with hp | hp
    · exact Or.inl (fun h9 => hp (e1.2.2.1.mp h9))
    · exact Or.inr (alk_Pl r r2 h.2 hp)
theorem alk_NO : ∀ x y : Rw, ralk x y → rNO y → rNO x
  | .leaf, _, _, _ => trivial
  | .inner _ _ _ _ _, .leaf, h, _ => h.elim
  | .inner z k v l r, .inner z2 k2 v2 l2 r2, h, hp => by
    have e1 := alk_k h.1
    exact ⟨fun h9 => hp.1 (e1.2.2.1.mp h9), alk_NO r r2 h.2 hp.2⟩
theorem ralk_symm : ∀ x y : Rw, ralk x y → ralk y x
  | .leaf, .leaf, _ => trivial
  | .leaf, .inner _ _ _ _ _, h => h.elim
  | .inner _ _ _ _ _, .leaf, h => h.elim
  | .inner z k v l r, .inner z2 k2 v2 l2 r2, h => by
    refine ⟨?_, ralk_symm r r2 h.2⟩
    rcases h.1 with ⟨a, b⟩ | ⟨a, b, c, d⟩
    · exact Or.inl ⟨b, a⟩
    · exact Or.inr ⟨b ▸ a, b.symm, fun h9 => (c (b.trans h9)).symm, ralk_symm l l2 d⟩
theorem alk_pV : ∀ x y : Rw, ralk x y → pV x = pV y
  | .leaf, .leaf, _ => rfl
  | .leaf, .inner _ _ _ _ _, h => h.elim
  | .inner _ _ _ _ _, .leaf, h => h.elim
  | .inner z k v l r, .inner z2 k2 v2 l2 r2, h => by
    have e1 := alk_k h.1
    rw [pV, pV, alk_pV r r2 h.2]
    by_cases h3 : k < 3
    · rw [if_pos h3, if_pos (e1.1.mp h3)]
    · rw [if_neg h3, if_neg (fun h9 => h3 (e1.1.mpr h9))]
      by_cases h4 : k = 3
      · rw [if_pos h4, if_pos (e1.2.2.1.mp h4)]
      · rw [if_neg h4, if_neg (fun h9 => h4 (e1.2.2.1.mpr h9))]
        rcases h.1 with ⟨a, _⟩ | ⟨_, _, _, a⟩
        · unfold isTx at a; omega
        · rw [alk_pV l l2 a]
/-- it is told by what is alike -/
theorem PL_alk : ∀ (x y : Rw) {L : Nat} {V : Nat → Prop} {f : Nat → Nat}, ralk x y → rWF x → PL y L V f → PL x L V f
  | .leaf, _, _, _, _, _, _, _ => trivial
  | .inner _ _ _ _ _, .leaf, _, _, _, h, _, _ => h.elim
  | .inner z k v l r, .inner z2 k2 v2 l2 r2, L, V, f, h, hw, ⟨f1, f2, h1, h2, h3⟩ => by
    have e1 := alk_k h.1
    have hl : ¬ k < 3 → ralk l l2 := fun h9 => by
      rcases h.1 with ⟨a, _⟩ | ⟨_, _, _, a⟩
      · unfold isTx at a; omega
      · exact a
    have hwl := hw.2.2.2.2.2.2.1
    refine ⟨f1, f2, h1, PL_alk r r2 h.2 hw.2.2.2.2.2.2.2 h2, ?_⟩
    rcases h3 with ⟨a, b⟩ | ⟨a, b, e, c, d, g9⟩ | ⟨a, b, L2, c, d, e⟩ | ⟨a, b, T, g1, g2, V2, c, d, e, g9⟩
    · exact Or.inl ⟨e1.1.mpr a, b⟩
    · have hk := e1.2.2.1.mpr a
      exact Or.inr (Or.inl ⟨hk, alk_Pg l l2 (hl (by omega)) hwl b, e, c, d, by rw [ralk_T l l2 (hl (by omega))]; exact g9⟩)
    · have hk := e1.2.2.1.mpr a
      exact Or.inr (Or.inr (Or.inl ⟨hk, alk_NO l l2 (hl (by omega)) b, L2, c, d, PL_alk l l2 (hl (by omega)) hwl e⟩))
    · have hk := e1.2.2.2.1.mpr a
      exact Or.inr (Or.inr (Or.inr ⟨hk, alk_Pl l l2 (hl (by omega)) b, T, g1, g2, V2, c, PL_alk l l2 (hl (by omega)) hwl d, PL_alk l l2 (hl (by omega)) hwl e, g9⟩))
/-- a row in two pieces -/
theorem PL_cut : ∀ (m : Nat) (w : Rw) {L : Nat} {V : Nat → Prop} {f : Nat → Nat}, m ≤ rI w → PL w L V f → ∃ fa fb : Nat → Nat, (∀ e : Nat, e < L → fa e + fb e ≤ f e) ∧ PL (rpre m w .leaf) L V fa ∧ PL (rdrop m w) L V fb
  | 0, w, _, _, f, _, h => ⟨fun _ => 0, f, fun e _ => Nat.le_of_eq (Nat.zero_add _), trivial, h⟩
  | m + 1, .leaf, _, _, _, h, _ => absurd h (by show ¬ m + 1 ≤ 0; omega)
  | m + 1, .inner _ k _ l r, L, V, f, hm, ⟨f1, f2, h1, h2, h3⟩ => by
    rw [rI_in] at hm
    obtain ⟨fa, fb, c1, c2, c3⟩ := PL_cut m r (by omega) h2
    refine ⟨fun e => f1 e + fa e, fb, fun e he => ?_, ⟨f1, fa, fun e _ => Nat.le_refl _, c2, h3⟩, c3⟩
    have a1 := h1 e he
    have a2 := c1 e he
    show f1 e + fa e + fb e ≤ f e
    omega
theorem PL_app : ∀ (m : Nat) (w x : Rw) {L : Nat} {V : Nat → Prop} {f fa fb : Nat → Nat}, m ≤ rI w → PL (rpre m w .leaf) L V fa → PL x L V fb → (∀ e : Nat, e < L → fa e + fb e ≤ f e) → PL (rpre m w x) L V f
  | 0, w, x, _, _, _, _, _, _, _, h, hf => PL_mono x (fun _ h => h) (fun e he => by have := hf e he; omega) h
  | m + 1, .leaf, _, _, _, _, _, _, h, _, _, _ => absurd h (by show ¬ m + 1 ≤ 0; omega)
  | m + 1, .inner _ k _ l r, x, L, V, f, fa, fb, hm, ⟨f1, f2, h1, h2, h3⟩, hx, hf => by
    rw [rI_in] at hm
    refine ⟨f1, fun e => f2 e + fb e, fun e he => ?_, PL_app m r x (by omega) h2 hx (fun e _ => Nat.le_refl _), h3⟩
    have a1 := h1 e he
    have a2 := hf e he
    show f1 e + (f2 e + fb e) ≤ f e
    omega
/-- at each page as many tokens at least as stand in no option -/
theorem PL_S : ∀ (w : Rw) {L : Nat} {V : Nat → Prop} {f : Nat → Nat}, PL w L V f → ∀ e : Nat, e < L → pV w ≤ f e
  | .leaf, _, _, _, _, _, _ => Nat.zero_le _
  | .inner _ k _ l r, L, V, f, ⟨f1, f2, h1, h2, h3⟩, e, he => by
    have a1 := h1 e he
    have a2 := PL_S r h2 e he
    rw [pV]
    rcases h3 with ⟨a, b, _⟩ | ⟨a, _⟩ | ⟨a, _⟩ | ⟨a, b, T, g1, g2, V2, c, d, d2, g9, g8⟩
    · rw [if_pos a]
      have := b e he
      omega
    · rw [if_neg (by omega), if_pos a]; omega
    · rw [if_neg (by omega), if_pos a]; omega
    · rw [if_neg (by omega), if_neg (by omega)]
      have a3 := PL_S l d e he
      by_cases hT : e < T
      · have := g9 e he hT
        omega
      · have := g8 e he (by omega)
        omega
theorem PL_S1 : ∀ (w : Rw) {L : Nat} {V : Nat → Prop} {f : Nat → Nat}, PL w L V f → rPl w → 1 ≤ pV w
  | .leaf, _, _, _, _, h => h.elim
  | .inner _ k _ l r, L, V, f, ⟨f1, f2, h1, h2, h3⟩, hp => by
    rw [pV]
    rcases h3 with ⟨a, b, _⟩ | ⟨a, _⟩ | ⟨a, _⟩ | ⟨a, b, T, g1, g2, V2, c, d, d2, g9, g8⟩
    · rw [if_pos a]; omega
    · rcases hp with hp | hp
      · exact absurd a hp
      · have := PL_S1 r h2 hp
        omega
    · rcases hp with hp | hp
      · exact absurd a hp
      · have := PL_S1 r h2 hp
        omega
    · rw [if_neg (by omega), if_neg (by omega)]
      have := PL_S1 l d b
      omega
def uqd (f : Nat → Nat) (E x : Nat) : Nat → Nat := fun e => if e = E then x else f e
theorem uqd_s {f : Nat → Nat} {E x : Nat} : uqd f E x E = x := if_pos rfl
theorem uqd_n {f : Nat → Nat} {E x e : Nat} (h : e < E) : uqd f E x e = f e := if_neg (by omega)
theorem rPg_Pl : ∀ w : Rw, rPg w → w ≠ .leaf → rPl w
  | .leaf, _, h => h rfl
  | .inner _ _ _ _ _, h, _ => Or.inl h.1
/-- a page goes through what has no options, once -/
theorem PL_touch : ∀ (w : Rw) {E : Nat} {V : Nat → Prop} {f : Nat → Nat}, PL w E V f → rPg w → PL w (E + 1) (fun e => V e ∧ e < E) (uqd f E (rT w))
  | .leaf, _, _, _, _, _ => trivial
  | .inner _ k _ l r, E, V, f, ⟨f1, f2, h1, h2, h3⟩, ⟨p1, p2, p3⟩ => by
    have hr := PL_touch r h2 p3
    refine ⟨uqd f1 E (if k < 3 then 1 else 2 * rT l), uqd f2 E (rT r), fun e he => ?_, hr, ?_⟩
    · by_cases hE : e = E
      · rw [hE, uqd_s, uqd_s, uqd_s, rT_in]; omega
      · rw [uqd_n (by omega), uqd_n (by omega), uqd_n (by omega)]
        exact h1 e (by omega)
    · rcases h3 with ⟨a, b, e, c, d⟩ | ⟨a, _⟩ | ⟨a, _⟩ | ⟨a, b, T, g1, g2, V2, c, d, d2, g9, g8⟩
      · refine Or.inl ⟨a, fun e2 he2 => ?_, e, by omega, d, c⟩
        by_cases hE : e2 = E
        · rw [hE, uqd_s, if_pos a]; omega
        · rw [uqd_n (by omega)]
          exact b e2 (by omega)
      · exact absurd a p1
      · exact absurd a p1
      · refine Or.inr (Or.inr (Or.inr ⟨a, b, min T E, uqd g1 E (rT l), uqd g2 E (rT l), fun e => V2 e ∧ e < E, fun e he => ⟨c e he.1, he.2⟩, PL_touch l d p2, PL_touch l d2 p2, fun e he hT => ?_, fun e he hT => ?_⟩))
        · rw [uqd_n (by omega), uqd_n (by omega), uqd_n (by omega)]
          exact g9 e (by omega) (by omega)
        · by_cases hE : e = E
          · rw [hE, uqd_s, uqd_s, uqd_s, if_neg (by omega)]
            exact ⟨rfl, by omega, fun h => by omega⟩
          · rw [uqd_n (by omega), uqd_n (by omega), uqd_n (by omega)]
            have h8 := g8 e (by omega) (by omega)
            exact ⟨h8.1, h8.2.1, fun h => h8.2.2 h.1⟩
/-- what has no options is as if it came now -/
theorem PL_born : ∀ (w : Rw) {E : Nat} {V : Nat → Prop} {f : Nat → Nat}, PL w E V f → rPg w → PL w (E + 1) (fun e => e = E) (uqd f E (rT w))
  | .leaf, _, _, _, _, _ => trivial
  | .inner _ k _ l r, E, V, f, ⟨f1, f2, h1, h2, h3⟩, ⟨p1, p2, p3⟩ => by
    have hr := PL_born r h2 p3
    refine ⟨uqd f1 E (if k < 3 then 1 else 2 * rT l), uqd f2 E (rT r), fun e he => ?_, hr, ?_⟩
    · by_cases hE : e = E
      · rw [hE, uqd_s, uqd_s, uqd_s, rT_in]; omega
      · rw [uqd_n (by omega), uqd_n (by omega), uqd_n (by omega)]
        exact h1 e (by omega)
    · rcases h3 with ⟨a, b, e, c, d⟩ | ⟨a, _⟩ | ⟨a, _⟩ | ⟨a, b, T, g1, g2, V2, c, d, d2, g9, g8⟩
      · refine Or.inl ⟨a, fun e2 he2 => ?_, E, by omega, rfl⟩
        by_cases hE : e2 = E
        · rw [hE, uqd_s, if_pos a]; omega
        · rw [uqd_n (by omega)]
          exact b e2 (by omega)
      · exact absurd a p1
      · exact absurd a p1
      · refine Or.inr (Or.inr (Or.inr ⟨a, b, 0, uqd g1 E (rT l), uqd g1 E (rT l), fun e => e = E, fun e he => he, PL_born l d p2, PL_born l d p2, fun e he hT => absurd hT (Nat.not_lt_zero _), fun e he _ => ⟨rfl, ?_, fun hE => ?_⟩⟩))
        · by_cases hE : e = E
          · rw [hE, uqd_s, uqd_s, if_neg (by omega)]; omega
          · rw [uqd_n (by omega), uqd_n (by omega)]
            by_cases hT : e < T
            · have := g9 e (by omega) hT
              omega
            · have := g8 e (by omega) (by omega)
              omega
        · rw [hE, uqd_s, uqd_s, if_neg (by omega)]
          omega

/-! tidying keeps it: a repeat takes in what is beside it, another one; a fold -/
def zBd (x : Rw) (L : Nat) (V : Nat → Prop) (f1 h : Nat → Nat) (q9 : Prop) : Prop := ∃ (T : Nat) (g1 g2 : Nat → Nat) (V2 : Nat → Prop), (∀ e : Nat, V2 e → V e) ∧ QL x L V2 g1 (hW T g1) (rI x = 1) ∧ QL x L V2 g2 (hW T g2) (rI x = 1) ∧ (∀ e : Nat, e < L → e < T → g1 e + g2 e ≤ f1 e) ∧ (∀ e : Nat, e < L → T ≤ e → g1 e = g2 e ∧ g1 e ≤ f1 e ∧ (V2 e → 2 * g1 e ≤ f1 e ∧ bH (f1 e) (h e))) ∧ (1 ≤ T → ¬ rSg x) ∧ (q9 → 1 ≤ T ∨ 3 ≤ f1 0)
/-- two copies told -/
theorem QL_cp {x : Rw} {L : Nat} {V : Nat → Prop} {f1 ga gb h1 h2 h : Nat → Nat} {q1 q2 q9 : Prop} (hL : 1 ≤ L) (hS : ¬ rSg x) (hx1 : QL x L V ga h1 q1) (hx2 : QL x L V gb h2 q2) (b1 : ∀ e : Nat, e < L → h1 e ≤ 100) (b2 : ∀ e : Nat, e < L → h2 e ≤ 100) (i1 : rI x = 1 → q1) (i2 : rI x = 1 → q2) (hs : ∀ e : Nat, e < L → ga e + gb e ≤ f1 e) : zBd x L V f1 h q9 :=
  ⟨L, ga, gb, V, fun _ h => h, QL_mono x (fun _ h => h) (fun _ _ => Nat.le_refl _) (fun e he _ => by rw [hW_lt he]; exact b1 e he) i1 hx1, QL_mono x (fun _ h => h) (fun _ _ => Nat.le_refl _) (fun e he _ => by rw [hW_lt he]; exact b2 e he) i2 hx2, fun e he _ => hs e he, fun e he hT => by omega, fun _ => hS, fun _ => Or.inl hL⟩
/-- a repeat comes in the place of some items -/
theorem QL_set {w x : Rw} {a b L : Nat} {V : Nat → Prop} {f fa f1 ff h : Nat → Nat} {q q9 : Prop} (ha : a ≤ rI w) (h1 : QL (rpre a w .leaf) L V fa h q) (h3 : QL (rdrop b w) L V ff h q) (hq9 : q9 → rI (rtk w a x b) = 1) (hP : rPl x) (hB : zBd x L V f1 h q9) (hs : ∀ e : Nat, e < L → fa e + f1 e + ff e ≤ f e) : QL (rtk w a x b) L V f h q9 := by
  have hI : rI (rtk w a x b) = a + (1 + rI (rdrop b w)) := by
    unfold rtk
    rw [rpre_I _ _ _ ha, rI_in]
  have h0 : q9 → a = 0 ∧ rdrop b w = .leaf := fun hq => by
    have h4 := hq9 hq
    rw [hI] at h4
    refine ⟨by omega, ?_⟩
    cases hD : rdrop b w with
    | leaf => rfl
    | inner _ _ _ _ _ => rw [hD, rI_in] at h4; omega
  unfold rtk
  refine QL_app a w _ (fa := fa) (fb := fun e => f1 e + ff e) ha (QL_rest (fun hq => by rw [(h0 hq).1]; rfl) h1) ⟨f1, ff, fun e _ => Nat.le_refl _, QL_rest (fun hq => (h0 hq).2) h3, Or.inr (Or.inr (Or.inr ⟨rfl, hP, hB⟩))⟩ (fun e he => ?_)
  have := hs e he
  show fa e + (f1 e + ff e) ≤ f e
  omega
theorem QL_tkc {x l seg : Rw} {L T : Nat} {V V2 : Nat → Prop} {f1 ft g1 g2 h : Nat → Nat} {q q9 : Prop} (hL : 1 ≤ L) (hb : ∀ e : Nat, e < L → h e ≤ 100) (hf1 : ∀ e : Nat, e < L → f1 e ≤ 100) (hx : ralk x l) (hxW : rWF x) (hsg : ralk x seg) (hS : ¬ rSg x) (hP : rPl l) (c : ∀ e : Nat, V2 e → V e) (d : QL l L V2 g1 (hW T g1) (rI l = 1)) (d2 : QL l L V2 g2 (hW T g2) (rI l = 1)) (d3 : ∀ e : Nat, e < L → e < T → g1 e + g2 e ≤ f1 e) (d4 : ∀ e : Nat, e < L → T ≤ e → g1 e = g2 e ∧ g1 e ≤ f1 e ∧ (V2 e → 2 * g1 e ≤ f1 e ∧ bH (f1 e) (h e))) (hseg : QL seg L V ft h q) : ∃ f9 : Nat → Nat, (∀ e : Nat, e < L → f9 e ≤ f1 e + ft e) ∧ zBd x L V f9 h q9 := by
  have hIx := ralk_rI _ _ hx
  have hle : ∀ e : Nat, e < L → g1 e ≤ f1 e := fun e he => by
    by_cases hT : e < T
    · have := d3 e he hT; omega
    · exact (d4 e he (by omega)).2.1
  have hx1 := QL_alk _ _ hx hxW d
  have hx2 := QL_alk _ _ hx hxW d2
  by_cases hI : rI x = 1
  · -- one repeat alone
    have hSl : ¬ rSg l := fun h => hS (alk_Sg (ralk_symm _ _ hx) h)
    have h2 := QL_2 hL d (by omega) (by omega) hSl hP
    have h4 := PL_S seg (QL_PL seg hseg) 0 hL
    rw [← alk_pV _ _ hsg, alk_pV _ _ hx] at h4
    have h5 := PL_S1 l (QL_PL l d) hP
    have h6 := hle 0 hL
    have hx3 := QL_mono x (V9 := V2) (g := g1) (h9 := hW T g1) (q9 := rI x = 1) (fun _ h => h) (fun _ _ => Nat.le_refl _) (fun _ _ _ => Nat.le_refl _) (fun h => by omega) hx1
    have hx4 := QL_mono x (V9 := V2) (g := g2) (h9 := hW T g2) (q9 := rI x = 1) (fun _ h => h) (fun _ _ => Nat.le_refl _) (fun _ _ _ => Nat.le_refl _) (fun h => by omega) hx2
    by_cases hc : T = 0 ∧ V2 0
    · refine ⟨f1, fun e _ => Nat.le_add_right _ _, T, g1, g2, V2, c, hx3, hx4, d3, d4, fun _ => hS, fun _ => Or.inr ?_⟩
      have h7 := ((d4 0 hL (by omega)).2.2 hc.2).1
      omega
    · refine ⟨fun e => if e = 0 then f1 0 + ft 0 else f1 e, fun e he => ?_, T, g1, g2, V2, c, hx3, hx4, fun e he hT => ?_, fun e he hT => ?_, fun _ => hS, fun _ => Or.inr ?_⟩
      · show (if e = 0 then f1 0 + ft 0 else f1 e) ≤ _
        by_cases h0 : e = 0
        · subst h0; exact Nat.le_refl _
        · rw [if_neg h0]; omega
      · show _ ≤ (if e = 0 then f1 0 + ft 0 else f1 e)
        have h7 := d3 e he hT
        by_cases h0 : e = 0
        · subst h0; rw [if_pos rfl]; omega
        · rw [if_neg h0]; exact h7
      · show g1 e = g2 e ∧ g1 e ≤ (if e = 0 then f1 0 + ft 0 else f1 e) ∧ (V2 e → 2 * g1 e ≤ (if e = 0 then f1 0 + ft 0 else f1 e) ∧ bH (if e = 0 then f1 0 + ft 0 else f1 e) (h e))
        have h7 := d4 e he hT
        by_cases h0 : e = 0
        · subst h0
          rw [if_pos rfl]
          exact ⟨h7.1, by omega, fun hv => absurd ⟨by omega, hv⟩ hc⟩
        · rw [if_neg h0]; exact h7
      · show 3 ≤ (if 0 = 0 then f1 0 + ft 0 else f1 0)
        rw [if_pos rfl]
        omega
  · refine ⟨fun e => f1 e + ft e, fun e _ => Nat.le_refl _, QL_cp (h1 := fun e => if e < T then 100 else g1 e) (h2 := h) hL hS (QL_mono x c (fun _ _ => Nat.le_refl _) (fun _ _ _ => Nat.le_refl _) (fun h => h) hx1) (QL_alk _ _ hsg hxW hseg) (fun e he => ?_) hb (fun h => absurd h hI) (fun h => absurd h hI) (fun e he => Nat.add_le_add_right (hle e he) _)⟩
    show (if e < T then 100 else g1 e) ≤ 100
    have h8 := hle e he
    have h9 := hf1 e he
    by_cases hT : e < T
    · rw [if_pos hT]; exact Nat.le_refl _
    · rw [if_neg hT]; omega
/-- taken in -/
theorem QL_tk {w l x : Rw} {k a b z : Nat} {v : Int} {r : Rw} (hk : rdrop k w = .inner z 4 v l r) (hx : ralk x l) (hxW : rWF x) (hS : ¬ rSg x) (hseg : (a = k ∧ k + 1 ≤ b ∧ b ≤ rI w ∧ ralk x (rpre (b - (k + 1)) (rdrop (k + 1) w) .leaf)) ∨ (a ≤ k ∧ b = k + 1 ∧ b ≤ rI w ∧ ralk x (rpre (k - a) (rdrop a w) .leaf))) {L : Nat} {V : Nat → Prop} {f h : Nat → Nat} {q q9 : Prop} (hL : 1 ≤ L) (hb : ∀ e : Nat, e < L → f e ≤ h e ∧ h e ≤ 100) (hQ : QL w L V f h q) (hq9 : q9 → rI (rtk w a x b) = 1) : QL (rtk w a x b) L V f h q9 := by
  have hPx : ∀ y : Rw, rPl y → ralk x y → rPl x := fun y h h2 => alk_Pl _ _ h2 h
  rcases hseg with ⟨rfl, s2, s3, s4⟩ | ⟨s1, rfl, s3, s4⟩
  · obtain ⟨fa, fc, c1, c2, c3⟩ := QL_cut a w (by omega) hQ
    rw [hk] at c3
    obtain ⟨f1, f2, e1, e2, e3⟩ := c3
    have er : r = rdrop (a + 1) w := (rdrop_S hk).symm
    obtain ⟨fe, ff, i1, i2, i3⟩ := QL_cut (b - (a + 1)) r (by rw [er, rdrop_I]; omega) e2
    rw [er, ← rdrop_add, show a + 1 + (b - (a + 1)) = b by omega] at i3
    rw [er] at i2
    rcases e3 with ⟨j, _⟩ | ⟨j, _⟩ | ⟨j, _⟩ | ⟨_, j, T, g1, g2, V2, d0, d1, d2, d3, d4, d5, d6⟩
    · omega
    · omega
    · omega
    · obtain ⟨f9, h9, hB⟩ := QL_tkc (q9 := q9) hL (fun e he => (hb e he).2) (fun e he => by have := hb e he; have := c1 e he; have := e1 e he; omega) hx hxW s4 hS j d0 d1 d2 d3 d4 i2
      refine QL_set (by omega) c2 i3 hq9 (hPx _ j hx) hB (fun e he => ?_)
      have x1 := c1 e he
      have x2 := e1 e he
      have x3 := i1 e he
      have x4 := h9 e he
      omega
  · obtain ⟨fa, fb, c1, c2, c3⟩ := QL_cut a w (by omega) hQ
    obtain ⟨fc, fd, y1, y2, y3⟩ := QL_cut (k - a) (rdrop a w) (by rw [rdrop_I]; omega) c3
    rw [← rdrop_add, show a + (k - a) = k by omega, hk] at y3
    obtain ⟨f1, f2, e1, e2, e3⟩ := y3
    have er : r = rdrop (k + 1) w := (rdrop_S hk).symm
    rw [er] at e2
    rcases e3 with ⟨j, _⟩ | ⟨j, _⟩ | ⟨j, _⟩ | ⟨_, j, T, g1, g2, V2, d0, d1, d2, d3, d4, d5, d6⟩
    · omega
    · omega
    · omega
    · obtain ⟨f9, h9, hB⟩ := QL_tkc (q9 := q9) hL (fun e he => (hb e he).2) (fun e he => by have := hb e he; have := c1 e he; have := y1 e he; have := e1 e he; omega) hx hxW s4 hS j d0 d1 d2 d3 d4 y2
      refine QL_set (by omega) c2 e2 hq9 (hPx _ j hx) hB (fun e he => ?_)
      have x1 := c1 e he
      have x2 := e1 e he
      have x3 := y1 e he
      have x4 := h9 e he
      omega
/-- two repeats become one -/
theorem QL_two {w la lb ra rb x : Rw} {k za zb : Nat} {va vb : Int} (hk : rdrop k w = .inner za 4 va la ra) (hk2 : rdrop (k + 1) w = .inner zb 4 vb lb rb) (hx : ralk x la) (hx2 : ralk x lb) (hxW : rWF x) (hS : ¬ rSg x) (hI2 : k + 2 ≤ rI w) {L : Nat} {V : Nat → Prop} {f h : Nat → Nat} {q q9 : Prop} (hL : 1 ≤ L) (hb : ∀ e : Nat, e < L → f e ≤ h e ∧ h e ≤ 100) (hQ : QL w L V f h q) (hq9 : q9 → rI (rtk w k x (k + 2)) = 1) : QL (rtk w k x (k + 2)) L V f h q9 := by
  obtain ⟨fa, fc, c1, c2, c3⟩ := QL_cut k w (by omega) hQ
  rw [hk] at c3
  obtain ⟨f1, f2, e1, e2, e3⟩ := c3
  have er : ra = rdrop (k + 1) w := (rdrop_S hk).symm
  rw [er, hk2] at e2
  obtain ⟨f5, f6, i1, i2, i3⟩ := e2
  have er2 : rb = rdrop (k + 2) w := (rdrop_S hk2).symm
  rw [er2] at i2
  rcases e3 with ⟨j, _⟩ | ⟨j, _⟩ | ⟨j, _⟩ | ⟨_, j, T, g1, g2, V2, d0, d1, d2, d3, d4, d5, d6⟩
  · omega
  · omega
  · omega
  rcases i3 with ⟨j9, _⟩ | ⟨j9, _⟩ | ⟨j9, _⟩ | ⟨_, j9, T9, g3, g4, V3, d7, d8, d9, d10, d11, d12, d13⟩
  · omega
  · omega
  · omega
  have hI := ralk_rI _ _ hx
  have hI9 := ralk_rI _ _ hx2
  have hle : ∀ e : Nat, e < L → g1 e ≤ f1 e := fun e he => by
    by_cases hT : e < T
    · have := d3 e he hT; omega
    · exact (d4 e he (by omega)).2.1
  have hle2 : ∀ e : Nat, e < L → g3 e ≤ f5 e := fun e he => by
    by_cases hT : e < T9
    · have := d10 e he hT; omega
    · exact (d11 e he (by omega)).2.1
  have hB : zBd x L V (fun e => f1 e + f5 e) h q9 := QL_cp (h1 := fun e => if e < T then 100 else g1 e) (h2 := fun e => if e < T9 then 100 else g3 e) hL hS (QL_mono x d0 (fun _ _ => Nat.le_refl _) (fun _ _ _ => Nat.le_refl _) (fun h => h) (QL_alk _ _ hx hxW d1)) (QL_mono x d7 (fun _ _ => Nat.le_refl _) (fun _ _ _ => Nat.le_refl _) (fun h => h) (QL_alk _ _ hx2 hxW d8)) (fun e he => by
    show (if e < T then 100 else g1 e) ≤ 100
    have x1 := hle e he
    have x2 := c1 e he
    have x3 := e1 e he
    have x4 := hb e he
    by_cases hT : e < T
    · rw [if_pos hT]; exact Nat.le_refl _
    · rw [if_neg hT]; omega) (fun e he => by
    show (if e < T9 then 100 else g3 e) ≤ 100
    have x1 := hle2 e he
    have x2 := c1 e he
    have x3 := e1 e he
    have x4 := hb e he
    have x5 := i1 e he
    by_cases hT : e < T9
    · rw [if_pos hT]; exact Nat.le_refl _
    · rw [if_neg hT]; omega) (fun h => by omega) (fun h => by omega) (fun e he => Nat.add_le_add (hle e he) (hle2 e he))
  refine QL_set (by omega) c2 i2 hq9 (alk_Pl _ _ hx j) hB (fun e he => ?_)
  have x1 := c1 e he
  have x2 := e1 e he
  have x3 := i1 e he
  show fa e + (f1 e + f5 e) + f6 e ≤ f e
  omega
/-- a fold of two items or more -/
theorem QL_fd {w F : Rw} {a n1 b : Nat} (hn : 2 ≤ n1) (h2 : a + 2 * n1 ≤ b) (hbI : b ≤ rI w) (hF : ralk F (rpre n1 (rdrop a w) .leaf)) (hF2 : ralk F (rpre n1 (rdrop (a + n1) w) .leaf)) (hFW : rWF F) (hP : rPl F) {L : Nat} {V : Nat → Prop} {f h : Nat → Nat} {q q9 : Prop} (hL : 1 ≤ L) (hb : ∀ e : Nat, e < L → f e ≤ h e ∧ h e ≤ 100) (hQ : QL w L V f h q) (hq9 : q9 → rI (rtk w a F b) = 1) : QL (rtk w a F b) L V f h q9 := by
  obtain ⟨fa, fb, c1, c2, c3⟩ := QL_cut a w (by omega) hQ
  obtain ⟨fc, fd, d1, d2, d3⟩ := QL_cut n1 (rdrop a w) (by rw [rdrop_I]; omega) c3
  rw [← rdrop_add] at d3
  obtain ⟨fe, ff, e1, e2, e3⟩ := QL_cut n1 (rdrop (a + n1) w) (by rw [rdrop_I]; omega) d3
  rw [← rdrop_add] at e3
  obtain ⟨fg, fh, i1, i2, i3⟩ := QL_cut (b - (a + n1 + n1)) (rdrop (a + n1 + n1) w) (by rw [rdrop_I]; omega) e3
  rw [← rdrop_add, show a + n1 + n1 + (b - (a + n1 + n1)) = b by omega] at i3
  have hI := ralk_rI _ _ hF
  have e0 : rI (Std.DTreeMap.Internal.Impl.leaf : Rw) = 0 := rfl
  rw [rpre_I _ _ _ (by rw [rdrop_I]; omega), e0] at hI
  have hS : ¬ rSg F := fun h => by
    have := Sg_I h
    omega
  have hB : zBd F L V (fun e => fc e + fe e) h q9 := QL_cp hL hS (QL_alk _ _ hF hFW d2) (QL_alk _ _ hF2 hFW e2) (fun e he => (hb e he).2) (fun e he => (hb e he).2) (fun h => by omega) (fun h => by omega) (fun e _ => Nat.le_refl _)
  refine QL_set (by omega) c2 i3 hq9 hP hB (fun e he => ?_)
  have y1 := c1 e he
  have y2 := d1 e he
  have y3 := e1 e he
  have y4 := i1 e he
  show fa e + (fc e + fe e) + fh e ≤ f e
  omega
/-! rows of a page's items: tidied -/
theorem Sm_drop : ∀ (m : Nat) (w : Rw), rSm w → rSm (rdrop m w)
  | 0, _, h => h
  | _ + 1, .leaf, h => h
  | m + 1, .inner _ _ _ _ r, h => Sm_drop m r h.2
theorem Sm_pre : ∀ (m : Nat) (w x : Rw), rSm w → rSm x → rSm (rpre m w x)
  | 0, _, _, _, h => h
  | _ + 1, .leaf, _, _, h => h
  | m + 1, .inner _ _ _ _ r, x, h1, h => ⟨h1.1, Sm_pre m r x h1.2 h⟩
theorem Sm_bk : ∀ (m : Nat) (w x : Rw), m ≤ rI w → rSm (rpre m w x) → rSm x
  | 0, _, _, _, h => h
  | _ + 1, .leaf, _, hm, _ => absurd hm (Nat.not_succ_le_zero _)
  | m + 1, .inner _ _ _ _ r, x, hm, h => Sm_bk m r x (by rw [rI_in] at hm; omega) h.2
theorem RR_I {w : Rw} (h : rRR w) : rI w = 1 := by
  cases w with
  | leaf => exact h.elim
  | inner z k v l r =>
    cases r with
    | leaf => rfl
    | inner _ _ _ _ _ => exact h.elim
def PQ (w u : Rw) : Prop := rPg w → pH w → pH u ∧ (ralk u w ∨ (¬ rSm w ∧ ¬ rSm u ∧ ¬ rRR u))
theorem PQ_set {w x : Rw} {a b : Nat} (ha : a ≤ rI w) (hw : ¬ rSm w) (hx : ¬ rSm x) (hR : ¬ rRR x) (hJ : pJ x) (hF : aFm x) (hc : pHc x) (h : pH w) : pH (rtk w a x b) ∧ (ralk (rtk w a x b) w ∨ (¬ rSm w ∧ ¬ rSm (rtk w a x b) ∧ ¬ rRR (rtk w a x b))) := by
  have hI : rI (rtk w a x b) = a + (1 + rI (rdrop b w)) := by
    unfold rtk
    rw [rpre_I _ _ _ ha, rI_in]
  refine ⟨⟨pJ_put ha hx h.1, pHc_app a w _ h.2 ⟨fun _ => ⟨hR, hJ, hF⟩, hc, pHc_drop b w h.2⟩⟩, Or.inr ⟨hw, fun h9 => ?_, fun h9 => ?_⟩⟩
  · have h8 := (Sm_bk a w _ ha h9).1
    rcases h8 with h8 | h8
    · omega
    · exact hx (Sg_Sm h8.2)
  · have h8 := RR_I h9
    obtain rfl : a = 0 := by omega
    have h7 : rRR (.inner 0 4 (-1) x (rdrop b w)) := h9
    cases hD : rdrop b w with
    | leaf => rw [hD] at h7; exact hx h7.2
    | inner _ _ _ _ _ => rw [hD] at h7; exact h7
/-- what such a repeat holds: one of plain items alone stands beside none of them -/
theorem ns_1 {w l : Rw} {k z : Nat} {v : Int} {r : Rw} (hw : rWF w) (hA : rAd w) (hk : rdrop k w = .inner z 4 v l r) (hS : ¬ rSg l) (h2 : 2 ≤ rI l → rSm l → False) : ¬ rSm l := fun hm => by
  by_cases hI : 2 ≤ rI l
  · exact h2 hI hm
  · have hWk := rdrop_WF k w hw
    have hAk := rAd_drop k w hA
    rw [hk] at hWk hAk
    cases l with
    | leaf => exact hWk.2.2.1 (by omega) rfl
    | inner z8 k8 v8 l8 r8 =>
      rw [rI_in] at hI
      have hr8 : r8 = .leaf := by
        cases r8 with
        | leaf => rfl
        | inner _ _ _ _ _ => rw [rI_in] at hI; omega
      subst hr8
      rcases hm.1 with hk | ⟨hk, hl⟩
      · exact hS hk
      · exact hAk.1 rfl (Or.inr ⟨hk, hl⟩)
theorem ns_w {w l : Rw} {k z : Nat} {v : Int} {r : Rw} (hk : rdrop k w = .inner z 4 v l r) (hS : ¬ rSg l) : ¬ rSm w := fun hm => by
  have h := Sm_drop k w hm
  rw [hk] at h
  rcases h.1 with h | h
  · omega
  · exact hS h.2
theorem pHc_at {w l : Rw} {k z : Nat} {v : Int} {r : Rw} (h : pHc w) (hk : rdrop k w = .inner z 4 v l r) : ¬ rRR l ∧ pJ l ∧ aFm l ∧ pHc l := by
  have h9 := pHc_drop k w h
  rw [hk] at h9
  exact ⟨(h9.1 rfl).1, (h9.1 rfl).2.1, (h9.1 rfl).2.2, h9.2.1⟩
theorem PQ_tk {w l x : Rw} {k a b z f : Nat} {v : Int} {r : Rw} (hw : rWF w) (hA : rAd w) (hk : rdrop k w = .inner z 4 v l r) (ha : a ≤ rI w) (hx : ralk x l) (hxW : rWF x) (hS : ¬ rSg x) (hf : f = k + 1 ∨ f + rI l = k) (hn : nxt l (rdrop f w)) : PQ w (rtk w a x b) := fun hp hH => by
  obtain ⟨q1, q2, q3, q4⟩ := pHc_at hH.2 hk
  have hSl : ¬ rSg l := fun h => hS (alk_Sg (ralk_symm _ _ hx) h)
  have hns := ns_1 hw hA hk hSl (fun hI hm => by
    obtain ⟨_, j2⟩ := hH.1 l hm q3
    refine (j2 hI k z v l r hk (ralk_refl l)).1 f hf (fun m hm2 => ?_)
    have h1 := alk_at m _ _ (nxt_ralk l _ hn).1 hm2
    have h3 := nxt_I _ _ hn
    rw [pre_hk hm2 h3, ← rdrop_add] at h1
    exact h1)
  exact PQ_set ha (ns_w hk hSl) (fun h => hns (alk_Sm _ _ hx h)) (fun h => q1 (alk_RR hx h)) (pJ_alk hx q2) (aFm_alk hx q3) (pHc_alk _ _ hx hxW q4) hH
theorem PQ_two {w la lb ra rb x : Rw} {k za zb : Nat} {va vb : Int} (hw : rWF w) (hA : rAd w) (hk : rdrop k w = .inner za 4 va la ra) (hk2 : rdrop (k + 1) w = .inner zb 4 vb lb rb) (hI2 : k + 2 ≤ rI w) (hab : ralk la lb) (hx : ralk x la) (hxW : rWF x) (hS : ¬ rSg x) : PQ w (rtk w k x (k + 2)) := fun hp hH => by
  obtain ⟨q1, q2, q3, q4⟩ := pHc_at hH.2 hk
  have hSl : ¬ rSg la := fun h => hS (alk_Sg (ralk_symm _ _ hx) h)
  have hns := ns_1 hw hA hk hSl (fun hI hm => by
    obtain ⟨_, j2⟩ := hH.1 la hm q3
    exact (j2 hI k za va la ra hk (ralk_refl la)).2 zb vb lb rb hk2 hab)
  exact PQ_set (by omega) (ns_w hk hSl) (fun h => hns (alk_Sm _ _ hx h)) (fun h => q1 (alk_RR hx h)) (pJ_alk hx q2) (aFm_alk hx q3) (pHc_alk _ _ hx hxW q4) hH
theorem PQ_fd {w F : Rw} {a n1 b mf : Nat} (hn : 2 ≤ n1) (h2 : a + 2 * n1 ≤ b) (hbI : b ≤ rI w) (hF : ralk F (rpre n1 (rdrop a w) .leaf)) (hF2 : ralk F (rpre n1 (rdrop (a + n1) w) .leaf)) (hFW : rWF F) (hmf : mf < n1) (hfm : hfirm (rdrop (a + mf) w)) : PQ w (rtk w a F b) := fun hp hH => by
  have e0 : rI (Std.DTreeMap.Internal.Impl.leaf : Rw) = 0 := rfl
  have hI := ralk_rI _ _ hF
  rw [rpre_I _ _ _ (by rw [rdrop_I]; omega), e0] at hI
  have hat : ∀ c : Nat, a ≤ c → c + n1 ≤ rI w → ralk F (rpre n1 (rdrop c w) .leaf) → aAt F w c := fun c _ hc h m hm => by
    have h1 := alk_at m _ _ h hm
    rw [pre_hk (by omega) (by rw [rdrop_I]; omega), ← rdrop_add] at h1
    exact h1
  have a1 := hat a (Nat.le_refl _) (by omega) hF
  have a2 := hat (a + n1) (by omega) (by omega) hF2
  have hFm : aFm F := ⟨mf, by omega, firm_hk (a1 mf (by omega)) hfm⟩
  have hns : ¬ rSm F := fun hm => by
    refine (hH.1 F hm hFm).1 a a1 ?_
    rw [show a + rI F = a + n1 by omega]
    exact a2
  have hwn : ¬ rSm w := fun hm => hns (alk_Sm _ _ (ralk_symm _ _ hF) (Sm_pre n1 _ _ (Sm_drop a w hm) trivial))
  have hwin := pH_win (a := a) (n := n1) (by omega) hH
  exact PQ_set (by omega) hwn hns (fun h => by have := RR_I h; omega) (pJ_alk hF hwin.1) hFm (pHc_alk _ _ hF hFW hwin.2) hH
/-! rows whose inner rows are tidied -/
/-- item by item alike, or repeats that hold more than plain items -/
def SI : Rw → Rw → Prop
  | .leaf, .leaf => True
  | .inner _ k v l r, .inner _ k2 v2 l2 r2 => (ialk k v l k2 v2 l2 ∨ (k = 4 ∧ k2 = 4 ∧ ¬ rSm l ∧ ¬ rSm l2)) ∧ SI r r2
  | .leaf, .inner _ _ _ _ _ => False
  | .inner _ _ _ _ _, .leaf => False
theorem SI_at : ∀ (m : Nat) (u w : Rw), SI u w → (rdrop m u = .leaf ∧ rdrop m w = .leaf) ∨ ∃ (z k : Nat) (v : Int) (l r : Rw) (z2 k2 : Nat) (v2 : Int) (l2 r2 : Rw), rdrop m u = .inner z k v l r ∧ rdrop m w = .inner z2 k2 v2 l2 r2 ∧ (ialk k v l k2 v2 l2 ∨ (k = 4 ∧ k2 = 4 ∧ ¬ rSm l ∧ ¬ rSm l2))
  | 0, .leaf, .leaf, _ => Or.inl ⟨rfl, rfl⟩
  | _ + 1, .leaf, .leaf, _ => Or.inl ⟨rfl, rfl⟩
  | _, .leaf, .inner _ _ _ _ _, h => h.elim
  | _, .inner _ _ _ _ _, .leaf, h => h.elim
  | 0, .inner z k v l r, .inner z2 k2 v2 l2 r2, h => Or.inr ⟨z, k, v, l, r, z2, k2, v2, l2, r2, rfl, rfl, h.1⟩
  | m + 1, .inner _ _ _ _ r, .inner _ _ _ _ r2, h => SI_at m r r2 h.2
theorem SI_aAt {X u w : Rw} {q : Nat} (hS : rSm X) (h : SI u w) (ha : aAt X u q) : aAt X w q := fun m hm => by
  have h1 := ha m hm
  rcases SI_at (q + m) u w h with ⟨e1, _⟩ | ⟨z, k, v, l, r, z2, k2, v2, l2, r2, e1, e2, e3⟩
  · rw [e1] at h1
    obtain ⟨_, _, _, _, _, _, _, _, _, _, _, e, _⟩ := halk_one h1
    cases e
  · rw [e1] at h1
    rw [e2]
    rcases e3 with e3 | ⟨rfl, rfl, e3, e4⟩
    · exact halk_tr h1 (show halk (.inner z k v l r) (.inner z2 k2 v2 l2 r2) from e3)
    · obtain ⟨z5, k5, v5, l5, r5, e5, hs⟩ := sm_at m X hS hm
      rw [e5] at h1
      have h1 : ialk k5 v5 l5 4 v l := h1
      have e9 := alk_k h1
      rcases hs with hs | ⟨hs, hs2⟩
      · have := e9.1.mp hs
        omega
      · rcases h1 with ⟨c, _⟩ | ⟨_, _, _, c⟩
        · unfold isTx at c; omega
        · exact absurd (Sg_Sm (alk_Sg c hs2)) e3
theorem SI_J {u w : Rw} (h : SI u w) (hw : pJ w) : pJ u := fun X hX hF => by
  obtain ⟨j1, j2⟩ := hw X hX hF
  have hR : ∀ (p z : Nat) (v : Int) (Y r : Rw), rdrop p u = .inner z 4 v Y r → ralk X Y → ∃ (z2 : Nat) (v2 : Int) (Y2 r2 : Rw), rdrop p w = .inner z2 4 v2 Y2 r2 ∧ ralk X Y2 := fun p z v Y r e hY => by
    have hSY := alk_Sm _ _ hY hX
    rcases SI_at p u w h with ⟨e1, _⟩ | ⟨z5, k, v5, l, r5, z2, k2, v2, l2, r2, e1, e2, e3⟩
    · rw [e1] at e; cases e
    · rw [e1] at e
      cases e
      rcases e3 with e3 | ⟨_, _, e3, _⟩
      · have e9 := alk_k e3
        obtain rfl : k2 = 4 := e9.2.2.2.1.mp rfl
        refine ⟨z2, v2, l2, r2, e2, ?_⟩
        rcases e3 with ⟨c, _⟩ | ⟨_, _, _, c⟩
        · unfold isTx at c; omega
        · exact ralk_trans _ _ _ hY c
      · exact absurd hSY e3
  refine ⟨fun q h1 h2 => j1 q (SI_aAt hX h h1) (SI_aAt hX h h2), fun hI p z v Y r e hY => ?_⟩
  obtain ⟨z2, v2, Y2, r2, e2, hY2⟩ := hR p z v Y r e hY
  obtain ⟨i1, i2⟩ := j2 hI p z2 v2 Y2 r2 e2 hY2
  refine ⟨fun q hq h1 => i1 q hq (SI_aAt hX h h1), fun z3 v3 Y3 r3 e3 h3 => ?_⟩
  obtain ⟨z4, v4, Y4, r4, e4, hY4⟩ := hR (p + 1) z3 v3 Y3 r3 e3 h3
  exact i2 z4 v4 Y4 r4 e4 hY4
theorem ns_Fm : ∀ w : Rw, rWF w → rPg w → ¬ rSm w → aFm w
  | .leaf, _, _, h => absurd trivial h
  | .inner z k v l r, hw, hp, h => by
    by_cases hk : k < 3
    · obtain ⟨m, hm, hf⟩ := ns_Fm r hw.2.2.2.2.2.2.2 hp.2.2 (fun h9 => h ⟨Or.inl hk, h9⟩)
      exact ⟨m + 1, by rw [rI_in]; omega, hf⟩
    · refine ⟨0, by rw [rI_in]; omega, Or.inr ?_⟩
      have := hw.1
      have := hp.1
      omega
def TQf (w u : Rw) : Prop := (∀ (L : Nat) (V : Nat → Prop) (f h : Nat → Nat) (q q9 : Prop), 1 ≤ L → (∀ e : Nat, e < L → f e ≤ h e ∧ h e ≤ 100) → QL w L V f h q → (q9 → rI u = 1 ∧ (rI w = 1 → q)) → QL u L V f h q9) ∧ PQ w u
def TQ (w u : Rw) : Prop := TDr w u ∧ (rWF w → rAd w → TQf w u)
theorem TQ_refl (w : Rw) : TQ w w :=
  ⟨TDr_refl w, fun _ _ => ⟨fun _ _ _ _ _ _ _ _ h h9 => QL_mono w (fun _ h => h) (fun _ _ => Nat.le_refl _) (fun _ _ _ => Nat.le_refl _) (fun hq => (h9 hq).2 (h9 hq).1) h, fun _ h => ⟨h, Or.inl (ralk_refl w)⟩⟩⟩
theorem TQ_trans {a b c : Rw} (h1 : TQ a b) (h2 : TQ b c) : TQ a c := ⟨TDr_trans h1.1 h2.1, fun hw hA => by
  obtain ⟨t1, t2, _, t4, _⟩ := h1.1 hw hA
  obtain ⟨a1, a2⟩ := h1.2 hw hA
  obtain ⟨b1, b2⟩ := h2.2 t1 t2
  refine ⟨fun L V f h q q9 hL hb hQ h9 => ?_, fun hp hH => ?_⟩
  · exact b1 L V f h (rI b = 1 ∧ (rI a = 1 → q)) q9 hL hb (a1 L V f h q _ hL hb hQ (fun h => h)) (fun hq => ⟨(h9 hq).1, fun hI => ⟨hI, (h9 hq).2⟩⟩)
  · obtain ⟨c1, c2⟩ := a2 hp hH
    obtain ⟨d1, d2⟩ := b2 (t4 hp).1 c1
    refine ⟨d1, ?_⟩
    rcases c2 with c2 | ⟨c2, c3, c4⟩
    · rcases d2 with d2 | ⟨d2, d3, d4⟩
      · exact Or.inl (ralk_trans _ _ _ d2 c2)
      · exact Or.inr ⟨fun h => d2 (alk_Sm _ _ (ralk_symm _ _ c2) h), d3, d4⟩
    · rcases d2 with d2 | ⟨d2, d3, d4⟩
      · exact Or.inr ⟨c2, fun h => c3 (alk_Sm _ _ d2 h), fun h => c4 (alk_RR d2 h)⟩
      · exact Or.inr ⟨c2, d3, d4⟩⟩
def RTq : Rw → Rw → Prop
  | .leaf, .leaf => True
  | .inner _ k v l r, .inner _ k2 v2 l2 r2 => k = k2 ∧ ((k < 3 ∧ v = v2 ∧ l = l2) ∨ (3 ≤ k ∧ v2 = -1 ∧ TQ l l2)) ∧ RTq r r2
  | .leaf, .inner _ _ _ _ _ => False
  | .inner _ _ _ _ _, .leaf => False
theorem RTq_d : ∀ {w u : Rw}, RTq w u → RTd w u
  | .leaf, .leaf, _ => trivial
  | .leaf, .inner _ _ _ _ _, h => h.elim
  | .inner _ _ _ _ _, .leaf, h => h.elim
  | .inner _ _ _ _ _, .inner _ _ _ _ _, h => ⟨h.1, h.2.1.imp (fun a => a) (fun a => ⟨a.1, a.2.1, a.2.2.1⟩), RTq_d h.2.2⟩
theorem RTq_QL : ∀ (w u : Rw), RTq w u → rWF w → rAd w → ∀ (L : Nat) (V : Nat → Prop) (f h : Nat → Nat) (q q9 : Prop), 1 ≤ L → (∀ e : Nat, e < L → f e ≤ h e ∧ h e ≤ 100) → QL w L V f h q → (q9 → q) → QL u L V f h q9
  | .leaf, .leaf, _, _, _, _, _, _, _, _, _, _, _, _, _ => trivial
  | .leaf, .inner _ _ _ _ _, h, _, _, _, _, _, _, _, _, _, _, _, _ => h.elim
  | .inner _ _ _ _ _, .leaf, h, _, _, _, _, _, _, _, _, _, _, _, _ => h.elim
  | .inner z k v l r, .inner z2 k2 v2 l2 r2, ⟨h1, h2, h3⟩, hw, hA, L, V, f, h, q, q9, hL, hb, ⟨f1, f2, g1, g2, g3⟩, hq => by
    subst h1
    have hr := RTq_QL r r2 h3 hw.2.2.2.2.2.2.2 hA.2.2.2 L V f2 h q q9 hL (fun e he => by have := g1 e he; have := hb e he; omega) g2 hq
    refine ⟨f1, f2, g1, hr, ?_⟩
    rcases h2 with ⟨a, rfl, rfl⟩ | ⟨a, rfl, t, t9⟩
    · rcases g3 with g3 | ⟨c, _⟩ | ⟨c, _⟩ | ⟨c, _⟩
      · exact Or.inl g3
      · omega
      · omega
      · omega
    · obtain ⟨t1, t2, t3, t4, t5, t6, t7, t8, _, t10, t11⟩ := t hw.2.2.2.2.2.2.1 hA.2.2.1
      obtain ⟨u1, u2⟩ := t9 hw.2.2.2.2.2.2.1 hA.2.2.1
      have hf1 : ∀ e : Nat, e < L → f1 e ≤ h e ∧ h e ≤ 100 := fun e he => by have := g1 e he; have := hb e he; omega
      rcases g3 with ⟨c, _⟩ | ⟨c, ⟨d, d9⟩, e, e1, e2, e3⟩ | ⟨c, d, L2, e1, e2, e3⟩ | ⟨c, d, T, x1, x2, V2, y1, y2, y3, y4, y5, y6, y7⟩
      · omega
      · exact Or.inr (Or.inl ⟨c, ⟨(t4 d).1, (u2 d d9).1⟩, e, e1, e2, Nat.le_trans (t4 d).2 e3⟩)
      · exact Or.inr (Or.inr (Or.inl ⟨c, t6 d, L2, e1, e2, u1 L2 V f1 h False False e1 (fun e he => hf1 e (by omega)) e3 (fun h => h.elim)⟩))
      · have hx1 : ∀ e : Nat, e < L → x1 e ≤ 100 ∧ x2 e ≤ 100 := fun e he => by
          have h5 := hf1 e he
          by_cases hT : e < T
          · have := y4 e he hT; omega
          · have := y5 e he (by omega); omega
        have hW2 : ∀ g : Nat → Nat, (∀ e : Nat, e < L → g e ≤ 100) → ∀ e : Nat, e < L → g e ≤ hW T g e ∧ hW T g e ≤ 100 := fun g hg e he => by
          have h5 := hg e he
          by_cases hT : e < T
          · rw [hW_lt hT]; omega
          · rw [hW_ge (by omega)]; omega
        exact Or.inr (Or.inr (Or.inr ⟨c, t5 d, T, x1, x2, V2, y1, u1 L V2 x1 (hW T x1) _ _ hL (hW2 x1 (fun e he => (hx1 e he).1)) y2 (fun hI => ⟨hI, fun h => h⟩), u1 L V2 x2 (hW T x2) _ _ hL (hW2 x2 (fun e he => (hx1 e he).2)) y3 (fun hI => ⟨hI, fun h => h⟩), y4, y5, fun hT hs => y6 hT (t11 hs), fun h9 => y7 (hq h9)⟩))
theorem RTq_PQ : ∀ (w u : Rw), RTq w u → rWF w → rAd w → rPg w → pHc w → SI u w ∧ pHc u ∧ (ralk u w ∨ (¬ rSm w ∧ ¬ rSm u ∧ ¬ rRR u))
  | .leaf, .leaf, _, _, _, _, _ => ⟨trivial, trivial, Or.inl trivial⟩
  | .leaf, .inner _ _ _ _ _, h, _, _, _, _ => h.elim
  | .inner _ _ _ _ _, .leaf, h, _, _, _, _ => h.elim
  | .inner z k v l r, .inner z2 k2 v2 l2 r2, ⟨h1, h2, h3⟩, hw, hA, hp, hH => by
    subst h1
    obtain ⟨i1, i2, i3⟩ := RTq_PQ r r2 h3 hw.2.2.2.2.2.2.2 hA.2.2.2 hp.2.2 hH.2.2
    have hrest : (¬ rSm r ∧ ¬ rSm r2 ∧ ¬ rRR r2) → ¬ rSm (.inner z k v l r) ∧ ¬ rSm (.inner z2 k v2 l2 r2) ∧ ¬ rRR (.inner z2 k v2 l2 r2) := fun h => ⟨fun h9 => h.1 h9.2, fun h9 => h.2.1 h9.2, fun h9 => by
      cases r2 with
      | leaf => exact h.2.1 trivial
      | inner _ _ _ _ _ => exact h9⟩
    rcases h2 with ⟨a, rfl, rfl⟩ | ⟨a, rfl, t, t9⟩
    · have hal := (ralk_refl (.inner 0 k v l .leaf)).1
      exact ⟨⟨Or.inl hal, i1⟩, ⟨fun h => by omega, hH.2.1, i2⟩, i3.imp (fun h => ⟨hal, h⟩) hrest⟩
    · have hk4 : k = 4 := by have := hw.1; have := hp.1; omega
      subst hk4
      obtain ⟨t1, t2, t3, t4, _⟩ := t hw.2.2.2.2.2.2.1 hA.2.2.1
      obtain ⟨u1, u2⟩ := t9 hw.2.2.2.2.2.2.1 hA.2.2.1
      obtain ⟨q1, q2, q3⟩ := hH.1 rfl
      obtain ⟨c1, c2⟩ := u2 hp.2.1 ⟨q2, hH.2.1⟩
      rcases c2 with c2 | ⟨c2, c3, c4⟩
      · have hal : ialk 4 (-1) l2 4 v l := Or.inr ⟨by unfold isTx; omega, rfl, fun h => by omega, c2⟩
        exact ⟨⟨Or.inl hal, i1⟩, ⟨fun _ => ⟨fun h => q1 (alk_RR c2 h), c1.1, aFm_alk c2 q3⟩, c1.2, i2⟩, i3.imp (fun h => ⟨hal, h⟩) hrest⟩
      · refine ⟨⟨Or.inr ⟨rfl, rfl, c3, c2⟩, i1⟩, ⟨fun _ => ⟨c4, c1.1, ns_Fm l2 t1 (t4 hp.2.1).1 c3⟩, c1.2, i2⟩, Or.inr ⟨fun h => ?_, fun h => ?_, fun h => ?_⟩⟩
        · rcases h.1 with h | h
          · omega
          · exact c2 (Sg_Sm h.2)
        · rcases h.1 with h | h
          · omega
          · exact c3 (Sg_Sm h.2)
        · cases r2 with
          | leaf => exact c3 h.2
          | inner _ _ _ _ _ => exact h
theorem RTq_is {w u : Rw} (h : RTq w u) : TQ w u := ⟨(RTd_is _ _ (RTq_d h)).1, fun hw hA => ⟨fun L V f h8 q q9 hL hb hQ h9 => RTq_QL w u h hw hA L V f h8 q q9 hL hb hQ (fun hq => (h9 hq).2 (by rw [← RTd_I (RTq_d h)]; exact (h9 hq).1)), fun hp hH => by
  obtain ⟨a1, a2, a3⟩ := RTq_PQ w u h hw hA hp hH.2
  exact ⟨⟨SI_J a1 hH.1, a2⟩, a3⟩⟩⟩
theorem tk_ns {w l x : Rw} {k z : Nat} {v : Int} {r : Rw} (hw : rWF w) (hA : rAd w) (hk : rdrop k w = .inner z 4 v l r) (hx : ralk x l) (hxW : rWF x) (hcr : crL l = -5) : ¬ rSg x := fun h => by
  have hAk := rAd_drop k w hA
  rw [hk] at hAk
  have hcx : crL x = -5 := (alk_crL hx).trans hcr
  have hnB : ¬ rBd x := fun h => hAk.1 rfl (alk_Bd hx h)
  obtain ⟨z5, k5, v5, e, h5⟩ := Sg_is h hxW
  rw [e] at hcx hnB hxW
  by_cases h0 : k5 = 0
  · have h9 : (if k5 = 0 then v5 else -5) = -5 := hcx
    rw [if_pos h0] at h9
    have := hxW.2.2.2.2.2.1 (by omega)
    omega
  · exact hnB (Or.inl (by unfold isTx; omega))
theorem TQ_in {w l : Rw} {k f a b z : Nat} {v : Int} {r : Rw} (hw : rWF w) (hk : rdrop k w = .inner z 4 v l r) (hn : nxt l (rdrop f w)) (hab : (f = k + 1 ∧ a = k ∧ b = k + 1 + rI l) ∨ (f + rI l = k ∧ a = f ∧ b = k + 1)) (hbI : b ≤ rI w) : TQ w (rtk w a (rfus l (rdrop f w)) b) := ⟨TDr_in hw hk hn hab hbI, fun _ hA => by
  have hWk := rdrop_WF k w hw
  rw [hk] at hWk
  obtain ⟨a1, a2, a3⟩ := nxt_WF hWk.2.2.2.2.2.2.1 (rdrop_WF f w hw) hn
  have hS := tk_ns hw hA hk a2 a1 (crL_out hw hA hk hn (by omega))
  refine ⟨fun L V f9 h q q9 hL hb hQ h9 => QL_tk hk a2 a1 hS ?_ hL hb hQ (fun hq => (h9 hq).1), PQ_tk hw hA hk (by omega) a2 a1 hS (by omega) hn⟩
  rcases hab with ⟨rfl, rfl, rfl⟩ | ⟨h1, rfl, rfl⟩
  · exact Or.inl ⟨rfl, by omega, hbI, by rw [show a + 1 + rI l - (a + 1) = rI l by omega]; exact a3⟩
  · exact Or.inr ⟨by omega, rfl, hbI, by rw [show k - a = rI l by omega]; exact a3⟩⟩
theorem TQ_two {w la lb ra rb : Rw} {k za zb : Nat} {va vb : Int} (hw : rWF w) (hk : rdrop k w = .inner za 4 va la ra) (hk2 : rdrop (k + 1) w = .inner zb 4 vb lb rb) (hal : ralk la lb) : TQ w (rtk w k (rfus la lb) (k + 2)) := ⟨TDr_two hw hk hk2 hal, fun _ hA => by
  have hWk := rdrop_WF k w hw
  have hWk2 := rdrop_WF (k + 1) w hw
  have hI := rdrop_I (k + 1) w
  rw [hk] at hWk
  rw [hk2] at hWk2 hI
  rw [rI_in] at hI
  have hx := ralk_fus _ _ _ hal (ralk_refl la)
  have hx2 := ralk_fus _ _ _ hal hal
  have hxW := rfus_WF _ _ hWk.2.2.2.2.2.2.1 hWk2.2.2.2.2.2.2.1 hal
  have hcr : crL la = -5 := by
    have hAk := rAd_drop k w hA
    rw [hk] at hAk
    have er : ra = rdrop (k + 1) w := (rdrop_S hk).symm
    rcases crL_or hWk.2.2.2.2.2.2.1 with h | ⟨h0, _⟩
    · exact h
    · exfalso
      refine hAk.2.1 h0 ?_
      rw [er, hk2]
      exact alk_crL hal
  have hS := tk_ns hw hA hk hx hxW hcr
  exact ⟨fun L V f9 h q q9 hL hb hQ h9 => QL_two hk hk2 hx hx2 hxW hS (by omega) hL hb hQ (fun hq => (h9 hq).1), PQ_two hw hA hk hk2 (by omega) hal hx hxW hS⟩⟩
theorem TQ_put {w : Rw} {a n1 n : Nat} (hf : isFold w a n1 n) (hn : 2 ≤ n1) : TQ w (rput w a n1 n) := ⟨TDr_put hf, fun hwf hA => by
  obtain ⟨g1, g2, g3, g4, mf, g5, g6⟩ := hf
  have g7 : 2 * n1 ≤ n * n1 := Nat.mul_le_mul_right _ g2
  have hF := frow_alk (n := n) (by omega) hwf g4 (by omega) n1 0 (by omega)
  have hFW := frow_WF (n := n) (by omega) hwf g4 n1 0 (by omega)
  rw [Nat.add_zero] at hF
  have hseg : ralk (rpre n1 (rdrop a w) .leaf) (rpre n1 (rdrop (a + n1) w) .leaf) := seg_alk n1 _ _ (fun m hm => by
    have h9 := g4 1 m (by omega) (by omega) hm
    rw [Nat.one_mul] at h9
    rw [← rdrop_add, ← rdrop_add]
    exact h9)
  have hF2 := ralk_trans _ _ _ hF hseg
  have hP := alk_Pl _ _ hF (pre_firm mf n1 _ g5 (by rw [← rdrop_add]; exact g6))
  exact ⟨fun L V f9 h q q9 hL hb hQ h9 => QL_fd (b := a + n * n1) hn (by omega) g3 hF hF2 hFW hP hL hb hQ (fun hq => (h9 hq).1), PQ_fd (b := a + n * n1) hn (by omega) g3 hF hF2 hFW g5 g6⟩⟩
/-- where no two repeats alike stand side by side, a fold takes two items at least -/
theorem fold_2 {w : Rw} {a n1 n : Nat} (hw : rWF w) (hA : rAd w) (hf : isFold w a n1 n) (hno : ∀ (k za zb : Nat) (va vb : Int) (la lb ra rb : Rw), rdrop k w = .inner za 4 va la ra → rdrop (k + 1) w = .inner zb 4 vb lb rb → ¬ ralk la lb) : 2 ≤ n1 := by
  obtain ⟨g1, g2, g3, g4, mf, g5, g6⟩ := hf
  by_cases h1 : n1 = 1
  · exfalso
    subst h1
    obtain rfl : mf = 0 := by omega
    have ha1 := g4 1 0 (by omega) (by omega) (by omega)
    rw [show a + 0 = a by omega, show a + 1 * 1 + 0 = a + 1 by omega] at ha1
    rw [Nat.add_zero] at g6
    obtain ⟨z, k, v, l, r, z2, k2, v2, l2, r2, e1, e2, h2⟩ := halk_one ha1
    rw [e1] at g6
    have h9 := alk_k h2
    have g6 : k = 0 ∨ k = 4 := g6
    rcases g6 with g6 | g6
    · have hAa := rAd_drop a w hA
      have hWa := rdrop_WF a w hw
      have er := rdrop_S e1
      rw [e1] at hAa hWa
      have hv : crI k v l = v := by unfold crI; rw [if_pos g6]
      refine hAa.2.1 (by rw [hv]; exact hWa.2.2.2.2.2.1 (by omega)) ?_
      rw [alk_crI h2, ← er, e2]
      rfl
    · subst g6
      obtain rfl : k2 = 4 := h9.2.2.2.1.mp rfl
      refine hno a z z2 v v2 l l2 r r2 e1 e2 ?_
      rcases h2 with ⟨c, _⟩ | ⟨_, _, _, c⟩
      · unfold isTx at c; omega
      · exact c
  · omega


/-! laying, told whole: a row as a list of signs; what is put together -/
/-- a row's line of signs -/
def lsg : Rw → List Int
  | .leaf => []
  | .inner _ k v l r => sG k v :: (if k < 3 then lsg r else lsg l ++ (515 : Int) :: lsg r)
/-- an item's signs -/
def lI (k : Nat) (v : Int) (l : Rw) : List Int := sG k v :: (if k < 3 then [] else lsg l ++ [515])
def dI9 (k : Nat) (l : Rw) : Nat := if k < 3 then 1 else 2 + sL l
theorem lsg_c {z k : Nat} {v : Int} {l r : Rw} : lsg (.inner z k v l r : Rw) = sG k v :: (if k < 3 then lsg r else lsg l ++ (515 : Int) :: lsg r) := rfl
theorem lsg_in {z k : Nat} {v : Int} {l r : Rw} : lsg (.inner z k v l r : Rw) = lI k v l ++ lsg r := by
  rw [lsg_c, lI]
  by_cases hk : k < 3
  · rw [if_pos hk, if_pos hk]; rfl
  · rw [if_neg hk, if_neg hk, List.cons_append, List.append_assoc]; rfl
theorem lI_len0 {k : Nat} {v : Int} {l : Rw} (h : (lsg l).length = sL l) : (lI k v l).length = dI9 k l := by
  unfold lI dI9
  by_cases hk : k < 3
  · rw [if_pos hk, if_pos hk]; rfl
  · rw [if_neg hk, if_neg hk, List.length_cons, List.length_append, List.length_singleton, h]; omega
theorem lsg_len : ∀ w : Rw, (lsg w).length = sL w
  | .leaf => rfl
  | .inner z k v l r => by
    rw [lsg_in, List.length_append, lI_len0 (lsg_len l), lsg_len r]
    rfl
theorem lI_len {k : Nat} {v : Int} {l : Rw} : (lI k v l).length = dI9 k l := lI_len0 (lsg_len l)
theorem SA_lsg {μ : va_M} {c : Nat} : ∀ (w : Rw) (p : Nat), SA μ c w p → ∀ t : Nat, t < sL w → (lsg w)[t]? = some (μ c (p + t))
  | .leaf, _, _, t, h => absurd h (Nat.not_lt_zero t)
  | .inner z k v l r, p, ⟨s1, s2, s3⟩, 0, h => by
    rw [lsg_c, List.getElem?_cons_zero, Nat.add_zero, s1]
  | .inner z k v l r, p, ⟨s1, s2, s3⟩, t + 1, h => by
    rw [sL_in] at h
    rw [lsg_c, List.getElem?_cons_succ]
    by_cases hk : k < 3
    · rw [if_pos hk] at h s3 ⊢
      rw [SA_lsg r (p + 1) s3 t (by omega), show p + 1 + t = p + (t + 1) by omega]
    · rw [if_neg hk] at h s3 ⊢
      obtain ⟨u1, u2⟩ := s2 (by omega)
      by_cases h4 : t < sL l
      · rw [List.getElem?_append_left (by rw [lsg_len]; exact h4), SA_lsg l (p + 1) u1 t h4, show p + 1 + t = p + (t + 1) by omega]
      · rw [List.getElem?_append_right (by rw [lsg_len]; omega), lsg_len]
        by_cases h5 : t = sL l
        · rw [h5, Nat.sub_self, List.getElem?_cons_zero, show p + (sL l + 1) = p + 1 + sL l by omega, u2]
        · obtain ⟨y, hy⟩ : ∃ y, t = sL l + 1 + y := ⟨t - sL l - 1, by omega⟩
          rw [hy, show sL l + 1 + y - sL l = y + 1 by omega, List.getElem?_cons_succ, SA_lsg r (p + (2 + sL l)) s3 y (by omega), show p + (2 + sL l) + y = p + (sL l + 1 + y + 1) by omega]
theorem lsg_SA {μ : va_M} {c : Nat} : ∀ (w : Rw) (p : Nat), (∀ t : Nat, t < sL w → (lsg w)[t]? = some (μ c (p + t))) → SA μ c w p
  | .leaf, _, _ => trivial
  | .inner z k v l r, p, h => by
    have h0 := h 0 (by rw [sL_in]; split <;> omega)
    rw [lsg_c, List.getElem?_cons_zero, Nat.add_zero] at h0
    have hs : ∀ t : Nat, t + 1 < sL (.inner z k v l r : Rw) → (if k < 3 then lsg r else lsg l ++ (515 : Int) :: lsg r)[t]? = some (μ c (p + 1 + t)) := fun t ht => by
      have h1 := h (t + 1) ht
      rw [lsg_c, List.getElem?_cons_succ] at h1
      rw [h1, show p + (t + 1) = p + 1 + t by omega]
    rw [sL_in] at hs
    refine ⟨(Option.some.inj h0).symm, fun hk => ?_, ?_⟩
    · have hk3 : ¬ k < 3 := by omega
      rw [if_neg hk3, if_neg hk3] at hs
      refine ⟨lsg_SA l (p + 1) (fun t ht => ?_), ?_⟩
      · have h1 := hs t (by omega)
        rw [List.getElem?_append_left (by rw [lsg_len]; exact ht)] at h1
        exact h1
      · have h1 := hs (sL l) (by omega)
        rw [List.getElem?_append_right (by rw [lsg_len]; exact Nat.le_refl _), lsg_len, Nat.sub_self, List.getElem?_cons_zero] at h1
        exact (Option.some.inj h1).symm
    · by_cases hk : k < 3
      · rw [if_pos hk, if_pos hk] at hs
        rw [if_pos hk]
        exact lsg_SA r (p + 1) (fun t ht => hs t (by omega))
      · rw [if_neg hk, if_neg hk] at hs
        rw [if_neg hk]
        refine lsg_SA r _ (fun t ht => ?_)
        have h1 := hs (sL l + 1 + t) (by omega)
        rw [List.getElem?_append_right (by rw [lsg_len]; omega), lsg_len, show sL l + 1 + t - sL l = t + 1 by omega, List.getElem?_cons_succ] at h1
        rw [h1, show p + 1 + (sL l + 1 + t) = p + (2 + sL l) + t by omega]
theorem sFu_sy (a b : Int) : sFu a b = sFu b a := by
  unfold sFu
  by_cases h : a = b
  · rw [h]
  · rw [if_neg h, if_neg (fun q => h q.symm)]
/-- two stretches fused -/
theorem zip_fus : ∀ (w b : Rw), rW0 w → rW0 b → nxt w b → List.zipWith sFu (lsg w) (lsg b) = lsg (rfus w b)
  | .leaf, b, _, _, _ => by cases b <;> rfl
  | .inner _ _ _ _ _, .leaf, _, _, h => h.elim
  | .inner z k v l r, .inner z2 k2 v2 l2 r2, ⟨a1, a2, a3⟩, ⟨b1, b2, b3⟩, ⟨h1, h2⟩ => by
    have ha : (isTx k ∧ isTx k2) ∨ (¬ isTx k ∧ k = k2 ∧ (k = 0 → v = v2)) := h1.imp (fun q => q) (fun q => ⟨q.1, q.2.1, q.2.2.1⟩)
    have hs := sG_fu a1 b1 ha
    have ih := zip_fus r r2 a3 b3 h2
    have e3 : lsg (rfus (.inner z k v l r : Rw) (.inner z2 k2 v2 l2 r2 : Rw)) = sG (fK k v k2 v2) (fV k v k2 v2) :: (if fK k v k2 v2 < 3 then lsg (rfus r r2) else lsg (rfus l l2) ++ (515 : Int) :: lsg (rfus r r2)) := rfl
    rw [lsg_c, lsg_c, e3, List.zipWith_cons_cons, hs]
    by_cases hk : k < 3
    · have hk2 : k2 < 3 := by
        rcases ha with ⟨q1, q2⟩ | ⟨q1, rfl, q2⟩
        · unfold isTx at q2; omega
        · exact hk
      have hf : fK k v k2 v2 < 3 := fK_lt hk
      rw [if_pos hk, if_pos hk2, if_pos hf, ih]
    · have ht : ¬ isTx k := by unfold isTx; omega
      rcases h1 with q | ⟨-, rfl, -, hr⟩
      · exact absurd q.1 ht
      · have hf : fK k v k v2 = k := if_neg ht
        rw [hf, if_neg hk, if_neg hk, if_neg hk, List.zipWith_append (by rw [lsg_len, lsg_len]; exact ralk_sL l l2 a2 b2 hr), List.zipWith_cons_cons, zip_fus l l2 a2 b2 (ralk_nx l l2 hr), ih]
        rfl
def rsg : Rw → Int
  | .inner _ k v _ _ => sG k v
  | .leaf => 515
def rd : Rw → Nat
  | .inner _ k _ l _ => dI9 k l
  | .leaf => 1
def rit : Rw → List Int
  | .inner _ k v l _ => lI k v l
  | .leaf => []
def cl9 (o : Nat) : List Int := if o = 0 then [] else [515]
/-- the open option is closed first; what is open then -/
def pC (o q k : Nat) : List Int := if o ≠ 0 ∧ (q ≠ o ∨ (q = 4 ∧ k = 3)) then [515] else []
def oC (o q k : Nat) : Nat := if o ≠ 0 ∧ (q ≠ o ∨ (q = 4 ∧ k = 3)) then 0 else o
/-- what one turn puts, how far it goes, what is open then -/
def BX (x y : Rw) (q o : Nat) : List Int :=
  if q = 4 then (if o = 0 ∧ rk x ≠ 3 then [513] else []) ++ rit x
  else if q = 5 then (if o = 0 ∧ rk y ≠ 3 then [513] else []) ++ rit y
  else if q = 2 then rsg x :: (List.zipWith sFu (lsg (rl x)) (lsg y) ++ [515])
  else if q = 3 then 514 :: (List.zipWith sFu (lsg x) (lsg (rl y)) ++ [515])
  else [sFu (rsg x) (rsg y)]
def Bi (x y : Rw) (q : Nat) : Nat := if q = 4 then rd x else if q = 5 then 0 else if q = 2 then rd x else if q = 3 then sL (rl y) else 1
def Bj (x y : Rw) (q : Nat) : Nat := if q = 4 then 0 else if q = 5 then rd y else if q = 2 then sL (rl x) else if q = 3 then rd y else 1
def Bo (x y : Rw) (q o : Nat) : Nat := if q = 4 then (if o = 0 ∧ rk x ≠ 3 then 4 else o) else if q = 5 then (if o = 0 ∧ rk y ≠ 3 then 5 else o) else 0
/-- what is put from two places on, while the option o is open -/
def BLD (w b : Rw) : Nat → Nat → Nat → Nat → List Int
  | 0, _, _, _ => []
  | f + 1, i, j, o => if i < sL w ∨ j < sL b then pC o (wayOf (sub w i) (sub b j)) (rk (sub w i)) ++ (BX (sub w i) (sub b j) (wayOf (sub w i) (sub b j)) (oC o (wayOf (sub w i) (sub b j)) (rk (sub w i))) ++ BLD w b f (i + Bi (sub w i) (sub b j) (wayOf (sub w i) (sub b j))) (j + Bj (sub w i) (sub b j) (wayOf (sub w i) (sub b j))) (Bo (sub w i) (sub b j) (wayOf (sub w i) (sub b j)) (oC o (wayOf (sub w i) (sub b j)) (rk (sub w i))))) else cl9 o
theorem BLD_S {w b : Rw} {f i j o q : Nat} {x y : Rw} (h : i < sL w ∨ j < sL b) (hx : sub w i = x) (hy : sub b j = y) (hq : wayOf x y = q) : BLD w b (f + 1) i j o = pC o q (rk x) ++ (BX x y q (oC o q (rk x)) ++ BLD w b f (i + Bi x y q) (j + Bj x y q) (Bo x y q (oC o q (rk x)))) := by
  subst hx hy hq
  exact if_pos h
theorem BLD_E {w b : Rw} {f i j o : Nat} (h : ¬ (i < sL w ∨ j < sL b)) : BLD w b (f + 1) i j o = cl9 o := if_neg h
theorem pC_n {o q k : Nat} (h : q ≠ o) : pC o q k = cl9 o ∧ oC o q k = 0 := by
  by_cases e : o = 0
  · have c : ¬ (o ≠ 0 ∧ (q ≠ o ∨ (q = 4 ∧ k = 3))) := fun z => z.1 e
    exact ⟨(if_neg c).trans (if_pos e).symm, (if_neg c).trans e⟩
  · have c : o ≠ 0 ∧ (q ≠ o ∨ (q = 4 ∧ k = 3)) := ⟨e, Or.inl h⟩
    exact ⟨(if_pos c).trans (if_neg e).symm, if_pos c⟩
theorem pC_3 {o : Nat} : pC o 4 3 = cl9 o ∧ oC o 4 3 = 0 := by
  by_cases e : o = 0
  · have c : ¬ (o ≠ 0 ∧ (4 ≠ o ∨ (4 = 4 ∧ 3 = 3))) := fun z => z.1 e
    exact ⟨(if_neg c).trans (if_pos e).symm, (if_neg c).trans e⟩
  · have c : o ≠ 0 ∧ (4 ≠ o ∨ (4 = 4 ∧ 3 = 3)) := ⟨e, Or.inr ⟨rfl, rfl⟩⟩
    exact ⟨(if_pos c).trans (if_neg e).symm, if_pos c⟩
theorem pC_s {o k : Nat} (h : ¬ (o = 4 ∧ k = 3)) : pC o o k = [] ∧ oC o o k = o := by
  unfold pC oC
  rw [if_neg (fun q => by rcases q.2 with q | q; exact q rfl; exact h q), if_neg (fun q => by rcases q.2 with q | q; exact q rfl; exact h q)]
  exact ⟨rfl, rfl⟩
theorem way_00 : wayOf (.leaf : Rw) (.leaf : Rw) = 0 := rfl
theorem nx_sO {w b : Rw} (hw : rW0 w) (hb : rW0 b) (h : nxt w b) : sL w = sO b (rI w) := by
  have h3 := (nxt_ralk w b h).1
  have e := ralk_sL w _ hw (rpre_W (rI w) b .leaf hb trivial) h3
  rw [rpre_sL] at e
  exact e
/-- where a row that a place stands in ends, nothing stands -/
theorem sub_lf9 {w l : Rw} {i : Nat} (h : sub w i = l) (hl : i + sL l ≤ sL w) : sub w (i + sL l) = .leaf := by
  have h1 := sub_dr (rI l) w i (by omega) (by rw [h]; exact hl)
  rw [h, sO_all l (rI l) (Nat.le_refl _)] at h1
  rw [h1]
  exact rdrop_0 (Nat.le_refl _)
/-- a level of what is put together is what the laying of its rows gives -/
theorem BLD_lv {w b : Rw} : ∀ (n : Nat) (x y : Rw) (o i j f : Nat), sL x + sL y < n → sub w i = x → sub b j = y → i + sL x ≤ sL w → j + sL y ≤ sL b → (o = 0 ∨ o = 4 ∨ o = 5) → rWF x → rWF y → rPg y → rN x + rN y ≤ 1800 → (sL w - i) + (sL b - j) < f → ∃ f2 : Nat, (sL w - (i + sL x)) + (sL b - (j + sL y)) < f2 ∧ BLD w b f i j o = lsg (wk o x y).1 ++ (cl9 o ++ (lsg (wk o x y).2 ++ BLD w b f2 (i + sL x) (j + sL y) 0)) := by
  intro n
  induction n with
  | zero => intro x y o i j f h; exact absurd h (Nat.not_lt_zero _)
  | succ n ih =>
    intro x y o i j f hn hx hy hi hj ho hwx hwy hpy hB hf
    obtain ⟨f0, rfl⟩ : ∃ f0, f = f0 + 1 := ⟨f - 1, by omega⟩
    have hm := wmin_lt hB
    have hx0 := rWF_0 x hwx
    have hy0 := rWF_0 y hwy
    by_cases hne : hsd x = true ∨ hsd y = true
    · obtain ⟨g1, g2, _, _⟩ := way_is hne hm
      obtain ⟨s1, s2, s3⟩ := way_hsd (w := x) (b := y)
      have hcases : wayOf x y = 1 ∨ wayOf x y = 2 ∨ wayOf x y = 3 ∨ wayOf x y = 4 ∨ wayOf x y = 5 := by omega
      have nil9 : ∀ (A B : Rw), lsg (wk 0 A B).1 = [] := fun A B => by rw [wk_01]; rfl
      rcases hcases with hw9 | hw9 | hw9 | hw9 | hw9
      · obtain ⟨t1, t2⟩ := s1 (Or.inl hw9)
        cases x with
        | leaf => cases t1
        | inner z k v l r =>
          cases y with
          | leaf => cases t2
          | inner z2 k2 v2 l2 r2 =>
            obtain ⟨a1, a2, a3⟩ := sub_in w i (by omega) hx
            obtain ⟨b1, b2, b3⟩ := sub_in b j (by omega) hy
            have hin : i < sL w := by
              have : 1 ≤ (if k < 3 then 1 else 2 + sL l) := by split <;> omega
              omega
            have hc := way1_c hw9 hm
            rw [BLD_S (Or.inl hin) hx hy hw9, wk_1 hw9]
            obtain ⟨c1, c2⟩ := pC_n (o := o) (q := 1) (k := rk (.inner z k v l r : Rw)) (by omega)
            rw [c1, c2]
            have ebx : BX (.inner z k v l r : Rw) (.inner z2 k2 v2 l2 r2 : Rw) 1 0 = [sFu (sG k v) (sG k2 v2)] := rfl
            rw [ebx]
            show ∃ f2, _ ∧ cl9 o ++ ([sFu (sG k v) (sG k2 v2)] ++ BLD w b f0 (i + 1) (j + 1) 0) = _
            rw [rN_in, rN_in] at hB
            have hr := hwx.2.2.2.2.2.2.2
            have hr2 := hwy.2.2.2.2.2.2.2
            rw [sL_in, sL_in] at hn
            by_cases hk : k < 3
            · rw [if_pos hk] at a1 a2
              unfold mtC at hc
              rw [if_pos hk] at hc
              have hal : ialk k v l k2 v2 l2 := by
                by_cases hB9 : ialkB k v l k2 v2 l2 = true
                · exact ialkB_is.mp hB9
                · rw [if_neg hB9] at hc; omega
              have ha : (isTx k ∧ isTx k2) ∨ (¬ isTx k ∧ k = k2 ∧ (k = 0 → v = v2)) := hal.imp (fun q => q) (fun q => ⟨q.1, q.2.1, q.2.2.1⟩)
              have hk2 : k2 < 3 := by
                rcases ha with ⟨q1, q2⟩ | ⟨q1, q3, q2⟩
                · unfold isTx at q2; omega
                · omega
              rw [if_pos hk2] at b1 b2
              rw [if_pos hk, if_pos hk2] at hn
              obtain ⟨f2, p1, p2⟩ := ih r r2 0 (i + 1) (j + 1) f0 (by omega) a2 b2 (by omega) (by omega) (Or.inl rfl) hr hr2 hpy.2.2 (by omega) (by omega)
              refine ⟨f2, ?_, ?_⟩
              · rw [sL_in, sL_in, if_pos hk, if_pos hk2, ← Nat.add_assoc, ← Nat.add_assoc]; exact p1
              · rw [p2, nil9, if_pos hk, lsg_c, if_pos (fK_lt hk), sG_fu hx0.1 hy0.1 ha, sL_in, sL_in, if_pos hk, if_pos hk2, ← Nat.add_assoc, ← Nat.add_assoc]
                rfl
            · rw [if_neg hk] at a1 a2
              unfold mtC at hc
              rw [if_neg hk] at hc
              by_cases h4 : k = 4 ∧ k2 = 4
              · obtain ⟨rfl, rfl⟩ := h4
                have n4 : ¬ (4 : Nat) < 3 := by decide
                rw [if_neg n4] at b1 b2
                rw [if_neg n4, if_neg n4] at hn
                have i1 := a3 (by decide)
                have i2 := b3 (by decide)
                obtain ⟨f1, p1, p2⟩ := ih l l2 0 (i + 1) (j + 1) f0 (by omega) i1 i2 (by omega) (by omega) (Or.inl rfl) hwx.2.2.2.2.2.2.1 hwy.2.2.2.2.2.2.1 hpy.2.1 (by omega) (by omega)
                obtain ⟨f3, rfl⟩ : ∃ f3, f1 = f3 + 1 := ⟨f1 - 1, by omega⟩
                have e1 := sub_lf9 i1 (by omega)
                have e2 := sub_lf9 i2 (by omega)
                rw [BLD_S (Or.inl (by omega)) e1 e2 way_00, show pC 0 0 (rk (.leaf : Rw)) = [] from if_neg (fun h => h.1 rfl), show BX (.leaf : Rw) (.leaf : Rw) 0 (oC 0 0 (rk (.leaf : Rw))) = [515] from rfl] at p2
                obtain ⟨f2, p3, p4⟩ := ih r r2 0 (i + (2 + sL l)) (j + (2 + sL l2)) f3 (by omega) a2 b2 (by omega) (by omega) (Or.inl rfl) hr hr2 hpy.2.2 (by omega) (by omega)
                have e3 : BLD w b f3 (i + 1 + sL l + Bi (.leaf : Rw) (.leaf : Rw) 0) (j + 1 + sL l2 + Bj (.leaf : Rw) (.leaf : Rw) 0) (Bo (.leaf : Rw) (.leaf : Rw) 0 (oC 0 0 (rk (.leaf : Rw)))) = BLD w b f3 (i + (2 + sL l)) (j + (2 + sL l2)) 0 := by
                  rw [show i + 1 + sL l + Bi (.leaf : Rw) (.leaf : Rw) 0 = i + (2 + sL l) by show i + 1 + sL l + 1 = _; omega, show j + 1 + sL l2 + Bj (.leaf : Rw) (.leaf : Rw) 0 = j + (2 + sL l2) by show j + 1 + sL l2 + 1 = _; omega]
                  rfl
                rw [e3, p4, nil9, nil9] at p2
                refine ⟨f2, ?_, ?_⟩
                · rw [sL_in, sL_in, if_neg n4, if_neg n4]; omega
                · have eP : i + sL (.inner z 4 v l r : Rw) = i + (2 + sL l) + sL r := by rw [sL_in, if_neg n4]; omega
                  have eQ : j + sL (.inner z2 4 v2 l2 r2 : Rw) = j + (2 + sL l2) + sL r2 := by rw [sL_in, if_neg n4]; omega
                  have e0 : cl9 0 = [] := rfl
                  have es : sFu (sG 4 v) (sG 4 v2) = sG 4 (-1) := rfl
                  rw [p2, eP, eQ, if_neg n4, lsg_c, if_neg n4, es]
                  show cl9 o ++ ([sG 4 (-1)] ++ ([] ++ (cl9 0 ++ (lsg (wk 0 l l2).2 ++ ([] ++ ([515] ++ ([] ++ (cl9 0 ++ (lsg (wk 0 r r2).2 ++ BLD w b f2 (i + (2 + sL l) + sL r) (j + (2 + sL l2) + sL r2) 0))))))))) = [] ++ (cl9 o ++ ((sG 4 (-1) :: (lsg (wk 0 l l2).2 ++ 515 :: lsg (wk 0 r r2).2)) ++ BLD w b f2 (i + (2 + sL l) + sL r) (j + (2 + sL l2) + sL r2) 0))
                  simp only [List.nil_append, List.append_assoc, List.cons_append, List.singleton_append, e0]
              · rw [if_neg h4] at hc; omega
      · obtain ⟨t1, t2⟩ := s1 (Or.inr (Or.inl hw9))
        cases x with
        | leaf => cases t1
        | inner z k v l r =>
          obtain ⟨k3, hnx⟩ := way2_c hw9 hm
          obtain ⟨a1, a2, a3⟩ := sub_in w i (by omega) hx
          have n3 : ¬ k < 3 := by omega
          rw [if_neg n3] at a1 a2
          have hd := rdrop_N2 (rI l) y
          have hso := nx_sO hx0.2.1 hy0 hnx
          have hql := qdrop_L (rI l) y
          have hdr := sub_dr (rI l) b j (by omega) (by rw [hy]; exact hj)
          rw [hy, ← hso] at hdr
          rw [sL_in, if_neg n3] at hn
          rw [rN_in] at hB
          obtain ⟨f2, p1, p2⟩ := ih r (rdrop (rI l) y) 0 (i + (2 + sL l)) (j + sL l) f0 (by omega) a2 hdr (by omega) (by omega) (Or.inl rfl) hwx.2.2.2.2.2.2.2 (rdrop_WF _ _ hwy) (rdrop_Pg _ _ hpy) (by omega) (by omega)
          rw [BLD_S (Or.inl (by omega)) hx hy hw9, wk_2 hw9]
          obtain ⟨c1, c2⟩ := pC_n (o := o) (q := 2) (k := rk (.inner z k v l r : Rw)) (by omega)
          rw [c1, c2]
          have ebx : BX (.inner z k v l r : Rw) y 2 0 = sG k v :: (List.zipWith sFu (lsg l) (lsg y) ++ [515]) := rfl
          have ebi : Bi (.inner z k v l r : Rw) y 2 = 2 + sL l := by show dI9 k l = _; exact if_neg n3
          have ebj : Bj (.inner z k v l r : Rw) y 2 = sL l := rfl
          have ebo : Bo (.inner z k v l r : Rw) y 2 0 = 0 := rfl
          have esg : sG k (-1) = sG k v := by unfold sG; rw [if_neg (by omega), if_neg (by omega), if_neg (by omega), if_neg (by omega)]
          refine ⟨f2, ?_, ?_⟩
          · rw [sL_in, if_neg n3]; omega
          · have eP : i + sL (.inner z k v l r : Rw) = i + (2 + sL l) + sL r := by rw [sL_in, if_neg n3]; omega
            have eQ : j + sL y = j + sL l + sL (rdrop (rI l) y) := by omega
            have e0 : cl9 0 = [] := rfl
            rw [ebx, ebi, ebj, ebo, zip_fus l y hx0.2.1 hy0 hnx, p2, nil9, eP, eQ, lsg_c, if_neg n3, esg]
            show cl9 o ++ ((sG k v :: (lsg (rfus l y) ++ [515])) ++ ([] ++ (cl9 0 ++ (lsg (wk 0 r (rdrop (rI l) y)).2 ++ BLD w b f2 (i + (2 + sL l) + sL r) (j + sL l + sL (rdrop (rI l) y)) 0)))) = [] ++ (cl9 o ++ ((sG k v :: (lsg (rfus l y) ++ 515 :: lsg (wk 0 r (rdrop (rI l) y)).2)) ++ BLD w b f2 (i + (2 + sL l) + sL r) (j + sL l + sL (rdrop (rI l) y)) 0))
            simp only [List.nil_append, List.append_assoc, List.cons_append, e0]
      · obtain ⟨t1, t2⟩ := s1 (Or.inr (Or.inr hw9))
        cases y with
        | leaf => cases t2
        | inner z2 k2 v2 l2 r2 =>
          obtain ⟨k4, hnx⟩ := way3_c hw9 hm
          subst k4
          obtain ⟨b1, b2, b3⟩ := sub_in b j (by omega) hy
          have n4 : ¬ (4 : Nat) < 3 := by decide
          rw [if_neg n4] at b1 b2
          have hd := rdrop_N2 (rI l2) x
          have hso := nx_sO hy0.2.1 hx0 hnx
          have hql := qdrop_L (rI l2) x
          have hdr := sub_dr (rI l2) w i (by omega) (by rw [hx]; exact hi)
          rw [hx, ← hso] at hdr
          rw [sL_in, if_neg n4] at hn
          rw [rN_in] at hB
          obtain ⟨f2, p1, p2⟩ := ih (rdrop (rI l2) x) r2 0 (i + sL l2) (j + (2 + sL l2)) f0 (by omega) hdr b2 (by omega) (by omega) (Or.inl rfl) (rdrop_WF _ _ hwx) hwy.2.2.2.2.2.2.2 hpy.2.2 (by omega) (by omega)
          rw [BLD_S (Or.inr (by omega)) hx hy hw9, wk_3 hw9]
          obtain ⟨c1, c2⟩ := pC_n (o := o) (q := 3) (k := rk x) (by omega)
          rw [c1, c2]
          have ebx : BX x (.inner z2 4 v2 l2 r2 : Rw) 3 0 = 514 :: (List.zipWith sFu (lsg x) (lsg l2) ++ [515]) := rfl
          have ebi : Bi x (.inner z2 4 v2 l2 r2 : Rw) 3 = sL l2 := rfl
          have ebj : Bj x (.inner z2 4 v2 l2 r2 : Rw) 3 = 2 + sL l2 := rfl
          have ebo : Bo x (.inner z2 4 v2 l2 r2 : Rw) 3 0 = 0 := rfl
          refine ⟨f2, ?_, ?_⟩
          · rw [sL_in, if_neg n4]; omega
          · have eP : j + sL (.inner z2 4 v2 l2 r2 : Rw) = j + (2 + sL l2) + sL r2 := by rw [sL_in, if_neg n4]; omega
            have eQ : i + sL x = i + sL l2 + sL (rdrop (rI l2) x) := by omega
            have e0 : cl9 0 = [] := rfl
            rw [ebx, ebi, ebj, ebo, List.zipWith_comm_of_comm sFu_sy, zip_fus l2 x hy0.2.1 hx0 hnx, p2, nil9, eP, eQ, lsg_c, if_neg n4]
            show cl9 o ++ ((514 :: (lsg (rfus l2 x) ++ [515])) ++ ([] ++ (cl9 0 ++ (lsg (wk 0 (rdrop (rI l2) x) r2).2 ++ BLD w b f2 (i + sL l2 + sL (rdrop (rI l2) x)) (j + (2 + sL l2) + sL r2) 0)))) = [] ++ (cl9 o ++ ((514 :: (lsg (rfus l2 x) ++ 515 :: lsg (wk 0 (rdrop (rI l2) x) r2).2)) ++ BLD w b f2 (i + sL l2 + sL (rdrop (rI l2) x)) (j + (2 + sL l2) + sL r2) 0))
            simp only [List.nil_append, List.append_assoc, List.cons_append, e0]
      · have t1 := s2 hw9
        cases x with
        | leaf => cases t1
        | inner z k v l r =>
          obtain ⟨a1, a2, a3⟩ := sub_in w i (by omega) hx
          obtain ⟨d, hd⟩ : ∃ d, d = (if k < 3 then 1 else 2 + sL l) := ⟨_, rfl⟩
          have hd1 : 1 ≤ d := by rw [hd]; split <;> omega
          rw [← hd] at a1 a2
          rw [sL_in, ← hd] at hn hi
          rw [rN_in] at hB
          rw [BLD_S (Or.inl (by omega)) hx hy hw9, wk_4 hw9, sL_in, ← hd]
          have ebi : Bi (.inner z k v l r : Rw) y 4 = d := by rw [hd]; rfl
          have ebj : j + Bj (.inner z k v l r : Rw) y 4 = j := rfl
          have ek : rk (.inner z k v l r : Rw) = k := rfl
          rw [ebi, ebj, ek]
          by_cases hk : k = 3
          · subst hk
            obtain ⟨c1, c2⟩ := pC_3 (o := o)
            have ebx : BX (.inner z 3 v l r : Rw) y 4 0 = lI 3 v l := rfl
            have ebo : Bo (.inner z 3 v l r : Rw) y 4 0 = 0 := rfl
            obtain ⟨f2, p1, p2⟩ := ih r y 0 (i + d) j f0 (by omega) a2 hy (by omega) hj (Or.inl rfl) hwx.2.2.2.2.2.2.2 hwy hpy (by omega) (by omega)
            refine ⟨f2, by omega, ?_⟩
            rw [c1, c2, ebx, ebo, p2, nil9, if_pos rfl, lsg_in, ← Nat.add_assoc, List.append_assoc]
            rfl
          · rw [if_neg hk]
            obtain ⟨f2, p1, p2⟩ := ih r y 4 (i + d) j f0 (by omega) a2 hy (by omega) hj (Or.inr (Or.inl rfl)) hwx.2.2.2.2.2.2.2 hwy hpy (by omega) (by omega)
            refine ⟨f2, by omega, ?_⟩
            by_cases h4 : o = 4
            · subst h4
              obtain ⟨c1, c2⟩ := pC_s (o := 4) (k := k) (by omega)
              have ebx : BX (.inner z k v l r : Rw) y 4 4 = lI k v l := rfl
              have ebo : Bo (.inner z k v l r : Rw) y 4 4 = 4 := rfl
              rw [c1, c2, ebx, ebo, p2, if_pos rfl, lsg_in, ← Nat.add_assoc, List.append_assoc]
              rfl
            · obtain ⟨c1, c2⟩ := pC_n (o := o) (q := 4) (k := k) (by omega)
              have ebx : BX (.inner z k v l r : Rw) y 4 0 = [513] ++ lI k v l := by
                have h9 : (if (0 : Nat) = 0 ∧ rk (.inner z k v l r : Rw) ≠ 3 then ([513] : List Int) else []) = [513] := if_pos ⟨rfl, hk⟩
                exact congrArg (fun q9 => q9 ++ lI k v l) h9
              have ebo : Bo (.inner z k v l r : Rw) y 4 0 = 4 := by
                have h9 : (if (0 : Nat) = 0 ∧ rk (.inner z k v l r : Rw) ≠ 3 then 4 else 0) = 4 := if_pos ⟨rfl, hk⟩
                exact h9
              rw [c1, c2, ebx, ebo, p2, if_neg h4, lsg_c, if_neg (by decide), lsg_in, ← Nat.add_assoc]
              show cl9 o ++ (([513] ++ lI k v l) ++ (lsg (wk 4 r y).1 ++ ([515] ++ (lsg (wk 4 r y).2 ++ BLD w b f2 (i + d + sL r) (j + sL y) 0)))) = [] ++ (cl9 o ++ ((513 :: ((lI k v l ++ lsg (wk 4 r y).1) ++ 515 :: lsg (wk 4 r y).2)) ++ BLD w b f2 (i + d + sL r) (j + sL y) 0))
              simp only [List.nil_append, List.append_assoc, List.cons_append, List.singleton_append]
      · have t1 := s3 hw9
        cases y with
        | leaf => cases t1
        | inner z2 k2 v2 l2 r2 =>
          obtain ⟨b1, b2, b3⟩ := sub_in b j (by omega) hy
          obtain ⟨d, hd⟩ : ∃ d, d = (if k2 < 3 then 1 else 2 + sL l2) := ⟨_, rfl⟩
          have hd1 : 1 ≤ d := by rw [hd]; split <;> omega
          have hk : k2 ≠ 3 := by have := hpy.1; omega
          rw [← hd] at b1 b2
          rw [sL_in, ← hd] at hn hj
          rw [rN_in] at hB
          rw [BLD_S (Or.inr (by omega)) hx hy hw9, wk_5 hw9, sL_in, ← hd]
          have ebj : Bj x (.inner z2 k2 v2 l2 r2 : Rw) 5 = d := by rw [hd]; rfl
          have ebi : i + Bi x (.inner z2 k2 v2 l2 r2 : Rw) 5 = i := rfl
          rw [ebi, ebj]
          obtain ⟨f2, p1, p2⟩ := ih x r2 5 i (j + d) f0 (by omega) hx b2 hi (by omega) (Or.inr (Or.inr rfl)) hwx hwy.2.2.2.2.2.2.2 hpy.2.2 (by omega) (by omega)
          refine ⟨f2, by omega, ?_⟩
          by_cases h5 : o = 5
          · subst h5
            obtain ⟨c1, c2⟩ := pC_s (o := 5) (k := rk x) (by omega)
            have ebx : BX x (.inner z2 k2 v2 l2 r2 : Rw) 5 5 = lI k2 v2 l2 := rfl
            have ebo : Bo x (.inner z2 k2 v2 l2 r2 : Rw) 5 5 = 5 := rfl
            rw [c1, c2, ebx, ebo, p2, if_pos rfl, lsg_in, ← Nat.add_assoc, List.append_assoc]
            rfl
          · obtain ⟨c1, c2⟩ := pC_n (o := o) (q := 5) (k := rk x) (by omega)
            have ebx : BX x (.inner z2 k2 v2 l2 r2 : Rw) 5 0 = [513] ++ lI k2 v2 l2 := by
              have h9 : (if (0 : Nat) = 0 ∧ rk (.inner z2 k2 v2 l2 r2 : Rw) ≠ 3 then ([513] : List Int) else []) = [513] := if_pos ⟨rfl, hk⟩
              exact congrArg (fun q9 => q9 ++ lI k2 v2 l2) h9
            have ebo : Bo x (.inner z2 k2 v2 l2 r2 : Rw) 5 0 = 5 := by
              have h9 : (if (0 : Nat) = 0 ∧ rk (.inner z2 k2 v2 l2 r2 : Rw) ≠ 3 then 5 else 0) = 5 := if_pos ⟨rfl, hk⟩
              exact h9
            rw [c1, c2, ebx, ebo, p2, if_neg h5, lsg_c, if_neg (by decide), lsg_in, ← Nat.add_assoc]
            show cl9 o ++ (([513] ++ lI k2 v2 l2) ++ (lsg (wk 5 x r2).1 ++ ([515] ++ (lsg (wk 5 x r2).2 ++ BLD w b f2 (i + sL x) (j + d + sL r2) 0)))) = [] ++ (cl9 o ++ ((513 :: ((lI k2 v2 l2 ++ lsg (wk 5 x r2).1) ++ 515 :: lsg (wk 5 x r2).2)) ++ BLD w b f2 (i + sL x) (j + d + sL r2) 0))
            simp only [List.nil_append, List.append_assoc, List.cons_append, List.singleton_append]
    · cases x with
      | inner z k v l r => exact absurd (Or.inl rfl) hne
      | leaf =>
        cases y with
        | inner z2 k2 v2 l2 r2 => exact absurd (Or.inr rfl) hne
        | leaf =>
          refine ⟨f0 + 1, hf, ?_⟩
          show BLD w b (f0 + 1) i j o = [] ++ (cl9 o ++ ([] ++ BLD w b (f0 + 1) i j 0))
          by_cases h : i < sL w ∨ j < sL b
          · rw [BLD_S h hx hy way_00, BLD_S h hx hy way_00]
            by_cases e : o = 0
            · subst e; rfl
            · obtain ⟨c1, c2⟩ := pC_n (o := o) (q := 0) (k := rk (.leaf : Rw)) (by omega)
              rw [c1, c2]
              rfl
          · rw [BLD_E h, BLD_E h]
            show cl9 o = [] ++ (cl9 o ++ ([] ++ []))
            simp only [List.nil_append, List.append_nil]
theorem BLD_is {w b : Rw} (hw : rWF w) (hb : rWF b) (hp : rPg b) (hB : rN w + rN b ≤ 1800) : BLD w b (sL w + sL b + 1) 0 0 0 = lsg (lrow w b) := by
  obtain ⟨f2, p1, p2⟩ := BLD_lv (w := w) (b := b) (sL w + sL b + 1) w b 0 0 0 (sL w + sL b + 1) (by omega) (sub_0 w) (sub_0 b) (by omega) (by omega) (Or.inl rfl) hw hb hp hB (by omega)
  obtain ⟨f3, rfl⟩ : ∃ f3, f2 = f3 + 1 := ⟨f2 - 1, by omega⟩
  rw [p2, wk_01, BLD_E (by omega)]
  show [] ++ ([] ++ (lsg (wk 0 w b).2 ++ [])) = lsg (lrow w b)
  rw [List.nil_append, List.nil_append, List.append_nil]
  rfl
/-- what is put so far, told sign by sign; or it was too much -/
def outT (μ : va_M) (q rm : Nat) (L : List Int) : Prop := (L.length ≤ rm ∧ μ q 5 = L.length ∧ μ q 7 = 0 ∧ ∀ t : Nat, t < L.length → L[t]? = some (μ (q + 1) t)) ∨ (rm < L.length ∧ μ q 7 = 1)
theorem outT_put {μ u : va_M} {q rm : Nat} {s : Int} {L : List Int} (h : outT μ q rm L) (c1 : μ q 5 < rm → u = uz (uz μ (q + 1) (μ q 5).toNat s) q 5 (μ q 5 + 1)) (c2 : ¬ μ q 5 < rm → u = uz μ q 7 1) : outT u q rm (L ++ [s]) := by
  have hl : (L ++ [s]).length = L.length + 1 := by rw [List.length_append, List.length_singleton]
  rcases h with ⟨h0, h1, h3, h4⟩ | ⟨h0, h1⟩
  · by_cases h9 : μ q 5 < rm
    · have e := c1 h9
      refine Or.inl ⟨by omega, by rw [e, uz_s, h1, hl]; omega, by rw [e, uz_n (by omega), uz_n (by omega)]; exact h3, fun t ht => ?_⟩
      rw [hl] at ht
      rw [e, uz_n (by omega)]
      by_cases h5 : t = L.length
      · rw [h5, List.getElem?_append_right (Nat.le_refl _), Nat.sub_self, List.getElem?_cons_zero, show (μ q 5).toNat = L.length by omega, uz_s]
      · rw [List.getElem?_append_left (by omega), h4 t (by omega), uz_n (by omega)]
    · exact Or.inr ⟨by omega, by rw [c2 h9, uz_s]⟩
  · refine Or.inr ⟨by omega, ?_⟩
    by_cases h9 : μ q 5 < rm
    · rw [c1 h9, uz_n (by omega), uz_n (by omega)]; exact h1
    · rw [c2 h9, uz_s]
theorem outT_fr {μ u : va_M} {q rm : Nat} {L : List Int} (h : outT μ q rm L) (h5 : u q 5 = μ q 5) (h7 : u q 7 = μ q 7) (h1 : ∀ y, u (q + 1) y = μ (q + 1) y) : outT u q rm L := by
  rcases h with ⟨a1, a2, a3, a4⟩ | ⟨a1, a2⟩
  · exact Or.inl ⟨a1, by rw [h5]; exact a2, by rw [h7]; exact a3, fun t ht => by rw [h1]; exact a4 t ht⟩
  · exact Or.inr ⟨a1, by rw [h7]; exact a2⟩
/-- what stands in the end: the row, or nothing where its line is too long -/
theorem outT_SA {μ : va_M} {q rm : Nat} {w : Rw} (h : outT μ q rm (lsg w)) : (sL w ≤ rm ∧ μ q 7 = 0 ∧ SA μ (q + 1) w 0 ∧ μ q 5 = sL w) ∨ (rm < sL w ∧ μ q 7 = 1) := by
  rcases h with ⟨a1, a2, a3, a4⟩ | ⟨a1, a2⟩
  · rw [lsg_len] at a1 a2 a4
    exact Or.inl ⟨a1, a3, lsg_SA w 0 (fun t ht => by rw [Nat.zero_add]; exact a4 t ht), a2⟩
  · rw [lsg_len] at a1
    exact Or.inr ⟨a1, a2⟩
theorem outT_cut {μ : va_M} {q rm : Nat} {w : Rw} (h : outT μ q rm (lsg w)) (hw : rW0 w) : rW0 (rcut rm w) ∧ sL (rcut rm w) ≤ rm ∧ ((μ q 7 = 0 ∧ SA μ (q + 1) (rcut rm w) 0 ∧ μ q 5 = sL (rcut rm w)) ∨ (μ q 7 = 1 ∧ rcut rm w = .leaf)) ∧ (sL w ≤ rm → μ q 7 = 0) ∧ (rm < sL w → μ q 7 = 1) := by
  unfold rcut
  rcases outT_SA h with ⟨a1, a2⟩ | ⟨a1, a2⟩
  · rw [if_pos a1]
    exact ⟨hw, a1, Or.inl a2, fun _ => a2.1, fun h9 => absurd a1 (by omega)⟩
  · rw [if_neg (by omega)]
    exact ⟨trivial, Nat.zero_le _, Or.inr ⟨a2, rfl⟩, fun h9 => absurd a1 (by omega), fun _ => a2⟩
/-- one sign more of a list -/
theorem tk_s {A : List Int} {k : Nat} {a : Int} (h : A[k]? = some a) : A.take (k + 1) = A.take k ++ [a] := by rw [List.take_succ, h]; rfl
theorem tk_all {A : List Int} {k : Nat} (h : A.length = k) : A.take k = A := by rw [← h, List.take_length]

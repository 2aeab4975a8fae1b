/-! the skeleton and what can be taken back: what both sides hold -/
def lyW : Rw → Rw → Rw
  | .leaf, b => b
  | .inner z k v l r, b => lrow (.inner z k v l r) b
def lyC : Rw → Rw → Int
  | .leaf, _ => 0
  | .inner z k v l r, b => (lay (.inner z k v l r) b).1
theorem lyW_n {w b : Rw} (h : w ≠ .leaf) : lyW w b = lrow w b := by
  cases w with
  | leaf => exact absurd rfl h
  | inner _ _ _ _ _ => rfl
theorem lyC_n {w b : Rw} (h : w ≠ .leaf) : lyC w b = (lay w b).1 := by
  cases w with
  | leaf => exact absurd rfl h
  | inner _ _ _ _ _ => rfl
theorem sL_0 {w : Rw} (h : rW0 w) : sL w = 0 ↔ w = .leaf := by
  cases w with
  | leaf => exact ⟨fun _ => rfl, fun _ => rfl⟩
  | inner z k v l r =>
    refine ⟨fun h9 => ?_, fun h9 => (by cases h9)⟩
    rw [sL_in] at h9
    obtain ⟨d, hd1, hd2, hd3⟩ := sL_d k l
    omega
theorem tk_get : ∀ (n : Nat) (l : List Rw) (i : Nat) (B : Rw), (l.take n)[i]? = some B → i < n ∧ l[i]? = some B
  | 0, l, i, B, h => by
    rw [List.take_zero] at h
    simp at h
  | n + 1, [], i, B, h => by simp at h
  | n + 1, a :: l, 0, B, h => ⟨by omega, h⟩
  | n + 1, a :: l, i + 1, B, h => by
    obtain ⟨h1, h2⟩ := tk_get n l i B h
    exact ⟨by omega, h2⟩
/-- the reference's steps back: the rows, the newest first -/
def bkX (ν : va_M) (Bs : List Rw) : Prop := ν 0 23 = Bs.length ∧ ∀ (i : Nat) (B : Rw), Bs[i]? = some B → TR ν (Bs.length - i) B ∧ (ν 721 (Bs.length - 1 - i) = 0 ↔ B = .leaf)
def SKr (W : Rw) (Bs : List Rw) (ν : va_M) : Prop := TR ν 0 W ∧ (ν 0 22 = 0 ↔ W = .leaf) ∧ bkX ν Bs
theorem bkX_R {J : Rw → Prop} {ν : va_M} {Bs : List Rw} (hB : ∀ (i : Nat) (B : Rw), Bs[i]? = some B → J B ∧ skB B) (h16 : Bs.length ≤ 16) (h22 : ν 0 22 = 0 ∨ ν 0 22 = 1) (hb2 : ∀ j : Nat, j < 16 → ν 721 j = 0 ∨ ν 721 j = 1) (h : bkX ν Bs) : bkR J ν := by
  obtain ⟨h1, h2⟩ := h
  refine ⟨by omega, h22, hb2, fun k k1 k2 => ?_⟩
  have hs := List.getElem?_eq_getElem (show Bs.length - k < Bs.length by omega)
  obtain ⟨t1, -⟩ := h2 _ _ hs
  obtain ⟨b1, b2⟩ := hB _ _ hs
  rw [show Bs.length - (Bs.length - k) = k by omega] at t1
  exact ⟨_, b1, b2, t1⟩
theorem bkX_fr {P : Nat → Nat → Prop} {μ u : va_M} {Bs : List Rw} (h : bkX μ Bs) (h16 : Bs.length ≤ 16) (hf : fr P μ u) (hn : ∀ x y, (x = 0 ∧ y = 23) ∨ x = 721 ∨ (508 ≤ x ∧ x < 524) ∨ (579 ≤ x ∧ x < 595) ∨ (650 ≤ x ∧ x < 666) ∨ (x = 719 ∧ 1 ≤ y ∧ y ≤ 16) → ¬ P x y) : bkX u Bs := by
  obtain ⟨h1, h2⟩ := h
  refine ⟨(hf 0 23 (hn _ _ (by omega))).trans h1, fun i B hB => ?_⟩
  have hi := (List.getElem?_eq_some_iff.mp hB).1
  obtain ⟨t1, t2⟩ := h2 i B hB
  exact ⟨TR_fr t1 hf (fun x => ⟨hn _ _ (by omega), hn _ _ (by omega), hn _ _ (by omega)⟩) (hn _ _ (by omega)), by rw [hf 721 _ (hn _ _ (by omega))]; exact t2⟩
theorem SKr_fr {P : Nat → Nat → Prop} {W : Rw} {Bs : List Rw} {μ u : va_M} (h : SKr W Bs μ) (h16 : Bs.length ≤ 16) (hf : fr P μ u) (hn : ∀ x y, (x = 0 ∧ (y = 22 ∨ y = 23)) ∨ x = 721 ∨ (507 ≤ x ∧ x < 524) ∨ (578 ≤ x ∧ x < 595) ∨ (649 ≤ x ∧ x < 666) ∨ (x = 719 ∧ y ≤ 16) → ¬ P x y) : SKr W Bs u := by
  obtain ⟨h1, h2, h3⟩ := h
  exact ⟨TR_fr h1 hf (fun x => ⟨hn _ _ (by omega), hn _ _ (by omega), hn _ _ (by omega)⟩) (hn _ _ (by omega)), by rw [hf 0 22 (hn _ _ (by omega))]; exact h2, bkX_fr h3 h16 hf (fun x y q => hn x y (by omega))⟩
theorem SKr_PS {W : Rw} {Bs : List Rw} {μ u : va_M} (h : SKr W Bs μ) (h16 : Bs.length ≤ 16) (hf : fr PS μ u) : SKr W Bs u := SKr_fr h h16 hf (fun x y q => PS_n (by omega))
/-- the oldest is dropped, one by one -/
def dX (μ : va_M) (Bs : List Rw) (k : Int) : Prop := ∀ (i : Nat) (B : Rw), Bs[i]? = some B → (∀ j : Nat, j + i = 15 → 1 ≤ j → (j : Int) < k → TR μ j B ∧ (μ 721 (j - 1) = 0 ↔ B = .leaf)) ∧ ∀ j : Nat, j + i = 16 → k ≤ j → TR μ j B ∧ (μ 721 (j - 1) = 0 ↔ B = .leaf)
theorem dX_0 {μ : va_M} {Bs : List Rw} (h : bkX μ Bs) (hl : Bs.length = 16) : dX μ Bs 1 := fun i B hB => by
  obtain ⟨t1, t2⟩ := h.2 i B hB
  have hi := (List.getElem?_eq_some_iff.mp hB).1
  refine ⟨fun j h1 h2 h3 => by omega, fun j h1 _ => ?_⟩
  rw [show Bs.length - i = j by omega] at t1
  rw [show Bs.length - 1 - i = j - 1 by omega] at t2
  exact ⟨t1, t2⟩
theorem dX_S {μ μa u : va_M} {Bs : List Rw} {k a : Int} {wk : Rw} (hk : 1 ≤ k ∧ k < 16) (kB : Bs[15 - k.toNat]? = some wk) (c1 : TR μa k.toNat wk) (c2 : fr (PT k.toNat) μ μa) (hd : dX μ Bs k) (hu : u = uz (uz μa 720 (k - 1).toNat a) 721 (k - 1).toNat (μa 721 k.toNat)) : dX u Bs (k + 1) := by
  have f2 : fr (fun x _ => x = 720 ∨ x = 721) μa u := by rw [hu]; exact fr_uz (fr_uz fr_rfl (Or.inl rfl)) (Or.inr rfl)
  have e1 : u 721 (k - 1).toNat = μa 721 k.toNat := by rw [hu, uz_s]
  have e2 : ∀ j : Nat, j ≠ (k - 1).toNat → u 721 j = μ 721 j := fun j hj => by
    rw [hu, uz_n (by omega), uz_n (by omega)]
    exact c2 721 j (by unfold PT; omega)
  have e3 : μa 721 k.toNat = μ 721 k.toNat := c2 721 _ (by unfold PT; omega)
  have hT : ∀ (t : Nat) (w : Rw), t < 70 → t ≠ k.toNat → TR μ t w → TR u t w := fun t w h1 h2 h3 => TR_fr (TR_fr h3 c2 (fun x => by unfold PT; omega) (by unfold PT; omega)) f2 (fun x => by omega) (by omega)
  intro i B hB
  obtain ⟨d1, d2⟩ := hd i B hB
  refine ⟨fun j h1 h2 h3 => ?_, fun j h1 h2 => ?_⟩
  · by_cases h9 : j = k.toNat
    · subst h9
      obtain rfl : i = 15 - k.toNat := by omega
      obtain rfl : B = wk := Option.some.inj (hB.symm.trans kB)
      refine ⟨TR_fr c1 f2 (fun x => by omega) (by omega), ?_⟩
      rw [show k.toNat - 1 = (k - 1).toNat by omega, e1, e3]
      have h8 := (d2 (k.toNat + 1) (by omega) (by omega)).2
      rw [show k.toNat + 1 - 1 = k.toNat by omega] at h8
      exact h8
    · obtain ⟨g1, g2⟩ := d1 j h1 h2 (by omega)
      exact ⟨hT j B (by omega) h9 g1, by rw [e2 _ (by omega)]; exact g2⟩
  · obtain ⟨g1, g2⟩ := d2 j h1 (by omega)
    exact ⟨hT j B (by omega) (by omega) g1, by rw [e2 _ (by omega)]; exact g2⟩
theorem dX_end {μ u : va_M} {Bs : List Rw} (h : dX μ Bs 16) (hl : Bs.length = 16) (hf : fr (fun x y => x = 0 ∧ y = 23) μ u) (h23 : u 0 23 = 15) : bkX u (Bs.take 15) := by
  have e : (Bs.take 15).length = 15 := by rw [List.length_take]; omega
  refine ⟨by omega, fun i B hB => ?_⟩
  obtain ⟨hi, hB2⟩ := tk_get 15 Bs i B hB
  obtain ⟨t1, t2⟩ := (h i B hB2).1 (15 - i) (by omega) (by omega) (by omega)
  rw [e, show 15 - 1 - i = 15 - i - 1 by omega]
  exact ⟨TR_fr t1 hf (fun x => by omega) (by omega), by rw [hf 721 _ (by omega)]; exact t2⟩
theorem bkX_cons {μ u : va_M} {Cs : List Rw} {W : Rw} (h : bkX μ Cs) (hl : Cs.length ≤ 15) (hf : fr (fun x y => (x = 0 ∧ y = 23) ∨ PT (Cs.length + 1) x y ∨ x = 720 ∨ (x = 721 ∧ y = Cs.length)) μ u) (hT : TR u (Cs.length + 1) W) (h1 : u 721 Cs.length = 0 ↔ W = .leaf) (h23 : u 0 23 = ((Cs.length + 1 : Nat) : Int)) : bkX u (W :: Cs) := by
  refine ⟨by rw [h23, List.length_cons], fun i B hB => ?_⟩
  rw [List.length_cons]
  match i, hB with
  | 0, hB =>
    obtain rfl : W = B := Option.some.inj hB
    exact ⟨hT, h1⟩
  | i + 1, hB =>
    have hB : Cs[i]? = some B := hB
    have hi := (List.getElem?_eq_some_iff.mp hB).1
    obtain ⟨t1, t2⟩ := h.2 i B hB
    rw [show Cs.length + 1 - (i + 1) = Cs.length - i by omega, show Cs.length + 1 - 1 - (i + 1) = Cs.length - 1 - i by omega]
    exact ⟨TR_fr t1 hf (fun x => by unfold PT; omega) (by unfold PT; omega), by rw [hf 721 _ (by unfold PT; omega)]; exact t2⟩
theorem bkX_tail {μ u : va_M} {B : Rw} {Bt : List Rw} (h : bkX μ (B :: Bt)) (hl : Bt.length ≤ 15) (hf : fr (fun x y => (x = 0 ∧ (y = 0 ∨ y = 22 ∨ y = 23 ∨ y = 24)) ∨ PT 0 x y) μ u) (h23 : u 0 23 = μ 0 23 - 1) : bkX u Bt := by
  have h1 := h.1
  rw [List.length_cons] at h1
  refine ⟨by omega, fun i C hC => ?_⟩
  have hi := (List.getElem?_eq_some_iff.mp hC).1
  obtain ⟨t1, t2⟩ := h.2 (i + 1) C hC
  rw [List.length_cons, show Bt.length + 1 - (i + 1) = Bt.length - i by omega] at t1
  rw [List.length_cons, show Bt.length + 1 - 1 - (i + 1) = Bt.length - 1 - i by omega] at t2
  exact ⟨TR_fr t1 hf (fun x => by unfold PT; omega) (by unfold PT; omega), by rw [hf 721 _ (by unfold PT; omega)]; exact t2⟩
/-- the skeleton with all that can be taken back, each kept by J -/
def SKJ (J : Rw → Prop) (W : Rw) (Bs : List Rw) (ν : va_M) : Prop := SKr W Bs ν ∧ J W ∧ (∀ (i : Nat) (B : Rw), Bs[i]? = some B → J B) ∧ Bs.length ≤ 16
theorem RI_SK {J : Rw → Prop} {μ u : va_M} {W : Rw} {Bs : List Rw} (hJK : JOK J) (hR : RI J μ) (hf : fr KF μ u) (h22 : u 0 22 = 0 ∨ u 0 22 = 1) (hb2 : ∀ j : Nat, j < 16 → u 721 j = 0 ∨ u 721 j = 1) (h : SKJ J W Bs u) : RI J u := by
  obtain ⟨⟨h1, h2, h3⟩, h4, h5, h6⟩ := h
  have hb := (hJK.2.1 W h4).1
  exact ⟨RQ_to hR.1 hf ⟨W, hb, h1⟩, ⟨W, h4, hb, h1⟩, bkX_R (fun i B hB => ⟨h5 i B hB, (hJK.2.1 B (h5 i B hB)).1⟩) h6 h22 hb2 h3⟩
theorem JBs_cons {J : Rw → Prop} {W : Rw} {Bs : List Rw} (h : J W) (h2 : ∀ (i : Nat) (B : Rw), Bs[i]? = some B → J B) : ∀ (i : Nat) (B : Rw), (W :: Bs.take 15)[i]? = some B → J B := fun i B hB => by
  match i, hB with
  | 0, hB =>
    obtain rfl : W = B := Option.some.inj hB
    exact h
  | i + 1, hB => exact h2 i B (tk_get 15 Bs i B hB).2
theorem len_cons (W : Rw) (Bs : List Rw) : (W :: Bs.take 15).length ≤ 16 := by
  rw [List.length_cons, List.length_take]
  omega
def udW : Rw → List Rw → Rw
  | W, [] => W
  | _, B :: _ => B
def udR : List Rw → Int
  | [] => -1
  | B :: _ => rL B
/-- laying leaves something -/
def nlM (o : Nat) (w b _X Y : Rw) : Prop := o ≠ 4 → o ≠ 5 → Y = .leaf → w = .leaf ∧ b = .leaf
theorem nl_all : ∀ (n o : Nat) (w b : Rw), rN w + rN b < n → rN w + rN b ≤ 1800 → rWF w → rWF b → rPg b → nlM o w b (wk o w b).1 (wk o w b).2 := by
  refine wk_ind (M := nlM) ?_ ?_ ?_ ?_ ?_ ?_ ?_ ?_ ?_ ?_
  · intro o _ _ _
    exact ⟨rfl, rfl⟩
  · intro o z k v l r z2 k2 v2 l2 r2 X Y _ _ _ _ _ _ _ _ _ _ h
    cases h
  · intro o z v l r z2 v2 l2 r2 X Y Xi _ _ _ _ _ _ _ _ _ _ _ _ h
    cases h
  · intro o z k v l r b X Y _ _ _ _ _ _ _ _ _ _ h
    cases h
  · intro o z2 v2 w l2 r2 X Y _ _ _ _ _ _ _ _ _ h
    cases h
  · intro o z v l r b X Y _ _ _ _ _ _ _ _ h
    cases h
  · intro z k v l r b X Y _ _ _ _ _ _ h4
    exact absurd rfl h4
  · intro o z k v l r b X Y _ _ _ _ _ _ _ _ _ h
    cases h
  · intro z2 k2 v2 w l2 r2 X Y _ _ _ _ _ _ h5
    exact absurd rfl h5
  · intro o z2 k2 v2 w l2 r2 X Y _ _ _ _ _ _ _ _ h
    cases h
theorem lrow_ne {w b : Rw} (hN : rN w + rN b ≤ 1800) (h1 : rWF w) (h2 : rWF b) (h3 : rPg b) (hne : w ≠ .leaf) : lrow w b ≠ .leaf := fun h => hne (nl_all _ 0 w b (Nat.lt_succ_self _) hN h1 h2 h3 (by decide) (by decide) h).1
theorem lyW_ne {w b : Rw} (hw : skB w) (hb : rPage b) (hI : 1 ≤ rI b) : lyW w b ≠ .leaf := by
  by_cases h : w = .leaf
  · subst h
    intro h9
    have h9 : b = .leaf := h9
    subst h9
    have e : rI (Std.DTreeMap.Internal.Impl.leaf : Rw) = 0 := rfl
    omega
  · rw [lyW_n h]
    have h1 := hw.2.1
    have h2 := rPage_b hb
    exact lrow_ne (by omega) hw.1 hb.1 hb.2.1.1 h
theorem lyW_J {J : Rw → Prop} (hJK : JOK J) {w b : Rw} (h1 : J w) (h2 : rPage b) (h3 : 1 ≤ rI b) : skB (lyW w b) ∧ (rL (lyW w b) ≤ 160 → J (lyW w b)) := by
  cases w with
  | leaf =>
    have h4 := hJK.2.2.1 b h2 h3
    exact ⟨(hJK.2.1 b h4).1, fun _ => h4⟩
  | inner z k v l r => exact hJK.2.2.2.1 _ b h1 h2 h3
theorem tdy_0 {u : Rw} {n : Nat} (h : tdy .leaf u n) : u = .leaf := by
  obtain ⟨x, n1, n2, ⟨h1, h2⟩, h3, h4, h5⟩ := h
  subst h1
  have hq := (tSt_TQ n2 .leaf u trivial trivial h3).2
  have e : rI (Std.DTreeMap.Internal.Impl.leaf : Rw) = 0 := rfl
  cases u with
  | leaf => rfl
  | inner z k v l r => rw [rI_in] at hq; omega

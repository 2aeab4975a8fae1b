
/-! no two items side by side that are one tag, in a repeat or not; no repeat of one text alone, none of one repeat of one token -/
def rSg : Rw → Prop
  | .inner _ k _ _ .leaf => k < 3
  | .inner _ _ _ _ (.inner _ _ _ _ _) => False
  | .leaf => False
def rBd : Rw → Prop
  | .inner _ k _ l .leaf => isTx k ∨ (k = 4 ∧ rSg l)
  | .inner _ _ _ _ (.inner _ _ _ _ _) => False
  | .leaf => False
/-- the tag that an item is, in a repeat or not; -5 without -/
def crL : Rw → Int
  | .inner _ k v _ .leaf => if k = 0 then v else -5
  | .inner _ _ _ _ (.inner _ _ _ _ _) => -5
  | .leaf => -5
def crI (k : Nat) (v : Int) (l : Rw) : Int := if k = 0 then v else if k = 4 then crL l else -5
def crH : Rw → Int
  | .inner _ k v l _ => crI k v l
  | .leaf => -5
def rAd : Rw → Prop
  | .leaf => True
  | .inner _ k v l r => (k = 4 → ¬ rBd l) ∧ (0 ≤ crI k v l → crI k v l ≠ crH r) ∧ rAd l ∧ rAd r
/-- the same, but that two tags may stand side by side -/
def rAq : Rw → Prop
  | .leaf => True
  | .inner _ k v l r => (k = 4 → ¬ rBd l) ∧ (0 ≤ crI k v l → crI k v l = crH r → k = 0 ∧ ∃ (z : Nat) (v2 : Int) (l2 r2 : Rw), r = .inner z 0 v2 l2 r2) ∧ rAd l ∧ rAq r
theorem ralk_refl : ∀ w : Rw, ralk w w
  | .leaf => trivial
  | .inner _ k _ l r => by
    refine ⟨?_, ralk_refl r⟩
    by_cases h : isTx k
    · exact Or.inl ⟨h, h⟩
    · exact Or.inr ⟨h, rfl, fun _ => rfl, ralk_refl l⟩
theorem alk_k {k : Nat} {v : Int} {l : Rw} {k2 : Nat} {v2 : Int} {l2 : Rw} (h : ialk k v l k2 v2 l2) : (k < 3 ↔ k2 < 3) ∧ (k = 0 ↔ k2 = 0) ∧ (k = 3 ↔ k2 = 3) ∧ (k = 4 ↔ k2 = 4) ∧ (isTx k ↔ isTx k2) ∧ (k = 0 → v = v2) := by
  rcases h with ⟨h1, h2⟩ | ⟨h1, rfl, h3, _⟩
  · unfold isTx at *
    exact ⟨by omega, by omega, by omega, by omega, by omega, by omega⟩
  · exact ⟨Iff.rfl, Iff.rfl, Iff.rfl, Iff.rfl, Iff.rfl, h3⟩
theorem alk_Sg {x y : Rw} (h : ralk x y) (hs : rSg x) : rSg y := by
  cases x with
  | leaf => exact hs.elim
  | inner z k v l r =>
    cases y with
    | leaf => exact h.elim
    | inner z2 k2 v2 l2 r2 =>
      have h1 := alk_k h.1
      have h2 := h.2
      cases r with
      | inner _ _ _ _ _ => exact hs.elim
      | leaf =>
        cases r2 with
        | inner _ _ _ _ _ => exact h2.elim
        | leaf =>
          have hs : k < 3 := hs
          show k2 < 3
          omega
theorem alk_Bd {x y : Rw} (h : ralk x y) (hs : rBd x) : rBd y := by
  cases x with
  | leaf => exact hs.elim
  | inner z k v l r =>
    cases y with
    | leaf => exact h.elim
    | inner z2 k2 v2 l2 r2 =>
      have h1 := alk_k h.1
      have h2 := h.2
      cases r with
      | inner _ _ _ _ _ => exact hs.elim
      | leaf =>
        cases r2 with
        | inner _ _ _ _ _ => exact h2.elim
        | leaf =>
          have hs : isTx k ∨ (k = 4 ∧ rSg l) := hs
          show isTx k2 ∨ (k2 = 4 ∧ rSg l2)
          rcases hs with hs | ⟨hs, hs2⟩
          · exact Or.inl (h1.2.2.2.2.1.mp hs)
          · refine Or.inr ⟨h1.2.2.2.1.mp hs, ?_⟩
            rcases h.1 with ⟨a, _⟩ | ⟨_, _, _, a⟩
            · unfold isTx at a; omega
            · exact alk_Sg a hs2
theorem alk_crL {x y : Rw} (h : ralk x y) : crL x = crL y := by
  cases x with
  | leaf =>
    cases y with
    | leaf => rfl
    | inner _ _ _ _ _ => exact h.elim
  | inner z k v l r =>
    cases y with
    | leaf => exact h.elim
    | inner z2 k2 v2 l2 r2 =>
      have h1 := alk_k h.1
      have h2 := h.2
      cases r with
      | inner _ _ _ _ _ =>
        cases r2 with
        | inner _ _ _ _ _ => rfl
        | leaf => exact h2.elim
      | leaf =>
        cases r2 with
        | inner _ _ _ _ _ => exact h2.elim
        | leaf =>
          show (if k = 0 then v else -5) = (if k2 = 0 then v2 else -5)
          by_cases h0 : k = 0
          · rw [if_pos h0, if_pos (h1.2.1.mp h0)]; exact h1.2.2.2.2.2 h0
          · rw [if_neg h0, if_neg (fun h9 => h0 (h1.2.1.mpr h9))]
theorem alk_crI {k : Nat} {v : Int} {l : Rw} {k2 : Nat} {v2 : Int} {l2 : Rw} (h : ialk k v l k2 v2 l2) : crI k v l = crI k2 v2 l2 := by
  have h1 := alk_k h
  unfold crI
  by_cases h0 : k = 0
  · rw [if_pos h0, if_pos (h1.2.1.mp h0)]; exact h1.2.2.2.2.2 h0
  · rw [if_neg h0, if_neg (fun h9 => h0 (h1.2.1.mpr h9))]
    by_cases h4 : k = 4
    · rw [if_pos h4, if_pos (h1.2.2.2.1.mp h4)]
      rcases h with ⟨a, _⟩ | ⟨_, _, _, a⟩
      · unfold isTx at a; omega
      · exact alk_crL a
    · rw [if_neg h4, if_neg (fun h9 => h4 (h1.2.2.2.1.mpr h9))]
theorem alk_crH {x y : Rw} (h : ralk x y) : crH x = crH y := by
  cases x with
  | leaf =>
    cases y with
    | leaf => rfl
    | inner _ _ _ _ _ => exact h.elim
  | inner z k v l r =>
    cases y with
    | leaf => exact h.elim
    | inner z2 k2 v2 l2 r2 => exact alk_crI h.1
/-- it is told by what is alike -/
theorem rAd_alk : ∀ x y : Rw, ralk x y → rWF x → rAd y → rAd x
  | .leaf, _, _, _, _ => trivial
  | .inner _ _ _ _ _, .leaf, h, _, _ => h.elim
  | .inner z k v l r, .inner z2 k2 v2 l2 r2, h, hw, ⟨h1, h2, h3, h4⟩ => by
    have e1 := alk_k h.1
    have e2 := alk_crI h.1
    have e3 := alk_crH h.2
    obtain ⟨f1, f2, f3, f4, f5, f6, f7, f8⟩ := hw
    refine ⟨fun h9 hb9 => ?_, fun h9 => ?_, ?_, rAd_alk r r2 h.2 f8 h4⟩
    · refine h1 (e1.2.2.2.1.mp h9) ?_
      rcases h.1 with ⟨a, _⟩ | ⟨_, _, _, a⟩
      · unfold isTx at a; omega
      · exact alk_Bd a hb9
    · rw [e2, e3]
      rw [e2] at h9
      exact h2 h9
    · rcases h.1 with ⟨a, _⟩ | ⟨_, _, _, a⟩
      · unfold isTx at a
        obtain rfl := f2 (by omega)
        trivial
      · exact rAd_alk l l2 a f7 h3
theorem rAd_drop : ∀ (m : Nat) (w : Rw), rAd w → rAd (rdrop m w)
  | 0, _, h => h
  | _ + 1, .leaf, h => h
  | m + 1, .inner _ _ _ _ r, h => rAd_drop m r h.2.2.2
theorem rAq_drop : ∀ (m : Nat) (w : Rw), rAq w → rAq (rdrop m w)
  | 0, _, h => h
  | _ + 1, .leaf, h => h
  | m + 1, .inner _ _ _ _ r, h => rAq_drop m r h.2.2.2
theorem crH_pre : ∀ (m : Nat) (w x : Rw), 0 < m → 0 < rI w → crH (rpre m w x) = crH w
  | 0, _, _, h, _ => absurd h (Nat.lt_irrefl 0)
  | _ + 1, .leaf, _, _, h => absurd h (Nat.lt_irrefl 0)
  | _ + 1, .inner _ _ _ _ _, _, _, _ => rfl
/-- the first items of a row, alone -/
theorem rAd_pre : ∀ (m : Nat) (w : Rw), rAd w → rAd (rpre m w .leaf)
  | 0, _, _ => trivial
  | _ + 1, .leaf, _ => trivial
  | m + 1, .inner _ k v l r, ⟨h1, h2, h3, h4⟩ => by
    refine ⟨h1, fun h9 => ?_, h3, rAd_pre m r h4⟩
    cases m with
    | zero =>
      show crI k v l ≠ -5
      omega
    | succ m =>
      cases r with
      | leaf => exact h2 h9
      | inner z0 k0 v0 l0 r0 => exact h2 h9
/-- put together of two rows -/
theorem rAd_join : ∀ (m : Nat) (w x : Rw), m ≤ rI w → rAd (rpre m w .leaf) → rAd x → (∀ (n z k : Nat) (v : Int) (l r : Rw), m = n + 1 → rdrop n w = .inner z k v l r → 0 ≤ crI k v l → crI k v l ≠ crH x) → rAd (rpre m w x)
  | 0, _, _, _, _, hx, _ => hx
  | _ + 1, .leaf, _, _, _, hx, _ => hx
  | m + 1, .inner z k v l r, x, hm, ⟨h1, h2, h3, h4⟩, hx, hb => by
    rw [rI_in] at hm
    refine ⟨h1, fun h9 => ?_, h3, rAd_join m r x (by omega) h4 hx (fun n z k v l r e1 e2 => hb (n + 1) z k v l r (by omega) e2)⟩
    cases m with
    | zero => exact hb 0 z k v l r rfl rfl h9
    | succ m =>
      rw [crH_pre (m + 1) r x (by omega) (by omega)]
      have h8 := h2 h9
      rw [crH_pre (m + 1) r .leaf (by omega) (by omega)] at h8
      exact h8
theorem rAq_join : ∀ (m : Nat) (w x : Rw), m ≤ rI w → rAq w → rAq x → (∀ (n z k : Nat) (v : Int) (l r : Rw), m = n + 1 → rdrop n w = .inner z k v l r → 0 ≤ crI k v l → crI k v l ≠ crH x) → rAq (rpre m w x)
  | 0, _, _, _, _, hx, _ => hx
  | _ + 1, .leaf, _, _, _, hx, _ => hx
  | m + 1, .inner z k v l r, x, hm, ⟨h1, h2, h3, h4⟩, hx, hb => by
    rw [rI_in] at hm
    refine ⟨h1, fun h9 h8 => ?_, h3, rAq_join m r x (by omega) h4 hx (fun n z k v l r e1 e2 => hb (n + 1) z k v l r (by omega) e2)⟩
    cases m with
    | zero => exact absurd h8 (hb 0 z k v l r rfl rfl h9)
    | succ m =>
      rw [crH_pre (m + 1) r x (by omega) (by omega)] at h8
      obtain ⟨a, z2, v2, l2, r2, e⟩ := h2 h9 h8
      exact ⟨a, z2, v2, l2, rpre m r2 x, by rw [e, rpre]⟩
/-- nothing more can be folded: no two tags side by side -/
theorem tag_alk {k k2 : Nat} {v v2 : Int} {l l2 : Rw} (h : k = 0) (h2 : k2 = 0) (e : v = v2) (f : k < 3 → l = .leaf) (f2 : k2 < 3 → l2 = .leaf) : ialk k v l k2 v2 l2 := by
  subst h; subst h2
  rw [f (by omega), f2 (by omega)]
  exact Or.inr ⟨by unfold isTx; omega, rfl, fun _ => e, trivial⟩
theorem rAq_end : ∀ w : Rw, rWF w → rAq w → noF w (rI w) → rAd w
  | .leaf, _, _, _ => trivial
  | .inner z k v l r, ⟨f1, f2, f3, f4, f5, f6, f7, f8⟩, ⟨h1, h2, h3, h4⟩, hn => by
    refine ⟨h1, fun h9 h8 => ?_, h3, rAq_end r f8 h4 (fun x hx hx2 hf => ?_)⟩
    · obtain ⟨a, z2, v2, l2, r2, e⟩ := h2 h9 h8
      refine hn 0 (by rw [rI_in]; omega) (by rw [rI_in, e, rI_in]; omega) (Or.inl a) ?_
      rw [e] at h8 ⊢
      have e1 : crI k v l = v := by unfold crI; rw [if_pos a]
      have e2 : crH (Std.DTreeMap.Internal.Impl.inner z2 0 v2 l2 r2 : Rw) = v2 := rfl
      rw [e1, e2] at h8
      rw [e] at f8
      exact tag_alk a rfl h8 f2 f8.2.1
    · have h7 := hn (x + 1) (by rw [rI_in]; omega) (by rw [rI_in]; omega) hf
      exact h7

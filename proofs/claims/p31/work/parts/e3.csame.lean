
/-! rows as lines of signs: items alike, sign by sign; what is fused; what a fold is, told once for both sides -/
/-- a fact that arithmetic is not to look into -/
def hid (P : Prop) : Prop := P
theorem hid_i {P : Prop} (h : P) : hid P := h
theorem hid_e {P : Prop} (h : hid P) : P := h
def sO : Rw → Nat → Nat
  | .leaf, _ => 0
  | .inner _ _ _ _ _, 0 => 0
  | .inner _ k _ l r, m + 1 => (if k < 3 then 1 else 2 + sL l) + sO r m
theorem sL_in {z k : Nat} {v : Int} {l r : Rw} : sL (Std.DTreeMap.Internal.Impl.inner z k v l r : Rw) = (if k < 3 then 1 else 2 + sL l) + sL r := rfl
theorem sO_in {z k m : Nat} {v : Int} {l r : Rw} : sO (Std.DTreeMap.Internal.Impl.inner z k v l r : Rw) (m + 1) = (if k < 3 then 1 else 2 + sL l) + sO r m := rfl
theorem sO_0 (w : Rw) : sO w 0 = 0 := by cases w <;> rfl
theorem sO_all : ∀ (w : Rw) (m : Nat), rI w ≤ m → sO w m = sL w
  | .leaf, m, _ => by cases m <;> rfl
  | .inner z k v l r, 0, h => by rw [rI_in] at h; omega
  | .inner z k v l r, m + 1, h => by rw [rI_in] at h; rw [sO_in, sL_in, sO_all r m (by omega)]
theorem qdrop_L : ∀ (m : Nat) (w : Rw), sO w m + sL (rdrop m w) = sL w
  | 0, w => by rw [sO_0]; exact Nat.zero_add _
  | m + 1, .leaf => rfl
  | m + 1, .inner z k v l r => by rw [sO_in, sL_in, ← qdrop_L m r, rdrop]; omega
theorem sO_add : ∀ (a b : Nat) (w : Rw), sO w (a + b) = sO w a + sO (rdrop a w) b
  | 0, b, w => by rw [sO_0, Nat.zero_add, Nat.zero_add]; rfl
  | a + 1, b, .leaf => by cases b <;> rfl
  | a + 1, b, .inner z k v l r => by rw [show a + 1 + b = (a + b) + 1 by omega, sO_in, sO_in, sO_add a b r, rdrop]; omega
theorem sO_mono (w : Rw) (a b : Nat) (h : a ≤ b) : sO w a ≤ sO w b := by
  rw [show b = a + (b - a) by omega, sO_add]
  (first | ((try clear h); omega) | omega)
theorem sO_lt : ∀ (w : Rw) (m : Nat), m < rI w → sO w m + 1 ≤ sO w (m + 1)
  | .leaf, m, h => by have e : rI (Std.DTreeMap.Internal.Impl.leaf : Rw) = 0 := rfl; omega
  | .inner z k v l r, 0, _ => by
    have e : sO (Std.DTreeMap.Internal.Impl.inner z k v l r : Rw) 0 = 0 := rfl
    rw [e, sO_in]
    split <;> omega
  | .inner z k v l r, m + 1, h => by
    rw [rI_in] at h
    have := sO_lt r m (by omega)
    rw [sO_in, sO_in]
    omega
theorem sO_le (w : Rw) (m : Nat) : sO w m ≤ sL w := by have := qdrop_L m w; omega
theorem SA_drop {μ : va_M} {c : Nat} : ∀ (m : Nat) (w : Rw) (p : Nat), SA μ c w p → SA μ c (rdrop m w) (p + sO w m)
  | 0, w, p, h => by rw [sO_0]; exact h
  | m + 1, .leaf, p, _ => trivial
  | m + 1, .inner z k v l r, p, ⟨_, _, h⟩ => by
    have h1 := SA_drop m r _ h
    rw [Nat.add_assoc] at h1
    exact h1
theorem qdrop_W : ∀ (m : Nat) (w : Rw), rW0 w → rW0 (rdrop m w)
  | 0, _, h => h
  | _ + 1, .leaf, _ => trivial
  | m + 1, .inner _ _ _ _ r, h => qdrop_W m r h.2.2
/-- the first signs of two items -/
theorem sG_al {k k2 : Nat} {v v2 : Int} {l l2 : Rw} (h : iW0 k v l) (h2 : iW0 k2 v2 l2) : sAl (sG k v) (sG k2 v2) ↔ (isTx k ∧ isTx k2) ∨ (¬ isTx k ∧ k = k2 ∧ (k = 0 → v = v2)) := by
  obtain ⟨a1, a2, a3, a4, a5⟩ := h
  obtain ⟨b1, b2, b3, b4, b5⟩ := h2
  unfold sAl sG isTx
  constructor
  · intro hs
    by_cases c1 : k = 0
    · subst c1
      rw [if_pos rfl] at hs
      by_cases d1 : k2 = 0
      · subst d1
        rw [if_pos rfl] at hs
        exact Or.inr ⟨by (first | ((try clear d1); (try clear c1); (try clear hs); (try clear b5); (try clear b4); (try clear b3); (try clear b2); (try clear b1); (try clear a5); (try clear a4); (try clear a3); (try clear a2); (try clear a1); omega) | omega), rfl, fun _ => by (first | ((try clear d1); (try clear c1); (try clear b5); (try clear b4); (try clear b3); (try clear b2); (try clear b1); (try clear a5); (try clear a2); (try clear a1); omega) | omega)⟩
      · rw [if_neg d1] at hs
        by_cases d2 : k2 = 1
        · rw [if_pos d2] at hs; (first | ((try clear c1); (try clear b5); (try clear b2); (try clear b1); (try clear a5); (try clear a2); (try clear a1); omega) | omega)
        · rw [if_neg d2] at hs; (first | ((try clear c1); (try clear b5); (try clear b4); (try clear b3); (try clear b2); (try clear a5); (try clear a2); (try clear a1); omega) | omega)
    · rw [if_neg c1] at hs
      by_cases d1 : k2 = 0
      · subst d1
        rw [if_pos rfl] at hs
        by_cases c2 : k = 1
        · rw [if_pos c2] at hs; (first | ((try clear d1); (try clear c1); (try clear b5); (try clear b2); (try clear b1); (try clear a5); (try clear a2); (try clear a1); omega) | omega)
        · rw [if_neg c2] at hs; (first | ((try clear d1); (try clear c1); (try clear b5); (try clear b2); (try clear b1); (try clear a5); (try clear a4); (try clear a3); (try clear a2); omega) | omega)
      · rw [if_neg d1] at hs
        by_cases c2 : k = 1
        · by_cases d2 : k2 = 1
          · exact Or.inl ⟨Or.inl c2, Or.inl d2⟩
          · rw [if_pos c2, if_neg d2] at hs
            exact Or.inl ⟨Or.inl c2, by (first | ((try clear b5); (try clear b4); (try clear b3); (try clear b2); (try clear a5); (try clear a2); (try clear a1); omega) | omega)⟩
        · by_cases d2 : k2 = 1
          · rw [if_neg c2, if_pos d2] at hs
            exact Or.inl ⟨by (first | ((try clear b5); (try clear b2); (try clear b1); (try clear a5); (try clear a4); (try clear a3); (try clear a2); omega) | omega), Or.inl d2⟩
          · rw [if_neg c2, if_neg d2] at hs
            by_cases c3 : k = 2
            · exact Or.inl ⟨Or.inr c3, by (first | ((try clear b5); (try clear b4); (try clear b3); (try clear b2); (try clear a5); (try clear a4); (try clear a3); (try clear a2); (try clear a1); omega) | omega)⟩
            · exact Or.inr ⟨by (first | ((try clear d1); (try clear c1); (try clear hs); (try clear b5); (try clear b4); (try clear b3); (try clear b2); (try clear b1); (try clear a5); (try clear a4); (try clear a3); (try clear a2); (try clear a1); omega) | omega), by (first | ((try clear b5); (try clear b4); (try clear b3); (try clear b2); (try clear a5); (try clear a4); (try clear a3); (try clear a2); omega) | omega), fun q => absurd q c1⟩
  · rintro (⟨c, d⟩ | ⟨c, rfl, e⟩)
    · rw [if_neg (show ¬ k = 0 by (first | ((try clear b5); (try clear b4); (try clear b3); (try clear b2); (try clear b1); (try clear a5); (try clear a4); (try clear a3); (try clear a2); (try clear a1); omega) | omega)), if_neg (show ¬ k2 = 0 by (first | ((try clear b5); (try clear b4); (try clear b3); (try clear b2); (try clear b1); (try clear a5); (try clear a4); (try clear a3); (try clear a2); (try clear a1); omega) | omega))]
      right
      constructor
      · split
        · have := a5 (by (first | ((try clear b5); (try clear b4); (try clear b3); (try clear b2); (try clear b1); (try clear a5); (try clear a4); (try clear a3); (try clear a2); (try clear a1); omega) | omega)); (first | ((try clear b5); (try clear b4); (try clear b3); (try clear b2); (try clear b1); (try clear a5); (try clear a2); (try clear a1); omega) | omega)
        · (first | ((try clear b5); (try clear b4); (try clear b3); (try clear b2); (try clear b1); (try clear a5); (try clear a4); (try clear a3); (try clear a2); omega) | omega)
      · split
        · have := b5 (by (first | ((try clear b5); (try clear b4); (try clear b3); (try clear b2); (try clear b1); (try clear a5); (try clear a4); (try clear a3); (try clear a2); (try clear a1); omega) | omega)); (first | ((try clear b5); (try clear b2); (try clear b1); (try clear a5); (try clear a4); (try clear a3); (try clear a2); (try clear a1); omega) | omega)
        · (first | ((try clear b5); (try clear b4); (try clear b3); (try clear b2); (try clear a5); (try clear a4); (try clear a3); (try clear a2); (try clear a1); omega) | omega)
    · left
      by_cases c1 : k = 0
      · rw [if_pos c1, if_pos c1]; exact e c1
      · rw [if_neg c1, if_neg c1, if_neg (by (first | ((try clear b4); (try clear b3); (try clear b1); (try clear a5); (try clear a4); (try clear a3); (try clear a2); (try clear a1); omega) | omega)), if_neg (by (first | ((try clear b4); (try clear b3); (try clear b1); (try clear a5); (try clear a4); (try clear a3); (try clear a2); (try clear a1); omega) | omega))]
theorem sG_5 {k : Nat} {v : Int} {l : Rw} (h : iW0 k v l) : sG k v ≠ 515 := by
  obtain ⟨a1, a2, a3, a4, a5⟩ := h
  unfold sG
  split
  · (first | ((try clear a5); (try clear a2); (try clear a1); omega) | omega)
  · split <;> (first | ((try clear a5); (try clear a2); omega) | omega)
theorem sAl_5 {a : Int} (h : sAl 515 a) : a = 515 := by unfold sAl at h; omega
theorem sAl_5' {a : Int} (h : sAl a 515) : a = 515 := by unfold sAl at h; omega
theorem sAl_rf (a : Int) : sAl a a := Or.inl rfl
/-- rows that are alike are lines of one length -/
theorem ralk_sL : ∀ (w b : Rw), rW0 w → rW0 b → ralk w b → sL w = sL b
  | .leaf, .leaf, _, _, _ => rfl
  | .leaf, .inner _ _ _ _ _, _, _, h => h.elim
  | .inner _ _ _ _ _, .leaf, _, _, h => h.elim
  | .inner z k v l r, .inner z2 k2 v2 l2 r2, ⟨a1, a2, a3⟩, ⟨b1, b2, b3⟩, ⟨h1, h2⟩ => by
    rw [sL_in, sL_in, ralk_sL r r2 a3 b3 h2]
    rcases h1 with ⟨c, d⟩ | ⟨c, rfl, e, f⟩
    · unfold isTx at c d
      rw [if_pos (by omega), if_pos (by omega)]
    · rw [ralk_sL l l2 a2 b2 f]
/-- .. and alike sign by sign -/
theorem ralk_sA {μ μ2 : va_M} {c c2 : Nat} : ∀ (w b : Rw) (p p2 : Nat), rW0 w → rW0 b → ralk w b → SA μ c w p → SA μ2 c2 b p2 → ∀ t, t < sL w → sAl (μ c (p + t)) (μ2 c2 (p2 + t))
  | .leaf, _, _, _, _, _, _, _, _, t, ht => absurd ht (Nat.not_lt_zero _)
  | .inner _ _ _ _ _, .leaf, _, _, _, _, h, _, _, _, _ => h.elim
  | .inner z k v l r, .inner z2 k2 v2 l2 r2, p, p2, ⟨a1, a2, a3⟩, ⟨b1, b2, b3⟩, ⟨h1, h2⟩, ⟨s1, s2, s3⟩, ⟨t1, t2, t3⟩, t, ht => by
    have h0 : sAl (sG k v) (sG k2 v2) := (sG_al a1 b1).mpr (h1.elim Or.inl (fun q => Or.inr ⟨q.1, q.2.1, q.2.2.1⟩))
    rw [sL_in] at ht
    have hd : (if k < 3 then 1 else 2 + sL l) = (if k2 < 3 then 1 else 2 + sL l2) := by
      rcases h1 with ⟨c, d⟩ | ⟨c, rfl, e, f⟩
      · unfold isTx at c d
        rw [if_pos (by (first | ((try clear f); omega) | omega)), if_pos (by (first | ((try clear f); omega) | omega))]
      · rw [ralk_sL l l2 a2 b2 f]
    rw [← hd] at t3
    obtain ⟨d, hd1, hd2, hd3⟩ := sL_d k l
    rw [hd1] at ht s3 t3 hd
    by_cases e0 : t = 0
    · subst e0
      rw [Nat.add_zero, Nat.add_zero, s1, t1]
      exact h0
    · by_cases e1 : t < d
      · have hk : 3 ≤ k := by
          by_cases q : k < 3
          · rw [if_pos q] at hd1; (first | ((try clear q); (try clear hk); (try clear hd3); (try clear hd2); omega) | omega)
          · (first | ((try clear hk); (try clear e1); (try clear e0); (try clear hd3); (try clear hd2); (try clear hd1); omega) | omega)
        have e2 := hd3 hk
        rcases h1 with ⟨c, _⟩ | ⟨_, rfl, _, f⟩
        · unfold isTx at c; (first | ((try clear f); (try clear e2); (try clear e1); (try clear e0); (try clear hd3); (try clear hd2); (try clear hd1); omega) | omega)
        · obtain ⟨u1, u2⟩ := s2 hk
          obtain ⟨v1, v2⟩ := t2 hk
          by_cases e3 : t < 1 + sL l
          · have := ralk_sA l l2 (p + 1) (p2 + 1) a2 b2 f u1 v1 (t - 1) (by (first | ((try clear v2); (try clear v1); (try clear u2); (try clear u1); (try clear f); (try clear e1); (try clear hd3); (try clear hd2); omega) | omega))
            rw [show p + 1 + (t - 1) = p + t by (first | ((try clear e3); (try clear v2); (try clear v1); (try clear u2); (try clear u1); (try clear f); (try clear e2); (try clear e1); (try clear hd3); (try clear hd2); (try clear hd1); omega) | omega), show p2 + 1 + (t - 1) = p2 + t by (first | ((try clear e3); (try clear v2); (try clear v1); (try clear u2); (try clear u1); (try clear f); (try clear e2); (try clear e1); (try clear hd3); (try clear hd2); (try clear hd1); omega) | omega)] at this
            exact this
          · rw [show p + t = p + 1 + sL l by (first | ((try clear v2); (try clear v1); (try clear u2); (try clear u1); (try clear f); (try clear hk); (try clear e0); (try clear hd3); (try clear hd2); omega) | omega), show p2 + t = p2 + 1 + sL l2 by rw [← ralk_sL l l2 a2 b2 f]; (first | ((try clear v2); (try clear v1); (try clear u2); (try clear u1); (try clear f); (try clear hk); (try clear e0); (try clear hd3); (try clear hd2); omega) | omega), u2, v2]
            exact sAl_rf _
      · have := ralk_sA r r2 (p + d) (p2 + d) a3 b3 h2 s3 t3 (t - d) (by (first | ((try clear e0); (try clear hd3); (try clear hd2); omega) | omega))
        rw [show p + d + (t - d) = p + t by (first | ((try clear e0); (try clear hd3); (try clear hd2); omega) | omega), show p2 + d + (t - d) = p2 + t by (first | ((try clear e0); (try clear hd3); (try clear hd2); omega) | omega)] at this
        exact this
/-- lines with their ends that are alike sign by sign are rows that are alike -/
theorem sA_ralk {μ μ2 : va_M} {c c2 : Nat} : ∀ (w b : Rw) (p p2 : Nat), rW0 w → rW0 b → SA μ c w p → SA μ2 c2 b p2 → μ c (p + sL w) = 515 → μ2 c2 (p2 + sL b) = 515 → (∀ t, t ≤ sL w → sAl (μ c (p + t)) (μ2 c2 (p2 + t))) → ralk w b
  | .leaf, .leaf, _, _, _, _, _, _, _, _, _ => trivial
  | .leaf, .inner z2 k2 v2 l2 r2, p, p2, _, ⟨b1, _, _⟩, _, ⟨t1, _, _⟩, e, _, h => by
    have h0 := h 0 (Nat.le_refl _)
    rw [show p + 0 = p + sL (Std.DTreeMap.Internal.Impl.leaf : Rw) from rfl, e, Nat.add_zero, t1] at h0
    exact absurd (sAl_5 h0) (sG_5 b1)
  | .inner z k v l r, .leaf, p, p2, ⟨a1, _, _⟩, _, ⟨s1, _, _⟩, _, _, e, h => by
    have h0 := h 0 (Nat.zero_le _)
    rw [show p2 + 0 = p2 + sL (Std.DTreeMap.Internal.Impl.leaf : Rw) from rfl, e, Nat.add_zero, s1] at h0
    exact absurd (sAl_5' h0) (sG_5 a1)
  | .inner z k v l r, .inner z2 k2 v2 l2 r2, p, p2, ⟨a1, a2, a3⟩, ⟨b1, b2, b3⟩, ⟨s1, s2, s3⟩, ⟨t1, t2, t3⟩, e, e2, h => by
    have h0 := h 0 (Nat.zero_le _)
    rw [Nat.add_zero, Nat.add_zero, s1, t1] at h0
    have h1 := (sG_al a1 b1).mp h0
    rw [sL_in] at h e e2
    obtain ⟨d, hd1, hd2, hd3⟩ := sL_d k l
    obtain ⟨d', ge1, ge2, ge3⟩ := sL_d k2 l2
    have hl : ((isTx k ∧ isTx k2) ∨ (¬ isTx k ∧ k = k2 ∧ (k = 0 → v = v2) ∧ ralk l l2)) ∧ d' = d := by
      rcases h1 with ⟨c, g⟩ | ⟨c, rfl, g⟩
      · refine ⟨Or.inl ⟨c, g⟩, ?_⟩
        unfold isTx at c g
        rw [if_pos (by omega)] at hd1 ge1
        (first | ((try clear g); omega) | omega)
      · by_cases hk : k < 3
        · have el := a1.2.1 hk
          have el2 := b1.2.1 hk
          subst el
          subst el2
          refine ⟨Or.inr ⟨c, rfl, g, trivial⟩, ?_⟩
          rw [if_pos hk] at hd1 ge1
          (first | ((try clear el2); (try clear el); (try clear hk); (try clear g); omega) | omega)
        · have hk : 3 ≤ k := by (first | ((try clear g); omega) | omega)
          obtain ⟨u1, u2⟩ := s2 hk
          obtain ⟨v1, v2⟩ := t2 hk
          have f : ralk l l2 := sA_ralk l l2 (p + 1) (p2 + 1) a2 b2 u1 v1 u2 v2 (fun t ht => by
            have e9 := hd3 hk
            rw [hd1] at h
            have := h (1 + t) (by (first | ((try clear v2); (try clear v1); (try clear u2); (try clear u1); (try clear hk); (try clear g); omega) | omega))
            rw [← Nat.add_assoc, ← Nat.add_assoc] at this
            exact this)
          refine ⟨Or.inr ⟨c, rfl, g, f⟩, ?_⟩
          have := ralk_sL l l2 a2 b2 f
          have q1 := hd3 hk
          have q2 := ge3 hk
          (first | ((try clear v2); (try clear v1); (try clear u2); (try clear u1); (try clear hk); (try clear g); omega) | omega)
    obtain ⟨h2, h3⟩ := hl
    rw [hd1] at h e s3
    rw [ge1, h3] at e2 t3
    refine ⟨h2, sA_ralk r r2 (p + d) (p2 + d) a3 b3 s3 t3 (by rw [Nat.add_assoc]; exact e) (by rw [Nat.add_assoc]; exact e2) (fun t ht => ?_)⟩
    have := h (d + t) (by (first | ((try clear h3); (try clear h2); omega) | omega))
    rw [← Nat.add_assoc, ← Nat.add_assoc] at this
    exact this
/-- a line that is alike to the beginning of another one: items alike one by one -/
theorem sA_pre {μ μ2 : va_M} {c c2 : Nat} : ∀ (w b : Rw) (p p2 : Nat), rW0 w → rW0 b → SA μ c w p → SA μ2 c2 b p2 → sL w ≤ sL b → (∀ t, t < sL w → sAl (μ c (p + t)) (μ2 c2 (p2 + t))) → rI w ≤ rI b ∧ ralk w (rpre (rI w) b .leaf)
  | .leaf, b, _, _, _, _, _, _, _, _ => ⟨Nat.zero_le _, by cases b <;> trivial⟩
  | .inner z k v l r, .leaf, p, p2, _, _, _, _, hle, _ => by
    rw [sL_in, show sL (Std.DTreeMap.Internal.Impl.leaf : Rw) = 0 from rfl] at hle
    obtain ⟨d, hd1, hd2, hd3⟩ := sL_d k l
    omega
  | .inner z k v l r, .inner z2 k2 v2 l2 r2, p, p2, ⟨a1, a2, a3⟩, ⟨b1, b2, b3⟩, ⟨s1, s2, s3⟩, ⟨t1, t2, t3⟩, hle, h => by
    rw [sL_in] at h hle
    rw [sL_in] at hle
    obtain ⟨d, hd1, hd2, hd3⟩ := sL_d k l
    obtain ⟨d', ge1, ge2, ge3⟩ := sL_d k2 l2
    rw [hd1] at h hle s3
    have h0 := h 0 (by omega)
    rw [Nat.add_zero, Nat.add_zero, s1, t1] at h0
    have h1 := (sG_al a1 b1).mp h0
    have hl : ((isTx k ∧ isTx k2) ∨ (¬ isTx k ∧ k = k2 ∧ (k = 0 → v = v2) ∧ ralk l l2)) ∧ d' = d := by
      rcases h1 with ⟨c, g⟩ | ⟨c, rfl, g⟩
      · refine ⟨Or.inl ⟨c, g⟩, ?_⟩
        unfold isTx at c g
        rw [if_pos (by omega)] at hd1 ge1
        (first | ((try clear g); omega) | omega)
      · by_cases hk : k < 3
        · have el := a1.2.1 hk
          have el2 := b1.2.1 hk
          subst el
          subst el2
          refine ⟨Or.inr ⟨c, rfl, g, trivial⟩, ?_⟩
          rw [if_pos hk] at hd1 ge1
          (first | ((try clear el2); (try clear el); (try clear hk); (try clear g); omega) | omega)
        · have hk : 3 ≤ k := by (first | ((try clear g); omega) | omega)
          obtain ⟨u1, u2⟩ := s2 hk
          obtain ⟨v1, v2⟩ := t2 hk
          have f : ralk l l2 := sA_ralk l l2 (p + 1) (p2 + 1) a2 b2 u1 v1 u2 v2 (fun t ht => by
            have e9 := hd3 hk
            have := h (1 + t) (by (first | ((try clear v2); (try clear v1); (try clear u2); (try clear u1); (try clear hk); (try clear g); omega) | omega))
            rw [← Nat.add_assoc, ← Nat.add_assoc] at this
            exact this)
          refine ⟨Or.inr ⟨c, rfl, g, f⟩, ?_⟩
          have := ralk_sL l l2 a2 b2 f
          have q1 := hd3 hk
          have q2 := ge3 hk
          (first | ((try clear v2); (try clear v1); (try clear u2); (try clear u1); (try clear hk); (try clear g); omega) | omega)
    obtain ⟨h2, h3⟩ := hl
    rw [ge1, h3] at hle t3
    obtain ⟨i1, i2⟩ := sA_pre r r2 (p + d) (p2 + d) a3 b3 s3 t3 (by (first | ((try clear i2); (try clear i1); (try clear h3); (try clear h2); omega) | omega)) (fun t ht => by
      have := h (d + t) (by (first | ((try clear i2); (try clear i1); (try clear h3); (try clear h2); omega) | omega))
      rw [← Nat.add_assoc, ← Nat.add_assoc] at this
      exact this)
    rw [rI_in, rI_in, Nat.add_comm 1 (rI r)]
    exact ⟨by (first | ((try clear i2); (try clear h3); (try clear h2); omega) | omega), h2, i2⟩
/-- what is fused of two signs is the sign of what is fused -/
theorem sG_fu {k k2 : Nat} {v v2 : Int} {l l2 : Rw} (h : iW0 k v l) (h2 : iW0 k2 v2 l2) (ha : (isTx k ∧ isTx k2) ∨ (¬ isTx k ∧ k = k2 ∧ (k = 0 → v = v2))) : sG (fK k v k2 v2) (fV k v k2 v2) = sFu (sG k v) (sG k2 v2) := by
  obtain ⟨a1, a2, a3, a4, a5⟩ := h
  obtain ⟨b1, b2, b3, b4, b5⟩ := h2
  unfold sFu
  rcases ha with ⟨c, d⟩ | ⟨c, rfl, e⟩
  · unfold isTx at c d
    by_cases q : k = 1 ∧ k2 = 1 ∧ v = v2
    · obtain ⟨rfl, rfl, rfl⟩ := q
      rw [if_pos rfl]
      have e1 : fK 1 v 1 v = 1 := by unfold fK; rw [if_pos (by (first | ((try clear e1); (try clear q); (try clear b5); (try clear b4); (try clear b3); (try clear b2); (try clear b1); (try clear a5); (try clear a4); (try clear a3); (try clear a2); (try clear a1); (try clear ha); omega) | omega)), if_pos ⟨rfl, rfl, rfl⟩]
      have e2 : fV 1 v 1 v = v := by unfold fV; rw [if_pos (Or.inr ⟨rfl, rfl, rfl⟩)]
      rw [e1, e2]
    · have e1 : fK k v k2 v2 = 2 := by unfold fK; rw [if_pos c, if_neg q]
      rw [e1]
      have e3 : ∀ x : Int, sG 2 x = 512 := fun x => rfl
      rw [e3]
      have s1 : sG k v = if k = 1 then 256 + v else 512 := by
        unfold sG
        rw [if_neg (by (first | ((try clear s1); (try clear e3); (try clear e1); (try clear b5); (try clear b4); (try clear b3); (try clear b2); (try clear a5); (try clear a4); (try clear a3); (try clear a2); (try clear a1); (try clear ha); omega) | omega))]
        by_cases q1 : k = 1
        · rw [if_pos q1, if_pos q1]
        · rw [if_neg q1, if_neg q1]; (first | ((try clear s1); (try clear e3); (try clear e1); (try clear b5); (try clear b4); (try clear b3); (try clear b2); (try clear a5); (try clear a4); (try clear a3); (try clear a2); (try clear ha); omega) | omega)
      have s2 : sG k2 v2 = if k2 = 1 then 256 + v2 else 512 := by
        unfold sG
        rw [if_neg (by (first | ((try clear s2); (try clear s1); (try clear e3); (try clear e1); (try clear b5); (try clear b4); (try clear b3); (try clear b2); (try clear b1); (try clear a5); (try clear a4); (try clear a3); (try clear a2); (try clear ha); omega) | omega))]
        by_cases q1 : k2 = 1
        · rw [if_pos q1, if_pos q1]
        · rw [if_neg q1, if_neg q1]; (first | ((try clear s2); (try clear s1); (try clear e3); (try clear e1); (try clear b5); (try clear b4); (try clear b3); (try clear b2); (try clear a5); (try clear a4); (try clear a3); (try clear a2); (try clear ha); omega) | omega)
      rw [s1, s2]
      by_cases q1 : k = 1
      · have := a5 (by (first | ((try clear s2); (try clear s1); (try clear e3); (try clear e1); (try clear q); (try clear b5); (try clear b4); (try clear b3); (try clear b2); (try clear b1); (try clear a5); (try clear a4); (try clear a3); (try clear a2); (try clear a1); (try clear ha); omega) | omega))
        rw [if_pos q1]
        by_cases q2 : k2 = 1
        · rw [if_pos q2, if_neg (by (first | ((try clear s2); (try clear s1); (try clear e3); (try clear e1); (try clear b5); (try clear b4); (try clear b3); (try clear b2); (try clear b1); (try clear a5); (try clear a4); (try clear a3); (try clear a2); (try clear a1); (try clear ha); omega) | omega))]
        · rw [if_neg q2, if_neg (by (first | ((try clear q2); (try clear s2); (try clear s1); (try clear e3); (try clear e1); (try clear q); (try clear b5); (try clear b4); (try clear b3); (try clear b2); (try clear b1); (try clear a5); (try clear a2); (try clear a1); (try clear ha); omega) | omega))]
      · rw [if_neg q1]
        by_cases q2 : k2 = 1
        · have := b5 (by (first | ((try clear s2); (try clear s1); (try clear e3); (try clear e1); (try clear q); (try clear b5); (try clear b4); (try clear b3); (try clear b2); (try clear b1); (try clear a5); (try clear a4); (try clear a3); (try clear a2); (try clear a1); (try clear ha); omega) | omega))
          rw [if_pos q2, if_neg (by (first | ((try clear q2); (try clear s2); (try clear s1); (try clear e3); (try clear e1); (try clear q); (try clear b5); (try clear b2); (try clear b1); (try clear a5); (try clear a4); (try clear a3); (try clear a2); (try clear a1); (try clear ha); omega) | omega))]
        · rw [if_neg q2, if_pos rfl]
  · unfold isTx at c
    have e1 : fK k v k v2 = k := by unfold fK; rw [if_neg c]
    rw [e1]
    by_cases q : k = 0
    · subst q
      obtain rfl := e rfl
      rw [if_pos rfl]
      unfold fV
      rw [if_pos (Or.inl rfl)]
    · have e3 : ∀ x y : Int, sG k x = sG k y := fun x y => by unfold sG; rw [if_neg q, if_neg q, if_neg (by (first | ((try clear y); (try clear x); (try clear e3); (try clear b4); (try clear b3); (try clear b1); (try clear a5); (try clear a4); (try clear a3); (try clear a2); (try clear a1); (try clear ha); omega) | omega)), if_neg (by (first | ((try clear y); (try clear x); (try clear e3); (try clear b4); (try clear b3); (try clear b1); (try clear a5); (try clear a4); (try clear a3); (try clear a2); (try clear a1); (try clear ha); omega) | omega))]
      rw [if_pos (e3 v v2)]
      exact e3 _ _
theorem rfus_sL : ∀ (w b : Rw), rW0 w → rW0 b → ralk w b → sL (rfus w b) = sL w
  | .leaf, b, _, _, _ => by cases b <;> rfl
  | .inner _ _ _ _ _, .leaf, _, _, h => h.elim
  | .inner z k v l r, .inner z2 k2 v2 l2 r2, ⟨a1, a2, a3⟩, ⟨b1, b2, b3⟩, ⟨h1, h2⟩ => by
    rw [rfus, sL_in, sL_in, rfus_sL r r2 a3 b3 h2]
    rcases h1 with ⟨c, d⟩ | ⟨c, rfl, e, f⟩
    · have k9 := (fK_tx (v := v) (k2 := k2) (v2 := v2)).mpr c
      unfold isTx at c k9
      rw [if_pos (by omega), if_pos (by omega)]
    · have e1 : fK k v k v2 = k := by unfold fK; unfold isTx at c; rw [if_neg c]
      rw [e1, rfus_sL l l2 a2 b2 f]
theorem SA_fus {μ μ2 u : va_M} {c c2 cu : Nat} : ∀ (w b : Rw) (p p2 q : Nat), rW0 w → rW0 b → ralk w b → SA μ c w p → SA μ2 c2 b p2 → (∀ t, t < sL w → u cu (q + t) = sFu (μ c (p + t)) (μ2 c2 (p2 + t))) → SA u cu (rfus w b) q
  | .leaf, b, _, _, _, _, _, _, _, _, _ => by cases b <;> trivial
  | .inner _ _ _ _ _, .leaf, _, _, _, _, _, h, _, _, _ => h.elim
  | .inner z k v l r, .inner z2 k2 v2 l2 r2, p, p2, q, ⟨a1, a2, a3⟩, ⟨b1, b2, b3⟩, ⟨h1, h2⟩, ⟨s1, s2, s3⟩, ⟨t1, t2, t3⟩, hu => by
    rw [sL_in] at hu
    obtain ⟨d, hd1, hd2, hd3⟩ := sL_d k l
    rw [hd1] at hu s3
    have hk9 : (if fK k v k2 v2 < 3 then 1 else 2 + sL (rfus l l2)) = d ∧ (if k2 < 3 then 1 else 2 + sL l2) = d ∧ (3 ≤ fK k v k2 v2 → 3 ≤ k ∧ 3 ≤ k2 ∧ ralk l l2) := by
      rcases h1 with ⟨c, g⟩ | ⟨c, rfl, g, f⟩
      · have k9 := (fK_tx (v := v) (k2 := k2) (v2 := v2)).mpr c
        unfold isTx at c g k9
        rw [if_pos (by (first | ((try clear f); omega) | omega))] at hd1
        rw [if_pos (by (first | ((try clear f); (try clear g); omega) | omega)), if_pos (by (first | ((try clear f); omega) | omega))]
        exact ⟨hd1, hd1, fun q => by (first | ((try clear f); (try clear g); omega) | omega)⟩
      · have e1 : fK k v k v2 = k := by unfold fK; unfold isTx at c; rw [if_neg c]
        rw [e1, rfus_sL l l2 a2 b2 f, ← ralk_sL l l2 a2 b2 f]
        exact ⟨hd1, hd1, fun q => ⟨q, q, f⟩⟩
    obtain ⟨g1, g2, g3⟩ := hk9
    rw [g2] at t3
    have h0 := hu 0 (by (first | ((try clear g3); omega) | omega))
    rw [Nat.add_zero, Nat.add_zero, Nat.add_zero, s1, t1] at h0
    refine ⟨h0.trans (sG_fu a1 b1 (h1.elim Or.inl (fun q => Or.inr ⟨q.1, q.2.1, q.2.2.1⟩))).symm, fun h9 => ?_, ?_⟩
    · obtain ⟨k3, k4, f⟩ := g3 h9
      obtain ⟨u1, u2⟩ := s2 k3
      obtain ⟨v1, v2⟩ := t2 k4
      have e9 := hd3 k3
      have e8 := ralk_sL l l2 a2 b2 f
      refine ⟨SA_fus l l2 (p + 1) (p2 + 1) (q + 1) a2 b2 f u1 v1 (fun t ht => ?_), ?_⟩
      · have := hu (1 + t) (by (first | ((try clear v2); (try clear v1); (try clear u2); (try clear u1); (try clear f); (try clear k4); (try clear k3); (try clear h9); (try clear g3); omega) | omega))
        rw [← Nat.add_assoc, ← Nat.add_assoc, ← Nat.add_assoc] at this
        exact this
      · rw [rfus_sL l l2 a2 b2 f]
        have := hu (1 + sL l) (by (first | ((try clear ht); (try clear t); (try clear e8); (try clear v2); (try clear v1); (try clear u2); (try clear u1); (try clear f); (try clear k4); (try clear k3); (try clear h9); (try clear g3); omega) | omega))
        rw [← Nat.add_assoc, ← Nat.add_assoc, ← Nat.add_assoc] at this
        rw [this, u2, e8, v2]
        rfl
    · rw [g1]
      refine SA_fus r r2 (p + d) (p2 + d) (q + d) a3 b3 h2 s3 t3 (fun t ht => ?_)
      have := hu (d + t) (by (first | ((try clear h9); (try clear g3); (try clear g2); (try clear g1); omega) | omega))
      rw [← Nat.add_assoc, ← Nat.add_assoc, ← Nat.add_assoc] at this
      exact this
theorem rpre_SA {μ : va_M} {c : Nat} : ∀ (m : Nat) (w : Rw) (p : Nat), SA μ c w p → SA μ c (rpre m w .leaf) p
  | 0, w, p, _ => by cases w <;> trivial
  | m + 1, .leaf, p, _ => trivial
  | m + 1, .inner z k v l r, p, ⟨h1, h2, h3⟩ => ⟨h1, h2, rpre_SA m r _ h3⟩
theorem rpre_sL : ∀ (m : Nat) (w : Rw), sL (rpre m w .leaf) = sO w m
  | 0, w => by rw [sO_0]; cases w <;> rfl
  | m + 1, .leaf => rfl
  | m + 1, .inner z k v l r => by rw [rpre, sL_in, sO_in, rpre_sL m r]
theorem rpre_W : ∀ (m : Nat) (w x : Rw), rW0 w → rW0 x → rW0 (rpre m w x)
  | 0, w, x, _, h => by cases w <;> exact h
  | m + 1, .leaf, x, _, h => h
  | m + 1, .inner z k v l r, x, ⟨h1, h2, h3⟩, h => ⟨h1, h2, rpre_W m r x h3 h⟩
theorem halk_pre : ∀ (n : Nat) (x y : Rw), n ≤ rI x → n ≤ rI y → (ralk (rpre n x .leaf) (rpre n y .leaf) ↔ ∀ m, m < n → halk (rdrop m x) (rdrop m y))
  | 0, x, y, _, _ => ⟨fun _ m hm => absurd hm (Nat.not_lt_zero _), fun _ => by cases x <;> cases y <;> trivial⟩
  | n + 1, .leaf, _, h, _ => by have e : rI (Std.DTreeMap.Internal.Impl.leaf : Rw) = 0 := rfl; omega
  | n + 1, .inner _ _ _ _ _, .leaf, _, h => by have e : rI (Std.DTreeMap.Internal.Impl.leaf : Rw) = 0 := rfl; omega
  | n + 1, .inner z k v l r, .inner z2 k2 v2 l2 r2, h1, h2 => by
    rw [rI_in] at h1 h2
    have ih := halk_pre n r r2 (by omega) (by omega)
    constructor
    · rintro ⟨g1, g2⟩ m hm
      cases m with
      | zero => exact g1
      | succ m => exact ih.mp g2 m (by omega)
    · intro h
      exact ⟨h 0 (by omega), ih.mpr (fun m hm => h (m + 1) (by omega))⟩
/-- so many items from a on, and the next ones: alike one by one just where the lines are -/
theorem al_line {μ μ2 : va_M} {c c2 : Nat} {x b : Rw} {p p2 so : Nat} (hx : rW0 x) (hb : rW0 b) (hI : rI x = so) (hs : SA μ c x p) (hs2 : SA μ2 c2 b p2) : (sL x ≤ sL b ∧ ∀ t, t < sL x → sAl (μ c (p + t)) (μ2 c2 (p2 + t))) ↔ (so ≤ rI b ∧ ralk x (rpre so b .leaf)) := by
  constructor
  · rintro ⟨h1, h2⟩
    have h3 := sA_pre x b p p2 hx hb hs hs2 h1 h2
    rw [hI] at h3
    exact h3
  · rintro ⟨h1, h2⟩
    have hb2 : rW0 (rpre so b .leaf) := rpre_W so b .leaf hb trivial
    have e := ralk_sL x _ hx hb2 h2
    rw [rpre_sL] at e
    have := sO_le b so
    exact ⟨by (first | ((try clear h2); (try clear h1); (try clear hI); omega) | omega), ralk_sA x _ p p2 hx hb2 h2 hs (rpre_SA so b p2 hs2)⟩
/-- firm items are counted -/
def cf1 : Rw → Int
  | .inner _ k _ _ _ => if k = 0 ∨ k = 4 then 1 else 0
  | .leaf => 0
def cFm (w : Rw) : Nat → Int
  | 0 => 0
  | m + 1 => cFm w m + cf1 (rdrop m w)
theorem cf1_b (w : Rw) : 0 ≤ cf1 w ∧ cf1 w ≤ 1 ∧ (cf1 w = 1 ↔ hfirm w) := by
  cases w with
  | leaf => exact ⟨by decide, by decide, ⟨fun h => absurd h (by decide), fun h => h.elim⟩⟩
  | inner z k v l r =>
    unfold cf1 hfirm
    dsimp only
    split
    · next h => exact ⟨by (first | ((try clear r); (try clear v); (try clear k); (try clear z); omega) | omega), by (first | ((try clear r); (try clear v); (try clear k); (try clear z); omega) | omega), ⟨fun _ => h, fun _ => rfl⟩⟩
    · next h => exact ⟨by (first | ((try clear r); (try clear v); (try clear k); (try clear z); omega) | omega), by (first | ((try clear r); (try clear v); (try clear k); (try clear z); omega) | omega), ⟨fun q => absurd q (by decide), fun q => absurd q h⟩⟩
theorem cFm_lt {w : Rw} {a : Nat} : ∀ n : Nat, cFm w a ≤ cFm w (a + n) ∧ (cFm w a < cFm w (a + n) ↔ ∃ m, m < n ∧ hfirm (rdrop (a + m) w))
  | 0 => ⟨Int.le_refl _, ⟨fun h => absurd h (Int.lt_irrefl _), fun ⟨m, hm, _⟩ => absurd hm (Nat.not_lt_zero _)⟩⟩
  | n + 1 => by
    obtain ⟨i1, i2⟩ := cFm_lt (w := w) (a := a) n
    obtain ⟨b1, b2, b3⟩ := cf1_b (rdrop (a + n) w)
    have e : cFm w (a + (n + 1)) = cFm w (a + n) + cf1 (rdrop (a + n) w) := rfl
    refine ⟨by omega, fun h => ?_, fun ⟨m, hm, hf⟩ => ?_⟩
    · by_cases c : cf1 (rdrop (a + n) w) = 1
      · exact ⟨n, by omega, b3.mp c⟩
      · obtain ⟨m, hm, hf⟩ := i2.mp (by omega)
        exact ⟨m, by omega, hf⟩
    · by_cases c : m = n
      · subst c
        have := b3.mpr hf
        omega
      · have := i2.mpr ⟨m, by omega, hf⟩
        omega
/-- where an item of a sealed row ends -/
theorem it_mate {μ : va_M} {q rm : Nat} {z k : Nat} {v : Int} {l r : Rw} {i d : Nat} (hG : rG μ q rm) (hi : (i : Int) < μ q 5) (hW : rW0 (Std.DTreeMap.Internal.Impl.inner z k v l r)) (hS : SA μ (q + 1) (Std.DTreeMap.Internal.Impl.inner z k v l r) i) (hd : (if k < 3 then 1 else 2 + sL l) = d) : μ (q + 2) i + 1 = i + d := by
  obtain ⟨h1, h2, h3⟩ := hW
  obtain ⟨s1, s2, s3⟩ := hS
  obtain ⟨b1, b2, b3⟩ := sG_b h1
  obtain ⟨g1, g2, g3⟩ := (rG_at hG hi).1
  by_cases hk : k < 3
  · rw [if_pos hk] at hd
    have := (b1 hk).2
    rw [g1 (by (first | ((try clear hk); (try clear g3); (try clear g2); (try clear g1); (try clear b3); (try clear b2); (try clear b1); (try clear s3); (try clear s2); (try clear h3); (try clear h2); (try clear h1); (try clear hd); (try clear hi); omega) | omega))]
    (first | ((try clear hk); (try clear g3); (try clear g2); (try clear g1); (try clear b3); (try clear b2); (try clear b1); (try clear s3); (try clear s2); (try clear s1); (try clear h3); (try clear h2); (try clear h1); (try clear hi); omega) | omega)
  · rw [if_neg hk] at hd
    have hk4 := h1.1
    have ho : μ (q + 1) i = 513 ∨ μ (q + 1) i = 514 := by
      rcases (show k = 3 ∨ k = 4 by (first | ((try clear ho); (try clear g3); (try clear g2); (try clear g1); (try clear b3); (try clear b2); (try clear b1); (try clear s3); (try clear s2); (try clear s1); (try clear h3); (try clear h2); (try clear h1); (try clear hd); (try clear hi); omega) | omega)) with e | e
      · have := b2 e; (first | ((try clear ho); (try clear hk4); (try clear hk); (try clear g3); (try clear g2); (try clear g1); (try clear b3); (try clear b2); (try clear b1); (try clear s3); (try clear s2); (try clear h3); (try clear h2); (try clear h1); (try clear hd); (try clear hi); omega) | omega)
      · have := b3 e; (first | ((try clear ho); (try clear hk4); (try clear hk); (try clear g3); (try clear g2); (try clear g1); (try clear b3); (try clear b2); (try clear b1); (try clear s3); (try clear s2); (try clear h3); (try clear h2); (try clear h1); (try clear hd); (try clear hi); omega) | omega)
    obtain ⟨m, m1, m2, m3, m4, m5, m6⟩ := g2 ho
    obtain ⟨u1, u2⟩ := s2 (by (first | ((try clear u2); (try clear u1); (try clear m6); (try clear m5); (try clear m4); (try clear m3); (try clear m2); (try clear m1); (try clear ho); (try clear g3); (try clear g2); (try clear g1); (try clear b3); (try clear b2); (try clear b1); (try clear s3); (try clear s2); (try clear s1); (try clear h3); (try clear h2); (try clear h1); (try clear hd); (try clear hi); omega) | omega))
    obtain ⟨d1, _, d3⟩ := SA_D l (i + 1) h2 u1
    have e1 := Dp_s (μ (q + 1)) i
    rw [dl_1 ho] at e1
    have e2 := Dp_s (μ (q + 1)) (i + 1 + sL l)
    rw [u2, dl_m] at e2
    have : m = i + 1 + sL l := by
      rcases Nat.lt_trichotomy m (i + 1 + sL l) with h | h | h
      · have := (d3 (m + 1) (by (first | ((try clear e2); (try clear e1); (try clear d3); (try clear d1); (try clear u2); (try clear u1); (try clear m5); (try clear m4); (try clear m3); (try clear m1); (try clear ho); (try clear hk4); (try clear hk); (try clear g3); (try clear g2); (try clear g1); (try clear b3); (try clear b2); (try clear b1); (try clear s3); (try clear s2); (try clear s1); (try clear h3); (try clear h2); (try clear h1); (try clear hd); (try clear hi); omega) | omega)) (by (first | ((try clear e2); (try clear e1); (try clear d3); (try clear d1); (try clear u2); (try clear u1); (try clear m5); (try clear m4); (try clear m3); (try clear m2); (try clear m1); (try clear ho); (try clear hk4); (try clear hk); (try clear g3); (try clear g2); (try clear g1); (try clear b3); (try clear b2); (try clear b1); (try clear s3); (try clear s2); (try clear s1); (try clear h3); (try clear h2); (try clear h1); (try clear hi); omega) | omega))).1
        (first | ((try clear e2); (try clear d3); (try clear d1); (try clear u2); (try clear u1); (try clear m6); (try clear m5); (try clear m3); (try clear m2); (try clear m1); (try clear ho); (try clear hk4); (try clear hk); (try clear g3); (try clear g2); (try clear g1); (try clear b3); (try clear b2); (try clear b1); (try clear s3); (try clear s2); (try clear s1); (try clear h3); (try clear h2); (try clear h1); (try clear hd); (try clear hi); omega) | omega)
      · exact h
      · have := m5 (i + 1 + sL l + 1) (by (first | ((try clear e2); (try clear e1); (try clear d3); (try clear d1); (try clear u2); (try clear u1); (try clear m6); (try clear m5); (try clear m4); (try clear m3); (try clear m2); (try clear m1); (try clear ho); (try clear hk4); (try clear hk); (try clear g3); (try clear g2); (try clear g1); (try clear b3); (try clear b2); (try clear b1); (try clear s3); (try clear s2); (try clear s1); (try clear h3); (try clear h2); (try clear h1); (try clear hi); omega) | omega)) (by (first | ((try clear e2); (try clear e1); (try clear d3); (try clear d1); (try clear u2); (try clear u1); (try clear m5); (try clear m4); (try clear m3); (try clear m2); (try clear m1); (try clear ho); (try clear hk4); (try clear hk); (try clear g3); (try clear g2); (try clear g1); (try clear b3); (try clear b2); (try clear b1); (try clear s3); (try clear s2); (try clear s1); (try clear h3); (try clear h2); (try clear h1); (try clear hi); omega) | omega))
        (first | ((try clear d3); (try clear u2); (try clear u1); (try clear m6); (try clear m5); (try clear m4); (try clear m3); (try clear m2); (try clear m1); (try clear ho); (try clear hk4); (try clear hk); (try clear g3); (try clear g2); (try clear g1); (try clear b3); (try clear b2); (try clear b1); (try clear s3); (try clear s2); (try clear s1); (try clear h3); (try clear h2); (try clear h1); (try clear hd); (try clear hi); omega) | omega)
    rw [m1]
    (first | ((try clear e2); (try clear e1); (try clear d3); (try clear d1); (try clear u2); (try clear u1); (try clear m5); (try clear m4); (try clear m3); (try clear m2); (try clear m1); (try clear ho); (try clear hk4); (try clear hk); (try clear g3); (try clear g2); (try clear g1); (try clear b3); (try clear b2); (try clear b1); (try clear s3); (try clear s2); (try clear s1); (try clear h3); (try clear h2); (try clear h1); (try clear hi); omega) | omega)
/-- the first copy stands as the items it is made of -/
theorem frow1_SA {μ : va_M} {c : Nat} {w : Rw} {a n1 p : Nat} (hS : SA μ c w p) : ∀ m j : Nat, a + j + m ≤ rI w → SA μ c (frow w a n1 1 j m) (p + sO w (a + j)) ∧ sL (frow w a n1 1 j m) = sO (rdrop (a + j) w) m ∧ rI (frow w a n1 1 j m) = m
  | 0, j, _ => ⟨trivial, by rw [sO_0]; rfl, rfl⟩
  | m + 1, j, h => by
    obtain ⟨i1, i2, i3⟩ := frow1_SA (a := a) (n1 := n1) hS m (j + 1) (by omega)
    have hI := rdrop_I (a + j) w
    obtain ⟨z, k, v, l, r, e⟩ := rI_pos (w := rdrop (a + j) w) (by omega)
    have hs := SA_drop (a + j) w p hS
    rw [e] at hs
    obtain ⟨s1, s2, s3⟩ := hs
    have e2 : frow w a n1 1 j (m + 1) = Std.DTreeMap.Internal.Impl.inner 0 k v l (frow w a n1 1 (j + 1) m) := by
      rw [frow, show facc w a n1 j (1 - 1) = hd1 (rdrop (a + j) w) from rfl, e]
      rfl
    have e3 : sO w (a + (j + 1)) = sO w (a + j) + (if k < 3 then 1 else 2 + sL l) := by
      rw [show a + (j + 1) = a + j + 1 by (first | ((try clear e3); omega) | omega), sO_add, e, sO_in, sO_0, Nat.add_zero]
    have e4 : rdrop (a + (j + 1)) w = r := by rw [show a + (j + 1) = a + j + 1 by (first | ((try clear e4); (try clear e3); omega) | omega)]; exact rdrop_S e
    rw [e2, e, sL_in, sO_in, rI_in, i2, i3, e4]
    rw [e3, ← Nat.add_assoc] at i1
    exact ⟨⟨s1, s2, i1⟩, rfl, by (first | ((try clear e4); (try clear e3); omega) | omega)⟩
/-- one copy more is fused into them -/
theorem frow_fus {w : Rw} {a n1 n : Nat} (hn : 1 ≤ n) (hal : ∀ e m : Nat, 1 ≤ e → e < n → m < n1 → halk (rdrop (a + m) w) (rdrop (a + e * n1 + m) w)) (hI : a + n1 ≤ rI w) : ∀ m j : Nat, j + m ≤ n1 → a + n * n1 + j + m ≤ rI w → rfus (frow w a n1 n j m) (rpre m (rdrop (a + n * n1 + j) w) .leaf) = frow w a n1 (n + 1) j m
  | 0, j, _, _ => rfl
  | m + 1, j, h1, h2 => by
    have ih := frow_fus hn hal hI m (j + 1) (by (first | ((try clear hI); (try clear hal); (try clear hn); omega) | omega)) (by (first | ((try clear hI); (try clear hal); (try clear hn); omega) | omega))
    have hI2 := rdrop_I (a + n * n1 + j) w
    obtain ⟨z, k, v, l, r, e⟩ := rI_pos (w := rdrop (a + n * n1 + j) w) (by (first | ((try clear hI); (try clear hal); (try clear hn); omega) | omega))
    have hI3 := rdrop_I (a + j) w
    obtain ⟨k9, v9, l9, e9⟩ := facc_one (w := w) (a := a) (n1 := n1) (k := j) (n := n) (fun e h3 h4 => hal e j h3 h4 (by (first | ((try clear hI); (try clear hal); (try clear hn); omega) | omega))) (by (first | ((try clear hal); (try clear hn); omega) | omega)) (n - 1) (by (first | ((try clear hI); (try clear hal); omega) | omega))
    have e4 : rdrop (a + n * n1 + (j + 1)) w = r := by rw [show a + n * n1 + (j + 1) = a + n * n1 + j + 1 by (first | ((try clear hI); (try clear hal); (try clear hn); omega) | omega)]; exact rdrop_S e
    rw [e4] at ih
    rw [e, rpre, frow, e9, setR, rfus, ih, frow, show n + 1 - 1 = n - 1 + 1 by (first | ((try clear hI); (try clear hal); omega) | omega), facc, e9, show n - 1 + 1 = n by (first | ((try clear hI); (try clear hal); omega) | omega), e, hd1, rfus, setR]
theorem frow_I {w : Rw} {a n1 n : Nat} (hn : 1 ≤ n) (hal : ∀ e m : Nat, 1 ≤ e → e < n → m < n1 → halk (rdrop (a + m) w) (rdrop (a + e * n1 + m) w)) (hI : a + n1 ≤ rI w) : ∀ m j : Nat, j + m ≤ n1 → rI (frow w a n1 n j m) = m
  | 0, j, _ => rfl
  | m + 1, j, h1 => by
    have ih := frow_I hn hal hI m (j + 1) (by (first | ((try clear hI); (try clear hal); (try clear hn); omega) | omega))
    have hI3 := rdrop_I (a + j) w
    obtain ⟨k9, v9, l9, e9⟩ := facc_one (w := w) (a := a) (n1 := n1) (k := j) (n := n) (fun e h3 h4 => hal e j h3 h4 (by (first | ((try clear hI); (try clear hal); (try clear hn); omega) | omega))) (by (first | ((try clear hal); (try clear hn); omega) | omega)) (n - 1) (by (first | ((try clear hI); (try clear hal); omega) | omega))
    rw [frow, e9, setR, rI_in, ih]
    (first | ((try clear hI); (try clear hal); (try clear hn); omega) | omega)
/-- rows put together -/
theorem rpre_SAx {μ : va_M} {c : Nat} {x : Rw} : ∀ (m : Nat) (w : Rw) (p : Nat), m ≤ rI w → SA μ c (rpre m w .leaf) p → SA μ c x (p + sO w m) → SA μ c (rpre m w x) p
  | 0, w, p, _, _, h => by rw [sO_0, Nat.add_zero] at h; cases w <;> exact h
  | m + 1, .leaf, p, h, _, _ => by have e : rI (Std.DTreeMap.Internal.Impl.leaf : Rw) = 0 := rfl; omega
  | m + 1, .inner z k v l r, p, h, ⟨h1, h2, h3⟩, h4 => by
    rw [rI_in] at h
    rw [sO_in, ← Nat.add_assoc] at h4
    exact ⟨h1, h2, rpre_SAx m r _ (by omega) h3 h4⟩
theorem rpre_sLx : ∀ (m : Nat) (w x : Rw), m ≤ rI w → sL (rpre m w x) = sO w m + sL x
  | 0, w, x, _ => by rw [sO_0, Nat.zero_add]; cases w <;> rfl
  | m + 1, .leaf, x, h => by have e : rI (Std.DTreeMap.Internal.Impl.leaf : Rw) = 0 := rfl; omega
  | m + 1, .inner z k v l r, x, h => by rw [rI_in] at h; rw [rpre, sL_in, sO_in, rpre_sLx m r x (by omega), Nat.add_assoc]
/-- a fold's line: what stands ahead, a repeat of the items that are fused, what stands behind -/
theorem rput_SA {μ u : va_M} {c cu : Nat} {w : Rw} {p a n1 n : Nat} (hS : SA μ c w p) (hf : isFold w a n1 n) (h1 : ∀ t, t < sO w a → u cu (p + t) = μ c (p + t)) (h2 : u cu (p + sO w a) = 514) (h3 : SA u cu (frow w a n1 n 0 n1) (p + sO w a + 1)) (h4 : u cu (p + sO w a + 1 + sL (frow w a n1 n 0 n1)) = 515) (h5 : ∀ t, sO w (a + n * n1) + t < sL w → u cu (p + sO w a + 2 + sL (frow w a n1 n 0 n1) + t) = μ c (p + sO w (a + n * n1) + t)) : SA u cu (rput w a n1 n) p ∧ sL (rput w a n1 n) + sO w (a + n * n1) = sO w a + 2 + sL (frow w a n1 n 0 n1) + sL w := by
  have hI := hf.2.2.1
  have hn : a ≤ rI w := by (first | ((try clear hn); (try clear h5); (try clear h4); (try clear h2); (try clear h1); omega) | omega)
  have q := qdrop_L (a + n * n1) w
  have e1 : (if (4 : Nat) < 3 then 1 else 2 + sL (frow w a n1 n 0 n1)) = 2 + sL (frow w a n1 n 0 n1) := rfl
  refine ⟨rpre_SAx a w p hn (SA_to _ p p (rpre_SA a w p hS) (fun d hd => by rw [rpre_sL] at hd; exact h1 d hd)) ⟨h2, fun _ => ⟨h3, h4⟩, ?_⟩, ?_⟩
  · rw [e1]
    refine SA_to _ _ _ (SA_drop (a + n * n1) w p hS) (fun d hd => ?_)
    have := h5 d (by (first | ((try clear e1); (try clear hn); (try clear hI); (try clear h5); (try clear h4); (try clear h2); (try clear h1); omega) | omega))
    rw [← this]
    congr 1
    (first | ((try clear hd); (try clear e1); (try clear q); (try clear hn); (try clear hI); (try clear h5); (try clear h4); (try clear h2); (try clear h1); omega) | omega)
  · unfold rput
    rw [rpre_sLx a w _ hn, sL_in, e1]
    (first | ((try clear e1); (try clear hn); (try clear hI); (try clear h5); (try clear h4); (try clear h2); (try clear h1); omega) | omega)
/-- the next copy is alike just where its items are alike to the first one's -/
theorem fo_next {v : Rw} {so ai cn : Nat} (hwF : rWF v) (h1 : 1 ≤ cn) (hal : ∀ e m : Nat, 1 ≤ e → e < cn → m < so → halk (rdrop (ai + m) v) (rdrop (ai + e * so + m) v)) (hI : ai + cn * so ≤ rI v) (hI0 : ai + so ≤ rI v) : (so ≤ rI (rdrop (ai + cn * so) v) ∧ ralk (frow v ai so cn 0 so) (rpre so (rdrop (ai + cn * so) v) .leaf)) ↔ (ai + (cn + 1) * so ≤ rI v ∧ ∀ m, m < so → halk (rdrop (ai + m) v) (rdrop (ai + cn * so + m) v)) := by
  have e1 : (cn + 1) * so = cn * so + so := by rw [Nat.add_mul, Nat.one_mul]
  have hA := frow_alk h1 hwF hal hI0 so 0 (Nat.zero_add so)
  rw [Nat.add_zero] at hA
  have hd := rdrop_I (ai + cn * so) v
  have hd0 := rdrop_I ai v
  rw [e1]
  constructor
  · rintro ⟨g1, g2⟩
    have g3 := ralk_trans _ _ _ (ralk_symm _ _ hA) g2
    have g4 := (halk_pre so _ _ (by (first | ((try clear g4); (try clear g3); (try clear g2); (try clear g1); (try clear hd); (try clear hA); (try clear hal); (try clear h1); omega) | omega)) g1).mp g3
    exact ⟨by (first | ((try clear g4); (try clear g3); (try clear g2); (try clear hd0); (try clear hA); (try clear hal); (try clear h1); omega) | omega), fun m hm => by rw [rdrop_add ai m v, rdrop_add (ai + cn * so) m v]; exact g4 m hm⟩
  · rintro ⟨g1, g2⟩
    refine ⟨by (first | ((try clear g2); (try clear hd0); (try clear hA); (try clear hal); (try clear h1); omega) | omega), ralk_trans _ _ _ hA ((halk_pre so _ _ (by (first | ((try clear g2); (try clear g1); (try clear hd); (try clear hA); (try clear e1); (try clear hI); (try clear hal); (try clear h1); omega) | omega)) (by (first | ((try clear g2); (try clear hd0); (try clear hA); (try clear hal); (try clear h1); omega) | omega))).mpr (fun m hm => ?_))⟩
    have := g2 m hm
    rw [rdrop_add ai m v, rdrop_add (ai + cn * so) m v] at this
    exact this
theorem fMx_of {v : Rw} {so ai cn : Nat} (h : ¬ (ai + (cn + 1) * so ≤ rI v ∧ ∀ m, m < so → halk (rdrop (ai + m) v) (rdrop (ai + cn * so + m) v))) : fMx v so ai cn := by
  unfold fMx
  by_cases c : rI v < ai + (cn + 1) * so
  · exact Or.inl c
  · exact Or.inr (fun h2 => h ⟨by (first | ((try clear h2); (try clear h); omega) | omega), h2⟩)
/-- no more than three signs for two tokens -/
theorem rWF_sL : ∀ w : Rw, rWF w → 2 * sL w ≤ 3 * rT w ∧ (w ≠ .leaf → 1 ≤ sL w)
  | .leaf, _ => ⟨Nat.le_refl _, fun h => absurd rfl h⟩
  | .inner z k v l r, ⟨h1, h2, h3, _, _, _, h7, h8⟩ => by
    obtain ⟨i1, i2⟩ := rWF_sL l h7
    obtain ⟨j1, _⟩ := rWF_sL r h8
    rw [sL_in, rT_in]
    by_cases hk : k < 3
    · rw [if_pos hk, if_pos hk]
      exact ⟨by omega, fun _ => by omega⟩
    · rw [if_neg hk, if_neg hk]
      have h9 := i2 (h3 (by omega))
      refine ⟨?_, fun _ => by omega⟩
      rcases (show rT l = 1 ∨ 2 ≤ rT l by omega) with h10 | h10
      · rw [h10] at i1 ⊢
        omega
      · omega
theorem rI_sL : ∀ w : Rw, rI w ≤ sL w
  | .leaf => Nat.le_refl _
  | .inner z k v l r => by
    have := rI_sL r
    rw [rI_in, sL_in]
    obtain ⟨d, hd1, hd2, hd3⟩ := sL_d k l
    omega
theorem firm_sg {k : Nat} {v : Int} {l : Rw} (h : iW0 k v l) : (k = 0 ∨ k = 4) ↔ (0 ≤ sG k v ∧ sG k v < 256) ∨ sG k v = 514 := by
  obtain ⟨a1, a2, a3, a4, a5⟩ := h
  unfold sG
  by_cases c : k = 0
  · have := a5 (by (first | ((try clear a5); (try clear a4); (try clear a3); (try clear a2); (try clear a1); omega) | omega))
    rw [if_pos c]
    (first | ((try clear a5); (try clear a2); (try clear a1); omega) | omega)
  · rw [if_neg c]
    by_cases c1 : k = 1
    · have := a5 (by (first | ((try clear a5); (try clear a4); (try clear a3); (try clear a2); (try clear a1); omega) | omega))
      rw [if_pos c1]
      (first | ((try clear a5); (try clear a2); (try clear a1); omega) | omega)
    · rw [if_neg c1]
      (first | ((try clear a5); (try clear a4); (try clear a3); (try clear a2); omega) | omega)
/-- the line once signs were taken out and a repeat's ends put in -/
theorem fold_line {μ1 μ2 μ3 μ4 : va_M} {q rm : Nat} {p n x : Int} (h7 : μ1 q 7 = 0) (hb : 0 ≤ p ∧ 1 ≤ n ∧ p + n ≤ x ∧ x ≤ μ1 q 5) (hl : 0 ≤ μ1 q 5 ∧ μ1 q 5 ≤ rm) (hr : μ1 q 5 - (x - (p + n)) + 2 ≤ rm) (s1 : sgA μ1 (q + 1))
    (h2 : μ2 = uz (uc μ1 (q + 1) x.toNat (q + 1) (p + n).toNat (μ1 q 5 - x).toNat) q 5 (μ1 q 5 - (x - (p + n)))) (i3 : (μ2 q 5 < rm → μ3 = uz (uz (uc μ2 (q + 1) (p + n).toNat (q + 1) (p + n + 1).toNat (μ2 q 5 - (p + n)).toNat) (q + 1) (p + n).toNat 515) q 5 (μ2 q 5 + 1)) ∧ (¬ μ2 q 5 < rm → μ3 = uz μ2 q 7 1))
    (i4 : (μ3 q 5 < rm → μ4 = uz (uz (uc μ3 (q + 1) p.toNat (q + 1) (p + 1).toNat (μ3 q 5 - p).toNat) (q + 1) p.toNat 514) q 5 (μ3 q 5 + 1)) ∧ (¬ μ3 q 5 < rm → μ4 = uz μ3 q 7 1)) :
    μ4 q 7 = 0 ∧ μ4 q 5 = μ1 q 5 - (x - (p + n)) + 2 ∧ (∀ j, j < p.toNat → μ4 (q + 1) j = μ1 (q + 1) j) ∧ μ4 (q + 1) p.toNat = 514 ∧ (∀ t, t < n.toNat → μ4 (q + 1) (p.toNat + 1 + t) = μ1 (q + 1) (p.toNat + t)) ∧ μ4 (q + 1) (p.toNat + 1 + n.toNat) = 515 ∧ ∀ t : Nat, x + t < μ1 q 5 → μ4 (q + 1) (p.toNat + n.toNat + 2 + t) = μ1 (q + 1) (x.toNat + t) := by
  have l2 : μ2 q 5 = μ1 q 5 - (x - (p + n)) := by rw [h2, uz_s]
  have s2 : sgA μ2 (q + 1) := fun i => by rw [h2, uz_n (by (first | ((try clear l2); (try clear i4); (try clear i3); (try clear h2); (try clear h7); omega) | omega))]; exact sgA_uc s1 i
  have k2 : μ2 q 7 = 0 := by rw [h2, uz_n (by (first | ((try clear k2); (try clear l2); (try clear i4); (try clear i3); (try clear h2); (try clear h7); omega) | omega)), uc_n (by (first | ((try clear k2); (try clear l2); (try clear i4); (try clear i3); (try clear h2); (try clear h7); omega) | omega))]; exact h7
  have a1 : ∀ j, j < (p + n).toNat → μ2 (q + 1) j = μ1 (q + 1) j := fun j hj => by rw [h2, uz_n (by (first | ((try clear hj); (try clear a1); (try clear k2); (try clear l2); (try clear i4); (try clear i3); (try clear h2); (try clear h7); omega) | omega)), uc_n (by (first | ((try clear a1); (try clear k2); (try clear l2); (try clear i4); (try clear i3); (try clear h2); (try clear h7); omega) | omega))]
  have a2 : ∀ j, (p + n).toNat ≤ j → j < (μ2 q 5).toNat → μ2 (q + 1) j = μ1 (q + 1) (j + (x - (p + n)).toNat) := fun j h8 h9 => by
    rw [h2, uz_n (by (first | ((try clear h9); (try clear h8); (try clear a2); (try clear a1); (try clear k2); (try clear l2); (try clear i4); (try clear i3); (try clear h2); (try clear h7); omega) | omega)), uc_s (by (first | ((try clear a2); (try clear a1); (try clear k2); (try clear i4); (try clear i3); (try clear h2); (try clear h7); omega) | omega))]
    congr 1
    (first | ((try clear a2); (try clear a1); (try clear k2); (try clear i4); (try clear i3); (try clear h2); (try clear h7); omega) | omega)
  clear h2
  obtain ⟨s3, f3, l3, g3, o3⟩ := ins_mem (p := p + n) (s := 515) (by (first | ((try clear o3); (try clear g3); (try clear l3); (try clear f3); (try clear s3); (try clear a2); (try clear a1); (try clear k2); (try clear i4); (try clear i3); (try clear h2); (try clear h7); omega) | omega)) (by (first | ((try clear o3); (try clear g3); (try clear l3); (try clear f3); (try clear s3); (try clear a2); (try clear a1); (try clear k2); (try clear i4); (try clear i3); (try clear h2); (try clear h7); omega) | omega)) s2 (by decide) i3.1 i3.2
  obtain ⟨b5, b7, b1, b0, b2⟩ := g3 (by (first | ((try clear b2); (try clear b0); (try clear b1); (try clear b7); (try clear b5); (try clear o3); (try clear g3); (try clear l3); (try clear f3); (try clear s3); (try clear a2); (try clear a1); (try clear k2); (try clear i4); (try clear i3); (try clear h2); (try clear h7); omega) | omega))
  obtain ⟨s4, f4, l4, g4, o4⟩ := ins_mem (p := p) (s := 514) l3 (by (first | ((try clear o4); (try clear g4); (try clear l4); (try clear f4); (try clear s4); (try clear b2); (try clear b0); (try clear b1); (try clear b7); (try clear o3); (try clear g3); (try clear l3); (try clear f3); (try clear s3); (try clear a2); (try clear a1); (try clear k2); (try clear i4); (try clear i3); (try clear h2); (try clear h7); omega) | omega)) s3 (by decide) i4.1 i4.2
  obtain ⟨c5, c7, c1, c0, c2⟩ := g4 (by (first | ((try clear c2); (try clear c0); (try clear c1); (try clear c7); (try clear c5); (try clear o4); (try clear g4); (try clear l4); (try clear f4); (try clear s4); (try clear b2); (try clear b0); (try clear b1); (try clear b7); (try clear o3); (try clear g3); (try clear l3); (try clear f3); (try clear s3); (try clear a2); (try clear a1); (try clear k2); (try clear i4); (try clear i3); (try clear h2); (try clear h7); omega) | omega))
  clear i3 i4 g3 g4 o3 o4 f3 f4
  refine ⟨by (first | ((try clear c2); (try clear c0); (try clear c1); (try clear c5); (try clear o4); (try clear g4); (try clear l4); (try clear f4); (try clear s4); (try clear b2); (try clear b0); (try clear b1); (try clear b5); (try clear o3); (try clear g3); (try clear l3); (try clear f3); (try clear s3); (try clear a2); (try clear a1); (try clear l2); (try clear i4); (try clear i3); (try clear h2); (try clear h7); omega) | omega), by (first | ((try clear c2); (try clear c0); (try clear c1); (try clear c7); (try clear o4); (try clear g4); (try clear l4); (try clear f4); (try clear s4); (try clear b2); (try clear b0); (try clear b1); (try clear b7); (try clear o3); (try clear g3); (try clear l3); (try clear f3); (try clear s3); (try clear a2); (try clear a1); (try clear k2); (try clear i4); (try clear i3); (try clear h2); (try clear h7); omega) | omega), fun j hj => by rw [c1 j hj, b1 j (by (first | ((try clear c2); (try clear c0); (try clear c1); (try clear c7); (try clear o4); (try clear g4); (try clear l4); (try clear f4); (try clear s4); (try clear b2); (try clear b0); (try clear b1); (try clear b7); (try clear o3); (try clear g3); (try clear l3); (try clear f3); (try clear s3); (try clear a2); (try clear a1); (try clear k2); (try clear i4); (try clear i3); (try clear h2); (try clear h7); omega) | omega)), a1 j (by (first | ((try clear c2); (try clear c0); (try clear c1); (try clear c7); (try clear o4); (try clear g4); (try clear l4); (try clear f4); (try clear s4); (try clear b2); (try clear b0); (try clear b1); (try clear b7); (try clear o3); (try clear g3); (try clear l3); (try clear f3); (try clear s3); (try clear a2); (try clear a1); (try clear k2); (try clear i4); (try clear i3); (try clear h2); (try clear h7); omega) | omega))], c0, fun t ht => ?_, ?_, fun t ht => ?_⟩
  · have := c2 (p.toNat + t) (by (first | ((try clear ht); (try clear c2); (try clear c0); (try clear c1); (try clear c7); (try clear c5); (try clear o4); (try clear g4); (try clear l4); (try clear f4); (try clear s4); (try clear b2); (try clear b0); (try clear b1); (try clear b7); (try clear b5); (try clear o3); (try clear g3); (try clear l3); (try clear f3); (try clear s3); (try clear a2); (try clear a1); (try clear k2); (try clear l2); (try clear i4); (try clear i3); (try clear h2); (try clear h7); omega) | omega)) (by (first | ((try clear c2); (try clear c0); (try clear c1); (try clear c7); (try clear o4); (try clear g4); (try clear l4); (try clear f4); (try clear s4); (try clear b2); (try clear b0); (try clear b1); (try clear b7); (try clear o3); (try clear g3); (try clear f3); (try clear s3); (try clear a2); (try clear a1); (try clear k2); (try clear i4); (try clear i3); (try clear h2); (try clear h7); omega) | omega))
    rw [show p.toNat + 1 + t = p.toNat + t + 1 by (first | ((try clear ht); (try clear c2); (try clear c0); (try clear c1); (try clear c7); (try clear c5); (try clear o4); (try clear g4); (try clear l4); (try clear f4); (try clear s4); (try clear b2); (try clear b0); (try clear b1); (try clear b7); (try clear b5); (try clear o3); (try clear g3); (try clear l3); (try clear f3); (try clear s3); (try clear a2); (try clear a1); (try clear k2); (try clear l2); (try clear i4); (try clear i3); (try clear h2); (try clear h7); omega) | omega), this, b1 _ (by (first | ((try clear c2); (try clear c0); (try clear c1); (try clear c7); (try clear o4); (try clear g4); (try clear l4); (try clear f4); (try clear s4); (try clear b2); (try clear b0); (try clear b1); (try clear b7); (try clear o3); (try clear g3); (try clear l3); (try clear f3); (try clear s3); (try clear a2); (try clear a1); (try clear k2); (try clear i4); (try clear i3); (try clear h2); (try clear h7); omega) | omega)), a1 _ (by (first | ((try clear c2); (try clear c0); (try clear c1); (try clear c7); (try clear o4); (try clear g4); (try clear l4); (try clear f4); (try clear s4); (try clear b2); (try clear b0); (try clear b1); (try clear b7); (try clear o3); (try clear g3); (try clear l3); (try clear f3); (try clear s3); (try clear a2); (try clear a1); (try clear k2); (try clear i4); (try clear i3); (try clear h2); (try clear h7); omega) | omega))]
  · have := c2 (p + n).toNat (by (first | ((try clear ht); (try clear t); (try clear c2); (try clear c0); (try clear c1); (try clear c7); (try clear o4); (try clear g4); (try clear l4); (try clear f4); (try clear s4); (try clear b2); (try clear b0); (try clear b1); (try clear b7); (try clear o3); (try clear g3); (try clear l3); (try clear f3); (try clear s3); (try clear a2); (try clear a1); (try clear k2); (try clear i4); (try clear i3); (try clear h2); (try clear h7); omega) | omega)) (by (first | ((try clear ht); (try clear t); (try clear c2); (try clear c0); (try clear c1); (try clear c7); (try clear o4); (try clear g4); (try clear l4); (try clear f4); (try clear s4); (try clear b2); (try clear b0); (try clear b1); (try clear b7); (try clear o3); (try clear g3); (try clear f3); (try clear s3); (try clear a2); (try clear a1); (try clear k2); (try clear i4); (try clear i3); (try clear h2); (try clear h7); omega) | omega))
    rw [show p.toNat + 1 + n.toNat = (p + n).toNat + 1 by (first | ((try clear ht); (try clear t); (try clear c2); (try clear c0); (try clear c1); (try clear c7); (try clear o4); (try clear g4); (try clear l4); (try clear f4); (try clear s4); (try clear b2); (try clear b0); (try clear b1); (try clear b7); (try clear o3); (try clear g3); (try clear l3); (try clear f3); (try clear s3); (try clear a2); (try clear a1); (try clear k2); (try clear i4); (try clear i3); (try clear h2); (try clear h7); omega) | omega), this, b0]
  · have q1 := c2 ((p + n).toNat + 1 + t) (by (first | ((try clear ht); (try clear c2); (try clear c0); (try clear c1); (try clear c7); (try clear o4); (try clear g4); (try clear l4); (try clear f4); (try clear s4); (try clear b2); (try clear b0); (try clear b1); (try clear b7); (try clear o3); (try clear g3); (try clear l3); (try clear f3); (try clear s3); (try clear a2); (try clear a1); (try clear k2); (try clear i4); (try clear i3); (try clear h2); (try clear h7); omega) | omega)) (by (first | ((try clear c2); (try clear c0); (try clear c1); (try clear c7); (try clear o4); (try clear g4); (try clear l4); (try clear f4); (try clear s4); (try clear b2); (try clear b0); (try clear b1); (try clear b7); (try clear o3); (try clear g3); (try clear f3); (try clear s3); (try clear a2); (try clear a1); (try clear k2); (try clear i4); (try clear i3); (try clear h2); (try clear h7); omega) | omega))
    have q2 := b2 ((p + n).toNat + t) (by (first | ((try clear q2); (try clear ht); (try clear c2); (try clear c0); (try clear c1); (try clear c7); (try clear c5); (try clear o4); (try clear g4); (try clear l4); (try clear f4); (try clear s4); (try clear b2); (try clear b0); (try clear b1); (try clear b7); (try clear b5); (try clear o3); (try clear g3); (try clear l3); (try clear f3); (try clear s3); (try clear a2); (try clear a1); (try clear k2); (try clear l2); (try clear i4); (try clear i3); (try clear h2); (try clear h7); omega) | omega)) (by (first | ((try clear q2); (try clear c2); (try clear c0); (try clear c1); (try clear c7); (try clear o4); (try clear g4); (try clear l4); (try clear f4); (try clear s4); (try clear b2); (try clear b0); (try clear b1); (try clear b7); (try clear o3); (try clear g3); (try clear f3); (try clear s3); (try clear a2); (try clear a1); (try clear k2); (try clear i4); (try clear i3); (try clear h2); (try clear h7); omega) | omega))
    rw [show p.toNat + n.toNat + 2 + t = (p + n).toNat + 1 + t + 1 by (first | ((try clear q2); (try clear ht); (try clear c2); (try clear c0); (try clear c1); (try clear c7); (try clear o4); (try clear g4); (try clear l4); (try clear f4); (try clear s4); (try clear b2); (try clear b0); (try clear b1); (try clear b7); (try clear o3); (try clear g3); (try clear l3); (try clear f3); (try clear s3); (try clear a2); (try clear a1); (try clear k2); (try clear i4); (try clear i3); (try clear h2); (try clear h7); omega) | omega), q1, show (p + n).toNat + 1 + t = (p + n).toNat + t + 1 by (first | ((try clear q2); (try clear ht); (try clear c2); (try clear c0); (try clear c1); (try clear c7); (try clear c5); (try clear o4); (try clear g4); (try clear l4); (try clear f4); (try clear s4); (try clear b2); (try clear b0); (try clear b1); (try clear b7); (try clear b5); (try clear o3); (try clear g3); (try clear l3); (try clear f3); (try clear s3); (try clear a2); (try clear a1); (try clear k2); (try clear l2); (try clear i4); (try clear i3); (try clear h2); (try clear h7); omega) | omega), q2, a2 _ (by (first | ((try clear q2); (try clear ht); (try clear c2); (try clear c0); (try clear c1); (try clear c7); (try clear c5); (try clear o4); (try clear g4); (try clear l4); (try clear f4); (try clear s4); (try clear b2); (try clear b0); (try clear b1); (try clear b7); (try clear b5); (try clear o3); (try clear g3); (try clear l3); (try clear f3); (try clear s3); (try clear a2); (try clear a1); (try clear k2); (try clear l2); (try clear i4); (try clear i3); (try clear h2); (try clear h7); omega) | omega)) (by (first | ((try clear q2); (try clear c2); (try clear c0); (try clear c1); (try clear c7); (try clear o4); (try clear g4); (try clear l4); (try clear f4); (try clear s4); (try clear b2); (try clear b0); (try clear b1); (try clear b7); (try clear o3); (try clear g3); (try clear f3); (try clear s3); (try clear a2); (try clear a1); (try clear k2); (try clear i4); (try clear i3); (try clear h2); (try clear h7); omega) | omega))]
    congr 1
    (first | ((try clear q2); (try clear ht); (try clear c2); (try clear c0); (try clear c1); (try clear c7); (try clear o4); (try clear g4); (try clear l4); (try clear f4); (try clear s4); (try clear b2); (try clear b0); (try clear b1); (try clear b7); (try clear o3); (try clear g3); (try clear l3); (try clear f3); (try clear s3); (try clear a2); (try clear a1); (try clear k2); (try clear i4); (try clear i3); (try clear h2); (try clear h7); omega) | omega)
theorem rpre_all : ∀ (w : Rw) (m : Nat), rI w ≤ m → rpre m w .leaf = w
  | .leaf, m, _ => by cases m <;> rfl
  | .inner z k v l r, 0, h => by rw [rI_in] at h; omega
  | .inner z k v l r, m + 1, h => by rw [rI_in] at h; rw [rpre, rpre_all r m (by omega)]
theorem ralk_LN : ∀ (w b : Rw), rW0 w → rW0 b → ralk w b → rL w = rL b ∧ rN w = rN b
  | .leaf, .leaf, _, _, _ => ⟨rfl, rfl⟩
  | .leaf, .inner _ _ _ _ _, _, _, h => h.elim
  | .inner _ _ _ _ _, .leaf, _, _, h => h.elim
  | .inner z k v l r, .inner z2 k2 v2 l2 r2, ⟨a1, a2, a3⟩, ⟨b1, b2, b3⟩, ⟨h1, h2⟩ => by
    obtain ⟨i1, i2⟩ := ralk_LN r r2 a3 b3 h2
    have e1 : ∀ (z k : Nat) (v : Int) (l r : Rw), rL (Std.DTreeMap.Internal.Impl.inner z k v l r : Rw) = (if k < 3 then 1 else 0) + rL l + rL r := fun _ _ _ _ _ => rfl
    rw [e1, e1, rN_in, rN_in, i1, i2]
    rcases h1 with ⟨c, d⟩ | ⟨c, rfl, e, f⟩
    · unfold isTx at c d
      obtain rfl := a1.2.1 (by omega)
      obtain rfl := b1.2.1 (by omega)
      rw [if_pos (by omega), if_pos (by omega)]
      exact ⟨rfl, rfl⟩
    · obtain ⟨j1, j2⟩ := ralk_LN l l2 a2 b2 f
      rw [j1, j2]
      exact ⟨rfl, rfl⟩
/-- what is told of a row's places hangs on its shape alone -/
theorem SS_ralk {μ : va_M} {q : Nat} : ∀ (w b : Rw) (p a n : Nat), rW0 w → rW0 b → ralk w b → SS μ q w p a n → SS μ q b p a n
  | .leaf, .leaf, _, _, _, _, _, _, _ => trivial
  | .leaf, .inner _ _ _ _ _, _, _, _, _, _, h, _ => h.elim
  | .inner _ _ _ _ _, .leaf, _, _, _, _, _, h, _ => h.elim
  | .inner z k v l r, .inner z2 k2 v2 l2 r2, p, a, n, ⟨a1, a2, a3⟩, ⟨b1, b2, b3⟩, ⟨h1, h2⟩, ⟨s1, s2, s3⟩ => by
    rcases h1 with ⟨c, d⟩ | ⟨c, rfl, e, f⟩
    · unfold isTx at c d
      obtain rfl := a1.2.1 (by omega)
      obtain rfl := b1.2.1 (by omega)
      rw [if_pos (by omega)] at s1 s3
      rw [if_pos (by omega)] at s3
      refine ⟨by rw [if_pos (by omega)]; exact s1, fun h9 => by omega, ?_⟩
      rw [if_pos (by omega), if_pos (by omega)]
      exact SS_ralk r r2 _ _ _ a3 b3 h2 s3
    · have e1 := ralk_sL l l2 a2 b2 f
      obtain ⟨e2, e3⟩ := ralk_LN l l2 a2 b2 f
      rw [e1] at s1 s3
      rw [e2, e3] at s3
      refine ⟨s1, fun h9 => ?_, SS_ralk r r2 _ _ _ a3 b3 h2 s3⟩
      obtain ⟨g1, g2, g3, g4⟩ := s2 h9
      rw [e1] at g2 g3 g4
      rw [e2] at g3
      rw [e3] at g4
      exact ⟨SS_ralk l l2 _ _ _ a2 b2 f g1, g2, g3, g4⟩
theorem sA_same {μ : va_M} {c : Nat} {w b : Rw} {p : Nat} (hw : rW0 w) (hb : rW0 b) (h1 : SA μ c w p) (h2 : SA μ c b p) (hl : sL w = sL b) : ralk w b := by
  have h3 := sA_pre w b p p hw hb h1 h2 (by (first | ((try clear h3); omega) | omega)) (fun t _ => sAl_rf _)
  have h4 := ralk_sL _ _ hw (rpre_W (rI w) b .leaf hb trivial) h3.2
  rw [rpre_sL] at h4
  have h5 : rI b ≤ rI w := by
    by_cases h : rI w < rI b
    · have := sO_lt b (rI w) h
      have := sO_le b (rI w + 1)
      (first | ((try clear h); (try clear h5); (try clear h3); omega) | omega)
    · (first | ((try clear h5); (try clear h4); omega) | omega)
  have h6 := h3.2
  rw [rpre_all b _ h5] at h6
  exact h6
/-- a sealed row that stands as a line is told of as that row -/
theorem rowS_of {μ : va_M} {q rm : Nat} {w : Rw} (h : rG μ q rm) (hw : rW0 w) (hs : SA μ (q + 1) w 0) (hl : μ q 5 = sL w) : rowS μ q w := by
  obtain ⟨_, _, _, b, h3, h4, ⟨h5, h6, h7⟩, h8, h9⟩ := h
  have hk := sA_same h3 hw h8 hs (by (first | ((try clear hk); (try clear h9); (try clear h8); (try clear h7); (try clear h6); (try clear h4); (try clear h3); omega) | omega))
  obtain ⟨e1, e2⟩ := ralk_LN b w h3 hw hk
  have e3 := ralk_sL b w h3 hw hk
  exact ⟨⟨hl, by rw [h6, e2], by rw [← e3, h7, e1]⟩, hs, SS_ralk b w 0 0 0 h3 hw hk h9⟩
theorem fSt_b : ∀ (l : List (Nat × Nat × Nat)) (w x : Rw), fSt l w x → rI w ≤ 60 → ∀ s : Nat × Nat × Nat, s ∈ l → s.1 ≤ 60 ∧ s.2.1 ≤ 60 ∧ s.2.2 ≤ 60
  | [], _, _, _, _, s, hs => absurd hs List.not_mem_nil
  | s0 :: t, w, x, ⟨h1, h2⟩, hI, s, hs => by
    have h3 := h1.1.2.2.1
    have h4 := h1.1.1
    have h5 : s0.2.2 * 1 ≤ s0.2.2 * s0.1 := Nat.mul_le_mul_left _ h4
    have h6 : 1 * s0.1 ≤ s0.2.2 * s0.1 := Nat.mul_le_mul_right _ (by have := h1.1.2.1; omega)
    rcases List.mem_cons.mp hs with rfl | hs
    · omega
    · exact fSt_b t _ x h2 (by have := rput_Il h1.1; omega) s hs
/-- an item of a stretch: where it ends, whether it is firm -/
theorem fi_step {μ : va_M} {q rm : Nat} {v : Rw} {p1 i : Int} {k : Nat} (hG : rG μ q rm) (hv0 : rWF v) (hvA : SA μ (q + 1) v p1.toNat) (hp : 0 ≤ p1) (hi : i = p1 + sO v k) (hlt : i < p1 + sL v) (hle : p1 + sL v ≤ μ q 5) : ∃ d : Nat, k < rI v ∧ μ (q + 2) i.toNat + 1 = i + d ∧ sO v (k + 1) = sO v k + d ∧ 1 ≤ d ∧ (hfirm (rdrop k v) ↔ (0 ≤ μ (q + 1) i.toNat ∧ μ (q + 1) i.toNat < 256) ∨ μ (q + 1) i.toNat = 514) := by
  have hW9 := rWF_0 v hv0
  have hkr : k < rI v := by
    by_cases h9 : k < rI v
    · exact h9
    · have := sO_all v k (by (first | ((try clear hkr); (try clear hle); (try clear hlt); (try clear hi); (try clear hp); omega) | omega))
      (first | ((try clear h9); (try clear hkr); (try clear hle); (try clear hp); omega) | omega)
  obtain ⟨zz, kk, vv, ll, rr, ee⟩ := rI_pos (w := rdrop k v) (by rw [rdrop_I]; (first | ((try clear ee); (try clear rr); (try clear ll); (try clear vv); (try clear kk); (try clear zz); (try clear hle); (try clear hlt); (try clear hi); (try clear hp); omega) | omega))
  have sA9 := SA_drop k v p1.toNat hvA
  have wW9 := qdrop_W k v hW9
  rw [ee] at sA9 wW9
  obtain ⟨dd, dd1, dd2, -⟩ := sL_d kk ll
  have ei9 : i.toNat = p1.toNat + sO v k := by (first | ((try clear ei9); (try clear dd2); (try clear dd1); (try clear wW9); (try clear sA9); (try clear ee); (try clear rr); (try clear vv); (try clear zz); (try clear hkr); (try clear hle); (try clear hlt); omega) | omega)
  have mt9 := it_mate (i := i.toNat) hG (by (first | ((try clear mt9); (try clear dd2); (try clear dd1); (try clear wW9); (try clear sA9); (try clear ee); (try clear rr); (try clear vv); (try clear zz); (try clear hkr); omega) | omega)) wW9 (by rw [ei9]; exact sA9) dd1
  refine ⟨dd, hkr, by (first | ((try clear dd2); (try clear dd1); (try clear wW9); (try clear sA9); (try clear ee); (try clear rr); (try clear vv); (try clear zz); (try clear hkr); (try clear hle); (try clear hlt); omega) | omega), by rw [sO_add, ee, sO_in, sO_0, dd1]; (first | ((try clear mt9); (try clear ei9); (try clear dd2); (try clear dd1); (try clear wW9); (try clear sA9); (try clear ee); (try clear rr); (try clear vv); (try clear zz); (try clear hkr); (try clear hle); (try clear hlt); (try clear hi); (try clear hp); omega) | omega), dd2, ?_⟩
  rw [ee, ei9, sA9.1]
  exact firm_sg wW9.1
/-- so many items from a place on are what is folded, just where their line says so -/
theorem fo_line {μ : va_M} {c : Nat} {v : Rw} {p so a : Nat} (hv0 : rWF v) (hvA : SA μ c v p) (h1 : 1 ≤ so) (h2 : a + 2 * so ≤ rI v) : fo1 v so a ↔ (cFm v a < cFm v (a + so) ∧ sO v a + 2 * (sO v (a + so) - sO v a) ≤ sL v ∧ ∀ t, t < sO v (a + so) - sO v a → sAl (μ c (p + sO v a + t)) (μ c (p + sO v (a + so) + t))) := by
  have hW9 := rWF_0 v hv0
  have hd1 := rdrop_I a v
  have hd2 := rdrop_I (a + so) v
  have hIx : rI (rpre so (rdrop a v) .leaf) = so := by rw [rpre_I _ _ _ (by (first | ((try clear hIx); (try clear hd2); omega) | omega))]; rfl
  have hx1 := rpre_SA so (rdrop a v) _ (SA_drop a v p hvA)
  have hb1 := SA_drop (a + so) v p hvA
  have hLN := al_line (rpre_W so (rdrop a v) .leaf (qdrop_W a v hW9) trivial) (qdrop_W (a + so) v hW9) hIx hx1 hb1
  have eLx := rpre_sL so (rdrop a v)
  have eAd := sO_add a so v
  have qd := qdrop_L (a + so) v
  have hPR := halk_pre so (rdrop a v) (rdrop (a + so) v) (by (first | ((try clear hPR); (try clear qd); (try clear eAd); (try clear eLx); (try clear hb1); (try clear hx1); omega) | omega)) (by (first | ((try clear hPR); (try clear qd); (try clear eAd); (try clear eLx); (try clear hb1); (try clear hx1); (try clear hd1); omega) | omega))
  have cfl := (cFm_lt (w := v) (a := a) so).2
  rw [eLx, show sO (rdrop a v) so = sO v (a + so) - sO v a by (first | ((try clear cfl); (try clear hPR); (try clear hLN); (try clear hb1); (try clear hx1); (try clear hIx); (try clear hd2); (try clear hd1); (try clear h2); (try clear h1); omega) | omega)] at hLN
  constructor
  · rintro ⟨_, g2, g3, g4⟩
    obtain ⟨k1, k2⟩ := hLN.mpr ⟨by (first | ((try clear k2); (try clear k1); (try clear g3); (try clear g2); (try clear hPR); (try clear hb1); (try clear hx1); (try clear hd1); omega) | omega), hPR.mpr (fun m hm => by rw [← rdrop_add, ← rdrop_add]; exact g3 m hm)⟩
    exact ⟨cfl.mpr g4, by (first | ((try clear k2); (try clear g3); (try clear g2); (try clear cfl); (try clear hPR); (try clear hLN); (try clear hb1); (try clear hx1); (try clear hIx); (try clear hd2); (try clear hd1); (try clear h2); (try clear h1); omega) | omega), k2⟩
  · rintro ⟨g1, g2, g3⟩
    obtain ⟨k1, k2⟩ := hLN.mp ⟨by (first | ((try clear k2); (try clear k1); (try clear g3); (try clear g1); (try clear cfl); (try clear hPR); (try clear hLN); (try clear hb1); (try clear hx1); (try clear hIx); (try clear hd2); (try clear hd1); (try clear h2); (try clear h1); omega) | omega), g3⟩
    refine ⟨h1, h2, fun m hm => ?_, cfl.mp g1⟩
    have := hPR.mp k2 m hm
    rw [← rdrop_add, ← rdrop_add] at this
    exact this
/-- one copy more, as its line says; what it is once it is fused -/
theorem fa_line {μ0 μ : va_M} {c : Nat} {v : Rw} {so ai cn p pa nx n : Nat} (hv0 : rWF v) (hvA : SA μ0 c v p) (ho1 : fo1 v so ai) (hn : n + sO v ai = sO v (ai + so)) (h1 : 1 ≤ cn) (h2 : ai + cn * so ≤ rI v) (h3 : nx = p + sO v (ai + cn * so)) (hx : pa + n ≤ nx) (hal9 : ∀ e m : Nat, 1 ≤ e → e < cn → m < so → halk (rdrop (ai + m) v) (rdrop (ai + e * so + m) v)) (hSA : SA μ c (frow v ai so cn 0 so) pa) (hSL : sL (frow v ai so cn 0 so) = n) (hot : ∀ j : Nat, (j < pa ∨ pa + n ≤ j) → μ c j = μ0 c j) :
    ((nx + n ≤ p + sL v ∧ ∀ t, t < n → sAl (μ c (pa + t)) (μ c (nx + t))) ↔ (ai + (cn + 1) * so ≤ rI v ∧ ∀ m, m < so → halk (rdrop (ai + m) v) (rdrop (ai + cn * so + m) v))) ∧
    (ai + (cn + 1) * so ≤ rI v → (∀ m, m < so → halk (rdrop (ai + m) v) (rdrop (ai + cn * so + m) v)) → sO v (ai + (cn + 1) * so) = sO v (ai + cn * so) + n ∧ ∀ u : va_M, (∀ t, t < n → u c (pa + t) = sFu (μ c (pa + t)) (μ c (nx + t))) → SA u c (frow v ai so (cn + 1) 0 so) pa ∧ sL (frow v ai so (cn + 1) 0 so) = n) := by
  have hW9 := rWF_0 v hv0
  have hoI := ho1.2.1
  have hso := ho1.1
  have e71 : (cn + 1) * so = cn * so + so := by rw [Nat.add_mul, Nat.one_mul]
  have qd := qdrop_L (ai + cn * so) v
  have hsb : SA μ c (rdrop (ai + cn * so) v) nx := by
    rw [h3]
    exact SA_to _ _ _ (SA_drop _ v p hvA) (fun d hd => hot _ (by right; (first | ((try clear hd); (try clear e71); (try clear hso); (try clear hoI); (try clear hot); (try clear hal9); (try clear h2); (try clear h1); omega) | omega)))
  have hWx : rW0 (frow v ai so cn 0 so) := rWF_0 _ (frow_WF h1 hv0 hal9 so 0 (Nat.zero_add so))
  have hIx := frow_I h1 hal9 (by (first | ((try clear hIx); (try clear qd); (try clear e71); (try clear hot); (try clear hSL); (try clear hal9); (try clear h3); (try clear h2); (try clear h1); (try clear hn); omega) | omega)) so 0 (by (first | ((try clear hIx); (try clear qd); (try clear e71); (try clear hso); (try clear hoI); (try clear hot); (try clear hSL); (try clear hal9); (try clear h3); (try clear h2); (try clear h1); (try clear hn); omega) | omega))
  have hWb := qdrop_W (ai + cn * so) v hW9
  have hAL := al_line hWx hWb hIx hSA hsb
  have hNX := fo_next hv0 h1 hal9 h2 (by (first | ((try clear hNX); (try clear hAL); (try clear hWb); (try clear qd); (try clear hso); (try clear hot); (try clear hSL); (try clear hal9); (try clear h3); (try clear h1); (try clear hn); omega) | omega))
  rw [hSL] at hAL
  refine ⟨⟨fun ⟨g1, g2⟩ => hNX.mp (hAL.mp ⟨by (first | ((try clear g2); (try clear g1); (try clear hNX); (try clear hAL); (try clear hWb); (try clear hIx); (try clear e71); (try clear hso); (try clear hoI); (try clear hot); (try clear hal9); (try clear h2); (try clear h1); omega) | omega), g2⟩), fun h8 => ?_⟩, fun g1 g2 => ?_⟩
  · obtain ⟨k1, k2⟩ := hAL.mpr (hNX.mpr h8)
    exact ⟨by (first | ((try clear k2); (try clear g2); (try clear g1); (try clear h8); (try clear hNX); (try clear hAL); (try clear hWb); (try clear hIx); (try clear e71); (try clear hso); (try clear hoI); (try clear hot); (try clear hal9); (try clear h2); (try clear h1); omega) | omega), k2⟩
  · have hRA := hNX.mpr ⟨g1, g2⟩
    have hWp := rpre_W so (rdrop (ai + cn * so) v) .leaf hWb trivial
    have e9 := ralk_sL _ _ hWx hWp hRA.2
    rw [rpre_sL, hSL] at e9
    have e8 := sO_add (ai + cn * so) so v
    rw [e71] at g1
    refine ⟨by rw [e71, ← Nat.add_assoc]; (first | ((try clear hWp); (try clear hRA); (try clear g2); (try clear g1); (try clear h8); (try clear hNX); (try clear hAL); (try clear hWb); (try clear hIx); (try clear e71); (try clear hso); (try clear hoI); (try clear hot); (try clear hal9); (try clear h3); (try clear h2); (try clear h1); omega) | omega), fun u hu => ?_⟩
    have fz := frow_fus (w := v) (a := ai) (n1 := so) (n := cn) h1 hal9 (by (first | ((try clear fz); (try clear hu); (try clear u); (try clear e8); (try clear hWp); (try clear hRA); (try clear g2); (try clear h8); (try clear hNX); (try clear hAL); (try clear hWb); (try clear qd); (try clear hso); (try clear hoI); (try clear hot); (try clear hSL); (try clear hal9); (try clear h3); (try clear h2); (try clear h1); (try clear hn); omega) | omega)) so 0 (by (first | ((try clear fz); (try clear hu); (try clear u); (try clear e8); (try clear hWp); (try clear hRA); (try clear g2); (try clear g1); (try clear h8); (try clear hNX); (try clear hAL); (try clear hWb); (try clear hIx); (try clear qd); (try clear e71); (try clear hso); (try clear hoI); (try clear hot); (try clear hSL); (try clear hal9); (try clear h3); (try clear h2); (try clear h1); (try clear hn); omega) | omega)) (by (first | ((try clear fz); (try clear hu); (try clear u); (try clear e8); (try clear hWp); (try clear hRA); (try clear g2); (try clear h8); (try clear hNX); (try clear hAL); (try clear hWb); (try clear hIx); (try clear qd); (try clear hso); (try clear hoI); (try clear hot); (try clear hSL); (try clear hal9); (try clear h3); (try clear h2); (try clear h1); (try clear hn); omega) | omega))
    rw [Nat.add_zero] at fz
    rw [← fz]
    exact ⟨SA_fus _ _ pa nx pa hWx hWp hRA.2 hSA (rpre_SA so _ _ hsb) (fun t ht => hu t (by (first | ((try clear fz); (try clear hu); (try clear u); (try clear e8); (try clear hWp); (try clear hRA); (try clear g2); (try clear g1); (try clear h8); (try clear hNX); (try clear hAL); (try clear hWb); (try clear hIx); (try clear qd); (try clear e71); (try clear hso); (try clear hoI); (try clear hot); (try clear hal9); (try clear h3); (try clear h2); (try clear h1); omega) | omega))), by rw [rfus_sL _ _ hWx hWp hRA.2]; exact hSL⟩

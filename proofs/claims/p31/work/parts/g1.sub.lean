
/-! laying, told whole: the row that stands at a place of a line -/
/-- the rest of the row that the place stands in -/
def sub : Rw → Nat → Rw
  | .leaf, _ => .leaf
  | .inner z k v l r, 0 => .inner z k v l r
  | .inner _ k _ l r, x + 1 => if k < 3 then sub r x else if x ≤ sL l then sub l x else sub r (x - sL l - 1)
theorem sub_0 (w : Rw) : sub w 0 = w := by cases w <;> rfl
theorem sub_lf {z k : Nat} {v : Int} {l r : Rw} {x : Nat} (h : k < 3) : sub (.inner z k v l r : Rw) (x + 1) = sub r x := if_pos h
theorem sub_il {z k : Nat} {v : Int} {l r : Rw} {x : Nat} (h : 3 ≤ k) (hx : x ≤ sL l) : sub (.inner z k v l r : Rw) (x + 1) = sub l x := (if_neg (by omega)).trans (if_pos hx)
theorem sub_ir {z k : Nat} {v : Int} {l r : Rw} {x : Nat} (h : 3 ≤ k) (hx : sL l < x) : sub (.inner z k v l r : Rw) (x + 1) = sub r (x - sL l - 1) := (if_neg (by omega)).trans (if_neg (by (first | ((try clear h); omega) | omega)))
theorem sub_W : ∀ (w : Rw) (x : Nat), rW0 w → rW0 (sub w x)
  | .leaf, _, h => h
  | .inner z k v l r, 0, h => h
  | .inner z k v l r, x + 1, ⟨h1, h2, h3⟩ => by
    by_cases hk : k < 3
    · rw [sub_lf hk]; exact sub_W r x h3
    · by_cases hx : x ≤ sL l
      · rw [sub_il (by omega) hx]; exact sub_W l x h2
      · rw [sub_ir (by omega) (by omega)]; exact sub_W r _ h3
theorem sub_A {μ : va_M} {c : Nat} : ∀ (w : Rw) (p i : Nat), SA μ c w p → i ≤ sL w → SA μ c (sub w i) (p + i) ∧ i + sL (sub w i) ≤ sL w ∧ (i + sL (sub w i) = sL w ∨ μ c (p + i + sL (sub w i)) = 515)
  | .leaf, p, i, _, hi => by
    have e : sL (Std.DTreeMap.Internal.Impl.leaf : Rw) = 0 := rfl
    refine ⟨trivial, ?_, Or.inl ?_⟩
    · show i + sL (Std.DTreeMap.Internal.Impl.leaf : Rw) ≤ _
      omega
    · show i + sL (Std.DTreeMap.Internal.Impl.leaf : Rw) = _
      omega
  | .inner z k v l r, p, 0, h, _ => by
    rw [sub_0, Nat.add_zero, Nat.zero_add]
    exact ⟨h, Nat.le_refl _, Or.inl rfl⟩
  | .inner z k v l r, p, x + 1, ⟨h1, h2, h3⟩, hi => by
    rw [sL_in] at hi ⊢
    by_cases hk : k < 3
    · rw [if_pos hk] at hi h3 ⊢
      rw [sub_lf hk]
      obtain ⟨a1, a2, a3⟩ := sub_A r (p + 1) x h3 (by omega)
      rw [show p + 1 + x = p + (x + 1) by omega] at a1 a3
      exact ⟨a1, by omega, a3.imp (fun h => by omega) (fun h => h)⟩
    · rw [if_neg hk] at hi h3 ⊢
      obtain ⟨u1, u2⟩ := h2 (by omega)
      by_cases hx : x ≤ sL l
      · rw [sub_il (by omega) hx]
        obtain ⟨a1, a2, a3⟩ := sub_A l (p + 1) x u1 hx
        rw [show p + 1 + x = p + (x + 1) by omega] at a1 a3
        refine ⟨a1, by omega, Or.inr ?_⟩
        rcases a3 with h | h
        · rw [show p + (x + 1) + sL (sub l x) = p + 1 + sL l by omega]; exact u2
        · exact h
      · rw [sub_ir (by omega) (by omega)]
        obtain ⟨a1, a2, a3⟩ := sub_A r (p + (2 + sL l)) (x - sL l - 1) h3 (by omega)
        rw [show p + (2 + sL l) + (x - sL l - 1) = p + (x + 1) by omega] at a1 a3
        exact ⟨a1, by omega, a3.imp (fun h => by omega) (fun h => h)⟩
theorem sub_in : ∀ (w : Rw) (i : Nat) {z k : Nat} {v : Int} {l r : Rw}, i ≤ sL w → sub w i = .inner z k v l r → i + (if k < 3 then 1 else 2 + sL l) + sL r ≤ sL w ∧ sub w (i + (if k < 3 then 1 else 2 + sL l)) = r ∧ (3 ≤ k → sub w (i + 1) = l)
  | .leaf, i, z, k, v, l, r, hi, h => by
    have h : (Std.DTreeMap.Internal.Impl.leaf : Rw) = .inner z k v l r := h
    cases h
  | .inner z0 k0 v0 l0 r0, 0, z, k, v, l, r, hi, h => by
    rw [sub_0] at h
    cases h
    refine ⟨by rw [sL_in]; omega, ?_, fun hk => ?_⟩
    · by_cases hk : k0 < 3
      · rw [if_pos hk, Nat.zero_add, sub_lf hk, sub_0]
      · rw [if_neg hk, show 0 + (2 + sL l0) = (1 + sL l0) + 1 by omega, sub_ir (by omega) (by omega), show 1 + sL l0 - sL l0 - 1 = 0 by omega, sub_0]
    · rw [sub_il hk (Nat.zero_le _), sub_0]
  | .inner z0 k0 v0 l0 r0, x + 1, z, k, v, l, r, hi, h => by
    rw [sL_in] at hi ⊢
    obtain ⟨d, hd⟩ : ∃ d, d = (if k < 3 then 1 else 2 + sL l) := ⟨_, rfl⟩
    have hd1 : 1 ≤ d := by rw [hd]; split <;> omega
    rw [← hd]
    by_cases hk : k0 < 3
    · rw [if_pos hk] at hi ⊢
      rw [sub_lf hk] at h
      obtain ⟨a1, a2, a3⟩ := sub_in r0 x (by (first | ((try clear a3); (try clear a2); (try clear a1); (try clear hk); omega) | omega)) h
      rw [← hd] at a1 a2
      exact ⟨by (first | ((try clear a3); (try clear a2); (try clear hk); omega) | omega), by rw [show x + 1 + d = (x + d) + 1 by (first | ((try clear a3); (try clear a2); (try clear a1); (try clear hk); omega) | omega), sub_lf hk]; exact a2, fun q => by rw [sub_lf hk]; exact a3 q⟩
    · rw [if_neg hk] at hi ⊢
      by_cases hx : x ≤ sL l0
      · rw [sub_il (by omega) hx] at h
        obtain ⟨a1, a2, a3⟩ := sub_in l0 x hx h
        rw [← hd] at a1 a2
        exact ⟨by (first | ((try clear a3); (try clear a2); (try clear hk); omega) | omega), by rw [show x + 1 + d = (x + d) + 1 by (first | ((try clear a3); (try clear a2); (try clear a1); (try clear hk); omega) | omega), sub_il (by (first | ((try clear a3); (try clear a2); (try clear a1); omega) | omega)) (by (first | ((try clear a3); (try clear a2); (try clear hk); omega) | omega))]; exact a2, fun q => by rw [sub_il (by (first | ((try clear q); (try clear a3); (try clear a2); (try clear a1); omega) | omega)) (by (first | ((try clear q); (try clear a3); (try clear a2); (try clear hk); omega) | omega))]; exact a3 q⟩
      · rw [sub_ir (by omega) (by (first | ((try clear hk); omega) | omega))] at h
        obtain ⟨a1, a2, a3⟩ := sub_in r0 (x - sL l0 - 1) (by (first | ((try clear a3); (try clear a2); (try clear a1); (try clear hk); omega) | omega)) h
        rw [← hd] at a1 a2
        exact ⟨by (first | ((try clear a2); (try clear hk); omega) | omega), by rw [show x + 1 + d = (x + d) + 1 by (first | ((try clear a3); (try clear a2); (try clear a1); (try clear hk); omega) | omega), sub_ir (by (first | ((try clear a3); (try clear a2); (try clear a1); omega) | omega)) (by (first | ((try clear a3); (try clear a2); (try clear a1); (try clear hk); omega) | omega)), show x + d - sL l0 - 1 = x - sL l0 - 1 + d by (first | ((try clear a2); (try clear a1); (try clear hk); omega) | omega)]; exact a2, fun q => by rw [sub_ir (by (first | ((try clear q); (try clear a3); (try clear a2); (try clear a1); omega) | omega)) (by (first | ((try clear q); (try clear a3); (try clear a2); (try clear a1); (try clear hk); omega) | omega)), show x + 1 - sL l0 - 1 = x - sL l0 - 1 + 1 by (first | ((try clear a2); (try clear a1); (try clear hk); omega) | omega)]; exact a3 q⟩
/-- behind m items more -/
theorem sub_dr : ∀ (m : Nat) (w : Rw) (i : Nat), i ≤ sL w → i + sL (sub w i) ≤ sL w → sub w (i + sO (sub w i) m) = rdrop m (sub w i)
  | 0, w, i, _, _ => by rw [sO_0, Nat.add_zero, rdrop]
  | m + 1, w, i, hi, hl => by
    match hs : sub w i with
    | .leaf => 
      have e : sO (Std.DTreeMap.Internal.Impl.leaf : Rw) (m + 1) = 0 := rfl
      rw [e, Nat.add_zero, hs]; rfl
    | .inner z k v l r =>
      obtain ⟨a1, a2, -⟩ := sub_in w i hi hs
      obtain ⟨d, hd⟩ : ∃ d, d = (if k < 3 then 1 else 2 + sL l) := ⟨_, rfl⟩
      rw [← hd] at a1 a2
      have h1 := sub_dr m w (i + d) (by omega) (by rw [a2]; omega)
      rw [a2] at h1
      rw [sO_in, ← hd, ← Nat.add_assoc, h1]
      rfl
/-- the row that a place stands in ends there: an end's sign, or the line's end -/
theorem sub_e {μ : va_M} {c : Nat} {w : Rw} {i : Nat} (hW : rW0 w) (hS : SA μ c w 0) (hi : i ≤ sL w) : (sub w i = .leaf ∧ (i = sL w ∨ μ c i = 515)) ∨ (∃ (z k : Nat) (v : Int) (l r : Rw), sub w i = .inner z k v l r ∧ iW0 k v l ∧ rW0 l ∧ rW0 r ∧ i < sL w ∧ μ c i = sG k v ∧ μ c i ≠ 515) := by
  obtain ⟨a1, a2, a3⟩ := sub_A w 0 i hS hi
  have hw := sub_W w i hW
  rw [Nat.zero_add] at a1 a3
  generalize sub w i = x at a1 a2 a3 hw
  cases x with
  | leaf =>
    refine Or.inl ⟨rfl, ?_⟩
    have e : sL (Std.DTreeMap.Internal.Impl.leaf : Rw) = 0 := rfl
    rw [e] at a3
    rw [Nat.add_zero] at a3
    exact a3
  | inner z k v l r =>
    refine Or.inr ⟨z, k, v, l, r, rfl, hw.1, hw.2.1, hw.2.2, ?_, a1.1, by rw [a1.1]; exact sG_5 hw.1⟩
    rw [sL_in] at a2
    have : 1 ≤ (if k < 3 then 1 else 2 + sL l) := by split <;> (first | ((try clear hw); (try clear a3); (try clear a2); (try clear a1); (try clear hi); omega) | omega)
    (first | ((try clear hw); (try clear a3); (try clear a1); omega) | omega)
/-- a stretch that matches is a row that comes next -/
theorem sA_nx {μ μ2 : va_M} {c c2 : Nat} : ∀ (w b : Rw) (p p2 N : Nat), rW0 w → rW0 b → SA μ c w p → SA μ2 c2 b p2 → (p2 + sL b = N ∨ μ2 c2 (p2 + sL b) = 515) → p2 + sL w ≤ N → (∀ t, t < sL w → sAl (μ c (p + t)) (μ2 c2 (p2 + t))) → nxt w b
  | .leaf, b, _, _, _, _, _, _, _, _, _, _ => trivial
  | .inner z k v l r, .leaf, p, p2, N, ⟨a1, a2, a3⟩, _, ⟨s1, s2, s3⟩, _, he, hle, h => by
    exfalso
    rw [sL_in] at hle h
    obtain ⟨d, hd1, hd2, hd3⟩ := sL_d k l
    have e : sL (Std.DTreeMap.Internal.Impl.leaf : Rw) = 0 := rfl
    rw [e] at he
    have h0 := h 0 (by omega)
    rw [Nat.add_zero, Nat.add_zero, s1] at h0
    rcases he with he | he
    · omega
    · rw [Nat.add_zero] at he
      rw [he] at h0
      exact sG_5 a1 (sAl_5' h0)
  | .inner z k v l r, .inner z2 k2 v2 l2 r2, p, p2, N, ⟨a1, a2, a3⟩, ⟨b1, b2, b3⟩, ⟨s1, s2, s3⟩, ⟨t1, t2, t3⟩, he, hle, h => by
    rw [sL_in] at h hle he
    obtain ⟨d, hd1, hd2, hd3⟩ := sL_d k l
    obtain ⟨d', ge1, ge2, ge3⟩ := sL_d k2 l2
    rw [hd1] at h hle s3
    have h0 := h 0 (by omega)
    rw [Nat.add_zero, Nat.add_zero, s1, t1] at h0
    have h1 := (sG_al a1 b1).mp h0
    have hl : ((isTx k ∧ isTx k2) ∨ (¬ isTx k ∧ k = k2 ∧ (k = 0 → v = v2) ∧ ralk l l2)) ∧ d' = d := by
      rcases h1 with ⟨c, g⟩ | ⟨c, rfl, g⟩
      · refine ⟨Or.inl ⟨c, g⟩, ?_⟩
        unfold isTx at c g
        rw [if_pos (by omega)] at hd1 ge1
        (first | ((try clear g); omega) | omega)
      · by_cases hk : k < 3
        · have el := a1.2.1 hk
          have el2 := b1.2.1 hk
          subst el
          subst el2
          refine ⟨Or.inr ⟨c, rfl, g, trivial⟩, ?_⟩
          rw [if_pos hk] at hd1 ge1
          (first | ((try clear el2); (try clear el); (try clear hk); (try clear g); omega) | omega)
        · have hk : 3 ≤ k := by (first | ((try clear g); omega) | omega)
          obtain ⟨u1, u2⟩ := s2 hk
          obtain ⟨v1, v2⟩ := t2 hk
          have f : ralk l l2 := sA_ralk l l2 (p + 1) (p2 + 1) a2 b2 u1 v1 u2 v2 (fun t ht => by
            have e9 := hd3 hk
            have := h (1 + t) (by (first | ((try clear v2); (try clear v1); (try clear u2); (try clear u1); (try clear hk); (try clear g); omega) | omega))
            rw [← Nat.add_assoc, ← Nat.add_assoc] at this
            exact this)
          refine ⟨Or.inr ⟨c, rfl, g, f⟩, ?_⟩
          have := ralk_sL l l2 a2 b2 f
          have q1 := hd3 hk
          have q2 := ge3 hk
          (first | ((try clear v2); (try clear v1); (try clear u2); (try clear u1); (try clear hk); (try clear g); omega) | omega)
    obtain ⟨h2, h3⟩ := hl
    rw [ge1, h3] at he t3
    refine ⟨h2, sA_nx r r2 (p + d) (p2 + d) N a3 b3 s3 t3 ?_ (by (first | ((try clear h2); omega) | omega)) (fun t ht => ?_)⟩
    · rw [Nat.add_assoc]
      exact he
    · have := h (d + t) (by (first | ((try clear h3); (try clear h2); omega) | omega))
      rw [← Nat.add_assoc, ← Nat.add_assoc] at this
      exact this
theorem ralk_nx : ∀ w b : Rw, ralk w b → nxt w b
  | .leaf, _, _ => trivial
  | .inner _ _ _ _ _, .leaf, h => h.elim
  | .inner _ _ _ _ r, .inner _ _ _ _ r2, ⟨h1, h2⟩ => ⟨h1, ralk_nx r r2 h2⟩
/-- and a row that comes next matches -/
theorem nx_sA {μ μ2 : va_M} {c c2 : Nat} {w b : Rw} {p p2 : Nat} (hw : rW0 w) (hb : rW0 b) (h1 : SA μ c w p) (h2 : SA μ2 c2 b p2) (h : nxt w b) : sL w = sO b (rI w) ∧ sL w ≤ sL b ∧ ∀ t, t < sL w → sAl (μ c (p + t)) (μ2 c2 (p2 + t)) := by
  have h3 := (nxt_ralk w b h).1
  have h4 := (al_line (so := rI w) hw hb rfl h1 h2).mpr ⟨nxt_I w b h, h3⟩
  have e := ralk_sL w _ hw (rpre_W (rI w) b .leaf hb trivial) h3
  rw [rpre_sL] at e
  exact ⟨e, h4.1, h4.2⟩
theorem sCo_fC {k k2 : Nat} {v v2 : Int} {l l2 : Rw} (h : iW0 k v l) (h2 : iW0 k2 v2 l2) (ha : (isTx k ∧ isTx k2) ∨ (¬ isTx k ∧ k = k2 ∧ (k = 0 → v = v2))) : sCo (sG k v) (sG k2 v2) = fC k v k2 v2 0 := by
  obtain ⟨h1, h3, h4, h5, h6⟩ := h
  obtain ⟨g1, g3, g4, g5, g6⟩ := h2
  rcases ha with ⟨c, g⟩ | ⟨c, rfl, g⟩
  · rcases c with rfl | rfl
    · rcases g with rfl | rfl
      · have := h6 (by decide)
        have := g6 (by decide)
        by_cases e : v = v2
        · subst e
          rw [fC, if_pos (Or.inl rfl), if_neg (fun q => q.2.2 rfl)]
          exact if_neg (fun q => q.1 rfl)
        · rw [fC, if_pos (Or.inl rfl), if_pos ⟨rfl, rfl, e⟩]
          exact if_pos (by show 256 + v ≠ 256 + v2 ∧ (256 ≤ 256 + v ∧ 256 + v < 512) ∧ 256 ≤ 256 + v2 ∧ 256 + v2 < 512; (first | ((try clear g); (try clear g6); (try clear g3); (try clear g1); (try clear h6); (try clear h3); (try clear h1); (try clear ha); omega) | omega))
      · rw [fC, if_pos (Or.inl rfl), if_neg (fun q => absurd q.2.1 (by decide))]
        exact if_neg (fun q => absurd (show (512 : Int) < 512 from q.2.2.2) (by decide))
    · rw [fC, if_pos (Or.inr rfl), if_neg (fun q => absurd q.1 (by decide))]
      exact if_neg (fun q => absurd (show (512 : Int) < 512 from q.2.1.2) (by decide))
  · have e : sG k v = sG k v2 := by
      by_cases hk : k = 0
      · rw [g hk]
      · unfold sG
        rw [if_neg hk, if_neg hk]
        unfold isTx at c
        rw [if_neg (by (first | ((try clear g5); (try clear g4); (try clear g1); (try clear h6); (try clear h5); (try clear h4); (try clear h3); (try clear h1); (try clear ha); omega) | omega)), if_neg (by (first | ((try clear g5); (try clear g4); (try clear g1); (try clear h6); (try clear h5); (try clear h4); (try clear h3); (try clear h1); (try clear ha); omega) | omega))]
    rw [e, fC, if_neg (show ¬ (k = 1 ∨ k = 2) from c)]
    exact if_neg (fun q => q.1 rfl)
theorem sCo_sy (a b : Int) : sCo a b = sCo b a := by
  unfold sCo
  by_cases h : a ≠ b ∧ (256 ≤ a ∧ a < 512) ∧ 256 ≤ b ∧ b < 512
  · rw [if_pos h, if_pos (by omega)]
  · rw [if_neg h, if_neg (by omega)]
theorem cRng_add {μ : va_M} {c p c2 p2 m : Nat} : ∀ n, cRng μ c p c2 p2 (m + n) = cRng μ c p c2 p2 m + cRng μ c (p + m) c2 (p2 + m) n
  | 0 => by rw [Nat.add_zero]; exact (Int.add_zero _).symm
  | n + 1 => by rw [← Nat.add_assoc, cRng, cRng_add n, cRng, Nat.add_assoc p m n, Nat.add_assoc p2 m n, Int.add_assoc]
theorem cRng_sy {μ : va_M} {c p c2 p2 : Nat} : ∀ n, cRng μ c p c2 p2 n = cRng μ c2 p2 c p n
  | 0 => rfl
  | n + 1 => by rw [cRng, cRng, cRng_sy n, sCo_sy]
theorem cRng_1 {μ : va_M} {c p c2 p2 : Nat} : cRng μ c p c2 p2 1 = sCo (μ c p) (μ c2 p2) := by
  rw [cRng, cRng, Int.zero_add, Nat.add_zero, Nat.add_zero]
theorem fC_0 {k k2 : Nat} {v v2 c : Int} (h : isTx k) : fC k v k2 v2 c = fC k v k2 v2 0 := by
  have h : k = 1 ∨ k = 2 := h
  unfold fC
  rw [if_pos h, if_pos h]
theorem fC_n {k k2 : Nat} {v v2 c : Int} (h : ¬ isTx k) : fC k v k2 v2 c = c := if_neg h
/-- what a stretch that comes next costs -/
theorem nx_cR {μ : va_M} {c c2 : Nat} : ∀ (w b : Rw) (p p2 : Nat), rW0 w → rW0 b → SA μ c w p → SA μ c2 b p2 → nxt w b → cRng μ c p c2 p2 (sL w) = rfC w b
  | .leaf, b, _, _, _, _, _, _, _ => by cases b <;> rfl
  | .inner _ _ _ _ _, .leaf, _, _, _, _, _, _, h => h.elim
  | .inner z k v l r, .inner z2 k2 v2 l2 r2, p, p2, ⟨a1, a2, a3⟩, ⟨b1, b2, b3⟩, ⟨s1, s2, s3⟩, ⟨t1, t2, t3⟩, ⟨h1, h2⟩ => by
    have ha : (isTx k ∧ isTx k2) ∨ (¬ isTx k ∧ k = k2 ∧ (k = 0 → v = v2)) := h1.imp (fun q => q) (fun q => ⟨q.1, q.2.1, q.2.2.1⟩)
    have hc := sCo_fC a1 b1 ha
    rw [← s1, ← t1] at hc
    rw [sL_in, rfC, cRng_add]
    by_cases hk : k < 3
    · have hk2 : k2 < 3 := by
        rcases ha with ⟨q1, q2⟩ | ⟨q1, rfl, q2⟩
        · unfold isTx at q2; omega
        · exact hk
      rw [if_pos hk] at s3
      rw [if_pos hk2] at t3
      rw [if_pos hk, cRng_1, hc, nx_cR r r2 (p + 1) (p2 + 1) a3 b3 s3 t3 h2]
      congr 1
      by_cases ht : isTx k
      · exact (fC_0 ht).symm
      · rw [fC_n ht, fC_n ht, a1.2.1 hk, b1.2.1 hk2]
        rfl
    · have ht : ¬ isTx k := by unfold isTx; (first | ((try clear ht); omega) | omega)
      rcases h1 with q | ⟨-, rfl, -, hr⟩
      · exact absurd q.1 ht
      · obtain ⟨u1, u2⟩ := s2 (by (first | ((try clear u2); (try clear u1); (try clear ht); omega) | omega))
        obtain ⟨v1, v2⟩ := t2 (by (first | ((try clear v1); (try clear u2); (try clear u1); (try clear ht); omega) | omega))
        have e := ralk_sL l l2 a2 b2 hr
        rw [if_neg hk] at s3 t3
        rw [← e] at t3 v2
        have i1 := nx_cR l l2 (p + 1) (p2 + 1) a2 b2 u1 v1 (ralk_nx l l2 hr)
        have i2 := nx_cR r r2 (p + (2 + sL l)) (p2 + (2 + sL l)) a3 b3 s3 t3 h2
        rw [if_neg hk, i2, fC_n ht, show 2 + sL l = 1 + (sL l + 1) by (first | ((try clear i2); (try clear i1); (try clear v2); (try clear v1); (try clear u2); (try clear u1); (try clear ht); omega) | omega), cRng_add, cRng_1, hc, fC_n ht, cRng_add, i1, cRng_1, u2, v2, show sCo 515 515 = 0 from rfl]
        (first | ((try clear i2); (try clear i1); (try clear v2); (try clear v1); (try clear u2); (try clear u1); (try clear ht); omega) | omega)


/-! a walk along the ways of least cost: what stands of the row that is made -/
theorem iand_b {z a b : Int} (hz : inR z) (h : iZ z = iZ a &&& iZ b) (ha : a = 0 ∨ a = 1) (hb : b = 0 ∨ b = 1) : (z = 0 ∧ (a = 0 ∨ b = 0)) ∨ (z = 1 ∧ a = 1 ∧ b = 1) := by
  rcases ha with rfl | rfl <;> rcases hb with rfl | rfl
  · left
    rw [show iZ 0 &&& iZ 0 = iZ 0 by decide, iZ_eq hz (by constructor <;> decide)] at h
    exact ⟨h, Or.inl rfl⟩
  · left
    rw [show iZ 0 &&& iZ 1 = iZ 0 by decide, iZ_eq hz (by constructor <;> decide)] at h
    exact ⟨h, Or.inl rfl⟩
  · left
    rw [show iZ 1 &&& iZ 0 = iZ 0 by decide, iZ_eq hz (by constructor <;> decide)] at h
    exact ⟨h, Or.inr rfl⟩
  · right
    rw [show iZ 1 &&& iZ 1 = iZ 1 by decide, iZ_eq hz (by constructor <;> decide)] at h
    exact ⟨h, rfl, rfl⟩
def agrx (μ u : va_M) (t a b : Nat) (P : Nat → Prop) : Prop := ∀ x : Nat, a ≤ x → x < b → u (507 + t) x = μ (507 + t) x ∧ u (578 + t) x = μ (578 + t) x ∧ (¬ P x → u (649 + t) x = μ (649 + t) x)
def wSt (μ0 μ : va_M) (n : Nat) (o1 n0 : Int) (W : Rw) (o y : Int) (X Y : Rw) : Prop :=
  (o1 = -1 → fr (LD (n + 1)) μ0 μ) ∧
  (0 ≤ o1 → fr (LO (n + 1) o1.toNat n0.toNat) μ0 μ ∧ 0 ≤ n0 ∧ n0 ≤ μ 719 o1.toNat ∧ μ 719 o1.toNat + rN X + rN Y = n0 + rN W ∧ (o = 0 → X = .leaf) ∧ (o ≠ 0 → n0 ≤ y ∧ y < μ 719 o1.toNat) ∧
    ∀ u8 : va_M, agrx μ u8 o1.toNat n0.toNat (μ 719 o1.toNat).toNat (fun x => o ≠ 0 ∧ x = y.toNat) → (o ≠ 0 → u8 (649 + o1.toNat) y.toNat = μ 719 o1.toNat + rN X - y) → RA u8 o1.toNat X (μ 719 o1.toNat).toNat → RA u8 o1.toNat Y ((μ 719 o1.toNat).toNat + rN X) → RA u8 o1.toNat W n0.toNat)
theorem wSt_0 {μ : va_M} {n : Nat} {o1 : Int} {W : Rw} {y : Int} (h0 : 0 ≤ o1 → 0 ≤ μ 719 o1.toNat) : wSt μ μ n o1 (μ 719 o1.toNat) W 0 y .leaf W := by
  have e0 : rN (Std.DTreeMap.Internal.Impl.leaf : Rw) = 0 := rfl
  refine ⟨fun _ => fr_rfl, fun h => ⟨fr_rfl, h0 h, Int.le_refl _, by omega, fun _ => rfl, fun h => absurd rfl h, fun u8 _ _ _ h4 => ?_⟩⟩
  rw [e0, Nat.add_zero] at h4
  exact h4
theorem wSt_LD {μ0 μ u : va_M} {n : Nat} {o1 n0 : Int} {W : Rw} {o y : Int} {X Y : Rw} (h : wSt μ0 μ n o1 n0 W o y X Y) (hf : fr (LD (n + 1)) μ u) (ho : o1 < 70) : wSt μ0 u n o1 n0 W o y X Y := by
  refine ⟨fun h1 => fr_trans (h.1 h1) hf, fun h1 => ?_⟩
  obtain ⟨a1, a2, a3, a4, a5, a6, a7⟩ := h.2 h1
  have e : u 719 o1.toNat = μ 719 o1.toNat := hf _ _ (LD_lt (by omega))
  rw [e]
  refine ⟨fr_trans a1 (fr_mono hf (fun _ _ h => Or.inl h)), a2, a3, a4, a5, a6, fun u8 b1 b2 b3 b4 => a7 u8 (fun x c1 c2 => ?_) b2 b3 b4⟩
  have c3 := b1 x c1 c2
  rw [hf (507 + o1.toNat) x (LD_lt (by omega)), hf (578 + o1.toNat) x (LD_lt (by omega)), hf (649 + o1.toNat) x (LD_lt (by omega))] at c3
  exact c3
theorem wSt_close {μ0 μ u : va_M} {n : Nat} {o1 n0 : Int} {W : Rw} {o y : Int} {Y : Rw} (h : wSt μ0 μ n o1 n0 W o y .leaf Y) (ho : o ≠ 0) (ho1 : o1 < 70) (hc : (o1 = -1 → u = μ) ∧ (0 ≤ o1 → u = uz μ (649 + o1.toNat) y.toNat (μ 719 o1.toNat - y))) (y2 : Int) : wSt μ0 u n o1 n0 W 0 y2 .leaf Y := by
  have e0 : rN (Std.DTreeMap.Internal.Impl.leaf : Rw) = 0 := rfl
  refine ⟨fun h1 => by rw [hc.1 h1]; exact h.1 h1, fun h1 => ?_⟩
  obtain ⟨a1, a2, a3, a4, a5, a6, a7⟩ := h.2 h1
  have a6 := a6 ho
  have e := hc.2 h1
  have e1 : u 719 o1.toNat = μ 719 o1.toNat := by rw [e, uz_n (by omega)]
  rw [e1]
  refine ⟨by rw [e]; exact fr_uz a1 (Or.inr (by unfold PG; omega)), a2, a3, a4, fun _ => rfl, fun h => absurd rfl h, fun u8 b1 _ b3 b4 => a7 u8 (fun x c1 c2 => ?_) (fun _ => ?_) b3 b4⟩
  · have c3 := b1 x c1 c2
    rw [e, uz_n (by omega), uz_n (by omega)] at c3
    refine ⟨c3.1, c3.2.1, fun c4 => ?_⟩
    have c5 := c3.2.2 (fun h9 => h9.1 rfl)
    rw [uz_n (fun h9 => c4 ⟨ho, h9.2⟩)] at c5
    exact c5
  · have c3 := (b1 y.toNat (by omega) (by omega)).2.2 (fun h9 => h9.1 rfl)
    rw [c3, e, uz_s, e0]
    omega
theorem wSt_open {μ0 μ u : va_M} {n : Nat} {o1 n0 : Int} {W : Rw} {y : Int} {X Y : Rw} (h : wSt μ0 μ n o1 n0 W 0 y .leaf (.inner 0 3 (-1) X Y)) (ho1 : o1 < 70) {r : Int} (hc : (o1 = -1 → u = μ ∧ r = 0) ∧ (0 ≤ o1 → u = uz (uz (uz (uz μ (507 + o1.toNat) (μ 719 o1.toNat).toNat 3) (578 + o1.toNat) (μ 719 o1.toNat).toNat (-1)) (649 + o1.toNat) (μ 719 o1.toNat).toNat 1) 719 o1.toNat (μ 719 o1.toNat + 1) ∧ r = μ 719 o1.toNat)) {q : Int} (hq : q ≠ 0) : wSt μ0 u n o1 n0 W q r X Y := by
  refine ⟨fun h1 => by rw [(hc.1 h1).1]; exact h.1 h1, fun h1 => ?_⟩
  obtain ⟨a1, a2, a3, a4, a5, a6, a7⟩ := h.2 h1
  obtain ⟨e, er⟩ := hc.2 h1
  have e1 : u 719 o1.toNat = μ 719 o1.toNat + 1 := by rw [e, uz_s]
  have e0 : rN (Std.DTreeMap.Internal.Impl.leaf : Rw) = 0 := rfl
  have eN : rN (Std.DTreeMap.Internal.Impl.inner 0 3 (-1) X Y : Rw) = 1 + rN X + rN Y := rN_in
  have s1 : u (507 + o1.toNat) (μ 719 o1.toNat).toNat = 3 := by rw [e, uz_n (by omega), uz_n (by omega), uz_n (by omega), uz_s]
  have s2 : u (578 + o1.toNat) (μ 719 o1.toNat).toNat = -1 := by rw [e, uz_n (by omega), uz_n (by omega), uz_s]
  rw [e1]
  refine ⟨by rw [e]; exact fr_uz (fr_uz (fr_uz (fr_uz a1 (Or.inr (by unfold PG; omega))) (Or.inr (by unfold PG; omega))) (Or.inr (by unfold PG; omega))) (Or.inr (by unfold PG; omega)), a2, by omega, by omega, fun h => absurd h hq, fun _ => by omega, fun u8 b1 b2 b3 b4 => ?_⟩
  have hk := b1 (μ 719 o1.toNat).toNat (by omega) (by omega)
  have b2 := b2 hq
  rw [er] at b2
  refine a7 u8 (fun x c1 c2 => ?_) (fun h => absurd rfl h) trivial ?_
  · have c3 := b1 x c1 (by omega)
    rw [e, uz_n (by omega), uz_n (by omega), uz_n (by omega), uz_n (by omega), uz_n (by omega), uz_n (by omega), uz_n (by omega), uz_n (by omega), uz_n (by omega), uz_n (by omega), uz_n (by omega), uz_n (by omega)] at c3
    exact ⟨c3.1, c3.2.1, fun _ => c3.2.2 (fun h9 => by have := h9.2; omega)⟩
  · rw [e0, Nat.add_zero]
    have ep : (μ 719 o1.toNat + 1).toNat = (μ 719 o1.toNat).toNat + 1 := by omega
    rw [ep] at b3 b4
    exact ⟨hk.1.trans s1, hk.2.1.trans s2, by rw [b2]; omega, b3, b4⟩
theorem wSt_fr {μ0 μ u : va_M} {n : Nat} {o1 n0 : Int} {W : Rw} {o y : Int} {X Y I : Rw} (h : wSt μ0 μ n o1 n0 W o y X Y) (hl : layO μ u (n + 1) o1 I) (h1 : 0 ≤ o1) : fr (LO (n + 1) o1.toNat n0.toNat) μ0 u := by
  obtain ⟨a1, a2, a3, a4, a5, a6, a7⟩ := h.2 h1
  exact fr_trans a1 (fr_mono (hl.2 h1).1 (fun a b h9 => h9.elim Or.inl (fun h8 => Or.inr (by unfold PG at h8 ⊢; omega))))
theorem wSt_it0 {μ0 μ u : va_M} {n : Nat} {o1 n0 : Int} {W : Rw} {y : Int} {k : Nat} {v : Int} {l R : Rw} (h : wSt μ0 μ n o1 n0 W 0 y .leaf (.inner 0 k v l R)) (ho1 : o1 < 70) (hl : layO μ u (n + 1) o1 (.inner 0 k v l .leaf)) (y2 : Int) : wSt μ0 u n o1 n0 W 0 y2 .leaf R := by
  have e0 : rN (Std.DTreeMap.Internal.Impl.leaf : Rw) = 0 := rfl
  have eN : rN (Std.DTreeMap.Internal.Impl.inner 0 k v l R : Rw) = 1 + rN l + rN R := rN_in
  have eI : rN (Std.DTreeMap.Internal.Impl.inner 0 k v l .leaf : Rw) = 1 + rN l + 0 := rN_in
  refine ⟨fun h1 => fr_trans (h.1 h1) (hl.1 h1), fun h1 => ?_⟩
  have hfr := wSt_fr h hl h1
  obtain ⟨a1, a2, a3, a4, a5, a6, a7⟩ := h.2 h1
  obtain ⟨d1, d2, d3⟩ := hl.2 h1
  refine ⟨hfr, a2, by omega, by omega, fun _ => rfl, fun h => absurd rfl h, fun u8 b1 _ b3 b4 => ?_⟩
  refine a7 u8 (fun x c1 c2 => ?_) (fun h => absurd rfl h) trivial ?_
  · have c3 := b1 x c1 (by omega)
    rw [d1 (507 + o1.toNat) x (LO_n (LD_lt (by omega)) (by unfold PG; omega)), d1 (578 + o1.toNat) x (LO_n (LD_lt (by omega)) (by unfold PG; omega)), d1 (649 + o1.toNat) x (LO_n (LD_lt (by omega)) (by unfold PG; omega))] at c3
    exact ⟨c3.1, c3.2.1, fun _ => c3.2.2 (fun h9 => h9.1 rfl)⟩
  · rw [e0, Nat.add_zero] at b4 ⊢
    obtain ⟨g1, g2, g3, g4, _⟩ := d3
    have hq := b1 (μ 719 o1.toNat).toNat (by omega) (by omega)
    refine ⟨hq.1.trans g1, hq.2.1.trans g2, (hq.2.2 (fun h9 => h9.1 rfl)).trans g3, RA_kept g4 (fun x x1 x2 => ?_), ?_⟩
    · have hx := b1 x (by omega) (by omega)
      exact ⟨hx.1, hx.2.1, hx.2.2 (fun h9 => h9.1 rfl)⟩
    · rw [show (μ 719 o1.toNat).toNat + 1 + rN l = (u 719 o1.toNat).toNat by omega]
      exact b4
theorem wSt_it1 {μ0 μ u : va_M} {n : Nat} {o1 n0 : Int} {W : Rw} {o y : Int} {k : Nat} {v : Int} {l R Y : Rw} (h : wSt μ0 μ n o1 n0 W o y (.inner 0 k v l R) Y) (ho : o ≠ 0) (ho1 : o1 < 70) (hl : layO μ u (n + 1) o1 (.inner 0 k v l .leaf)) : wSt μ0 u n o1 n0 W o y R Y := by
  have e0 : rN (Std.DTreeMap.Internal.Impl.leaf : Rw) = 0 := rfl
  have eN : rN (Std.DTreeMap.Internal.Impl.inner 0 k v l R : Rw) = 1 + rN l + rN R := rN_in
  have eI : rN (Std.DTreeMap.Internal.Impl.inner 0 k v l .leaf : Rw) = 1 + rN l + 0 := rN_in
  refine ⟨fun h1 => fr_trans (h.1 h1) (hl.1 h1), fun h1 => ?_⟩
  have hfr := wSt_fr h hl h1
  obtain ⟨a1, a2, a3, a4, a5, a6, a7⟩ := h.2 h1
  have a6 := a6 ho
  obtain ⟨d1, d2, d3⟩ := hl.2 h1
  refine ⟨hfr, a2, by omega, by omega, fun h => absurd h ho, fun _ => by omega, fun u8 b1 b2 b3 b4 => ?_⟩
  have b2 := b2 ho
  refine a7 u8 (fun x c1 c2 => ?_) (fun _ => by rw [b2]; omega) ?_ ?_
  · have c3 := b1 x c1 (by omega)
    rw [d1 (507 + o1.toNat) x (LO_n (LD_lt (by omega)) (by unfold PG; omega)), d1 (578 + o1.toNat) x (LO_n (LD_lt (by omega)) (by unfold PG; omega)), d1 (649 + o1.toNat) x (LO_n (LD_lt (by omega)) (by unfold PG; omega))] at c3
    exact c3
  · obtain ⟨g1, g2, g3, g4, _⟩ := d3
    have hq := b1 (μ 719 o1.toNat).toNat (by omega) (by omega)
    refine ⟨hq.1.trans g1, hq.2.1.trans g2, (hq.2.2 (fun h9 => by have := h9.2; omega)).trans g3, RA_kept g4 (fun x x1 x2 => ?_), ?_⟩
    · have hx := b1 x (by omega) (by omega)
      exact ⟨hx.1, hx.2.1, hx.2.2 (fun h9 => by have := h9.2; omega)⟩
    · rw [show (μ 719 o1.toNat).toNat + 1 + rN l = (u 719 o1.toNat).toNat by omega]
      exact b3
  · rw [show (μ 719 o1.toNat).toNat + rN (Std.DTreeMap.Internal.Impl.inner 0 k v l R : Rw) = (u 719 o1.toNat).toNat + rN R by omega]
    exact b4
theorem lvS_wSt {μ0 μ : va_M} {n : Nat} {t u1 : Int} {wS wP : Rw} {ps pq o1 n0 : Int} {W : Rw} {o y : Int} {X Y : Rw} (h : lvS μ0 n t u1 wS wP ps pq) (hs : wSt μ0 μ n o1 n0 W o y X Y) (hn : n ≤ 13) (ht : 0 ≤ t ∧ t < 70) (hu : 0 ≤ u1 ∧ u1 < 70) (ho : -1 ≤ o1 ∧ o1 < 70 ∧ o1 ≠ t ∧ o1 ≠ u1) : lvS μ n t u1 wS wP ps pq := by
  by_cases h1 : o1 = -1
  · exact lvS_LD h (hs.1 h1) hn ht hu
  · have hf := (hs.2 (by omega)).1
    exact lvS_fr h hf (fun x h1 h2 => LO_n (by unfold LD; omega) (by unfold PG; omega)) (fun y => LO_n (by unfold LD; omega) (by unfold PG; omega)) (fun y => LO_n (by unfold LD; omega) (by unfold PG; omega)) (fun x => ⟨LO_n (LD_lt (by omega)) (by unfold PG; omega), LO_n (LD_lt (by omega)) (by unfold PG; omega), LO_n (LD_lt (by omega)) (by unfold PG; omega)⟩) (fun x => ⟨LO_n (LD_lt (by omega)) (by unfold PG; omega), LO_n (LD_lt (by omega)) (by unfold PG; omega), LO_n (LD_lt (by omega)) (by unfold PG; omega)⟩)
theorem leB_wSt {μ0 μ : va_M} {n : Nat} {wS wP : Rw} {o1 n0 : Int} {W : Rw} {o y : Int} {X Y : Rw} (h : leB μ0 n wS wP 0 0) (hs : wSt μ0 μ n o1 n0 W o y X Y) (hn : n ≤ 13) (ho : -1 ≤ o1 ∧ o1 < 70) (hS : rI wS ≤ 259) (i j : Nat) : leB μ n wS wP i j := by
  intro i2 j2 a b c d
  have h9 := h i2 j2 (Nat.zero_le _) (Nat.zero_le _) c d
  by_cases h1 : o1 = -1
  · rw [hs.1 h1 _ _ (by unfold LD; omega)]; exact h9
  · rw [(hs.2 (by omega)).1 _ _ (LO_n (by unfold LD; omega) (by unfold PG; omega))]; exact h9
theorem IA_S {μ : va_M} {n : Nat} {t u1 : Int} {wS wP : Rw} {ps pq : Int} (h : lvS μ n t u1 wS wP ps pq) (hps : 0 ≤ ps) {i z k : Nat} {v : Int} {l r : Rw} (he : rdrop i wS = Std.DTreeMap.Internal.Impl.inner z k v l r) : IA μ t.toNat (ps + (rO wS i : Int)).toNat k v l := by
  have a := RA_drop i wS _ h.2.2.2.2.2.2.1
  rw [he] at a
  obtain ⟨b1, b2, b3, b4, _⟩ := a
  rw [show (ps + (rO wS i : Int)).toNat = ps.toNat + rO wS i by omega]
  exact ⟨b1, b2, b3, b4⟩
theorem IA_P {μ : va_M} {n : Nat} {t u1 : Int} {wS wP : Rw} {ps pq : Int} (h : lvS μ n t u1 wS wP ps pq) (hpq : 0 ≤ pq) {i z k : Nat} {v : Int} {l r : Rw} (he : rdrop i wP = Std.DTreeMap.Internal.Impl.inner z k v l r) : IA μ u1.toNat (pq + (rO wP i : Int)).toNat k v l := by
  have a := RA_drop i wP _ h.2.2.2.2.2.2.2
  rw [he] at a
  obtain ⟨b1, b2, b3, b4, _⟩ := a
  rw [show (pq + (rO wP i : Int)).toNat = pq.toNat + rO wP i by omega]
  exact ⟨b1, b2, b3, b4⟩
/-- the steps of the walk, told -/
theorem wk_1 {o z k z2 k2 : Nat} {v v2 : Int} {l r l2 r2 : Rw} (h : wayOf (.inner z k v l r) (.inner z2 k2 v2 l2 r2) = 1) : wk o (.inner z k v l r) (.inner z2 k2 v2 l2 r2) = (.leaf, if k < 3 then .inner 0 (fK k v k2 v2) (fV k v k2 v2) (rfus l l2) (wk 0 r r2).2 else .inner 0 4 (-1) (lrow l l2) (wk 0 r r2).2) := by
  unfold lrow wk
  rw [WK, if_pos h, rN_in, rN_in]
  show (Std.DTreeMap.Internal.Impl.leaf, if k < 3 then Std.DTreeMap.Internal.Impl.inner 0 (fK k v k2 v2) (fV k v k2 v2) (rfus l l2) (WK (1 + rN l + rN r + (1 + rN l2 + rN r2)) 0 r r2).2 else Std.DTreeMap.Internal.Impl.inner 0 4 (-1) (WK (1 + rN l + rN r + (1 + rN l2 + rN r2)) 0 l l2).2 (WK (1 + rN l + rN r + (1 + rN l2 + rN r2)) 0 r r2).2) = _
  rw [WK_fuel (1 + rN l + rN r + (1 + rN l2 + rN r2)) (rN r + rN r2 + 1) 0 r r2 (by omega) (by omega), WK_fuel (1 + rN l + rN r + (1 + rN l2 + rN r2)) (rN l + rN l2 + 1) 0 l l2 (by omega) (by omega)]
theorem wk_2 {o z k : Nat} {v : Int} {l r b : Rw} (h : wayOf (.inner z k v l r) b = 2) : wk o (.inner z k v l r) b = (.leaf, .inner 0 k (-1) (rfus l b) (wk 0 r (rdrop (rI l) b)).2) := by
  have hd := rdrop_N2 (rI l) b
  unfold wk
  rw [WK, if_neg (by omega), if_pos h, rN_in]
  show (Std.DTreeMap.Internal.Impl.leaf, Std.DTreeMap.Internal.Impl.inner 0 k (-1) (rfus l b) (WK (1 + rN l + rN r + rN b) 0 r (rdrop (rI l) b)).2) = _
  rw [WK_fuel (1 + rN l + rN r + rN b) (rN r + rN (rdrop (rI l) b) + 1) 0 r (rdrop (rI l) b) (by omega) (by omega)]
theorem wk_3 {o z2 k2 : Nat} {v2 : Int} {w l2 r2 : Rw} (h : wayOf w (.inner z2 k2 v2 l2 r2) = 3) : wk o w (.inner z2 k2 v2 l2 r2) = (.leaf, .inner 0 4 (-1) (rfus l2 w) (wk 0 (rdrop (rI l2) w) r2).2) := by
  have hd := rdrop_N2 (rI l2) w
  unfold wk
  rw [WK, if_neg (by omega), if_neg (by omega), if_pos h, rN_in]
  show (Std.DTreeMap.Internal.Impl.leaf, Std.DTreeMap.Internal.Impl.inner 0 4 (-1) (rfus l2 w) (WK (rN w + (1 + rN l2 + rN r2)) 0 (rdrop (rI l2) w) r2).2) = _
  rw [WK_fuel (rN w + (1 + rN l2 + rN r2)) (rN (rdrop (rI l2) w) + rN r2 + 1) 0 (rdrop (rI l2) w) r2 (by omega) (by omega)]
theorem wk_4 {o z k : Nat} {v : Int} {l r b : Rw} (h : wayOf (.inner z k v l r) b = 4) : wk o (.inner z k v l r) b = if k = 3 then (.leaf, .inner 0 3 v l (wk 0 r b).2) else if o = 4 then (.inner 0 k v l (wk 4 r b).1, (wk 4 r b).2) else (.leaf, .inner 0 3 (-1) (.inner 0 k v l (wk 4 r b).1) (wk 4 r b).2) := by
  unfold wk
  rw [WK, if_neg (by omega), if_neg (by omega), if_neg (by omega), if_pos h, rN_in]
  show (if k = 3 then (Std.DTreeMap.Internal.Impl.leaf, Std.DTreeMap.Internal.Impl.inner 0 3 v l (WK (1 + rN l + rN r + rN b) 0 r b).2) else if o = 4 then (Std.DTreeMap.Internal.Impl.inner 0 k v l (WK (1 + rN l + rN r + rN b) 4 r b).1, (WK (1 + rN l + rN r + rN b) 4 r b).2) else (Std.DTreeMap.Internal.Impl.leaf, Std.DTreeMap.Internal.Impl.inner 0 3 (-1) (Std.DTreeMap.Internal.Impl.inner 0 k v l (WK (1 + rN l + rN r + rN b) 4 r b).1) (WK (1 + rN l + rN r + rN b) 4 r b).2)) = _
  rw [WK_fuel (1 + rN l + rN r + rN b) (rN r + rN b + 1) 0 r b (by omega) (by omega), WK_fuel (1 + rN l + rN r + rN b) (rN r + rN b + 1) 4 r b (by omega) (by omega)]
theorem wk_5 {o z2 k2 : Nat} {v2 : Int} {w l2 r2 : Rw} (h : wayOf w (.inner z2 k2 v2 l2 r2) = 5) : wk o w (.inner z2 k2 v2 l2 r2) = if o = 5 then (.inner 0 k2 v2 l2 (wk 5 w r2).1, (wk 5 w r2).2) else (.leaf, .inner 0 3 (-1) (.inner 0 k2 v2 l2 (wk 5 w r2).1) (wk 5 w r2).2) := by
  unfold wk
  rw [WK, if_neg (by omega), if_neg (by omega), if_neg (by omega), if_neg (by omega), if_pos h, rN_in]
  show (if o = 5 then (Std.DTreeMap.Internal.Impl.inner 0 k2 v2 l2 (WK (rN w + (1 + rN l2 + rN r2)) 5 w r2).1, (WK (rN w + (1 + rN l2 + rN r2)) 5 w r2).2) else (Std.DTreeMap.Internal.Impl.leaf, Std.DTreeMap.Internal.Impl.inner 0 3 (-1) (Std.DTreeMap.Internal.Impl.inner 0 k2 v2 l2 (WK (rN w + (1 + rN l2 + rN r2)) 5 w r2).1) (WK (rN w + (1 + rN l2 + rN r2)) 5 w r2).2)) = _
  rw [WK_fuel (rN w + (1 + rN l2 + rN r2)) (rN w + rN r2 + 1) 5 w r2 (by omega) (by omega)]
theorem wk_0 {o : Nat} : wk o .leaf .leaf = (.leaf, .leaf) := rfl
/-- whether it is of options alone, told by the first way -/
def alI (al : Int) (w b wS wP : Rw) : Prop := (al = 1 ∧ (lay wS wP).2 = (lay w b).2) ∨ (al = 0 ∧ (lay wS wP).2 = false)
theorem al_is {w b : Rw} (hne : hsd w = true ∨ hsd b = true) (hm : wmin lay w b < 1000000) : (wayOf w b = 1 → (lay w b).2 = false) ∧ (wayOf w b = 2 → (lay w b).2 = (hdO w && tl2 lay w b)) ∧ (wayOf w b = 3 → (lay w b).2 = false) ∧ (wayOf w b = 4 → (lay w b).2 = tl4 lay w b) ∧ (wayOf w b = 5 → (lay w b).2 = tl5 lay w b) := by
  obtain ⟨a1, a2, a3, a4⟩ := way_is hne hm
  have h0 := (wa_off (w := w) (b := b)).2.2.2 hne
  have hl : (lay w b).2 = wal lay w b := by rw [lay_S]
  rw [hl]
  unfold wal
  rw [if_neg (by omega)]
  have e1 : waF 1 w b = wa1 lay w b := rfl
  have e2 : waF 2 w b = wa2 lay w b := rfl
  have e3 : waF 3 w b = wa3 lay w b := rfl
  have e4 : waF 4 w b = wa4 lay w b := rfl
  have b1 := a4 1 (by omega)
  have b2 := a4 2 (by omega)
  have b3 := a4 3 (by omega)
  have b4 := a4 4 (by omega)
  rw [e1] at b1
  rw [e2] at b2
  rw [e3] at b3
  rw [e4] at b4
  refine ⟨fun h => ?_, fun h => ?_, fun h => ?_, fun h => ?_, fun h => ?_⟩
  · rw [h] at a3
    exact if_pos a3
  · rw [h] at a3
    exact (if_neg (b1 (by omega))).trans (if_pos a3)
  · rw [h] at a3
    exact (if_neg (b1 (by omega))).trans ((if_neg (b2 (by omega))).trans (if_pos a3))
  · rw [h] at a3
    exact (if_neg (b1 (by omega))).trans ((if_neg (b2 (by omega))).trans ((if_neg (b3 (by omega))).trans (if_pos a3)))
  · exact (if_neg (b1 (by omega))).trans ((if_neg (b2 (by omega))).trans ((if_neg (b3 (by omega))).trans (if_neg (b4 (by omega)))))

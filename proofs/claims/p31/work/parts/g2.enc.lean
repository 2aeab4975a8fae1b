
/-! laying, told whole: what a cell holds -/
def bt (b : Bool) : Int := if b = true then 1 else 0
theorem bt_b (b : Bool) : 0 ≤ bt b ∧ bt b ≤ 1 := by cases b <;> decide
theorem bt_t {b : Bool} (h : b = true) : bt b = 1 := if_pos h
theorem bt_f {b : Bool} (h : ¬ b = true) : bt b = 0 := if_neg h
/-- a cell: cost, way, whether of options alone -/
def enc (x y : Rw) : Int := (lay x y).1 * 16 + (wayOf x y : Int) * 2 + bt (lay x y).2
theorem layB (x y : Rw) : 0 ≤ (lay x y).1 ∧ (lay x y).1 ≤ (rL x : Int) + rL y := lay_rng _ x y (Nat.lt_succ_self _)
theorem way_5b (x y : Rw) : wayOf x y ≤ 5 := by
  unfold wayOf
  repeat' split
  all_goals omega
theorem enc_16 (x y : Rw) : enc x y / 16 = (lay x y).1 ∧ enc x y % 2 = bt (lay x y).2 ∧ enc x y / 2 % 8 = wayOf x y ∧ 0 ≤ enc x y ∧ enc x y ≤ ((rL x : Int) + rL y) * 16 + 15 := by
  have h1 := way_5b x y
  have h2 := bt_b (lay x y).2
  have h3 := layB x y
  unfold enc
  omega
theorem rL_sL : ∀ w : Rw, rW0 w → rL w ≤ sL w ∧ rN w ≤ sL w
  | .leaf, _ => ⟨Nat.le_refl 0, Nat.le_refl 0⟩
  | .inner z k v l r, ⟨a1, a2, a3⟩ => by
    have h1 := rL_sL l a2
    have h2 := rL_sL r a3
    have e : rL (Std.DTreeMap.Internal.Impl.inner z k v l r : Rw) = (if k < 3 then 1 else 0) + rL l + rL r := rfl
    rw [e, rN_in, sL_in]
    by_cases hk : k < 3
    · have e0 : rL l = 0 ∧ rN l = 0 := by rw [a1.2.1 hk]; exact ⟨rfl, rfl⟩
      rw [if_pos hk, if_pos hk]; omega
    · rw [if_neg hk, if_neg hk]; omega
theorem rL_lr {z k : Nat} {v : Int} {l r : Rw} : rL l + rL r ≤ rL (Std.DTreeMap.Internal.Impl.inner z k v l r : Rw) := by
  show rL l + rL r ≤ (if k < 3 then 1 else 0) + rL l + rL r
  omega
/-- a way's number; barred where it is far -/
def cdK (c w o : Int) : Int := if c < 1000000 then c * 16 + w * 2 + o else 268435456
theorem cdK_b {c m w o : Int} (h : m ≤ c) (h0 : 0 ≤ m ∧ m < 1000000) (ho : 0 ≤ o ∧ o ≤ 1) (hw : 1 ≤ w ∧ w ≤ 5) : (c = m ∧ cdK c w o = m * 16 + w * 2 + o) ∨ (m < c ∧ (m + 1) * 16 ≤ cdK c w o) := by
  unfold cdK
  by_cases e : c = m
  · rw [if_pos (by (first | ((try clear hw); (try clear ho); (try clear h); omega) | omega)), e]
    exact Or.inl ⟨rfl, rfl⟩
  · refine Or.inr ⟨by (first | ((try clear hw); (try clear ho); omega) | omega), ?_⟩
    split <;> omega
def oW (q : Int) (x y : Rw) : Int := if q = 2 then bt (hdO x && tl2 lay x y) else if q = 4 then bt (tl4 lay x y) else if q = 5 then bt (tl5 lay x y) else 0
theorem oW_b (q : Int) (x y : Rw) : 0 ≤ oW q x y ∧ oW q x y ≤ 1 := by
  unfold oW
  repeat' split
  all_goals first | exact bt_b _ | decide
theorem wal_o {x y : Rw} (hne : hsd x = true ∨ hsd y = true) (hm : wmin lay x y < 1000000) : bt (lay x y).2 = oW (wayOf x y) x y := by
  obtain ⟨w1, w2, w3, w4⟩ := way_is hne hm
  have e0 := (wa_off (w := x) (b := y)).2.2.2 hne
  rw [lay_S]
  show bt (wal lay x y) = _
  unfold wal
  rw [if_neg (by rw [e0]; decide)]
  generalize wayOf x y = q at w1 w2 w3 w4 ⊢
  have n1 : 1 < (q : Int) → ¬ wa1 lay x y = wmin lay x y := fun h => w4 1 (by decide) h
  have n2 : 2 < (q : Int) → ¬ wa2 lay x y = wmin lay x y := fun h => w4 2 (by decide) h
  have n3 : 3 < (q : Int) → ¬ wa3 lay x y = wmin lay x y := fun h => w4 3 (by decide) h
  have n4 : 4 < (q : Int) → ¬ wa4 lay x y = wmin lay x y := fun h => w4 4 (by decide) h
  obtain rfl | rfl | rfl | rfl | rfl : q = 1 ∨ q = 2 ∨ q = 3 ∨ q = 4 ∨ q = 5 := by (first | ((try clear n4); (try clear n3); (try clear n2); (try clear n1); (try clear e0); (try clear w4); (try clear w3); (try clear hm); (try clear hne); omega) | omega)
  · have w3 : wa1 lay x y = wmin lay x y := w3
    rw [if_pos w3]; rfl
  · have w3 : wa2 lay x y = wmin lay x y := w3
    rw [if_neg (n1 (by decide)), if_pos w3]; rfl
  · have w3 : wa3 lay x y = wmin lay x y := w3
    rw [if_neg (n1 (by decide)), if_neg (n2 (by decide)), if_pos w3]; rfl
  · have w3 : wa4 lay x y = wmin lay x y := w3
    rw [if_neg (n1 (by decide)), if_neg (n2 (by decide)), if_neg (n3 (by decide)), if_pos w3]; rfl
  · rw [if_neg (n1 (by decide)), if_neg (n2 (by decide)), if_neg (n3 (by decide)), if_neg (n4 (by decide))]; rfl
def ck (q : Int) (x y : Rw) : Int := cdK (waF q x y) q (oW q x y)
/-- the least of the ways' numbers is the cell's -/
theorem enc_all {x y : Rw} (hne : hsd x = true ∨ hsd y = true) (hB : rN x + rN y ≤ 3000) : min (min (min (ck 1 x y) (min (ck 2 x y) (ck 3 x y))) (ck 4 x y)) (ck 5 x y) = enc x y := by
  have r1 := rL_N x
  have r2 := rL_N y
  have hl := layB x y
  have hc := lay_c x y
  have hm : wmin lay x y < 1000000 := by (first | ((try clear hm); (try clear hne); omega) | omega)
  obtain ⟨w1, w2, w3, w4⟩ := way_is hne hm
  have e := wal_o hne hm
  have hmd : wmin lay x y = min (min (min (min (min (wa0 x y) (wa1 lay x y)) (wa2 lay x y)) (wa3 lay x y)) (wa4 lay x y)) (wa5 lay x y) := rfl
  unfold enc
  rw [e, hc]
  rw [hc] at hl
  have g1 : wmin lay x y ≤ waF 1 x y := by show _ ≤ wa1 lay x y; (first | ((try clear g1); (try clear w4); (try clear w2); (try clear w1); (try clear hm); (try clear r2); (try clear r1); (try clear hB); (try clear hne); omega) | omega)
  have g2 : wmin lay x y ≤ waF 2 x y := by show _ ≤ wa2 lay x y; (first | ((try clear g2); (try clear g1); (try clear w4); (try clear w2); (try clear w1); (try clear hm); (try clear r2); (try clear r1); (try clear hB); (try clear hne); omega) | omega)
  have g3 : wmin lay x y ≤ waF 3 x y := by show _ ≤ wa3 lay x y; (first | ((try clear g3); (try clear g2); (try clear g1); (try clear w4); (try clear w2); (try clear w1); (try clear hm); (try clear r2); (try clear r1); (try clear hB); (try clear hne); omega) | omega)
  have g4 : wmin lay x y ≤ waF 4 x y := by show _ ≤ wa4 lay x y; (first | ((try clear g4); (try clear g3); (try clear g2); (try clear g1); (try clear w4); (try clear w2); (try clear w1); (try clear hm); (try clear r2); (try clear r1); (try clear hB); (try clear hne); omega) | omega)
  have g5 : wmin lay x y ≤ waF 5 x y := by show _ ≤ wa5 lay x y; (first | ((try clear g5); (try clear g4); (try clear g3); (try clear g2); (try clear g1); (try clear w4); (try clear w2); (try clear w1); (try clear hm); (try clear r2); (try clear r1); (try clear hB); (try clear hne); omega) | omega)
  have k1 := cdK_b (w := 1) (o := oW 1 x y) g1 ⟨hl.1, hm⟩ (oW_b _ _ _) (by decide)
  have k2 := cdK_b (w := 2) (o := oW 2 x y) g2 ⟨hl.1, hm⟩ (oW_b _ _ _) (by decide)
  have k3 := cdK_b (w := 3) (o := oW 3 x y) g3 ⟨hl.1, hm⟩ (oW_b _ _ _) (by decide)
  have k4 := cdK_b (w := 4) (o := oW 4 x y) g4 ⟨hl.1, hm⟩ (oW_b _ _ _) (by decide)
  have k5 := cdK_b (w := 5) (o := oW 5 x y) g5 ⟨hl.1, hm⟩ (oW_b _ _ _) (by decide)
  have b1 := oW_b 1 x y
  have b2 := oW_b 2 x y
  have b3 := oW_b 3 x y
  have b4 := oW_b 4 x y
  have b5 := oW_b 5 x y
  unfold ck
  have n1 := w4 1 (by decide)
  have n2 := w4 2 (by decide)
  have n3 := w4 3 (by decide)
  have n4 := w4 4 (by decide)
  clear w4 e hmd hc hne
  generalize wayOf x y = q at *
  generalize cdK (waF 1 x y) 1 (oW 1 x y) = c1 at *
  generalize cdK (waF 2 x y) 2 (oW 2 x y) = c2 at *
  generalize cdK (waF 3 x y) 3 (oW 3 x y) = c3 at *
  generalize cdK (waF 4 x y) 4 (oW 4 x y) = c4 at *
  generalize cdK (waF 5 x y) 5 (oW 5 x y) = c5 at *
  obtain rfl | rfl | rfl | rfl | rfl : q = 1 ∨ q = 2 ∨ q = 3 ∨ q = 4 ∨ q = 5 := by (first | ((try clear n4); (try clear n3); (try clear n2); (try clear n1); (try clear b5); (try clear b4); (try clear b3); (try clear b2); (try clear b1); (try clear k5); (try clear k4); (try clear k3); (try clear k2); (try clear k1); (try clear g5); (try clear g4); (try clear g3); (try clear g2); (try clear g1); (try clear hmd); (try clear w4); (try clear w3); (try clear hm); (try clear hc); (try clear r2); (try clear r1); (try clear hB); (try clear hne); omega) | omega)
  · have w3 : waF 1 x y = wmin lay x y := w3
    clear n1 n2 n3 n4
    show _ = wmin lay x y * 16 + 1 * 2 + oW 1 x y
    have k1 : c1 = wmin lay x y * 16 + 1 * 2 + oW 1 x y := k1.elim (fun h => h.2) (fun h => by (first | ((try clear k1); (try clear n4); (try clear n3); (try clear n2); (try clear n1); (try clear b5); (try clear b4); (try clear b3); (try clear b2); (try clear b1); (try clear k5); (try clear k4); (try clear k3); (try clear k2); (try clear g5); (try clear g4); (try clear g3); (try clear g2); (try clear g1); (try clear hmd); (try clear w4); (try clear w2); (try clear w1); (try clear hm); (try clear hc); (try clear r2); (try clear r1); (try clear hB); (try clear hne); omega) | omega))
    (first | ((try clear w3); (try clear n4); (try clear n3); (try clear n2); (try clear n1); (try clear g5); (try clear g4); (try clear g3); (try clear g2); (try clear g1); (try clear hmd); (try clear w4); (try clear w2); (try clear w1); (try clear hm); (try clear hc); (try clear r2); (try clear r1); (try clear hB); (try clear hne); omega) | omega)
  · have w3 : waF 2 x y = wmin lay x y := w3
    have n1 := n1 (by decide)
    clear n2 n3 n4
    show _ = wmin lay x y * 16 + 2 * 2 + oW 2 x y
    have k1 : (wmin lay x y + 1) * 16 ≤ c1 := k1.elim (fun h => absurd h.1 n1) (fun h => h.2)
    have k2 : c2 = wmin lay x y * 16 + 2 * 2 + oW 2 x y := k2.elim (fun h => h.2) (fun h => by (first | ((try clear k2); (try clear k1); (try clear n1); (try clear n4); (try clear n3); (try clear n2); (try clear b5); (try clear b4); (try clear b3); (try clear b2); (try clear b1); (try clear k5); (try clear k4); (try clear k3); (try clear g5); (try clear g4); (try clear g3); (try clear g2); (try clear g1); (try clear hmd); (try clear w4); (try clear w2); (try clear w1); (try clear hm); (try clear hc); (try clear r2); (try clear r1); (try clear hB); (try clear hne); omega) | omega))
    (first | ((try clear w3); (try clear n4); (try clear n3); (try clear n2); (try clear b1); (try clear g5); (try clear g4); (try clear g3); (try clear g2); (try clear hmd); (try clear w4); (try clear w2); (try clear w1); (try clear hm); (try clear hc); (try clear r2); (try clear r1); (try clear hB); (try clear hne); omega) | omega)
  · have w3 : waF 3 x y = wmin lay x y := w3
    have n1 := n1 (by decide)
    have n2 := n2 (by decide)
    clear n3 n4
    show _ = wmin lay x y * 16 + 3 * 2 + oW 3 x y
    have k1 : (wmin lay x y + 1) * 16 ≤ c1 := k1.elim (fun h => absurd h.1 n1) (fun h => h.2)
    have k2 : (wmin lay x y + 1) * 16 ≤ c2 := k2.elim (fun h => absurd h.1 n2) (fun h => h.2)
    have k3 : c3 = wmin lay x y * 16 + 3 * 2 + oW 3 x y := k3.elim (fun h => h.2) (fun h => by (first | ((try clear k3); (try clear k2); (try clear k1); (try clear n2); (try clear n1); (try clear n4); (try clear n3); (try clear b5); (try clear b4); (try clear b3); (try clear b2); (try clear b1); (try clear k5); (try clear k4); (try clear g5); (try clear g4); (try clear g3); (try clear g2); (try clear g1); (try clear hmd); (try clear w4); (try clear w2); (try clear w1); (try clear hm); (try clear hc); (try clear r2); (try clear r1); (try clear hB); (try clear hne); omega) | omega))
    (first | ((try clear w3); (try clear n4); (try clear n3); (try clear b2); (try clear b1); (try clear g5); (try clear g4); (try clear g3); (try clear hmd); (try clear w4); (try clear w2); (try clear w1); (try clear hm); (try clear hc); (try clear r2); (try clear r1); (try clear hB); (try clear hne); omega) | omega)
  · have w3 : waF 4 x y = wmin lay x y := w3
    have n1 := n1 (by decide)
    have n2 := n2 (by decide)
    have n3 := n3 (by decide)
    clear n4
    show _ = wmin lay x y * 16 + 4 * 2 + oW 4 x y
    have k1 : (wmin lay x y + 1) * 16 ≤ c1 := k1.elim (fun h => absurd h.1 n1) (fun h => h.2)
    have k2 : (wmin lay x y + 1) * 16 ≤ c2 := k2.elim (fun h => absurd h.1 n2) (fun h => h.2)
    have k3 : (wmin lay x y + 1) * 16 ≤ c3 := k3.elim (fun h => absurd h.1 n3) (fun h => h.2)
    have k4 : c4 = wmin lay x y * 16 + 4 * 2 + oW 4 x y := k4.elim (fun h => h.2) (fun h => by (first | ((try clear k4); (try clear k3); (try clear k2); (try clear k1); (try clear n3); (try clear n2); (try clear n1); (try clear n4); (try clear b5); (try clear b4); (try clear b3); (try clear b2); (try clear b1); (try clear k5); (try clear g5); (try clear g4); (try clear g3); (try clear g2); (try clear g1); (try clear hmd); (try clear w4); (try clear w2); (try clear w1); (try clear hm); (try clear hc); (try clear r2); (try clear r1); (try clear hB); (try clear hne); omega) | omega))
    (first | ((try clear w3); (try clear n4); (try clear b3); (try clear b2); (try clear b1); (try clear g5); (try clear g4); (try clear hmd); (try clear w4); (try clear w2); (try clear w1); (try clear hm); (try clear hc); (try clear r2); (try clear r1); (try clear hB); (try clear hne); omega) | omega)
  · have w3 : waF 5 x y = wmin lay x y := w3
    have n1 := n1 (by decide)
    have n2 := n2 (by decide)
    have n3 := n3 (by decide)
    have n4 := n4 (by decide)
    show _ = wmin lay x y * 16 + 5 * 2 + oW 5 x y
    have k1 : (wmin lay x y + 1) * 16 ≤ c1 := k1.elim (fun h => absurd h.1 n1) (fun h => h.2)
    have k2 : (wmin lay x y + 1) * 16 ≤ c2 := k2.elim (fun h => absurd h.1 n2) (fun h => h.2)
    have k3 : (wmin lay x y + 1) * 16 ≤ c3 := k3.elim (fun h => absurd h.1 n3) (fun h => h.2)
    have k4 : (wmin lay x y + 1) * 16 ≤ c4 := k4.elim (fun h => absurd h.1 n4) (fun h => h.2)
    have k5 : c5 = wmin lay x y * 16 + 5 * 2 + oW 5 x y := k5.elim (fun h => h.2) (fun h => by (first | ((try clear k5); (try clear k4); (try clear k3); (try clear k2); (try clear k1); (try clear n4); (try clear n3); (try clear n2); (try clear n1); (try clear b5); (try clear b4); (try clear b3); (try clear b2); (try clear b1); (try clear g5); (try clear g4); (try clear g3); (try clear g2); (try clear g1); (try clear hmd); (try clear w4); (try clear w2); (try clear w1); (try clear hm); (try clear hc); (try clear r2); (try clear r1); (try clear hB); (try clear hne); omega) | omega))
    (first | ((try clear n4); (try clear n3); (try clear n2); (try clear n1); (try clear w3); (try clear b4); (try clear b3); (try clear b2); (try clear b1); (try clear g5); (try clear g4); (try clear g3); (try clear g2); (try clear g1); (try clear hmd); (try clear w4); (try clear w2); (try clear w1); (try clear hm); (try clear hc); (try clear r2); (try clear r1); (try clear hB); (try clear hne); omega) | omega)
theorem cdK_far {c w o : Int} (h : 1000000 ≤ c) : cdK c w o = 268435456 := if_neg (by omega)
theorem cdK_ok {c w o : Int} (h : c < 1000000) : cdK c w o = c * 16 + w * 2 + o := if_pos h
theorem enc_0 : enc .leaf .leaf = 1 := rfl
theorem ck_off {x y : Rw} (h : hsd x = false ∨ hsd y = false) : ck 1 x y = 268435456 ∧ ck 2 x y = 268435456 ∧ ck 3 x y = 268435456 ∧ (hsd x = false → ck 4 x y = 268435456) ∧ (hsd y = false → ck 5 x y = 268435456) := by
  obtain ⟨h1, h2, h3, h4⟩ := wa_off (w := x) (b := y)
  obtain ⟨a1, a2, a3⟩ := h1 h
  refine ⟨cdK_far ?_, cdK_far ?_, cdK_far ?_, fun q => cdK_far ?_, fun q => cdK_far ?_⟩
  · show 1000000 ≤ wa1 lay x y; (first | ((try clear a3); (try clear a2); (try clear h4); (try clear h3); (try clear h2); (try clear h1); (try clear h); omega) | omega)
  · show 1000000 ≤ wa2 lay x y; (first | ((try clear a3); (try clear a1); (try clear h4); (try clear h3); (try clear h2); (try clear h1); (try clear h); omega) | omega)
  · show 1000000 ≤ wa3 lay x y; (first | ((try clear a2); (try clear a1); (try clear h4); (try clear h3); (try clear h2); (try clear h1); (try clear h); omega) | omega)
  · show 1000000 ≤ wa4 lay x y; rw [h2 q]; decide
  · show 1000000 ≤ wa5 lay x y; rw [h3 q]; decide
theorem enc_4 {x y : Rw} (hx : hsd x = true) (hy : hsd y = false) (hB : rN x + rN y ≤ 3000) : min 268435456 (ck 4 x y) = enc x y := by
  obtain ⟨h1, h2, h3, -, h5⟩ := ck_off (x := x) (y := y) (Or.inr hy)
  rw [← enc_all (Or.inl hx) hB, h1, h2, h3, h5 hy]
  (first | ((try clear h5); (try clear h3); (try clear h2); (try clear h1); (try clear hB); (try clear hy); omega) | omega)
theorem enc_5 {x y : Rw} (hx : hsd x = false) (hy : hsd y = true) (hB : rN x + rN y ≤ 3000) : min 268435456 (ck 5 x y) = enc x y := by
  obtain ⟨h1, h2, h3, h4, -⟩ := ck_off (x := x) (y := y) (Or.inl hx)
  rw [← enc_all (Or.inr hy) hB, h1, h2, h3, h4 hx]
  (first | ((try clear h4); (try clear h3); (try clear h2); (try clear h1); (try clear hB); (try clear hy); omega) | omega)
theorem al_lf {z k z2 k2 : Nat} {v v2 : Int} {l r l2 r2 : Rw} (a1 : iW0 k v l) (b1 : iW0 k2 v2 l2) (hk : k < 3) : ialk k v l k2 v2 l2 ↔ sAl (sG k v) (sG k2 v2) := by
  rw [sG_al a1 b1]
  constructor
  · exact fun h => h.imp (fun q => q) (fun q => ⟨q.1, q.2.1, q.2.2.1⟩)
  · refine fun h => h.imp (fun q => q) (fun q => ⟨q.1, q.2.1, q.2.2, ?_⟩)
    rw [a1.2.1 hk, b1.2.1 (by omega)]
    trivial
theorem ck1_lf {z k z2 k2 : Nat} {v v2 : Int} {l r l2 r2 : Rw} (a1 : iW0 k v l) (b1 : iW0 k2 v2 l2) (hk : k < 3) (hB : rN (Std.DTreeMap.Internal.Impl.inner z k v l r : Rw) + rN (Std.DTreeMap.Internal.Impl.inner z2 k2 v2 l2 r2 : Rw) ≤ 3000) : (sAl (sG k v) (sG k2 v2) → ck 1 (Std.DTreeMap.Internal.Impl.inner z k v l r : Rw) (Std.DTreeMap.Internal.Impl.inner z2 k2 v2 l2 r2 : Rw) = (sCo (sG k v) (sG k2 v2) + (lay r r2).1) * 16 + 1 * 2) ∧ (¬ sAl (sG k v) (sG k2 v2) → ck 1 (Std.DTreeMap.Internal.Impl.inner z k v l r : Rw) (Std.DTreeMap.Internal.Impl.inner z2 k2 v2 l2 r2 : Rw) = 268435456) := by
  have hl := layB r r2
  have p1 : rN (Std.DTreeMap.Internal.Impl.inner z k v l r : Rw) = 1 + rN l + rN r := rN_in
  have p3 := rL_N l
  have p4 := rL_N r
  have p2 : rN (Std.DTreeMap.Internal.Impl.inner z2 k2 v2 l2 r2 : Rw) = 1 + rN l2 + rN r2 := rN_in
  have p5 := rL_N l2
  have p6 := rL_N r2
  have e : waF 1 (Std.DTreeMap.Internal.Impl.inner z k v l r : Rw) (Std.DTreeMap.Internal.Impl.inner z2 k2 v2 l2 r2 : Rw) = (if k < 3 then (if ialkB k v l k2 v2 l2 = true then fC k v k2 v2 (rfC l l2) else 1000000) else if k = 4 ∧ k2 = 4 then (if (lay l l2).2 = true then 1000000 else (lay l l2).1) else 1000000) + (lay r r2).1 := rfl
  rw [if_pos hk] at e
  constructor
  · intro h
    have h1 := (al_lf a1 b1 hk (z := 0) (z2 := 0) (r := .leaf) (r2 := .leaf)).mpr h
    rw [if_pos (ialkB_is.mpr h1)] at e
    have hc := sCo_fC a1 b1 ((sG_al a1 b1).mp h)
    have h01 := sCo_01 (sG k v) (sG k2 v2)
    have hf : fC k v k2 v2 (rfC l l2) = sCo (sG k v) (sG k2 v2) := by
      rw [hc, a1.2.1 hk]
      have : rfC (.leaf : Rw) l2 = 0 := by cases l2 <;> rfl
      rw [this]
    rw [hf] at e
    unfold ck
    rw [e, cdK_ok (by (first | ((try clear h1); (try clear h); (try clear p3); (try clear hk); omega) | omega)), show oW 1 (Std.DTreeMap.Internal.Impl.inner z k v l r : Rw) (Std.DTreeMap.Internal.Impl.inner z2 k2 v2 l2 r2 : Rw) = 0 from rfl]
    (first | ((try clear hf); (try clear h01); (try clear hc); (try clear h1); (try clear h); (try clear p6); (try clear p5); (try clear p2); (try clear p4); (try clear p3); (try clear p1); (try clear hB); (try clear hk); omega) | omega)
  · intro h
    rw [if_neg (fun q => h ((al_lf a1 b1 hk (z := 0) (z2 := 0) (r := .leaf) (r2 := .leaf)).mp (ialkB_is.mp q)))] at e
    exact cdK_far (by (first | ((try clear h); (try clear p6); (try clear p5); (try clear p2); (try clear p4); (try clear p3); (try clear p1); (try clear hB); (try clear hk); omega) | omega))
theorem ck1_op {z k z2 k2 : Nat} {v v2 : Int} {l r l2 r2 : Rw} (hk : 3 ≤ k) (hB : rN (Std.DTreeMap.Internal.Impl.inner z k v l r : Rw) + rN (Std.DTreeMap.Internal.Impl.inner z2 k2 v2 l2 r2 : Rw) ≤ 3000) : (k = 4 → k2 = 4 → bt (lay l l2).2 = 0 → ck 1 (Std.DTreeMap.Internal.Impl.inner z k v l r : Rw) (Std.DTreeMap.Internal.Impl.inner z2 k2 v2 l2 r2 : Rw) = ((lay l l2).1 + (lay r r2).1) * 16 + 1 * 2) ∧ (k = 4 → k2 = 4 → ¬ bt (lay l l2).2 = 0 → ck 1 (Std.DTreeMap.Internal.Impl.inner z k v l r : Rw) (Std.DTreeMap.Internal.Impl.inner z2 k2 v2 l2 r2 : Rw) = 268435456) ∧ (¬ (k = 4 ∧ k2 = 4) → ck 1 (Std.DTreeMap.Internal.Impl.inner z k v l r : Rw) (Std.DTreeMap.Internal.Impl.inner z2 k2 v2 l2 r2 : Rw) = 268435456) := by
  have hl := layB r r2
  have hi := layB l l2
  have p1 : rN (Std.DTreeMap.Internal.Impl.inner z k v l r : Rw) = 1 + rN l + rN r := rN_in
  have p3 := rL_N l
  have p4 := rL_N r
  have p2 : rN (Std.DTreeMap.Internal.Impl.inner z2 k2 v2 l2 r2 : Rw) = 1 + rN l2 + rN r2 := rN_in
  have p5 := rL_N l2
  have p6 := rL_N r2
  have e : waF 1 (Std.DTreeMap.Internal.Impl.inner z k v l r : Rw) (Std.DTreeMap.Internal.Impl.inner z2 k2 v2 l2 r2 : Rw) = (if k < 3 then (if ialkB k v l k2 v2 l2 = true then fC k v k2 v2 (rfC l l2) else 1000000) else if k = 4 ∧ k2 = 4 then (if (lay l l2).2 = true then 1000000 else (lay l l2).1) else 1000000) + (lay r r2).1 := rfl
  rw [if_neg (by (first | ((try clear p6); (try clear p5); (try clear p2); (try clear p4); (try clear p3); (try clear p1); (try clear hi); (try clear hB); omega) | omega))] at e
  refine ⟨fun c1 c2 c3 => ?_, fun c1 c2 c3 => ?_, fun c => ?_⟩
  · rw [if_pos ⟨c1, c2⟩, if_neg (fun h => by rw [bt_t h] at c3; exact absurd c3 (by decide))] at e
    unfold ck
    rw [e, cdK_ok (by (first | ((try clear c3); (try clear c2); (try clear c1); (try clear hk); omega) | omega)), show oW 1 (Std.DTreeMap.Internal.Impl.inner z k v l r : Rw) (Std.DTreeMap.Internal.Impl.inner z2 k2 v2 l2 r2 : Rw) = 0 from rfl]
    (first | ((try clear c3); (try clear c2); (try clear c1); (try clear p6); (try clear p5); (try clear p2); (try clear p4); (try clear p3); (try clear p1); (try clear hi); (try clear hB); (try clear hk); omega) | omega)
  · rw [if_pos ⟨c1, c2⟩, if_pos (Classical.byContradiction fun h => c3 (bt_f h))] at e
    exact cdK_far (by (first | ((try clear c3); (try clear c2); (try clear c1); (try clear p6); (try clear p5); (try clear p2); (try clear p4); (try clear p3); (try clear p1); (try clear hi); (try clear hB); (try clear hk); omega) | omega))
  · rw [if_neg c] at e
    exact cdK_far (by (first | ((try clear c3); (try clear c2); (try clear c1); (try clear p6); (try clear p5); (try clear p2); (try clear p4); (try clear p3); (try clear p1); (try clear hi); (try clear hB); (try clear hk); omega) | omega))
theorem rfC_sL (l y : Rw) : 0 ≤ rfC l y ∧ rfC l y ≤ rN l := rfC_rng l y
theorem drop_B (m : Nat) (y : Rw) : rL (rdrop m y) ≤ rL y := rdrop_L m y
theorem ck2_is {z k z2 k2 : Nat} {v v2 : Int} {l r l2 r2 : Rw} (hB : rN (Std.DTreeMap.Internal.Impl.inner z k v l r : Rw) + rN (Std.DTreeMap.Internal.Impl.inner z2 k2 v2 l2 r2 : Rw) ≤ 3000) : (3 ≤ k → nxt l (Std.DTreeMap.Internal.Impl.inner z2 k2 v2 l2 r2 : Rw) → ck 2 (Std.DTreeMap.Internal.Impl.inner z k v l r : Rw) (Std.DTreeMap.Internal.Impl.inner z2 k2 v2 l2 r2 : Rw) = (rfC l (Std.DTreeMap.Internal.Impl.inner z2 k2 v2 l2 r2 : Rw) + (lay r (rdrop (rI l) (Std.DTreeMap.Internal.Impl.inner z2 k2 v2 l2 r2 : Rw))).1) * 16 + 2 * 2 + (if k = 3 then bt (lay r (rdrop (rI l) (Std.DTreeMap.Internal.Impl.inner z2 k2 v2 l2 r2 : Rw))).2 else 0)) ∧ (k < 3 ∨ ¬ nxt l (Std.DTreeMap.Internal.Impl.inner z2 k2 v2 l2 r2 : Rw) → ck 2 (Std.DTreeMap.Internal.Impl.inner z k v l r : Rw) (Std.DTreeMap.Internal.Impl.inner z2 k2 v2 l2 r2 : Rw) = 268435456) := by
  have e : waF 2 (Std.DTreeMap.Internal.Impl.inner z k v l r : Rw) (Std.DTreeMap.Internal.Impl.inner z2 k2 v2 l2 r2 : Rw) = if k < 3 ∨ nxtB l (Std.DTreeMap.Internal.Impl.inner z2 k2 v2 l2 r2 : Rw) = false then 1000000 else rfC l (Std.DTreeMap.Internal.Impl.inner z2 k2 v2 l2 r2 : Rw) + (lay r (rdrop (rI l) (Std.DTreeMap.Internal.Impl.inner z2 k2 v2 l2 r2 : Rw))).1 := rfl
  have eo : oW 2 (Std.DTreeMap.Internal.Impl.inner z k v l r : Rw) (Std.DTreeMap.Internal.Impl.inner z2 k2 v2 l2 r2 : Rw) = bt (k == 3 && (lay r (rdrop (rI l) (Std.DTreeMap.Internal.Impl.inner z2 k2 v2 l2 r2 : Rw))).2) := rfl
  have hl := layB r (rdrop (rI l) (Std.DTreeMap.Internal.Impl.inner z2 k2 v2 l2 r2 : Rw))
  have p1 : rN (Std.DTreeMap.Internal.Impl.inner z k v l r : Rw) = 1 + rN l + rN r := rN_in
  have p3 := rL_N l
  have p4 := rL_N r
  have q2 := drop_B (rI l) (Std.DTreeMap.Internal.Impl.inner z2 k2 v2 l2 r2 : Rw)
  have q4 := rL_N (Std.DTreeMap.Internal.Impl.inner z2 k2 v2 l2 r2 : Rw)
  have q3 := rfC_sL l (Std.DTreeMap.Internal.Impl.inner z2 k2 v2 l2 r2 : Rw)
  constructor
  · intro hk hn
    have hn2 := (nxtB_is l (Std.DTreeMap.Internal.Impl.inner z2 k2 v2 l2 r2 : Rw)).mpr hn
    rw [if_neg (fun h => h.elim (fun h => by (first | ((try clear hn2); (try clear hn); (try clear q3); (try clear q4); (try clear q2); (try clear p4); (try clear p3); (try clear p1); (try clear eo); (try clear hB); omega) | omega)) (fun h => by rw [hn2] at h; cases h))] at e
    unfold ck
    rw [e, eo, cdK_ok (by (first | ((try clear hn2); (try clear hn); (try clear hk); (try clear p3); (try clear eo); omega) | omega))]
    congr 1
    by_cases h3 : k = 3
    · rw [if_pos h3, beq_iff_eq.mpr h3, Bool.true_and]
    · rw [if_neg h3, beq_eq_false_iff_ne.mpr h3, Bool.false_and]
      rfl
  · intro h
    have h2 : k < 3 ∨ nxtB l (Std.DTreeMap.Internal.Impl.inner z2 k2 v2 l2 r2 : Rw) = false := h.imp (fun q => q) (fun q => by
      cases hq : nxtB l (Std.DTreeMap.Internal.Impl.inner z2 k2 v2 l2 r2 : Rw) with
      | false => rfl
      | true => exact absurd ((nxtB_is _ _).mp hq) q)
    rw [if_pos h2] at e
    exact cdK_far (by (first | ((try clear h2); (try clear h); (try clear q3); (try clear q4); (try clear q2); (try clear p4); (try clear p3); (try clear p1); (try clear eo); (try clear hB); omega) | omega))
theorem ck3_is {z k z2 k2 : Nat} {v v2 : Int} {l r l2 r2 : Rw} (hB : rN (Std.DTreeMap.Internal.Impl.inner z k v l r : Rw) + rN (Std.DTreeMap.Internal.Impl.inner z2 k2 v2 l2 r2 : Rw) ≤ 3000) : (k2 = 4 → nxt l2 (Std.DTreeMap.Internal.Impl.inner z k v l r : Rw) → ck 3 (Std.DTreeMap.Internal.Impl.inner z k v l r : Rw) (Std.DTreeMap.Internal.Impl.inner z2 k2 v2 l2 r2 : Rw) = (rfC l2 (Std.DTreeMap.Internal.Impl.inner z k v l r : Rw) + (lay (rdrop (rI l2) (Std.DTreeMap.Internal.Impl.inner z k v l r : Rw)) r2).1) * 16 + 3 * 2) ∧ (k2 ≠ 4 ∨ ¬ nxt l2 (Std.DTreeMap.Internal.Impl.inner z k v l r : Rw) → ck 3 (Std.DTreeMap.Internal.Impl.inner z k v l r : Rw) (Std.DTreeMap.Internal.Impl.inner z2 k2 v2 l2 r2 : Rw) = 268435456) := by
  have e : waF 3 (Std.DTreeMap.Internal.Impl.inner z k v l r : Rw) (Std.DTreeMap.Internal.Impl.inner z2 k2 v2 l2 r2 : Rw) = if k2 ≠ 4 ∨ nxtB l2 (Std.DTreeMap.Internal.Impl.inner z k v l r : Rw) = false then 1000000 else rfC l2 (Std.DTreeMap.Internal.Impl.inner z k v l r : Rw) + (lay (rdrop (rI l2) (Std.DTreeMap.Internal.Impl.inner z k v l r : Rw)) r2).1 := rfl
  have hl := layB (rdrop (rI l2) (Std.DTreeMap.Internal.Impl.inner z k v l r : Rw)) r2
  have p2 : rN (Std.DTreeMap.Internal.Impl.inner z2 k2 v2 l2 r2 : Rw) = 1 + rN l2 + rN r2 := rN_in
  have p5 := rL_N l2
  have p6 := rL_N r2
  have q2 := drop_B (rI l2) (Std.DTreeMap.Internal.Impl.inner z k v l r : Rw)
  have q4 := rL_N (Std.DTreeMap.Internal.Impl.inner z k v l r : Rw)
  have q3 := rfC_sL l2 (Std.DTreeMap.Internal.Impl.inner z k v l r : Rw)
  constructor
  · intro hk hn
    have hn2 := (nxtB_is l2 (Std.DTreeMap.Internal.Impl.inner z k v l r : Rw)).mpr hn
    rw [if_neg (fun h => h.elim (fun h => h hk) (fun h => by rw [hn2] at h; cases h))] at e
    unfold ck
    rw [e, cdK_ok (by (first | ((try clear hn2); (try clear hn); (try clear hk); (try clear p5); omega) | omega)), show oW 3 (Std.DTreeMap.Internal.Impl.inner z k v l r : Rw) (Std.DTreeMap.Internal.Impl.inner z2 k2 v2 l2 r2 : Rw) = 0 from rfl]
    (first | ((try clear hn2); (try clear hn); (try clear hk); (try clear q3); (try clear q4); (try clear q2); (try clear p6); (try clear p5); (try clear p2); (try clear hB); omega) | omega)
  · intro h
    have h2 : k2 ≠ 4 ∨ nxtB l2 (Std.DTreeMap.Internal.Impl.inner z k v l r : Rw) = false := h.imp (fun q => q) (fun q => by
      cases hq : nxtB l2 (Std.DTreeMap.Internal.Impl.inner z k v l r : Rw) with
      | false => rfl
      | true => exact absurd ((nxtB_is _ _).mp hq) q)
    rw [if_pos h2] at e
    exact cdK_far (by (first | ((try clear h2); (try clear h); (try clear q3); (try clear q4); (try clear q2); (try clear p6); (try clear p5); (try clear p2); (try clear hB); omega) | omega))
theorem rL1_b (k : Nat) (l : Rw) : 0 ≤ rL1 k l ∧ rL1 k l ≤ 1 + (rL l : Int) := by
  unfold rL1
  split <;> omega
theorem ck4_is {z k : Nat} {v : Int} {l r y : Rw} (hB : rN (Std.DTreeMap.Internal.Impl.inner z k v l r : Rw) + rN y ≤ 3000) : ck 4 (Std.DTreeMap.Internal.Impl.inner z k v l r : Rw) y = ((if k = 3 then 0 else rL1 k l) + (lay r y).1) * 16 + 4 * 2 + bt (lay r y).2 := by
  have e : waF 4 (Std.DTreeMap.Internal.Impl.inner z k v l r : Rw) y = (if k = 3 then 0 else rL1 k l) + (lay r y).1 := rfl
  have eo : oW 4 (Std.DTreeMap.Internal.Impl.inner z k v l r : Rw) y = bt (lay r y).2 := rfl
  have hl := layB r y
  have q3 := rL1_b k l
  have q8 := rL_N y
  have q9 := rL_N (Std.DTreeMap.Internal.Impl.inner z k v l r : Rw)
  have q7 := rL_lr (z := z) (k := k) (v := v) (l := l) (r := r)
  have q5 : (if k = 3 then 0 else rL1 k l : Int) ≤ rL1 k l := by split <;> (first | ((try clear q5); (try clear q7); (try clear q9); (try clear q8); (try clear eo); (try clear hB); omega) | omega)
  unfold ck
  rw [e, eo, cdK_ok (by (first | ((try clear eo); omega) | omega))]
theorem ck5_is {z2 k2 : Nat} {v2 : Int} {l2 r2 x : Rw} (hB : rN x + rN (Std.DTreeMap.Internal.Impl.inner z2 k2 v2 l2 r2 : Rw) ≤ 3000) : ck 5 x (Std.DTreeMap.Internal.Impl.inner z2 k2 v2 l2 r2 : Rw) = (rL1 k2 l2 + (lay x r2).1) * 16 + 5 * 2 + bt (lay x r2).2 := by
  have e : waF 5 x (Std.DTreeMap.Internal.Impl.inner z2 k2 v2 l2 r2 : Rw) = rL1 k2 l2 + (lay x r2).1 := by cases x <;> rfl
  have eo : oW 5 x (Std.DTreeMap.Internal.Impl.inner z2 k2 v2 l2 r2 : Rw) = bt (lay x r2).2 := by cases x <;> rfl
  have hl := layB x r2
  have q3 := rL1_b k2 l2
  have q8 := rL_N x
  have q9 := rL_N (Std.DTreeMap.Internal.Impl.inner z2 k2 v2 l2 r2 : Rw)
  have q7 := rL_lr (z := z2) (k := k2) (v := v2) (l := l2) (r := r2)
  unfold ck
  rw [e, eo, cdK_ok (by (first | ((try clear eo); omega) | omega))]

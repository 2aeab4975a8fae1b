/-! tokens that a row asks for at least; what a fold does to a page's row: no more tokens, fewer items -/
def rT : Rw → Nat
  | .leaf => 0
  | .inner _ k _ l r => (if k < 3 then 1 else 2 * rT l) + rT r
theorem rT_in {z k : Nat} {v : Int} {l r : Rw} : rT (Std.DTreeMap.Internal.Impl.inner z k v l r : Rw) = (if k < 3 then 1 else 2 * rT l) + rT r := rfl
/-- no options in it -/
def rPg : Rw → Prop
  | .leaf => True
  | .inner _ k _ l r => k ≠ 3 ∧ rPg l ∧ rPg r
theorem ralk_T : ∀ (x y : Rw), ralk x y → rT x = rT y
  | .leaf, .leaf, _ => rfl
  | .leaf, .inner _ _ _ _ _, h => h.elim
  | .inner _ _ _ _ _, .leaf, h => h.elim
  | .inner _ k v l r, .inner _ k2 v2 l2 r2, ⟨h1, h2⟩ => by
    rw [rT_in, rT_in, ralk_T r r2 h2]
    rcases h1 with ⟨a1, a2⟩ | ⟨a1, a2, a3, a4⟩
    · unfold isTx at a1 a2
      rw [if_pos (by omega), if_pos (by omega)]
    · rw [← a2, ralk_T l l2 a4]
theorem fK_eq {k : Nat} {v : Int} {k2 : Nat} {v2 : Int} (h : ¬ isTx k) : fK k v k2 v2 = k := by
  unfold fK; unfold isTx at h; rw [if_neg h]
theorem rfus_T : ∀ (x y : Rw), ralk x y → rT (rfus x y) = rT x
  | .leaf, y, _ => by cases y <;> rfl
  | .inner _ _ _ _ _, .leaf, h => h.elim
  | .inner _ k v l r, .inner _ k2 v2 l2 r2, ⟨h1, h2⟩ => by
    rw [rfus, rT_in, rT_in, rfus_T r r2 h2]
    rcases h1 with ⟨a1, a2⟩ | ⟨a1, a2, a3, a4⟩
    · have h9 : isTx (fK k v k2 v2) := fK_tx.mpr a1
      unfold isTx at a1 h9
      rw [if_pos (by omega), if_pos (by omega)]
    · rw [fK_eq a1, rfus_T l l2 a4]
theorem rfus_Pg : ∀ (x y : Rw), rPg x → rPg (rfus x y)
  | .leaf, y, _ => by cases y <;> trivial
  | .inner _ _ _ _ _, .leaf, _ => trivial
  | .inner _ k v l r, .inner _ k2 v2 l2 r2, ⟨h1, h2, h3⟩ => by
    refine ⟨?_, rfus_Pg l l2 h2, rfus_Pg r r2 h3⟩
    by_cases h : isTx k
    · have h9 : isTx (fK k v k2 v2) := fK_tx.mpr h
      unfold isTx at h9
      omega
    · rw [fK_eq h]; exact h1
theorem rpre_T : ∀ (m : Nat) (w x : Rw), rT (rpre m w x) + rT (rdrop m w) = rT w + rT x
  | 0, w, x => by rw [rpre, rdrop]; omega
  | m + 1, .leaf, x => by rw [rpre, rdrop]; omega
  | m + 1, .inner z k v l r, x => by
    have := rpre_T m r x
    rw [rpre, rdrop, rT_in, rT_in]; omega
theorem rpre_I : ∀ (m : Nat) (w x : Rw), m ≤ rI w → rI (rpre m w x) = m + rI x
  | 0, w, x, _ => by rw [rpre]; omega
  | m + 1, .leaf, x, h => by have : rI (Std.DTreeMap.Internal.Impl.leaf : Rw) = 0 := rfl; omega
  | m + 1, .inner z k v l r, x, h => by
    rw [rI_in] at h
    rw [rpre, rI_in, rpre_I m r x (by omega)]; omega
theorem rpre_Pg : ∀ (m : Nat) (w x : Rw), rPg w → rPg x → rPg (rpre m w x)
  | 0, _, _, _, h => h
  | _ + 1, .leaf, _, _, h => h
  | m + 1, .inner z k v l r, x, ⟨h1, h2, h3⟩, h => ⟨h1, h2, rpre_Pg m r x h3 h⟩
theorem rdrop_Pg : ∀ (m : Nat) (w : Rw), rPg w → rPg (rdrop m w)
  | 0, _, h => h
  | _ + 1, .leaf, h => h
  | m + 1, .inner _ _ _ _ r, h => rdrop_Pg m r h.2.2
theorem hd1_Pg {x : Rw} (h : rPg x) : rPg (hd1 x) := by
  cases x with
  | leaf => trivial
  | inner z k v l r => exact ⟨h.1, h.2.1, trivial⟩
theorem rdrop_add : ∀ (m n : Nat) (w : Rw), rdrop (m + n) w = rdrop n (rdrop m w)
  | 0, n, w => by rw [Nat.zero_add]; rfl
  | m + 1, n, .leaf => by rw [show m + 1 + n = (m + n) + 1 by omega]; cases n <;> rfl
  | m + 1, n, .inner _ _ _ _ r => by rw [show m + 1 + n = (m + n) + 1 by omega, rdrop, rdrop, rdrop_add m n r]
theorem rT_drop1 (w : Rw) : rT w = rT (hd1 w) + rT (rdrop 1 w) := by
  cases w with
  | leaf => rfl
  | inner z k v l r =>
    have e : rT (Std.DTreeMap.Internal.Impl.leaf : Rw) = 0 := rfl
    have e2 : rdrop 1 (Std.DTreeMap.Internal.Impl.inner z k v l r : Rw) = r := by cases r <;> rfl
    rw [e2, hd1, rT_in, rT_in, e]; (first | ((try clear e2); (try clear v); (try clear z); omega) | omega)
theorem rT_dropS (m : Nat) (w : Rw) : rT (rdrop m w) = rT (hd1 (rdrop m w)) + rT (rdrop (m + 1) w) := by
  rw [rdrop_add m 1 w]; exact rT_drop1 _
theorem rT_dropL (m n : Nat) (w : Rw) : rT (rdrop (m + n) w) ≤ rT (rdrop m w) := by
  induction n with
  | zero => exact Nat.le_refl _
  | succ n ih => have := rT_dropS (m + n) w; rw [show m + n + 1 = m + (n + 1) by omega] at this; omega
theorem rT_setR (y x : Rw) : rT (setR y x) ≤ rT y + rT x := by
  cases y with
  | leaf =>
    rw [setR]; omega
  | inner z k v l r => rw [setR, rT_in, rT_in]; (first | ((try clear v); (try clear z); omega) | omega)
theorem facc_T {w : Rw} {a n1 k n : Nat} (hwf : rWF w) (hal : ∀ e : Nat, 1 ≤ e → e < n → halk (rdrop (a + k) w) (rdrop (a + e * n1 + k) w)) : ∀ e : Nat, e < n → rT (facc w a n1 k e) = rT (hd1 (rdrop (a + k) w))
  | 0, _ => rfl
  | e + 1, he => by
    obtain ⟨h1, h2, h3, h4⟩ := facc_ok hwf hal e (by (first | ((try clear hal); omega) | omega))
    have h5 := halk_hd (hal (e + 1) (by (first | ((try clear hal); omega) | omega)) he)
    rw [facc, rfus_T _ _ (h1 _ h5), facc_T hwf hal e (by (first | ((try clear hal); omega) | omega))]
theorem facc_Pg {w : Rw} {a n1 k : Nat} (h : rPg w) : ∀ e : Nat, rPg (facc w a n1 k e)
  | 0 => hd1_Pg (rdrop_Pg _ _ h)
  | e + 1 => rfus_Pg _ _ (facc_Pg h e)
theorem setR_Pg {y x : Rw} (h1 : rPg y) (h2 : rPg x) : rPg (setR y x) := by
  cases y with
  | leaf => trivial
  | inner z k v l r => exact ⟨h1.1, h1.2.1, h2⟩
theorem setR_WF {y x : Rw} (h1 : rWF y) (h2 : rWF x) : rWF (setR y x) := by
  cases y with
  | leaf => trivial
  | inner z k v l r =>
    obtain ⟨f1, f2, f3, f4, f5, f6, f7, f8⟩ := h1
    exact ⟨f1, f2, f3, f4, f5, f6, f7, h2⟩
theorem frow_Pg {w : Rw} {a n1 n : Nat} (h : rPg w) : ∀ m j : Nat, rPg (frow w a n1 n j m)
  | 0, _ => trivial
  | m + 1, j => setR_Pg (facc_Pg h _) (frow_Pg h m (j + 1))
theorem frow_WF {w : Rw} {a n1 n : Nat} (hn : 1 ≤ n) (hwf : rWF w) (hal : ∀ e m : Nat, 1 ≤ e → e < n → m < n1 → halk (rdrop (a + m) w) (rdrop (a + e * n1 + m) w)) : ∀ m j : Nat, j + m = n1 → rWF (frow w a n1 n j m)
  | 0, _, _ => trivial
  | m + 1, j, h => setR_WF (facc_ok (n := n) hwf (fun e q1 q2 => hal e j q1 q2 (by (first | ((try clear hal); (try clear hn); omega) | omega))) (n - 1) (by (first | ((try clear hal); omega) | omega))).2.1 (frow_WF hn hwf hal m (j + 1) (by (first | ((try clear hal); (try clear hn); omega) | omega)))
theorem frow_T {w : Rw} {a n1 n : Nat} (hn : 1 ≤ n) (hwf : rWF w) (hal : ∀ e m : Nat, 1 ≤ e → e < n → m < n1 → halk (rdrop (a + m) w) (rdrop (a + e * n1 + m) w)) : ∀ m j : Nat, j + m = n1 → rT (frow w a n1 n j m) + rT (rdrop (a + j + m) w) ≤ rT (rdrop (a + j) w)
  | 0, j, _ => by
    have e : rT (frow w a n1 n j 0) = 0 := rfl
    rw [e, Nat.add_zero, Nat.zero_add]
    exact Nat.le_refl _
  | m + 1, j, h => by
    have h1 := frow_T hn hwf hal m (j + 1) (by (first | ((try clear hal); (try clear hn); omega) | omega))
    have h2 := facc_T (n := n) hwf (fun e q1 q2 => hal e j q1 q2 (by (first | ((try clear hal); (try clear hn); omega) | omega))) (n - 1) (by (first | ((try clear hal); omega) | omega))
    have h3 := rT_setR (facc w a n1 j (n - 1)) (frow w a n1 n (j + 1) m)
    have h4 := rT_dropS (a + j) w
    rw [frow]
    rw [show a + (j + 1) = a + j + 1 by (first | ((try clear hal); (try clear hn); omega) | omega)] at h1
    rw [show a + j + (m + 1) = a + j + 1 + m by (first | ((try clear hal); (try clear hn); omega) | omega)]
    (first | ((try clear hal); (try clear hn); omega) | omega)
theorem seg_T {w : Rw} {a b : Nat} : ∀ m : Nat, (∀ i : Nat, i < m → rT (hd1 (rdrop (a + i) w)) = rT (hd1 (rdrop (b + i) w))) → rT (rdrop a w) + rT (rdrop (b + m) w) = rT (rdrop b w) + rT (rdrop (a + m) w)
  | 0, _ => by rw [Nat.add_zero, Nat.add_zero]; omega
  | m + 1, h => by
    have h1 := seg_T m (fun i hi => h i (by omega))
    have h2 := rT_dropS (a + m) w
    have h3 := rT_dropS (b + m) w
    have h4 := h m (by omega)
    rw [show a + m + 1 = a + (m + 1) by omega] at h2
    rw [show b + m + 1 = b + (m + 1) by omega] at h3
    omega
theorem rput_T {w : Rw} {a n1 n : Nat} (hwf : rWF w) (hf : isFold w a n1 n) : rT (rput w a n1 n) ≤ rT w := by
  obtain ⟨hn1, hn, hI, hal, _⟩ := hf
  have h1 := rpre_T a w (Std.DTreeMap.Internal.Impl.inner 0 4 (-1) (frow w a n1 n 0 n1) (rdrop (a + n * n1) w))
  rw [rT_in, if_neg (by (first | ((try clear h1); (try clear hal); (try clear hI); (try clear hn); (try clear hn1); omega) | omega))] at h1
  have h2 := frow_T (a := a) (by (first | ((try clear h2); (try clear h1); (try clear hal); (try clear hI); (try clear hn1); omega) | omega)) hwf hal n1 0 (by (first | ((try clear h2); (try clear h1); (try clear hal); (try clear hI); (try clear hn); (try clear hn1); omega) | omega))
  rw [Nat.add_zero] at h2
  have h3 := seg_T (w := w) (a := a) (b := a + n1) n1 (fun i hi => by
    have h9 := halk_hd (hal 1 i (by (first | ((try clear h9); (try clear hi); (try clear h3); (try clear h2); (try clear h1); (try clear hal); (try clear hI); (try clear hn); (try clear hn1); omega) | omega)) (by (first | ((try clear h9); (try clear hi); (try clear h3); (try clear h2); (try clear h1); (try clear hal); (try clear hI); (try clear hn1); omega) | omega)) hi)
    rw [Nat.one_mul] at h9
    exact ralk_T _ _ h9)
  have h4 := rT_dropL (a + n1 + n1) (n * n1 - 2 * n1) w
  have h5 : 2 * n1 ≤ n * n1 := Nat.mul_le_mul_right _ hn
  rw [show a + n1 + n1 + (n * n1 - 2 * n1) = a + n * n1 by (first | ((try clear h4); (try clear h3); (try clear h2); (try clear h1); (try clear hal); (try clear hI); (try clear hn); (try clear hn1); omega) | omega)] at h4
  unfold rput
  (first | ((try clear h5); (try clear hal); (try clear hI); (try clear hn); (try clear hn1); omega) | omega)
theorem rput_I {w : Rw} {a n1 n : Nat} (hf : isFold w a n1 n) : rI (rput w a n1 n) + n * n1 = rI w + 1 := by
  obtain ⟨hn1, hn, hI, hal, _⟩ := hf
  unfold rput
  rw [rpre_I _ _ _ (by (first | ((try clear hal); (try clear hn); (try clear hn1); omega) | omega)), rI_in, rdrop_I]; (first | ((try clear hal); (try clear hn); (try clear hn1); omega) | omega)
theorem rput_Il {w : Rw} {a n1 n : Nat} (hf : isFold w a n1 n) : rI (rput w a n1 n) < rI w := by
  have h1 := rput_I hf
  obtain ⟨hn1, hn, hI, hal, _⟩ := hf
  have h5 : 2 * n1 ≤ n * n1 := Nat.mul_le_mul_right _ hn
  (first | ((try clear hal); (try clear hI); (try clear hn); omega) | omega)
theorem frow_ne {w : Rw} {a n1 n : Nat} (hn : 1 ≤ n) (hn1 : 1 ≤ n1) (hal : ∀ e m : Nat, 1 ≤ e → e < n → m < n1 → halk (rdrop (a + m) w) (rdrop (a + e * n1 + m) w)) (hI : a + n1 ≤ rI w) : frow w a n1 n 0 n1 ≠ .leaf := by
  obtain ⟨m, rfl⟩ : ∃ m, n1 = m + 1 := ⟨n1 - 1, by (first | ((try clear hI); (try clear hal); (try clear hn); omega) | omega)⟩
  have h2 := rdrop_I (a + 0) w
  obtain ⟨kf, vf, lf, hf⟩ := facc_one (n := n) (k := 0) (fun e q1 q2 => hal e 0 q1 q2 (by (first | ((try clear q2); (try clear hf); (try clear lf); (try clear vf); (try clear kf); (try clear h2); (try clear hI); (try clear hal); (try clear hn); omega) | omega))) (by (first | ((try clear hf); (try clear lf); (try clear vf); (try clear kf); (try clear hal); (try clear hn); omega) | omega)) (n - 1) (by (first | ((try clear hf); (try clear lf); (try clear vf); (try clear kf); (try clear h2); (try clear hI); (try clear hal); (try clear hn1); omega) | omega))
  rw [frow, hf]
  intro h
  cases h
theorem rput_WF {w : Rw} {a n1 n : Nat} (hwf : rWF w) (hf : isFold w a n1 n) : rWF (rput w a n1 n) := by
  obtain ⟨hn1, hn, hI, hal, _⟩ := hf
  have h5 : 2 * n1 ≤ n * n1 := Nat.mul_le_mul_right _ hn
  exact rpre_WF _ _ _ hwf ⟨by (first | ((try clear h5); (try clear hal); (try clear hI); (try clear hn); (try clear hn1); omega) | omega), fun h => absurd h (by (first | ((try clear h5); (try clear hal); (try clear hI); (try clear hn); (try clear hn1); omega) | omega)), fun _ => frow_ne (by (first | ((try clear h); (try clear h5); (try clear hal); (try clear hI); (try clear hn1); omega) | omega)) hn1 hal (by (first | ((try clear h); (try clear hal); (try clear hn); (try clear hn1); omega) | omega)), by (first | ((try clear h); (try clear h5); (try clear hal); (try clear hI); (try clear hn); (try clear hn1); omega) | omega), by (first | ((try clear h); (try clear h5); (try clear hal); (try clear hI); (try clear hn); (try clear hn1); omega) | omega), fun h => absurd h (by (first | ((try clear h5); (try clear hal); (try clear hI); (try clear hn); (try clear hn1); omega) | omega)), frow_WF (by (first | ((try clear h); (try clear h5); (try clear hal); (try clear hI); (try clear hn1); omega) | omega)) hwf hal n1 0 (by (first | ((try clear h); (try clear h5); (try clear hal); (try clear hI); (try clear hn); (try clear hn1); omega) | omega)), rdrop_WF _ _ hwf⟩
theorem rput_Pg {w : Rw} {a n1 n : Nat} (h : rPg w) : rPg (rput w a n1 n) :=
  rpre_Pg _ _ _ h ⟨by omega, frow_Pg h _ _, rdrop_Pg _ _ h⟩
theorem rT_pos : ∀ w : Rw, rWF w → w ≠ .leaf → 1 ≤ rT w
  | .leaf, _, h => absurd rfl h
  | .inner z k v l r, ⟨_, _, f3, _, _, _, f7, _⟩, _ => by
    rw [rT_in]
    by_cases h : k < 3
    · rw [if_pos h]; omega
    · have := rT_pos l f7 (f3 (by omega))
      rw [if_neg h]; omega
theorem rI_T : ∀ w : Rw, rWF w → rI w ≤ rT w
  | .leaf, _ => Nat.le_refl _
  | .inner z k v l r, ⟨_, _, f3, _, _, _, f7, f8⟩ => by
    have h1 := rI_T r f8
    rw [rT_in, rI_in]
    by_cases h : k < 3
    · rw [if_pos h]; omega
    · have := rT_pos l f7 (f3 (by omega))
      rw [if_neg h]; omega
theorem rN_T : ∀ w : Rw, rWF w → rN w ≤ rT w
  | .leaf, _ => Nat.le_refl _
  | .inner z k v l r, ⟨_, f2, f3, _, _, _, f7, f8⟩ => by
    have h1 := rN_T r f8
    have h2 := rN_T l f7
    rw [rT_in, rN_in]
    by_cases h : k < 3
    · have e : rN l = 0 := by rw [f2 h]; rfl
      rw [if_pos h]; omega
    · have := rT_pos l f7 (f3 (by omega))
      rw [if_neg h]; omega
theorem rH_T : ∀ w : Rw, rWF w → 2 ^ rH w ≤ 2 * rT w + 1
  | .leaf, _ => Nat.le_refl _
  | .inner z k v l r, ⟨_, f2, f3, _, _, _, f7, f8⟩ => by
    have h1 := rH_T r f8
    have h2 := rH_T l f7
    rw [rT_in, rH_in]
    rcases Nat.le_total (1 + rH l) (rH r) with h | h
    · rw [Nat.max_eq_right h]
      omega
    · rw [Nat.max_eq_left h, Nat.pow_add, Nat.pow_one]
      by_cases h9 : k < 3
      · have e : rH l = 0 := by rw [f2 h9]; rfl
        rw [if_pos h9, e]; omega
      · have h8 := rT_pos l f7 (f3 (by (first | ((try clear h8); omega) | omega)))
        have h7 := rH_0 (f3 (by (first | ((try clear h7); (try clear h8); omega) | omega)))
        have h6 : 2 ^ rH l % 2 = 0 := by
          obtain ⟨q, hq⟩ : ∃ q, rH l = q + 1 := ⟨rH l - 1, by (first | ((try clear q); (try clear rH); (try clear hq); (try clear h6); (try clear h8); omega) | omega)⟩
          rw [hq, Nat.pow_succ]; (first | ((try clear rH); (try clear hq); (try clear h6); (try clear h7); (try clear h8); omega) | omega)
        rw [if_neg h9]; (first | ((try clear h7); (try clear h8); omega) | omega)
/-- a page's row: well formed, no options, sixty tokens at most -/
def rPre (w : Rw) : Prop := rWF w ∧ rPg w ∧ rT w ≤ 60
theorem rPre_b {w : Rw} (h : rPre w) : rI w ≤ 60 ∧ rN w ≤ 60 ∧ rH w ≤ 6 := by
  have h1 := rI_T w h.1
  have h2 := rN_T w h.1
  have h3 := rH_T w h.1
  have h4 := h.2.2
  refine ⟨by (first | ((try clear h3); (try clear h2); omega) | omega), by (first | ((try clear h3); (try clear h1); omega) | omega), ?_⟩
  by_cases h9 : rH w ≤ 6
  · exact h9
  · exfalso
    have h5 : 2 ^ 7 ≤ 2 ^ rH w := Nat.pow_le_pow_right (by (first | ((try clear h5); (try clear h9); (try clear h4); (try clear h3); (try clear h2); (try clear h1); omega) | omega)) (by (first | ((try clear h5); (try clear h4); (try clear h3); (try clear h2); (try clear h1); omega) | omega))
    (first | ((try clear h9); (try clear h2); (try clear h1); omega) | omega)
theorem rPre_put {w : Rw} {a n1 n : Nat} (h : rPre w) (hf : isFold w a n1 n) : rPre (rput w a n1 n) :=
  ⟨rput_WF h.1 hf, rput_Pg h.2.1, Nat.le_trans (rput_T h.1 hf) h.2.2⟩
/-- a page's row, folded: besides, no tags side by side -/
def rPage (w : Rw) : Prop := rWF w ∧ (rPg w ∧ rAd w) ∧ rT w ≤ 60
theorem rPage_b {w : Rw} (h : rPage w) : rI w ≤ 60 ∧ rN w ≤ 60 ∧ rH w ≤ 6 := rPre_b ⟨h.1, h.2.1.1, h.2.2⟩
/-- what a repeat holds that is put in is alike to the first copy -/
theorem frow_alk {w : Rw} {a n1 n : Nat} (hn : 1 ≤ n) (hwf : rWF w) (hal : ∀ e m : Nat, 1 ≤ e → e < n → m < n1 → halk (rdrop (a + m) w) (rdrop (a + e * n1 + m) w)) (hI : a + n1 ≤ rI w) : ∀ m j : Nat, j + m = n1 → ralk (frow w a n1 n j m) (rpre m (rdrop (a + j) w) .leaf)
  | 0, _, _ => trivial
  | m + 1, j, hj => by
    obtain ⟨z, k, v, l, r, e⟩ := rI_pos (w := rdrop (a + j) w) (by rw [rdrop_I]; (first | ((try clear hal); (try clear hn); omega) | omega))
    have h1 := (facc_ok (k := j) hwf (fun e h2 h3 => hal e j h2 h3 (by (first | ((try clear hI); (try clear hal); (try clear hn); omega) | omega))) (n - 1) (by (first | ((try clear hI); (try clear hal); omega) | omega))).1 (hd1 (rdrop (a + j) w)) (ralk_refl _)
    have h2 := frow_alk hn hwf hal hI m (j + 1) (by (first | ((try clear hI); (try clear hal); (try clear hn); omega) | omega))
    have h3 : rdrop (a + (j + 1)) w = r := by
      rw [← Nat.add_assoc, rdrop_add (a + j) 1 w, e]
      cases r <;> rfl
    rw [h3] at h2
    rw [e] at h1 ⊢
    rw [frow, rpre]
    generalize facc w a n1 j (n - 1) = F at h1 ⊢
    cases F with
    | leaf => exact h1.elim
    | inner z5 k5 v5 l5 r5 => exact ⟨h1.1, h2⟩
theorem pre_1 {z k : Nat} {v : Int} {l r : Rw} : rpre 1 (Std.DTreeMap.Internal.Impl.inner z k v l r : Rw) .leaf = .inner z k v l .leaf := by
  cases r <;> rfl
theorem pre_2 {w : Rw} {m : Nat} (h : 2 ≤ m) (hI : m ≤ rI w) : ∃ (z k : Nat) (v : Int) (l : Rw) (z2 k2 : Nat) (v2 : Int) (l2 r2 : Rw), rpre m w .leaf = .inner z k v l (.inner z2 k2 v2 l2 r2) := by
  obtain ⟨m, rfl⟩ : ∃ q, m = q + 2 := ⟨m - 2, by (first | ((try clear q); (try clear hI); omega) | omega)⟩
  obtain ⟨z, k, v, l, r, rfl⟩ := rI_pos (w := w) (by (first | ((try clear r); (try clear q); omega) | omega))
  rw [rI_in] at hI
  obtain ⟨z2, k2, v2, l2, r2, rfl⟩ := rI_pos (w := r) (by (first | ((try clear q); omega) | omega))
  exact ⟨z, k, v, l, z2, k2, v2, l2, rpre m r2 .leaf, rfl⟩
/-- a fold keeps it -/
theorem rAq_put {w : Rw} {a n1 n : Nat} (hwf : rWF w) (hq : rAq w) (hf : isFold w a n1 n) (hx : fEx w a n1 n) : rAq (rput w a n1 n) := by
  have hf0 := hf
  obtain ⟨g1, g2, g3, g4, mf, g5, g6⟩ := hf
  have g7 : 2 * n1 ≤ n * n1 := Nat.mul_le_mul_right _ g2
  have hF := frow_alk (n := n) (by (first | ((try clear hF); (try clear g7); (try clear g6); (try clear g5); (try clear g4); (try clear g3); (try clear g1); (try clear hf0); omega) | omega)) hwf g4 (by (first | ((try clear hF); (try clear g6); (try clear g5); (try clear g4); (try clear g2); (try clear g1); (try clear hf0); omega) | omega)) n1 0 (by (first | ((try clear hF); (try clear g7); (try clear g6); (try clear g5); (try clear g4); (try clear g3); (try clear g2); (try clear g1); (try clear hf0); omega) | omega))
  have hFW := frow_WF (n := n) (by (first | ((try clear hFW); (try clear hF); (try clear g7); (try clear g6); (try clear g5); (try clear g4); (try clear g3); (try clear g1); (try clear hf0); omega) | omega)) hwf g4 n1 0 (by (first | ((try clear hFW); (try clear hF); (try clear g7); (try clear g6); (try clear g5); (try clear g4); (try clear g3); (try clear g2); (try clear g1); (try clear hf0); omega) | omega))
  rw [Nat.add_zero] at hF
  obtain ⟨z, k, v, l, r, e⟩ := rI_pos (w := rdrop a w) (by rw [rdrop_I]; (first | ((try clear r); (try clear v); (try clear k); (try clear z); (try clear hFW); (try clear hF); (try clear g6); (try clear g4); (try clear g2); (try clear hf0); omega) | omega))
  have hqa := rAq_drop a w hq
  have hwa := rdrop_WF a w hwf
  rw [e] at hqa hwa
  obtain ⟨q1, q2, q3, q4⟩ := hqa
  obtain ⟨f1, f2, f3, f4, f5, f6, f7, f8⟩ := hwa
  have er : rdrop (a + 1) w = r := by
    rw [rdrop_add a 1 w, e]
    cases r <;> rfl
  unfold rput
  generalize frow w a n1 n 0 n1 = F at hF hFW ⊢
  by_cases h1 : n1 = 1
  · subst h1
    obtain rfl : mf = 0 := by (first | ((try clear h1); (try clear er); (try clear f8); (try clear f7); (try clear f6); (try clear f5); (try clear f4); (try clear f3); (try clear f2); (try clear f1); (try clear q4); (try clear q3); (try clear q2); (try clear hwa); (try clear hqa); (try clear r); (try clear z); (try clear hFW); (try clear hF); (try clear g7); (try clear g6); (try clear g4); (try clear g3); (try clear g2); (try clear g1); (try clear hf0); omega) | omega)
    rw [Nat.add_zero, e] at g6
    have g6 : k = 0 ∨ k = 4 := g6
    rw [e, pre_1] at hF
    obtain ⟨x1, x2⟩ := hx.1 rfl
    rw [Nat.mul_one] at g3 ⊢
    -- the next one is alike
    have ha1 := g4 1 0 (by (first | ((try clear ha1); (try clear x2); (try clear x1); (try clear g6); (try clear h1); (try clear er); (try clear f8); (try clear f7); (try clear f6); (try clear f5); (try clear f4); (try clear f3); (try clear f2); (try clear f1); (try clear q4); (try clear q3); (try clear q2); (try clear hwa); (try clear hqa); (try clear r); (try clear v); (try clear k); (try clear z); (try clear hFW); (try clear hF); (try clear g7); (try clear g5); (try clear mf); (try clear g4); (try clear g3); (try clear g2); (try clear hf0); omega) | omega)) (by (first | ((try clear ha1); (try clear x2); (try clear x1); (try clear g6); (try clear h1); (try clear er); (try clear f8); (try clear f7); (try clear f6); (try clear f5); (try clear f4); (try clear f3); (try clear f2); (try clear f1); (try clear q4); (try clear q3); (try clear q2); (try clear hwa); (try clear hqa); (try clear r); (try clear z); (try clear hFW); (try clear hF); (try clear g7); (try clear g5); (try clear mf); (try clear g4); (try clear g3); (try clear g1); (try clear hf0); omega) | omega)) (by (first | ((try clear ha1); (try clear x2); (try clear x1); (try clear g6); (try clear h1); (try clear er); (try clear f8); (try clear f7); (try clear f6); (try clear f5); (try clear f4); (try clear f3); (try clear f2); (try clear f1); (try clear q4); (try clear q3); (try clear q2); (try clear hwa); (try clear hqa); (try clear r); (try clear v); (try clear k); (try clear z); (try clear hFW); (try clear hF); (try clear g7); (try clear mf); (try clear g4); (try clear g3); (try clear g2); (try clear g1); (try clear hf0); omega) | omega))
    rw [show a + 0 = a by (first | ((try clear ha1); (try clear x2); (try clear x1); (try clear g6); (try clear h1); (try clear er); (try clear f8); (try clear f7); (try clear f6); (try clear f5); (try clear f4); (try clear f3); (try clear f2); (try clear f1); (try clear q4); (try clear q3); (try clear q2); (try clear hwa); (try clear hqa); (try clear r); (try clear z); (try clear hFW); (try clear hF); (try clear g7); (try clear g5); (try clear mf); (try clear g4); (try clear g3); (try clear g2); (try clear g1); (try clear hf0); omega) | omega), show a + 1 * 1 + 0 = a + 1 by (first | ((try clear ha1); (try clear x2); (try clear x1); (try clear g6); (try clear h1); (try clear er); (try clear f8); (try clear f7); (try clear f6); (try clear f5); (try clear f4); (try clear f3); (try clear f2); (try clear f1); (try clear q4); (try clear q3); (try clear q2); (try clear hwa); (try clear hqa); (try clear r); (try clear z); (try clear hFW); (try clear hF); (try clear g7); (try clear g5); (try clear mf); (try clear g4); (try clear g3); (try clear g2); (try clear g1); (try clear hf0); omega) | omega), e, er] at ha1
    obtain ⟨z2, k2, v2, l2, r2, rfl⟩ := rI_pos (w := r) (by
      have h9 := rdrop_I (a + 1) w
      rw [er] at h9
      (first | ((try clear r2); (try clear l2); (try clear v2); (try clear k2); (try clear z2); (try clear ha1); (try clear x2); (try clear x1); (try clear g6); (try clear h1); (try clear er); (try clear f8); (try clear f7); (try clear f6); (try clear f5); (try clear f4); (try clear f3); (try clear f2); (try clear f1); (try clear q4); (try clear q3); (try clear q2); (try clear hwa); (try clear hqa); (try clear z); (try clear hFW); (try clear hF); (try clear g7); (try clear g5); (try clear mf); (try clear g4); (try clear g1); (try clear hf0); omega) | omega))
    have ha1 : ialk k v l k2 v2 l2 := ha1
    have hcr : crI k v l = crI k2 v2 l2 := alk_crI ha1
    have hcL : crL F = if k = 0 then v else -5 := alk_crL hF
    have hnB : ¬ rBd F := fun hb9 => by
      have hb9 : isTx k ∨ (k = 4 ∧ rSg l) := alk_Bd hF hb9
      rcases hb9 with hb9 | ⟨k4, hb9⟩
      · unfold isTx at hb9; (first | ((try clear hnB); (try clear hcL); (try clear hcr); (try clear ha1); (try clear x1); (try clear g6); (try clear h1); (try clear er); (try clear f8); (try clear f7); (try clear f6); (try clear f5); (try clear f4); (try clear f3); (try clear f2); (try clear f1); (try clear q4); (try clear q3); (try clear hwa); (try clear hqa); (try clear r); (try clear z); (try clear hFW); (try clear hF); (try clear g7); (try clear g5); (try clear mf); (try clear g4); (try clear g3); (try clear g2); (try clear g1); (try clear hf0); omega) | omega)
      · cases l with
        | leaf => exact hb9.elim
        | inner z3 k3 v3 l3 r3 =>
          cases r3 with
          | inner _ _ _ _ _ => exact hb9.elim
          | leaf =>
            have hb9 : k3 < 3 := hb9
            by_cases h0 : k3 = 0
            · have hcI : crI k v (Std.DTreeMap.Internal.Impl.inner z3 k3 v3 l3 .leaf) = v3 := by
                unfold crI
                rw [if_neg (by (first | ((try clear hcI); (try clear hb9); (try clear r3); (try clear hnB); (try clear hcL); (try clear hcr); (try clear r2); (try clear z2); (try clear ha1); (try clear x2); (try clear x1); (try clear g6); (try clear h1); (try clear er); (try clear f8); (try clear f7); (try clear f6); (try clear f5); (try clear f4); (try clear f3); (try clear f2); (try clear f1); (try clear q4); (try clear q3); (try clear q2); (try clear hwa); (try clear hqa); (try clear r); (try clear z); (try clear hFW); (try clear hF); (try clear g7); (try clear g5); (try clear mf); (try clear g4); (try clear g3); (try clear g2); (try clear g1); (try clear hf0); omega) | omega)), if_pos k4]
                exact if_pos h0
              have hv3 : 0 ≤ v3 := f7.2.2.2.2.2.1 (by (first | ((try clear hv3); (try clear hcI); (try clear hb9); (try clear r3); (try clear hnB); (try clear hcL); (try clear hcr); (try clear r2); (try clear z2); (try clear ha1); (try clear x2); (try clear x1); (try clear g6); (try clear h1); (try clear er); (try clear f8); (try clear f7); (try clear f6); (try clear f5); (try clear f4); (try clear f3); (try clear f2); (try clear f1); (try clear q4); (try clear q3); (try clear q2); (try clear hwa); (try clear hqa); (try clear r); (try clear z); (try clear hFW); (try clear hF); (try clear g7); (try clear g5); (try clear mf); (try clear g4); (try clear g3); (try clear g2); (try clear g1); (try clear hf0); omega) | omega))
              have h8 := (q2 (by rw [hcI]; exact hv3) hcr).1
              (first | ((try clear hv3); (try clear hcI); (try clear hb9); (try clear r3); (try clear hnB); (try clear hcL); (try clear hcr); (try clear r2); (try clear z2); (try clear ha1); (try clear x2); (try clear x1); (try clear g6); (try clear h1); (try clear er); (try clear f8); (try clear f7); (try clear f6); (try clear f5); (try clear f4); (try clear f3); (try clear f2); (try clear f1); (try clear q4); (try clear q3); (try clear q2); (try clear hwa); (try clear hqa); (try clear r); (try clear z); (try clear hFW); (try clear hF); (try clear g7); (try clear g5); (try clear mf); (try clear g4); (try clear g3); (try clear g2); (try clear g1); (try clear hf0); omega) | omega)
            · exact q1 k4 (Or.inl (by unfold isTx; (first | ((try clear r3); (try clear hnB); (try clear hcL); (try clear hcr); (try clear r2); (try clear z2); (try clear ha1); (try clear x2); (try clear x1); (try clear g6); (try clear h1); (try clear er); (try clear f8); (try clear f7); (try clear f6); (try clear f5); (try clear f4); (try clear f3); (try clear f2); (try clear f1); (try clear q4); (try clear q3); (try clear q2); (try clear hwa); (try clear hqa); (try clear r); (try clear z); (try clear hFW); (try clear hF); (try clear g7); (try clear g5); (try clear mf); (try clear g4); (try clear g3); (try clear g2); (try clear g1); (try clear hf0); omega) | omega)))
    have hadF : rAd F := rAd_alk _ _ hF hFW ⟨q1, fun h9 h8 => by rw [h8] at h9; exact absurd h9 (by decide), q3, trivial⟩
    have hcF : crI 4 (-1) F = if k = 0 then v else -5 := hcL
    refine rAq_join a w _ (by (first | ((try clear hcF); (try clear hnB); (try clear hcL); (try clear hcr); (try clear r2); (try clear z2); (try clear ha1); (try clear x2); (try clear x1); (try clear g6); (try clear h1); (try clear er); (try clear f8); (try clear f7); (try clear f6); (try clear f5); (try clear f4); (try clear f3); (try clear f2); (try clear f1); (try clear q4); (try clear q3); (try clear q2); (try clear hwa); (try clear hqa); (try clear r); (try clear z); (try clear hFW); (try clear hF); (try clear g7); (try clear g5); (try clear mf); (try clear g4); (try clear g1); (try clear hf0); omega) | omega)) hq ⟨fun _ => hnB, fun h9 h8 => ?_, hadF, rAq_drop _ w hq⟩ (fun n0 z5 k5 v5 l5 r5 e5 e6 e7 e8 => ?_)
    · exfalso
      rw [hcF] at h9 h8
      by_cases h0 : k = 0
      · rw [if_pos h0] at h9 h8
        -- the last copy and what stands behind it
        have ha2 := g4 (n - 1) 0 (by (first | ((try clear ha2); (try clear e8); (try clear e7); (try clear e6); (try clear e5); (try clear r5); (try clear l5); (try clear v5); (try clear k5); (try clear z5); (try clear n0); (try clear h8); (try clear h9); (try clear hcF); (try clear hnB); (try clear hcL); (try clear hcr); (try clear r2); (try clear z2); (try clear ha1); (try clear x2); (try clear x1); (try clear g6); (try clear h1); (try clear er); (try clear f8); (try clear f7); (try clear f6); (try clear f5); (try clear f4); (try clear f3); (try clear f2); (try clear f1); (try clear q4); (try clear q3); (try clear q2); (try clear hwa); (try clear hqa); (try clear r); (try clear z); (try clear hFW); (try clear hF); (try clear g7); (try clear g5); (try clear mf); (try clear g4); (try clear g3); (try clear g1); (try clear hf0); omega) | omega)) (by (first | ((try clear ha2); (try clear e8); (try clear e7); (try clear e6); (try clear e5); (try clear r5); (try clear l5); (try clear v5); (try clear k5); (try clear z5); (try clear n0); (try clear h8); (try clear h9); (try clear hcF); (try clear hnB); (try clear hcL); (try clear hcr); (try clear r2); (try clear z2); (try clear ha1); (try clear x2); (try clear x1); (try clear g6); (try clear h1); (try clear er); (try clear f8); (try clear f7); (try clear f6); (try clear f5); (try clear f4); (try clear f3); (try clear f2); (try clear f1); (try clear q4); (try clear q3); (try clear q2); (try clear hwa); (try clear hqa); (try clear r); (try clear z); (try clear hFW); (try clear hF); (try clear g7); (try clear g5); (try clear mf); (try clear g4); (try clear g3); (try clear g1); (try clear hf0); omega) | omega)) (by (first | ((try clear ha2); (try clear e8); (try clear e7); (try clear e6); (try clear e5); (try clear r5); (try clear l5); (try clear v5); (try clear k5); (try clear z5); (try clear n0); (try clear h8); (try clear h9); (try clear hcF); (try clear hnB); (try clear hcL); (try clear hcr); (try clear r2); (try clear l2); (try clear v2); (try clear k2); (try clear z2); (try clear ha1); (try clear x2); (try clear x1); (try clear g6); (try clear h1); (try clear er); (try clear f8); (try clear f7); (try clear f6); (try clear f5); (try clear f4); (try clear f3); (try clear f2); (try clear f1); (try clear q4); (try clear q3); (try clear q2); (try clear hwa); (try clear hqa); (try clear r); (try clear v); (try clear k); (try clear z); (try clear hFW); (try clear hF); (try clear g7); (try clear mf); (try clear g4); (try clear g3); (try clear g2); (try clear g1); (try clear hf0); omega) | omega))
        rw [show a + 0 = a by (first | ((try clear ha2); (try clear e8); (try clear e7); (try clear e6); (try clear e5); (try clear r5); (try clear l5); (try clear v5); (try clear k5); (try clear z5); (try clear n0); (try clear h8); (try clear h9); (try clear hcF); (try clear hnB); (try clear hcL); (try clear hcr); (try clear r2); (try clear z2); (try clear ha1); (try clear x2); (try clear x1); (try clear g6); (try clear h1); (try clear er); (try clear f8); (try clear f7); (try clear f6); (try clear f5); (try clear f4); (try clear f3); (try clear f2); (try clear f1); (try clear q4); (try clear q3); (try clear q2); (try clear hwa); (try clear hqa); (try clear r); (try clear z); (try clear hFW); (try clear hF); (try clear g7); (try clear g5); (try clear mf); (try clear g4); (try clear g3); (try clear g2); (try clear g1); (try clear hf0); omega) | omega), show a + (n - 1) * 1 + 0 = a + (n - 1) by (first | ((try clear ha2); (try clear e8); (try clear e7); (try clear e6); (try clear e5); (try clear r5); (try clear l5); (try clear v5); (try clear k5); (try clear z5); (try clear n0); (try clear h8); (try clear h9); (try clear hcF); (try clear hnB); (try clear hcL); (try clear hcr); (try clear r2); (try clear z2); (try clear ha1); (try clear x2); (try clear x1); (try clear g6); (try clear h1); (try clear er); (try clear f8); (try clear f7); (try clear f6); (try clear f5); (try clear f4); (try clear f3); (try clear f2); (try clear f1); (try clear q4); (try clear q3); (try clear q2); (try clear hwa); (try clear hqa); (try clear r); (try clear z); (try clear hFW); (try clear hF); (try clear g7); (try clear g5); (try clear mf); (try clear g4); (try clear g3); (try clear g2); (try clear g1); (try clear hf0); omega) | omega), e] at ha2
        have hq8 := rAq_drop (a + (n - 1)) w hq
        have hd8 : rdrop 1 (rdrop (a + (n - 1)) w) = rdrop (a + n) w := by rw [← rdrop_add]; congr 1; (first | ((try clear hd8); (try clear hq8); (try clear ha2); (try clear e8); (try clear e7); (try clear e6); (try clear e5); (try clear r5); (try clear l5); (try clear v5); (try clear k5); (try clear z5); (try clear n0); (try clear h8); (try clear h9); (try clear hcF); (try clear hnB); (try clear hcL); (try clear hcr); (try clear r2); (try clear z2); (try clear ha1); (try clear x2); (try clear x1); (try clear g6); (try clear h1); (try clear er); (try clear f8); (try clear f7); (try clear f6); (try clear f5); (try clear f4); (try clear f3); (try clear f2); (try clear f1); (try clear q4); (try clear q3); (try clear q2); (try clear hwa); (try clear hqa); (try clear r); (try clear z); (try clear hFW); (try clear hF); (try clear g7); (try clear g5); (try clear mf); (try clear g4); (try clear g3); (try clear g1); (try clear hf0); omega) | omega)
        have hI8 := rdrop_I (a + (n - 1)) w
        obtain ⟨z6, k6, v6, l6, r6, e6⟩ := rI_pos (w := rdrop (a + (n - 1)) w) (by (first | ((try clear e6); (try clear r6); (try clear l6); (try clear v6); (try clear k6); (try clear z6); (try clear hd8); (try clear hq8); (try clear ha2); (try clear e8); (try clear e7); (try clear e5); (try clear r5); (try clear l5); (try clear v5); (try clear k5); (try clear z5); (try clear n0); (try clear h8); (try clear h9); (try clear hcF); (try clear hnB); (try clear hcL); (try clear hcr); (try clear r2); (try clear z2); (try clear ha1); (try clear x2); (try clear x1); (try clear g6); (try clear h1); (try clear er); (try clear f8); (try clear f7); (try clear f6); (try clear f5); (try clear f4); (try clear f3); (try clear f2); (try clear f1); (try clear q4); (try clear q3); (try clear q2); (try clear hwa); (try clear hqa); (try clear r); (try clear z); (try clear hFW); (try clear hF); (try clear g7); (try clear g5); (try clear mf); (try clear g4); (try clear g1); (try clear hf0); omega) | omega))
        rw [e6] at ha2 hq8 hd8
        have ha2 : ialk k v l k6 v6 l6 := ha2
        have ed : r6 = rdrop (a + n) w := by rw [← hd8]; cases r6 <;> rfl
        have hk6 := alk_k ha2
        have hc6 : crI k6 v6 l6 = v := by
          rw [← alk_crI ha2]
          unfold crI
          rw [if_pos h0]
        obtain ⟨_, z7, v7, l7, r7, e7⟩ := hq8.2.1 (by rw [hc6]; exact h9) (by rw [hc6, ed]; exact h8)
        rw [ed] at e7
        have hW7 := rdrop_WF (a + n) w hwf
        have hI7 := rdrop_I (a + n) w
        rw [e7] at hW7 h8 hI7
        rw [rI_in] at hI7
        refine x2 (by (first | ((try clear hW7); (try clear e7); (try clear hc6); (try clear hk6); (try clear ed); (try clear e6); (try clear r6); (try clear z6); (try clear hI8); (try clear hd8); (try clear hq8); (try clear ha2); (try clear e8); (try clear e5); (try clear r5); (try clear l5); (try clear v5); (try clear k5); (try clear z5); (try clear n0); (try clear h8); (try clear h9); (try clear hcF); (try clear hnB); (try clear hcL); (try clear hcr); (try clear r2); (try clear z2); (try clear ha1); (try clear x2); (try clear x1); (try clear g6); (try clear h1); (try clear er); (try clear f8); (try clear f7); (try clear f6); (try clear f5); (try clear f4); (try clear f3); (try clear f2); (try clear f1); (try clear q4); (try clear q3); (try clear q2); (try clear hwa); (try clear hqa); (try clear r); (try clear z); (try clear hFW); (try clear hF); (try clear g7); (try clear g5); (try clear mf); (try clear g4); (try clear g2); (try clear g1); (try clear hf0); omega) | omega)) ?_
        rw [e, e7]
        exact tag_alk h0 rfl h8 f2 hW7.2.1
      · rw [if_neg h0] at h9
        exact absurd h9 (by decide)
    · have e8 : crI k5 v5 l5 = crI 4 (-1) F := e8
      rw [hcF] at e8
      by_cases h0 : k = 0
      · rw [if_pos h0] at e8
        have hq5 := rAq_drop n0 w hq
        have hW5 := rdrop_WF n0 w hwf
        have hd5 : rdrop 1 (rdrop n0 w) = rdrop a w := by rw [← rdrop_add]; congr 1; (first | ((try clear hd5); (try clear hW5); (try clear hq5); (try clear e8); (try clear e7); (try clear e6); (try clear r5); (try clear z5); (try clear h8); (try clear h9); (try clear hcF); (try clear hnB); (try clear hcL); (try clear hcr); (try clear r2); (try clear z2); (try clear ha1); (try clear x2); (try clear x1); (try clear g6); (try clear h1); (try clear er); (try clear f8); (try clear f7); (try clear f6); (try clear f5); (try clear f4); (try clear f3); (try clear f2); (try clear f1); (try clear q4); (try clear q3); (try clear q2); (try clear hwa); (try clear hqa); (try clear r); (try clear z); (try clear hFW); (try clear hF); (try clear g7); (try clear g5); (try clear mf); (try clear g4); (try clear g3); (try clear g2); (try clear g1); (try clear hf0); omega) | omega)
        rw [e6] at hq5 hd5 hW5
        have ed : r5 = rdrop a w := by rw [← hd5]; cases r5 <;> rfl
        rw [e] at ed
        have hc5 : crH r5 = v := by
          rw [ed]
          show crI k v l = v
          unfold crI
          rw [if_pos h0]
        obtain ⟨h50, _⟩ := hq5.2.1 e7 (by rw [hc5, e8])
        have hv5 : crI k5 v5 l5 = v5 := by unfold crI; rw [if_pos h50]
        refine x1 n0 (by (first | ((try clear hv5); (try clear h50); (try clear hc5); (try clear ed); (try clear hd5); (try clear hW5); (try clear hq5); (try clear e8); (try clear e7); (try clear e6); (try clear z5); (try clear h8); (try clear h9); (try clear hcF); (try clear hnB); (try clear hcL); (try clear hcr); (try clear r2); (try clear z2); (try clear ha1); (try clear x2); (try clear x1); (try clear g6); (try clear h1); (try clear er); (try clear f8); (try clear f7); (try clear f6); (try clear f5); (try clear f4); (try clear f3); (try clear f2); (try clear f1); (try clear q4); (try clear q3); (try clear q2); (try clear hwa); (try clear hqa); (try clear r); (try clear z); (try clear hFW); (try clear hF); (try clear g7); (try clear g5); (try clear mf); (try clear g4); (try clear g3); (try clear g2); (try clear g1); (try clear hf0); omega) | omega)) (by (first | ((try clear hv5); (try clear h50); (try clear hc5); (try clear ed); (try clear hd5); (try clear hW5); (try clear hq5); (try clear e8); (try clear e7); (try clear e6); (try clear z5); (try clear h8); (try clear h9); (try clear hcF); (try clear hnB); (try clear hcL); (try clear hcr); (try clear r2); (try clear z2); (try clear ha1); (try clear x2); (try clear x1); (try clear g6); (try clear h1); (try clear er); (try clear f8); (try clear f7); (try clear f6); (try clear f5); (try clear f4); (try clear f3); (try clear f2); (try clear f1); (try clear q4); (try clear q3); (try clear q2); (try clear hwa); (try clear hqa); (try clear r); (try clear z); (try clear hFW); (try clear hF); (try clear g7); (try clear g5); (try clear mf); (try clear g4); (try clear g1); (try clear hf0); omega) | omega)) ?_ ?_
        · rw [e6]; exact Or.inl h50
        · rw [e6, show n0 + 1 = a by (first | ((try clear hv5); (try clear h50); (try clear hc5); (try clear ed); (try clear hd5); (try clear hW5); (try clear hq5); (try clear e8); (try clear e7); (try clear e6); (try clear z5); (try clear h8); (try clear h9); (try clear hcF); (try clear hnB); (try clear hcL); (try clear hcr); (try clear r2); (try clear z2); (try clear ha1); (try clear x2); (try clear x1); (try clear g6); (try clear h1); (try clear er); (try clear f8); (try clear f7); (try clear f6); (try clear f5); (try clear f4); (try clear f3); (try clear f2); (try clear f1); (try clear q4); (try clear q3); (try clear q2); (try clear hwa); (try clear hqa); (try clear r); (try clear z); (try clear hFW); (try clear hF); (try clear g7); (try clear g5); (try clear mf); (try clear g4); (try clear g3); (try clear g2); (try clear g1); (try clear hf0); omega) | omega), e]
          exact tag_alk h50 h0 (by rw [← hv5, e8]) hW5.2.1 f2
      · rw [if_neg h0] at e8
        (first | ((try clear e6); (try clear e5); (try clear r5); (try clear z5); (try clear h8); (try clear h9); (try clear hcF); (try clear hnB); (try clear hcL); (try clear hcr); (try clear r2); (try clear z2); (try clear ha1); (try clear x2); (try clear x1); (try clear g6); (try clear h1); (try clear er); (try clear f8); (try clear f7); (try clear f6); (try clear f5); (try clear f4); (try clear f3); (try clear f2); (try clear f1); (try clear q4); (try clear q3); (try clear q2); (try clear hwa); (try clear hqa); (try clear r); (try clear z); (try clear hFW); (try clear hF); (try clear g7); (try clear g5); (try clear mf); (try clear g4); (try clear g3); (try clear g2); (try clear g1); (try clear hf0); omega) | omega)
  · have hA : rAd w := rAq_end w hwf hq (hx.2 (by (first | ((try clear er); (try clear f8); (try clear f7); (try clear f6); (try clear f5); (try clear f4); (try clear f3); (try clear f2); (try clear f1); (try clear q4); (try clear q3); (try clear q2); (try clear hwa); (try clear hqa); (try clear r); (try clear z); (try clear hFW); (try clear hF); (try clear g7); (try clear g6); (try clear g5); (try clear g4); (try clear g3); (try clear g2); (try clear hf0); omega) | omega)))
    obtain ⟨y1, y2, y3, y4, y5, y6, y7, y8, y9, ey⟩ := pre_2 (w := rdrop a w) (m := n1) (by (first | ((try clear ey); (try clear y8); (try clear y7); (try clear y6); (try clear y5); (try clear y4); (try clear y3); (try clear y2); (try clear y1); (try clear er); (try clear f8); (try clear f7); (try clear f6); (try clear f5); (try clear f4); (try clear f3); (try clear f2); (try clear f1); (try clear q4); (try clear q3); (try clear q2); (try clear hwa); (try clear hqa); (try clear r); (try clear z); (try clear hFW); (try clear hF); (try clear g7); (try clear g6); (try clear g5); (try clear g4); (try clear g3); (try clear g2); (try clear hf0); omega) | omega)) (by rw [rdrop_I]; (first | ((try clear ey); (try clear y8); (try clear y7); (try clear y6); (try clear y5); (try clear y4); (try clear y3); (try clear y2); (try clear y1); (try clear h1); (try clear er); (try clear f8); (try clear f7); (try clear f6); (try clear f5); (try clear f4); (try clear f3); (try clear f2); (try clear f1); (try clear q4); (try clear q3); (try clear q2); (try clear hwa); (try clear hqa); (try clear r); (try clear z); (try clear hFW); (try clear hF); (try clear g6); (try clear g5); (try clear g4); (try clear g2); (try clear g1); (try clear hf0); omega) | omega))
    have hA1 := rAd_pre n1 _ (rAd_drop a w hA)
    rw [ey] at hF hA1
    have hcL : crL F = -5 := alk_crL hF
    have hcF : crI 4 (-1) F = -5 := hcL
    refine rAq_join a w _ (by (first | ((try clear hcF); (try clear hcL); (try clear hA1); (try clear ey); (try clear y8); (try clear y7); (try clear y6); (try clear y5); (try clear y4); (try clear y3); (try clear y2); (try clear y1); (try clear h1); (try clear er); (try clear f8); (try clear f7); (try clear f6); (try clear f5); (try clear f4); (try clear f3); (try clear f2); (try clear f1); (try clear q4); (try clear q3); (try clear q2); (try clear hwa); (try clear hqa); (try clear r); (try clear z); (try clear hFW); (try clear hF); (try clear g6); (try clear g5); (try clear g4); (try clear g2); (try clear hf0); omega) | omega)) hq ⟨fun _ hb9 => alk_Bd hF hb9, fun h9 _ => ?_, rAd_alk _ _ hF hFW hA1, rAq_drop _ w hq⟩ (fun n0 z5 k5 v5 l5 r5 e5 e6 e7 e8 => ?_)
    · rw [hcF] at h9; exact absurd h9 (by decide)
    · have e8 : crI k5 v5 l5 = crI 4 (-1) F := e8
      rw [hcF] at e8
      (first | ((try clear e6); (try clear e5); (try clear r5); (try clear z5); (try clear h9); (try clear hcF); (try clear hcL); (try clear hA1); (try clear ey); (try clear y8); (try clear y7); (try clear y6); (try clear y5); (try clear y4); (try clear y3); (try clear y2); (try clear y1); (try clear h1); (try clear er); (try clear f8); (try clear f7); (try clear f6); (try clear f5); (try clear f4); (try clear f3); (try clear f2); (try clear f1); (try clear q4); (try clear q3); (try clear q2); (try clear hwa); (try clear hqa); (try clear r); (try clear z); (try clear hFW); (try clear hF); (try clear g7); (try clear g6); (try clear g5); (try clear g4); (try clear g3); (try clear g2); (try clear g1); (try clear hf0); omega) | omega)


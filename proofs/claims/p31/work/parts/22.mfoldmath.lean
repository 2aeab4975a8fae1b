/-! what comes of folding: rows that are fused stay alike, well formed, as deep -/
theorem fK_tx {k : Nat} {v : Int} {k2 : Nat} {v2 : Int} : isTx (fK k v k2 v2) ↔ isTx k := by
  unfold isTx fK
  split
  · split <;> omega
  · omega
theorem ralk_fus : ∀ (x y z : Rw), ralk x y → ralk x z → ralk (rfus x y) z
  | .leaf, .leaf, _, _, h => h
  | .leaf, .inner _ _ _ _ _, _, h, _ => h.elim
  | .inner _ _ _ _ _, .leaf, _, h, _ => h.elim
  | .inner _ _ _ _ _, .inner _ _ _ _ _, .leaf, _, h => h.elim
  | .inner _ k v l r, .inner _ k2 v2 l2 r2, .inner _ k3 v3 l3 r3, ⟨h1, h2⟩, ⟨g1, g2⟩ => by
    refine ⟨?_, ralk_fus r r2 r3 h2 g2⟩
    rcases g1 with ⟨a1, a2⟩ | ⟨a1, a2, a3, a4⟩
    · exact Or.inl ⟨fK_tx.mpr a1, a2⟩
    · rcases h1 with ⟨b1, _⟩ | ⟨_, b2, b3, b4⟩
      · exact absurd b1 a1
      · have e1 : fK k v k2 v2 = k := by unfold fK; unfold isTx at a1; rw [if_neg a1]
        refine Or.inr ⟨fun q => a1 (fK_tx.mp q), by rw [e1]; exact a2, fun q => ?_, ralk_fus l l2 l3 b4 a4⟩
        rw [e1] at q
        unfold fV
        rw [if_pos (Or.inl q)]
        exact a3 q
theorem rfus_leaf {x y : Rw} (h : rfus x y = .leaf) (hk : ralk x y) : x = .leaf := by
  cases x with
  | leaf => rfl
  | inner z k v l r =>
    cases y with
    | leaf => exact hk.elim
    | inner z2 k2 v2 l2 r2 => exact absurd h (by simp [rfus])
theorem rfus_WF : ∀ (x y : Rw), rWF x → rWF y → ralk x y → rWF (rfus x y)
  | .leaf, y, _, _, _ => by cases y <;> trivial
  | .inner _ _ _ _ _, .leaf, _, _, h => h.elim
  | .inner z k v l r, .inner _ k2 v2 l2 r2, ⟨f1, f2, f3, f4, f5, f6, f7, f8⟩, ⟨e1, e2, e3, e4, e5, e6, e7, e8⟩, ⟨h1, h2⟩ => by
    have hr := rfus_WF r r2 f8 e8 h2
    rcases h1 with ⟨a1, a2⟩ | ⟨a1, a2, a3, a4⟩
    · unfold isTx at a1
      obtain rfl := f2 (by omega)
      have e9 : rfus Std.DTreeMap.Internal.Impl.leaf l2 = Std.DTreeMap.Internal.Impl.leaf := by cases l2 <;> rfl
      have k9 : fK k v k2 v2 = 1 ∨ fK k v k2 v2 = 2 := fK_tx.mpr a1
      refine ⟨by omega, fun _ => e9, fun q => absurd q (by omega), ?_, ?_, fun q => ?_, by rw [e9]; trivial, hr⟩
      · unfold fV; split <;> omega
      · unfold fV; split <;> omega
      · have q1 : fK k v k2 v2 = 1 := by omega
        unfold fK at q1
        rw [if_pos a1] at q1
        split at q1
        · next q2 => unfold fV; rw [if_pos (Or.inr q2)]; exact f6 (by omega)
        · omega
    · have e1 : fK k v k2 v2 = k := by unfold fK; unfold isTx at a1; rw [if_neg a1]
      have hl := rfus_WF l l2 f7 e7 a4
      refine ⟨by rw [e1]; exact f1, fun q => ?_, fun q q2 => ?_, ?_, ?_, fun q => ?_, hl, hr⟩
      · rw [e1] at q
        obtain rfl := f2 q
        cases l2 <;> rfl
      · rw [e1] at q
        exact f3 q (rfus_leaf q2 a4)
      · unfold fV; split <;> omega
      · unfold fV; split <;> omega
      · rw [e1] at q
        unfold isTx at a1
        unfold fV
        rw [if_pos (by omega)]
        exact f6 (by omega)
theorem rfus_H : ∀ (x y : Rw), rWF x → ralk x y → rH (rfus x y) = rH x
  | .leaf, y, _, _ => by cases y <;> rfl
  | .inner _ _ _ _ _, .leaf, _, h => h.elim
  | .inner z k v l r, .inner _ k2 v2 l2 r2, ⟨_, f2, _, _, _, _, f7, f8⟩, ⟨h1, h2⟩ => by
    rw [rfus, rH_in, rH_in, rfus_H r r2 f8 h2]
    rcases h1 with ⟨a1, a2⟩ | ⟨a1, a2, a3, a4⟩
    · unfold isTx at a1
      obtain rfl := f2 (by omega)
      cases l2 <;> rfl
    · rw [rfus_H l l2 f7 a4]
/-- the first m items of a row, and behind them another one -/
def rpre : Nat → Rw → Rw → Rw
  | 0, _, x => x
  | _ + 1, .leaf, x => x
  | m + 1, .inner z k v l r, x => .inner z k v l (rpre m r x)
theorem rpre_S : ∀ (m : Nat) (w x : Rw) (z k : Nat) (v : Int) (l r : Rw), rdrop m w = Std.DTreeMap.Internal.Impl.inner z k v l r → rpre (m + 1) w x = rpre m w (Std.DTreeMap.Internal.Impl.inner z k v l x)
  | 0, w, x, z, k, v, l, r, h => by
    have h : w = Std.DTreeMap.Internal.Impl.inner z k v l r := h
    subst h; rfl
  | m + 1, .leaf, x, z, k, v, l, r, h => by
    have h : (Std.DTreeMap.Internal.Impl.leaf : Rw) = Std.DTreeMap.Internal.Impl.inner z k v l r := h
    cases h
  | m + 1, .inner z0 k0 v0 l0 r0, x, z, k, v, l, r, h => by
    have h9 := rpre_S m r0 x z k v l r h
    rw [rpre, rpre, h9]
theorem rpre_N : ∀ (m : Nat) (w x : Rw), m ≤ rI w → rN (rpre m w x) = rO w m + rN x
  | 0, w, x, _ => by cases w <;> (show rN x = 0 + rN x; omega)
  | m + 1, .leaf, x, h => by have : rI (Std.DTreeMap.Internal.Impl.leaf : Rw) = 0 := rfl; omega
  | m + 1, .inner z k v l r, x, h => by
    rw [rI_in] at h
    have e : rO (Std.DTreeMap.Internal.Impl.inner z k v l r : Rw) (m + 1) = 1 + rN l + rO r m := rfl
    rw [rpre, rN_in, rpre_N m r x (by omega), e]; omega
theorem rpre_WF : ∀ (m : Nat) (w x : Rw), rWF w → rWF x → rWF (rpre m w x)
  | 0, _, _, _, h => h
  | _ + 1, .leaf, _, _, h => h
  | m + 1, .inner z k v l r, x, ⟨f1, f2, f3, f4, f5, f6, f7, f8⟩, h => ⟨f1, f2, f3, f4, f5, f6, f7, rpre_WF m r x f8 h⟩
/-- an item alone; with another row behind it -/
def hd1 : Rw → Rw
  | .inner _ k v l _ => .inner 0 k v l .leaf
  | .leaf => .leaf
def setR : Rw → Rw → Rw
  | .inner z k v l _, x => .inner z k v l x
  | .leaf, x => x
/-- the k-th of n times n1 items from a on, the copies up to the e-th fused into it -/
def facc (w : Rw) (a n1 k : Nat) : Nat → Rw
  | 0 => hd1 (rdrop (a + k) w)
  | e + 1 => rfus (facc w a n1 k e) (hd1 (rdrop (a + (e + 1) * n1 + k) w))
/-- the items of the repeat: from the j-th on m of them, n copies each -/
def frow (w : Rw) (a n1 n : Nat) : Nat → Nat → Rw
  | _, 0 => .leaf
  | j, m + 1 => setR (facc w a n1 j (n - 1)) (frow w a n1 n (j + 1) m)
theorem halk_hd {x y : Rw} (h : halk x y) : ralk (hd1 x) (hd1 y) := by
  cases x with
  | leaf => exact h.elim
  | inner z k v l r =>
    cases y with
    | leaf => exact h.elim
    | inner z2 k2 v2 l2 r2 => exact ⟨h, trivial⟩
theorem hd1_WF {x : Rw} (h : rWF x) : rWF (hd1 x) := by
  cases x with
  | leaf => trivial
  | inner z k v l r =>
    obtain ⟨f1, f2, f3, f4, f5, f6, f7, f8⟩ := h
    exact ⟨f1, f2, f3, f4, f5, f6, f7, trivial⟩
theorem hd1_H {x : Rw} : rH (hd1 x) ≤ rH x := by
  cases x with
  | leaf => exact Nat.le_refl _
  | inner z k v l r =>
    have e : rH (Std.DTreeMap.Internal.Impl.leaf : Rw) = 0 := rfl
    rw [hd1, rH_in, rH_in, e]; omega
/-- all copies are alike to the first: what is fused of them is alike to it, well formed, as large, as deep -/
theorem facc_ok {w : Rw} {a n1 k n : Nat} (hwf : rWF w) (hal : ∀ e : Nat, 1 ≤ e → e < n → halk (rdrop (a + k) w) (rdrop (a + e * n1 + k) w)) : ∀ e : Nat, e < n → (∀ y : Rw, ralk (hd1 (rdrop (a + k) w)) y → ralk (facc w a n1 k e) y) ∧ rWF (facc w a n1 k e) ∧ rN (facc w a n1 k e) = rN (hd1 (rdrop (a + k) w)) ∧ rH (facc w a n1 k e) = rH (hd1 (rdrop (a + k) w))
  | 0, _ => ⟨fun _ h => h, hd1_WF (rdrop_WF _ _ hwf), rfl, rfl⟩
  | e + 1, he => by
    obtain ⟨h1, h2, h3, h4⟩ := facc_ok hwf hal e (by omega)
    have h5 := halk_hd (hal (e + 1) (by omega) he)
    have h6 := h1 _ h5
    have hw2 := hd1_WF (rdrop_WF (a + (e + 1) * n1 + k) w hwf)
    refine ⟨fun y hy => ralk_fus _ _ _ h6 (h1 y hy), rfus_WF _ _ h2 hw2 h6, ?_, ?_⟩
    · rw [facc, rfus_N _ _ h2 hw2 h6, h3]
    · rw [facc, rfus_H _ _ h2 h6, h4]


/-! the class's skeleton and its steps back -/
theorem sL_NL : ∀ w : Rw, rW0 w → sL w + rL w = 2 * rN w
  | .leaf, _ => rfl
  | .inner z k v l r, ⟨h1, h2, h3⟩ => by
    have i1 := sL_NL l h2
    have i2 := sL_NL r h3
    have e : rL (Std.DTreeMap.Internal.Impl.inner z k v l r : Rw) = (if k < 3 then 1 else 0) + rL l + rL r := rfl
    rw [sL_in, e, rN_in]
    by_cases h : k < 3
    · have hl := h1.2.1 h
      subst hl
      have e1 : rN (Std.DTreeMap.Internal.Impl.leaf : Rw) = 0 := rfl
      have e2 : rL (Std.DTreeMap.Internal.Impl.leaf : Rw) = 0 := rfl
      rw [if_pos h, if_pos h]
      omega
    · rw [if_neg h, if_neg h]
      omega
/-- a skeleton, as it is kept -/
def JK (w : Rw) : Prop := JWq w ∧ rL w ≤ 160
theorem JK_JS {w : Rw} (h : JK w) : JS w := ⟨JWq_W h.1, h.2⟩
theorem JK_s {w : Rw} (h : JK w) : sL w ≤ 1100 := by
  have h1 := JWq_s h.1 h.2
  have h2 := sL_NL w (rWF_0 _ h.1.1)
  omega
theorem JK_0 : JK .leaf := ⟨JWq_0, Nat.zero_le _⟩
theorem JK_TQ {w u : Rw} (h : JK w) (hq : TQ w u) : JK u := by
  have h9 := JWq_TQ hq h.1
  have h8 := (hq.1 h.1.1 h.1.2.1).2.2.2.2.2.2.2.1
  exact ⟨h9, Nat.le_trans h8 h.2⟩
theorem JK_ly {w b : Rw} (h : JK w) (hb9 : rPage b) (hH : pH b) : JWq (lyW w b) := by
  cases w with
  | leaf => exact JWq_pg hb9 hH
  | inner z k v l r =>
    have h1 := JWq_n h.1
    have h2 := h.2
    have h3 := (rPage_b hb9).2.1
    exact JWq_lay h.1 (by omega) hb9 hH
theorem JK_ly2 {w b : Rw} (h : JK w) (hb9 : rPage b) (hH : pH b) (hL : rL (lyW w b) ≤ 160) : JK (lyW w b) := ⟨JK_ly h hb9 hH, hL⟩
theorem rN_18 {w b : Rw} (h : JK w) (hb9 : rPage b) : rN w + rN b ≤ 1800 := by
  have h1 := JWq_n h.1
  have h2 := h.2
  have h3 := (rPage_b hb9).2.1
  omega
/-- the rows that can be taken back to, the newest first -/
def pstX (μ : va_M) (Bs : List Rw) : Prop := μ 18 4 = Bs.length ∧ ∀ (i : Nat) (B : Rw), Bs[i]? = some B → SA μ (20 + ((μ 18 3 - 1 - i) % 16).toNat) B 0 ∧ μ 36 ((μ 18 3 - 1 - i) % 16).toNat = sL B
def SKc (W : Rw) (Bs : List Rw) (μ : va_M) : Prop := rowS μ 6 W ∧ pstX μ Bs
theorem pstX_fr {μ u : va_M} {Bs : List Rw} (h : pstX μ Bs) (hf : ∀ x y, 18 ≤ x → x < 37 → u x y = μ x y) : pstX u Bs := by
  obtain ⟨h1, h2⟩ := h
  refine ⟨(hf _ _ (by decide) (by decide)).trans h1, fun i B hB => ?_⟩
  obtain ⟨a, b⟩ := h2 i B hB
  rw [hf 18 3 (by decide) (by decide)]
  exact ⟨SA_fr (fun y => hf _ _ (by omega) (by omega)) B 0 a, (hf _ _ (by decide) (by decide)).trans b⟩
theorem SKc_fr {W : Rw} {μ u : va_M} {Bs : List Rw} (h : SKc W Bs μ) (hf : ∀ x y, (6 ≤ x ∧ x < 12) ∨ (18 ≤ x ∧ x < 37) → u x y = μ x y) : SKc W Bs u := ⟨rowS_fr9 h.1 (fun x y q1 q2 => hf _ _ (by omega)), pstX_fr h.2 (fun x y q1 q2 => hf _ _ (by omega))⟩
theorem pstX_S {μ u : va_M} {W : Rw} {Bs : List Rw} (h : pstX μ Bs) (hl : Bs.length ≤ 16) (hb : 0 ≤ μ 18 3 ∧ μ 18 3 < 16) (hr : SA μ 7 W 0) (e3 : u 18 3 = (μ 18 3 + 1) % 16) (e4 : u 18 4 = min (μ 18 4 + 1) 16) (ex : ∀ y : Nat, y < sL W → u (20 + (μ 18 3).toNat) y = μ 7 y) (e6 : u 36 (μ 18 3).toNat = sL W) (en : ∀ k : Nat, k < 16 → k ≠ (μ 18 3).toNat → (∀ y, u (20 + k) y = μ (20 + k) y) ∧ u 36 k = μ 36 k) : pstX u (W :: Bs.take 15) := by
  obtain ⟨h1, h2⟩ := h
  refine ⟨by rw [e4, List.length_cons, List.length_take]; omega, fun i B hB => ?_⟩
  rw [e3]
  match i, hB with
  | 0, hB =>
    obtain rfl : W = B := Option.some.inj hB
    rw [show (((μ 18 3 + 1) % 16 - 1 - ((0 : Nat) : Int)) % 16).toNat = (μ 18 3).toNat by omega]
    exact ⟨SA_to W 0 0 hr (fun d hd => by rw [Nat.zero_add]; exact ex d hd), e6⟩
  | i + 1, hB =>
    obtain ⟨hi, hB2⟩ := tk_get 15 Bs i B hB
    obtain ⟨a, b⟩ := h2 i B hB2
    have ei : (((μ 18 3 + 1) % 16 - 1 - ((i + 1 : Nat) : Int)) % 16).toNat = ((μ 18 3 - 1 - (i : Int)) % 16).toNat := by omega
    obtain ⟨n1, n2⟩ := en ((μ 18 3 - 1 - (i : Int)) % 16).toNat (by omega) (by omega)
    rw [ei]
    exact ⟨SA_fr n1 B 0 a, n2.trans b⟩
theorem pstX_T {μ u : va_M} {B : Rw} {Bt : List Rw} (h : pstX μ (B :: Bt)) (hb : 0 ≤ μ 18 3 ∧ μ 18 3 < 16) (e3 : u 18 3 = (μ 18 3 + 16 - 1) % 16) (e4 : u 18 4 = max (μ 18 4 - 1) 0) (en : ∀ x y, 20 ≤ x → x < 37 → u x y = μ x y) : pstX u Bt := by
  obtain ⟨h1, h2⟩ := h
  rw [List.length_cons] at h1
  refine ⟨by omega, fun i C hC => ?_⟩
  obtain ⟨a, b⟩ := h2 (i + 1) C hC
  have ei : ((μ 18 3 - 1 - ((i + 1 : Nat) : Int)) % 16).toNat = ((u 18 3 - 1 - (i : Int)) % 16).toNat := by omega
  rw [ei] at a b
  exact ⟨SA_fr (fun y => en _ _ (by omega) (by omega)) C 0 a, (en _ _ (by decide) (by decide)).trans b⟩
theorem pstX_0 {μ : va_M} (h : μ 18 4 = 0) : pstX μ [] := ⟨h, fun i B hB => by simp at hB⟩
/-- the tape, the tokens and the pages stay; the skeleton may change -/
def SP (μ u : va_M) : Prop := ∀ x y, ((x = 0 ∧ y = 2) ∨ x = 1 ∨ x = 2 ∨ x = 3 ∨ (113 ≤ x ∧ (x - 113) % 15 < 9)) → u x y = μ x y
theorem SP_rf {μ : va_M} : SP μ μ := fun _ _ _ => rfl
theorem SP_tr {μ u v : va_M} (h1 : SP μ u) (h2 : SP u v) : SP μ v := fun x y h => (h2 x y h).trans (h1 x y h)
theorem SP_nz {μ u : va_M} (h : SP μ u) : SP μ (nz u) := fun x y q => (nz_n (by unfold Zc; omega)).trans (h x y q)
theorem SKc_nz {W : Rw} {Bs : List Rw} {u : va_M} (h : SKc W Bs u) : SKc W Bs (nz u) := SKc_fr h (fun x y q => nz_n (by unfold Zc; omega))
theorem SZ_P {μ u : va_M} (h : SZ μ u) : SP μ u := fun x y q => h x y (by omega)


/-! what a text says, told once for both sides. A token: its sort, what its letters come to, how many letters -/
abbrev Tk : Type := Int × Int × Nat
def lets (b : Int → Int) : Nat → Int → Nat
  | 0, _ => 0
  | f + 1, s => if 97 ≤ b s ∧ b s ≤ 122 then 1 + lets b f (s + 1) else 0
def nval (b : Int → Int) (a : Int) : Nat → Int
  | 0 => 0
  | k + 1 => 27 * nval b a k + b (a + k) - 96
def tkS (b : Int → Int) (a : Int) : Int := if 97 ≤ b a ∧ b a ≤ 122 then 2 else if b (a + 1) = 47 then 1 else 0
def tkN (b : Int → Int) (a : Int) : Int := if 97 ≤ b a ∧ b a ≤ 122 then a else if b (a + 1) = 47 then a + 2 else a + 1
def tkL (b : Int → Int) (a : Int) : Nat := lets b 6 (tkN b a)
abbrev tkGood (b : Int → Int) (a : Int) : Prop := 1 ≤ tkL b a ∧ ¬ (97 ≤ b (tkN b a + tkL b a) ∧ b (tkN b a + tkL b a) ≤ 122) ∧ (tkS b a < 2 → b (tkN b a + tkL b a) = 62)
def tkV (b : Int → Int) (a : Int) : Int := nval b (tkN b a) (tkL b a)
def tkX (b : Int → Int) (a : Int) : Int := tkN b a + tkL b a + (if tkS b a < 2 then 1 else 0)
def idx (q v : Int) : List Tk → Nat
  | [] => 0
  | e :: t => if e.1 = q ∧ e.2.1 = v then 0 else 1 + idx q v t
def pgo (b : Int → Int) (n : Int) : Nat → Int → List Tk → List Int → Option (List Tk × List Int)
  | 0, _, _, _ => none
  | f + 1, a, T, S =>
    if n ≤ a then (if S.length = 0 then none else some (T, S))
    else if b a = 32 then pgo b n f (a + 1) T S
    else if ¬ (b a = 60 ∨ (97 ≤ b a ∧ b a ≤ 122)) then none
    else if S.length = 60 then none
    else if ¬ tkGood b a then none
    else if idx (tkS b a) (tkV b a) T < T.length then pgo b n f (tkX b a) T (S ++ [(idx (tkS b a) (tkV b a) T : Int)])
    else if T.length = 200 then none
    else pgo b n f (tkX b a) (T ++ [(tkS b a, tkV b a, tkL b a)]) (S ++ [(T.length : Int)])
/-- a text of n bytes read from place a on: nothing where there is a fault, else the tokens known and those of the page -/
def pg (b : Int → Int) (n a : Int) (T : List Tk) (S : List Int) : Option (List Tk × List Int) := pgo b n ((n - a).toNat + 1) a T S
theorem lets_sm {b : Int → Int} : ∀ (f : Nat) (s : Int) (i : Nat), i < lets b f s → 97 ≤ b (s + i) ∧ b (s + i) ≤ 122
  | 0, _, i, h => absurd h (Nat.not_lt_zero i)
  | f + 1, s, i, h => by
    rw [lets] at h
    split at h
    · next h9 =>
      cases i with
      | zero => rw [show s + ((0 : Nat) : Int) = s by omega]; exact h9
      | succ i =>
        have h2 := lets_sm (b := b) f (s + 1) i (by omega)
        rw [show s + ((i + 1 : Nat) : Int) = s + 1 + i by omega]
        exact h2
    · omega
theorem lets_le {b : Int → Int} : ∀ (f : Nat) (s : Int), lets b f s ≤ f
  | 0, _ => Nat.le_refl 0
  | f + 1, s => by
    rw [lets]
    have := lets_le (b := b) f (s + 1)
    split <;> omega
theorem lets_of {b : Int → Int} : ∀ (f : Nat) (s : Int) (L : Nat), (∀ i : Nat, i < L → 97 ≤ b (s + i) ∧ b (s + i) ≤ 122) → L ≤ f → ¬ (97 ≤ b (s + L) ∧ b (s + L) ≤ 122) → lets b f s = L
  | 0, s, L, _, h2, _ => by rw [lets]; omega
  | f + 1, s, 0, _, _, h3 => by
    rw [show s + ((0 : Nat) : Int) = s by omega] at h3
    rw [lets, if_neg h3]
  | f + 1, s, L + 1, h1, h2, h3 => by
    have h0 := h1 0 (by omega)
    rw [show s + ((0 : Nat) : Int) = s by omega] at h0
    rw [lets, if_pos h0, lets_of f (s + 1) L (fun i hi => by
      have h9 := h1 (i + 1) (by omega)
      rw [show s + ((i + 1 : Nat) : Int) = s + 1 + i by omega] at h9
      exact h9) (by omega) (by rw [show s + 1 + (L : Int) = s + ((L + 1 : Nat) : Int) by omega]; exact h3)]
    omega
theorem lets_6 {b : Int → Int} : ∀ (f : Nat) (s : Int), (∀ i : Nat, i < f → 97 ≤ b (s + i) ∧ b (s + i) ≤ 122) → lets b f s = f
  | 0, _, _ => rfl
  | f + 1, s, h => by
    have h0 := h 0 (by omega)
    rw [show s + ((0 : Nat) : Int) = s by omega] at h0
    rw [lets, if_pos h0, lets_6 f (s + 1) (fun i hi => by
      have h9 := h (i + 1) (by omega)
      rw [show s + ((i + 1 : Nat) : Int) = s + 1 + i by omega] at h9
      exact h9)]
    omega
theorem tkX_lt {b : Int → Int} {a : Int} : a + 1 ≤ tkX b a ∨ ¬ tkGood b a := by
  by_cases h : tkGood b a
  · left
    have h1 := h.1
    unfold tkX tkN tkS
    unfold tkL at *
    split <;> (try split) <;> (try split) <;> omega
  · exact Or.inr h
theorem pgo_fuel {b : Int → Int} {n : Int} : ∀ (f g : Nat) (a : Int) (T : List Tk) (S : List Int), 1 ≤ f → n - a + 1 ≤ f → 1 ≤ g → n - a + 1 ≤ g → pgo b n f a T S = pgo b n g a T S
  | 0, _, _, _, _, h, _, _, _ => absurd h (by omega)
  | _ + 1, 0, _, _, _, _, _, h, _ => absurd h (by omega)
  | f + 1, g + 1, a, T, S, _, h2, _, h4 => by
    rw [pgo, pgo]
    by_cases h : n ≤ a
    · rw [if_pos h, if_pos h]
    · rw [if_neg h, if_neg h, pgo_fuel f g (a + 1) T S (by omega) (by omega) (by omega) (by omega)]
      rcases tkX_lt (b := b) (a := a) with h9 | h9
      · rw [pgo_fuel f g (tkX b a) T _ (by omega) (by omega) (by omega) (by omega), pgo_fuel f g (tkX b a) _ _ (by omega) (by omega) (by omega) (by omega)]
      · rw [if_pos h9, if_pos h9]
theorem pg_end {b : Int → Int} {n a : Int} {T : List Tk} {S : List Int} (h : n ≤ a) : pg b n a T S = if S.length = 0 then none else some (T, S) := by
  rw [pg, pgo, if_pos h]
theorem pg_S {b : Int → Int} {n a : Int} {T : List Tk} {S : List Int} (h : a < n) : pg b n a T S =
    if b a = 32 then pg b n (a + 1) T S
    else if ¬ (b a = 60 ∨ (97 ≤ b a ∧ b a ≤ 122)) then none
    else if S.length = 60 then none
    else if ¬ tkGood b a then none
    else if idx (tkS b a) (tkV b a) T < T.length then pg b n (tkX b a) T (S ++ [(idx (tkS b a) (tkV b a) T : Int)])
    else if T.length = 200 then none
    else pg b n (tkX b a) (T ++ [(tkS b a, tkV b a, tkL b a)]) (S ++ [(T.length : Int)]) := by
  rw [pg, pgo, if_neg (by omega)]
  unfold pg
  rw [pgo_fuel (n - a).toNat ((n - (a + 1)).toNat + 1) (a + 1) T S (by omega) (by omega) (by omega) (by omega)]
  rcases tkX_lt (b := b) (a := a) with h9 | h9
  · rw [pgo_fuel (n - a).toNat ((n - tkX b a).toNat + 1) (tkX b a) T _ (by omega) (by omega) (by omega) (by omega), pgo_fuel (n - a).toNat ((n - tkX b a).toNat + 1) (tkX b a) _ _ (by omega) (by omega) (by omega) (by omega)]
  · rw [if_pos h9, if_pos h9]
theorem pg_blanks {b : Int → Int} {n : Int} {T : List Tk} {S : List Int} : ∀ (k : Nat) (a : Int), (∀ j : Int, a ≤ j → j < a + k → b j = 32) → a + k ≤ n → pg b n a T S = pg b n (a + k) T S
  | 0, a, _, _ => by rw [show a + ((0 : Nat) : Int) = a by omega]
  | k + 1, a, h, h2 => by
    rw [pg_S (by omega), if_pos (h a (by omega) (by omega)), pg_blanks k (a + 1) (fun j h3 h4 => h j (by omega) (by omega)) (by omega)]
    rw [show a + 1 + (k : Int) = a + ((k + 1 : Nat) : Int) by omega]
theorem idx_is {q v : Int} : ∀ (T : List Tk) (k : Nat) (x : Tk), T[k]? = some x → x.1 = q → x.2.1 = v → (∀ (j : Nat) (y : Tk), j < k → T[j]? = some y → ¬ (y.1 = q ∧ y.2.1 = v)) → idx q v T = k
  | [], k, x, h, _, _, _ => by rw [List.getElem?_nil] at h; cases h
  | e :: t, 0, x, h, h1, h2, _ => by
    rw [List.getElem?_cons_zero] at h
    cases h
    rw [idx, if_pos ⟨h1, h2⟩]
  | e :: t, k + 1, x, h, h1, h2, h3 => by
    rw [List.getElem?_cons_succ] at h
    rw [idx, if_neg (h3 0 e (by omega) (by rw [List.getElem?_cons_zero])), idx_is t k x h h1 h2 (fun j y hj hy => h3 (j + 1) y (by omega) (by rw [List.getElem?_cons_succ]; exact hy))]
    omega
theorem idx_no {q v : Int} : ∀ T : List Tk, (∀ (j : Nat) (y : Tk), T[j]? = some y → ¬ (y.1 = q ∧ y.2.1 = v)) → idx q v T = T.length
  | [], _ => rfl
  | e :: t, h => by
    rw [idx, if_neg (h 0 e (by rw [List.getElem?_cons_zero])), idx_no t (fun j y hy => h (j + 1) y (by rw [List.getElem?_cons_succ]; exact hy)), List.length_cons]
    omega
/-- no token begins so -/
def tkNo (μ : va_M) (q n : Int) : Prop := ∀ L : Nat, (∀ i : Nat, i < L → sm (bA μ (n + i))) → ¬ tkOk μ q n L
theorem tkNo_of {μ : va_M} {q n : Int} {L : Nat} (hs : ∀ i : Nat, i < L → sm (bA μ (n + i))) (h : L = 7 ∨ (L = 0 ∧ ¬ sm (bA μ n)) ∨ (1 ≤ L ∧ L ≤ 6 ∧ ¬ sm (bA μ (n + L)) ∧ ¬ (q < 2 → bA μ (n + L) = 62))) : tkNo μ q n := by
  intro L2 h2 ho
  obtain ⟨a1, a2, a3, a4⟩ := ho
  rcases h with rfl | ⟨rfl, h⟩ | ⟨b1, b2, b3, b4⟩
  · exact a3 (hs L2 (by omega))
  · have h9 := h2 0 (by omega)
    rw [show n + ((0 : Nat) : Int) = n by omega] at h9
    exact h h9
  · rcases Nat.lt_trichotomy L L2 with h9 | h9 | h9
    · exact b3 (h2 L h9)
    · subst h9; exact b4 a4
    · exact a3 (hs L2 h9)
theorem tkB_is {μ : va_M} {a s n : Int} (h : tkB μ a s n) : s = tkS (bA μ) a ∧ n = tkN (bA μ) a := by
  unfold tkS tkN
  unfold tkB sm at h
  rcases h with ⟨h1, h2, h3⟩ | ⟨h1, h2, h3, h4⟩ | ⟨h1, h2, h3, h4⟩
  · rw [if_pos h1, if_pos h1]; exact ⟨h2, h3⟩
  · rw [if_neg h1, if_neg h1, if_neg h2, if_neg h2]; exact ⟨h3, h4⟩
  · rw [if_neg h1, if_neg h1, if_pos h2, if_pos h2]; exact ⟨h3, h4⟩
theorem nmV_is {μ : va_M} {a : Int} : ∀ L : Nat, nmV μ a L = nval (bA μ) a L
  | 0 => rfl
  | L + 1 => by rw [nmV, nval, nmV_is L]
theorem tkGood_no {μ : va_M} {a q n : Int} (hb : tkB μ a q n) (h : tkNo μ q n) : ¬ tkGood (bA μ) a := by
  obtain ⟨rfl, rfl⟩ := tkB_is hb
  intro ⟨h1, h2, h3⟩
  exact h (tkL (bA μ) a) (fun i hi => lets_sm 6 _ i hi) ⟨h1, lets_le 6 _, h2, h3⟩
theorem tkGood_ok {μ : va_M} {a q n : Int} {L : Nat} (hb : tkB μ a q n) (hs : ∀ i : Nat, i < L → sm (bA μ (n + i))) (h : tkOk μ q n L) : q = tkS (bA μ) a ∧ n = tkN (bA μ) a ∧ L = tkL (bA μ) a ∧ tkGood (bA μ) a := by
  obtain ⟨rfl, rfl⟩ := tkB_is hb
  obtain ⟨h1, h2, h3, h4⟩ := h
  have e : tkL (bA μ) a = L := lets_of 6 _ L hs h2 h3
  refine ⟨rfl, rfl, e.symm, ?_⟩
  unfold tkGood
  rw [e]
  exact ⟨h1, h3, h4⟩
/-- the tokens known stand in the arrays -/
def tabR (μ : va_M) (T : List Tk) : Prop := μ 0 9 = T.length ∧ T.length ≤ 200 ∧ ∀ (k : Nat) (e : Tk), T[k]? = some e → μ 3 k = e.1 ∧ μ 4 k = e.2.1 ∧ μ 5 k = e.2.2
set_option maxHeartbeats 4000000 in
set_option maxRecDepth 100000 in
theorem m_readsTokenF (l : Launch) (dC : Nat → ClassId) (dI : Nat → Nat → Nat) (cI cZ cII cIII : ClassId) (h0 sz : Nat) (μ : va_M)  (hB : okB μ) (hU : okU μ) (h4 : 0 ≤ μ 0 4 ∧ μ 0 4 ≤ μ 0 3) (hf0 : μ 0 6 = 0) (hne : bA μ (μ 0 4) ≠ -1) : Met l yX10_readsToken (Cond.code yX10_readsToken cX10_readsToken 4 (some .int) :: wsG) ({ frames := 3, cells := 0, slots := 0, locals := 56 } : Room) (va_Pc [.ref h0] (fun U => U.heap.size = sz ∧ va_P (dC, dI) vwCl (fw (mE cI cZ cII cIII h0) h0 6325 μ) U.heap ∧ va_K (dC, dI) vwCl (mT cI cZ cII cIII) U)) (va_Qi (fun (r9 : Int32) (u : va_M × Int) => r9 = iZ u.2 ∧ (fun (u : va_M) (r : Int) => ∃ (q s : Int) (L : Nat), tkB μ (μ 0 4) q s ∧ (∀ i : Nat, i < L → sm (bA μ (s + i))) ∧ 0 ≤ u 0 4 ∧ u 0 4 ≤ μ 0 3 ∧ ((tkNo μ q s ∧ fr PN μ u ∧ u 0 6 = 1 ∧ r = -1) ∨ (tkOk μ q s L ∧ u 0 4 = s + L + (if q < 2 then 1 else 0) ∧ ((fr PN μ u ∧ u 0 6 = 0 ∧ 0 ≤ r ∧ r < μ 0 9 ∧ tkIs μ q (nmV μ s L) r.toNat ∧ ∀ j : Nat, (j : Int) < r → ¬ tkIs μ q (nmV μ s L) j) ∨ ((∀ j : Nat, (j : Int) < μ 0 9 → ¬ tkIs μ q (nmV μ s L) j) ∧ μ 0 9 = 200 ∧ fr PN μ u ∧ u 0 6 = 2 ∧ r = -1) ∨ ((∀ j : Nat, (j : Int) < μ 0 9 → ¬ tkIs μ q (nmV μ s L) j) ∧ μ 0 9 < 200 ∧ u 0 6 = 0 ∧ r = μ 0 9 ∧ u 0 9 = μ 0 9 + 1 ∧ u 3 r.toNat = q ∧ u 4 r.toNat = nmV μ s L ∧ u 5 r.toNat = L ∧ fr (fun x y => PN x y ∨ (x = 0 ∧ y = 9) ∨ ((x = 3 ∨ x = 4 ∨ x = 5) ∧ y = (μ 0 9).toNat)) μ u))))) u.1 u.2) (fun u t => va_P (dC, dI) vwCl (fw (mE cI cZ cII cIII h0) h0 6325 u.1) t.heap ∧ va_K (dC, dI) vwCl (mT cI cZ cII cIII) t) (fA h0 6325 sz)) 0 0 (fA h0 6325 sz) := by
  refine Met.ofW (cc := cX10_readsToken) (maxL := 4) (ret := (some .int)) (by decide) rfl ?_
  intro p e s m args below meth c s₁ B hml hv
  obtain ⟨rfl, hsz, hP, hK⟩ := hv
  have hx := B.exec
  have hb := B.bytes
  have hr := B.returns
  have hts : ∀ w ∈ wsG, w.before _ s = true := hG_of (atoms_spec (ws := (Cond.code yX10_readsToken cX10_readsToken 4 (some .int) :: wsG)) B.pre)
  have hown : s.vm.findClass RX10 = some m.cls := findClass_of_methodNamed B.named
  have hlocks := B.notSynchronized
  subst hsz
  have hS : va_S (fA h0 6325 s.heap.size) s.heap s.heap [] := va_S.rf
  have hl := lv_entry ([.ref h0]) (n := 4) (Nat.le_of_ble_eq_true rfl)
  rw [lg_entry_eq]
  generalize (lg_sl ([.ref h0]) ++ List.replicate (4 - (lg_sl ([.ref h0])).length) Slot.unset).toArray = ls at hl ⊢
  have hl : lv_has ls 4 [(0, .ref h0)] := hl
  have hend := bA_end hne
  have hU1_ := hU.1
  have hU2_ := hU.2.1
  refine lv_aload_n hx hb dX10_readsToken_0 rfl (lv_at hl 0 rfl) ?_
  refine fz_get (D := (dC, dI)) (ci := 10) (v := .int (iZ (μ 0 4))) (C := RX10) (T := TX10) (N := 53) hx hb hts inG10 hown hK hP (k := 0) (by decide) (F := mF h0) mE_obj rfl 4 (by decide) (hts _ k1170) (fun _ h9 => h9) rfl dX10_readsToken_1 ?_
  refine lv_istore_n (lv' := [(1, .int (iZ (μ 0 4))), (0, .ref h0)]) hx hb dX10_readsToken_4 rfl hl (by decide) rfl (fun ls hl => ?_)
  refine lv_aload_n hx hb dX10_readsToken_5 rfl (lv_at hl 1 rfl) ?_
  refine va_calli (va_runV (As := []) (rest := []) ⟨hx, hb, hml, hown, hts⟩ (m_readsSort l dC dI cI cZ cII cIII h0 s.heap.size μ  (by first | assumption | omega | exact ⟨by omega, by omega⟩) (by first | assumption | omega | exact ⟨by omega, by omega⟩) (by first | assumption | omega | exact ⟨by omega, by omega⟩)) (cwV 0 hts (gV_G k1361 k1363 ks_yX10_readsSort k13 k1364) rfl rfl rfl (by decide +kernel) ⟨Nat.le_of_ble_eq_true rfl, Nat.le_of_ble_eq_true rfl⟩) ⟨fun a U g mk q => by obtain ⟨q0, q1, qP, qK⟩ := q; exact ⟨q0, q1, qP, va_K.moved (u := U) (U := U.calling g mk a) (Vm.Alike.refl U.vm) qK⟩, va_recv hK hP (ci := 10) (q0 := 0) rfl ((fw_get (by decide)).trans (by rw [mE_obj]; rfl)), fun U hU hW => ⟨rfl, by rw [hU], by rw [hU]; exact hP, va_K.moved hW.alike hK⟩⟩ rfl rfl hl.1 rfl (lv_room (Nat.le_of_ble_eq_true rfl)) dX10_readsToken_6 ⟨Nat.le_of_ble_eq_true rfl, Nat.le_of_ble_eq_true rfl⟩) hS (fun q _ h => fA_le hS.1 q h) (fA_le hS.1) (fun r9 u9 t9 H1 locs ht9 hvm9 hw9 hB9 hz9 hk9 hS => ?_)
  obtain ⟨μa, rs⟩ := u9
  obtain ⟨hP, -⟩ := hB9
  rw [ht9] at hP
  generalize H1 = H at hP hS ⊢
  obtain ⟨e9, hw9⟩ := hw9
  have e9 : r9 = iZ rs := e9
  subst e9
  simp only at hP hw9
  have hμa := hw9; clear hw9
  obtain ⟨n0, htk, hat, vf1, hq2, hn0⟩ : ∃ n0, tkB μ (μ 0 4) rs n0 ∧ μa 0 4 = n0 ∧ fr PN μ μa ∧ (0 ≤ rs ∧ rs ≤ 2) ∧ (0 ≤ n0 ∧ n0 ≤ μ 0 3) := by
    rcases hμa with ⟨g1, g2, g3⟩ | ⟨g1, g2, g3, g4⟩ | ⟨g1, g2, g3, g4⟩
    · exact ⟨μ 0 4, Or.inl ⟨g1, g3, rfl⟩, by rw [g2], by rw [g2]; exact fr_rfl, by omega, by omega⟩
    · exact ⟨μ 0 4 + 1, Or.inr (Or.inl ⟨g1, g2, g4, rfl⟩), by rw [g3, uz_s], by rw [g3]; exact fr_uz fr_rfl (by simp [PN]), by omega, by omega⟩
    · exact ⟨μ 0 4 + 1 + 1, Or.inr (Or.inr ⟨g1, g2, g4, by omega⟩), by rw [g3, uz_s], by rw [g3]; exact fr_uz (fr_uz fr_rfl (by simp [PN])) (by simp [PN]), by omega, by have := bA_end (μ := μ) (k := μ 0 4 + 1) (by omega); omega⟩
  have hB9 : okB μa := okB_fr vf1 (by simp [PN]) (by simp [PN]) hB
  have e13 : μa 0 3 = μ 0 3 := vf1 0 3 (by simp [PN])
  have hf9 : μa 0 6 = 0 := by
    rcases hμa with ⟨g1, g2, g3⟩ | ⟨g1, g2, g3, g4⟩ | ⟨g1, g2, g3, g4⟩
    · rw [g2]; exact hf0
    · rw [g3, uz_n (by omega)]; exact hf0
    · rw [g3, uz_n (by omega), uz_n (by omega)]; exact hf0
  clear hμa
  refine lv_istore_n (lv' := [(2, .int (iZ (rs))), (1, .int (iZ (μ 0 4))), (0, .ref h0)]) hx hb dX10_readsToken_9 rfl hl (by decide) rfl (fun ls hl => ?_)
  refine lv_aload_n hx hb dX10_readsToken_10 rfl (lv_at hl 2 rfl) ?_
  refine va_callv (va_runV (As := []) (rest := []) ⟨hx, hb, hml, hown, hts⟩ (m_readsName l dC dI cI cZ cII cIII h0 H.size μa  (by first | assumption | omega | exact ⟨by omega, by omega⟩) (by first | assumption | omega | exact ⟨by omega, by omega⟩) (by first | assumption | omega | exact ⟨by omega, by omega⟩)) (cwV 0 hts (gV_G k1365 k1367 ks_yX10_readsName k13 k1368) rfl rfl rfl (by decide +kernel) ⟨Nat.le_of_ble_eq_true rfl, Nat.le_of_ble_eq_true rfl⟩) ⟨fun a U g mk q => by obtain ⟨q0, q1, qP, qK⟩ := q; exact ⟨q0, q1, qP, va_K.moved (u := U) (U := U.calling g mk a) (Vm.Alike.refl U.vm) qK⟩, va_recv hK hP (ci := 10) (q0 := 0) rfl ((fw_get (by decide)).trans (by rw [mE_obj]; rfl)), fun U hU hW => ⟨rfl, by rw [hU], by rw [hU]; exact hP, va_K.moved hW.alike hK⟩⟩ rfl rfl hl.1 rfl (lv_room (Nat.le_of_ble_eq_true rfl)) dX10_readsToken_11 ⟨Nat.le_of_ble_eq_true rfl, Nat.le_of_ble_eq_true rfl⟩) hS (fun q _ h => fA_le hS.1 q h) (fA_le hS.1) (fun u9 t9 H1 locs ht9 hvm9 hw9 hB9 hz9 hk9 hS => ?_)
  obtain ⟨hP, -⟩ := hB9
  rw [ht9] at hP
  generalize H1 = H at hP hS ⊢
  obtain ⟨μb, eμb⟩ : ∃ x : va_M, x = u9 := ⟨_, rfl⟩
  rw [← eμb] at hP hw9
  have hμb := hw9; clear hw9
  obtain ⟨L, vf2, h24, h24b, h27, h28, hsm, hor⟩ := hμb
  have hby : ∀ k, bA μa k = bA μ k := fun k => bA_fr vf1 (by simp [PN]) (by simp [PN])
  simp only [hby, nmV_fr vf1 (by simp [PN]) (by simp [PN]), hat] at h24 h27 hsm hor
  have v2 : fr PN μ μb := fr_trans vf1 vf2
  have e23 : μb 0 3 = μ 0 3 := v2 0 3 (by simp [PN])
  have e29 : μb 0 9 = μ 0 9 := v2 0 9 (by simp [PN])
  have hby2 : ∀ k, bA μb k = bA μ k := fun k => bA_fr v2 (by simp [PN]) (by simp [PN])
  have hB2_ := hB.2.1
  have hB1_ := hB.1
  refine lv_aload_n hx hb dX10_readsToken_14 rfl (lv_at hl 2 rfl) ?_
  refine fz_get (D := (dC, dI)) (ci := 10) (v := .int (iZ (μb 0 6))) (C := RX10) (T := TX10) (N := 53) hx hb hts inG10 hown hK hP (k := 0) (by decide) (F := mF h0) mE_obj rfl 6 (by decide) (hts _ k1172) (fun _ h9 => h9) rfl dX10_readsToken_15 ?_
  refine fz_if_ne (tgt := 61) (by constructor <;> omega) hx hb dX10_readsToken_18 (by decide) (fun c18_ => ?_) (fun c18_ => ?_)
  · refine lv_aload_n hx hb dX10_readsToken_61 rfl (lv_at hl 2 rfl) ?_
    refine fz_get (D := (dC, dI)) (ci := 10) (v := .int (iZ (μb 0 6))) (C := RX10) (T := TX10) (N := 53) hx hb hts inG10 hown hK hP (k := 0) (by decide) (F := mF h0) mE_obj rfl 6 (by decide) (hts _ k1172) (fun _ h9 => h9) rfl dX10_readsToken_62 ?_
    refine fz_if_le (tgt := 70) (by constructor <;> omega) hx hb dX10_readsToken_65 (by decide) (fun h9 => (by omega)) (fun c65_ => ?_)
    refine lv_iconst (v := iZ (-1)) hx hb dX10_readsToken_68 rfl ?_
    exact W.iret (v := iZ ((-1))) hx hb hr (fun t9 ht9 hW9 => ⟨⟨iZ ((-1)), (μb, (-1)), rfl, ⟨rfl, (by
                dsimp only
                have hno : tkNo μ rs n0 := by
                  rcases hor with g | g
                  · exact tkNo_of hsm (Or.inr (Or.inr ⟨g.2.1, g.2.2.1, g.2.2.2, by intro h; have h1 := h (by omega); omega⟩))
                  · rcases g.2 with g2 | g2
                    · exact tkNo_of hsm (Or.inl g2)
                    · exact tkNo_of hsm (Or.inr (Or.inl g2))
                first | (exact ⟨rs, n0, L, htk, hsm, by omega, by omega, Or.inl ⟨hno, v2, by omega, rfl⟩⟩) | (exact ⟨rs, n0, L, htk, hsm, by omega, by omega, Or.inl ⟨hno, wv, w6, rfl⟩⟩))⟩, by rw [ht9]; exact hP, va_K.moved hW9.alike hK⟩, hS.F ht9⟩) hS.2.2 dX10_readsToken_69
  · refine lv_iload_n hx hb dX10_readsToken_21 rfl (lv_at hl 0 rfl) ?_
    refine lv_iconst (v := iZ 2) hx hb dX10_readsToken_22 rfl ?_
    refine fz_icmp_ge (tgt := 61) (by constructor <;> omega) (by decide) hx hb dX10_readsToken_23 (by decide) (fun c23_ => ?_) (fun c23_ => ?_)
    · refine lv_aload_n hx hb dX10_readsToken_61 rfl (lv_at hl 2 rfl) ?_
      refine fz_get (D := (dC, dI)) (ci := 10) (v := .int (iZ (μb 0 6))) (C := RX10) (T := TX10) (N := 53) hx hb hts inG10 hown hK hP (k := 0) (by decide) (F := mF h0) mE_obj rfl 6 (by decide) (hts _ k1172) (fun _ h9 => h9) rfl dX10_readsToken_62 ?_
      refine fz_if_le (tgt := 70) (by constructor <;> omega) hx hb dX10_readsToken_65 (by decide) (fun c65_ => ?_) (fun h9 => (by omega))
      have t6 : μb 0 6 = 0 := by first | omega | (rw [rfl, uz_n (by omega)]; omega)
      have t4 : μb 0 4 = n0 + L + (if rs < 2 then 1 else 0) := by first | (rw [if_neg (by omega)]; omega) | (rw [if_pos (by omega), rfl, uz_s]; omega)
      have t27 : μb 0 27 = nmV μ n0 L := by first | exact h27 | (rw [rfl, uz_n (by omega)]; exact h27)
      have t28 : μb 0 28 = L := by first | exact h28 | (rw [rfl, uz_n (by omega)]; exact h28)
      have vt : fr PN μ μb := by first | exact v2 | (subst hx; exact fr_uz v2 (by simp [PN]))
      have tok : tkOk μ rs n0 L := by
        rcases hor with g | g
        · exact ⟨g.2.1, g.2.2.1, g.2.2.2, fun _ => by omega⟩
        · omega
      have tq9 : μb 0 9 = μ 0 9 := vt 0 9 (by simp [PN])
      have tle : μb 0 4 ≤ μ 0 3 := by first | omega | (have h8 := bA_end (μ := μ) (k := n0 + L) (by omega); rw [rfl, uz_s]; omega)
      have tU : okU μb := by
        obtain ⟨hU1, hU2, hU3⟩ := hU
        unfold okU
        rw [tq9]
        exact ⟨hU1, hU2, fun k hk => by rw [vt 3 k (by simp [PN]), vt 4 k (by simp [PN])]; exact hU3 k hk⟩
      have tI : ∀ k, tkIs μb rs (μb 0 27) k ↔ tkIs μ rs (nmV μ n0 L) k := fun k => by unfold tkIs; rw [vt 3 k (by simp [PN]), vt 4 k (by simp [PN]), t27]
      have tR : inR (μb 0 27) := by
        rw [t27]
        have hz := nmV_rng (μ := μ) (a := n0) L hsm
        have hz2 : (27 : Int) ^ L ≤ 27 ^ 6 := by exact_mod_cast Nat.pow_le_pow_right (show 0 < 27 by decide) tok.2.1
        have hz3 : (27 : Int) ^ 6 = 387420489 := by decide
        constructor <;> omega
      refine lv_iconst (v := iZ 0) hx hb dX10_readsToken_70 rfl ?_
      refine lv_istore_n (lv' := [(3, .int (iZ (0))), (2, .int (iZ (rs))), (1, .int (iZ (μ 0 4))), (0, .ref h0)]) hx hb dX10_readsToken_71 rfl hl (by decide) rfl (fun ls hl => ?_)
      refine LX10_readsToken_72 hx hb hml hown hts hK (Nat.le_of_ble_eq_true rfl) (Nat.le_of_ble_eq_true rfl) (Nat.le_of_ble_eq_true rfl) (Nat.le_of_ble_eq_true rfl) (μb) (μ 0 4) (rs) (by exact tU) (by constructor <;> omega) (by exact tR) ?_ ?_ _ (0) μb H locs ls (by omega) (by rfl) (by intro j hj; omega) (Nat.lt_succ_self _) hP hS (lv_sub hl [0, 3, 2, 1] rfl)
      · intro k_1 μ1_ H locs ls q3_1 q4_1 q5_1 q6_1 hP hS hl
        have hl : lv_has ls 4 [(3, .int (iZ (k_1))), (0, .ref h0), (1, .int (iZ ((μ 0 4)))), (2, .int (iZ (rs)))] := hl
        refine lv_iload_n hx hb dX10_readsToken_103 rfl (lv_at hl 0 rfl) ?_
        exact W.iret (v := iZ (k_1)) hx hb hr (fun t9 ht9 hW9 => ⟨⟨iZ (k_1), (μ1_, k_1), rfl, ⟨rfl, (by
                        dsimp only
                        rw [q3_1]
                        have q4 := q4_1
                        have q5 := q5_1
                        have q6 := q6_1
                        rw [tq9] at q4
                        rw [tI] at q5
                        exact ⟨rs, n0, L, htk, hsm, by rw [t4]; split <;> omega, tle, Or.inr ⟨tok, t4, Or.inl ⟨vt, t6, q4.1, q4.2, q5, fun j hj hq => q6 j hj ((tI j).mpr hq)⟩⟩⟩)⟩, by rw [ht9]; exact hP, va_K.moved hW9.alike hK⟩, hS.F ht9⟩) hS.2.2 dX10_readsToken_104
      · intro k_2 μ2_ H locs ls q1_2 q2__2 hP hS hl
        have hl : lv_has ls 4 [(0, .ref h0), (1, .int (iZ ((μ 0 4)))), (2, .int (iZ (rs)))] := hl
        have a9 : μ2_ 0 9 = μ 0 9 := by rw [q1_2]; exact tq9
        have a6 : μ2_ 0 6 = 0 := by rw [q1_2]; exact t6
        have a4 : μ2_ 0 4 = n0 + L + (if rs < 2 then 1 else 0) := by rw [q1_2]; exact t4
        have a27 : μ2_ 0 27 = nmV μ n0 L := by rw [q1_2]; exact t27
        have a28 : μ2_ 0 28 = L := by rw [q1_2]; exact t28
        have av : fr PN μ μ2_ := by rw [q1_2]; exact vt
        have ano : ∀ j : Nat, (j : Int) < μ 0 9 → ¬ tkIs μ rs (nmV μ n0 L) j := fun j hj hq => q2__2 j (by rw [tq9]; exact hj) ((tI j).mpr hq)
        obtain ⟨hU1, hU2, hU3⟩ := hU
        refine lv_aload_n hx hb dX10_readsToken_111 rfl (lv_at hl 0 rfl) ?_
        refine fz_get (D := (dC, dI)) (ci := 10) (v := .int (iZ (μ2_ 0 9))) (C := RX10) (T := TX10) (N := 53) hx hb hts inG10 hown hK hP (k := 0) (by decide) (F := mF h0) mE_obj rfl 9 (by decide) (hts _ k1175) (fun _ h9 => h9) rfl dX10_readsToken_112 ?_
        refine lv_sipush (v := iZ 200) hx hb dX10_readsToken_115 rfl ?_
        refine fz_icmp_ne (tgt := 127) (by constructor <;> omega) (by decide) hx hb dX10_readsToken_118 (by decide) (fun c118_ => ?_) (fun c118_ => ?_)
        · refine lv_aload_n hx hb dX10_readsToken_127 rfl (lv_at hl 0 rfl) ?_
          refine fz_get (D := (dC, dI)) (ci := 10) (v := .int (iZ (μ2_ 0 6))) (C := RX10) (T := TX10) (N := 53) hx hb hts inG10 hown hK hP (k := 0) (by decide) (F := mF h0) mE_obj rfl 6 (by decide) (hts _ k1172) (fun _ h9 => h9) rfl dX10_readsToken_128 ?_
          refine fz_if_le (tgt := 136) (by constructor <;> omega) hx hb dX10_readsToken_131 (by decide) (fun c131_ => ?_) (fun h9 => (by omega))
          refine lv_aload_n hx hb dX10_readsToken_136 rfl (lv_at hl 0 rfl) ?_
          refine fz_get (D := (dC, dI)) (ci := 10) (v := .ref (h0 + 3)) (C := RX10) (T := TX10) (N := 53) hx hb hts inG10 hown hK hP (k := 0) (by decide) (F := mF h0) mE_obj rfl 11 (by decide) (hts _ k1177) (fun _ h9 => h9) rfl dX10_readsToken_137 ?_
          refine lv_aload_n hx hb dX10_readsToken_140 rfl (lv_at hl 0 rfl) ?_
          refine fz_get (D := (dC, dI)) (ci := 10) (v := .int (iZ (μ2_ 0 9))) (C := RX10) (T := TX10) (N := 53) hx hb hts inG10 hown hK hP (k := 0) (by decide) (F := mF h0) mE_obj rfl 9 (by decide) (hts _ k1175) (fun _ h9 => h9) rfl dX10_readsToken_141 ?_
          refine lv_iload_n hx hb dX10_readsToken_144 rfl (lv_at hl 2 rfl) ?_
          refine fz_st (k := 3) (n := 201) (i := (μ2_ 0 9)) (z := rs) hx hb hK hP fA_in hS 0 (by decide) mE_tokenSort rfl ⟨by omega, by omega⟩ (by decide) dX10_readsToken_145 (fun H locs hP hS => ?_)
          obtain ⟨μ3, eμ3⟩ : ∃ x : va_M, x = uz μ2_ 3 (μ2_ 0 9).toNat (rs) := ⟨_, rfl⟩
          rw [← eμ3] at hP
          refine lv_aload_n hx hb dX10_readsToken_146 rfl (lv_at hl 0 rfl) ?_
          refine fz_get (D := (dC, dI)) (ci := 10) (v := .ref (h0 + 4)) (C := RX10) (T := TX10) (N := 53) hx hb hts inG10 hown hK hP (k := 0) (by decide) (F := mF h0) mE_obj rfl 12 (by decide) (hts _ k1178) (fun _ h9 => h9) rfl dX10_readsToken_147 ?_
          refine lv_aload_n hx hb dX10_readsToken_150 rfl (lv_at hl 0 rfl) ?_
          refine fz_get (D := (dC, dI)) (ci := 10) (v := .int (iZ (μ3 0 9))) (C := RX10) (T := TX10) (N := 53) hx hb hts inG10 hown hK hP (k := 0) (by decide) (F := mF h0) mE_obj rfl 9 (by decide) (hts _ k1175) (fun _ h9 => h9) rfl dX10_readsToken_151 ?_
          rw [show μ3 0 9 = μ2_ 0 9 from by rw [eμ3, uz_n (by omega)]]
          refine lv_aload_n hx hb dX10_readsToken_154 rfl (lv_at hl 0 rfl) ?_
          refine fz_get (D := (dC, dI)) (ci := 10) (v := .int (iZ (μ3 0 27))) (C := RX10) (T := TX10) (N := 53) hx hb hts inG10 hown hK hP (k := 0) (by decide) (F := mF h0) mE_obj rfl 27 (by decide) (hts _ k1193) (fun _ h9 => h9) rfl dX10_readsToken_155 ?_
          rw [show μ3 0 27 = μ2_ 0 27 from by rw [eμ3, uz_n (by omega)]]
          refine fz_st (k := 4) (n := 201) (i := (μ2_ 0 9)) (z := (μ2_ 0 27)) hx hb hK hP fA_in hS 0 (by decide) mE_tokenLetters rfl ⟨by omega, by omega⟩ (by decide) dX10_readsToken_158 (fun H locs hP hS => ?_)
          obtain ⟨μ4, eμ4⟩ : ∃ x : va_M, x = uz μ3 4 (μ2_ 0 9).toNat (μ2_ 0 27) := ⟨_, rfl⟩
          rw [← eμ4] at hP
          refine lv_aload_n hx hb dX10_readsToken_159 rfl (lv_at hl 0 rfl) ?_
          refine fz_get (D := (dC, dI)) (ci := 10) (v := .ref (h0 + 5)) (C := RX10) (T := TX10) (N := 53) hx hb hts inG10 hown hK hP (k := 0) (by decide) (F := mF h0) mE_obj rfl 13 (by decide) (hts _ k1179) (fun _ h9 => h9) rfl dX10_readsToken_160 ?_
          refine lv_aload_n hx hb dX10_readsToken_163 rfl (lv_at hl 0 rfl) ?_
          refine fz_get (D := (dC, dI)) (ci := 10) (v := .int (iZ (μ4 0 9))) (C := RX10) (T := TX10) (N := 53) hx hb hts inG10 hown hK hP (k := 0) (by decide) (F := mF h0) mE_obj rfl 9 (by decide) (hts _ k1175) (fun _ h9 => h9) rfl dX10_readsToken_164 ?_
          rw [show μ4 0 9 = μ2_ 0 9 from by rw [eμ4, uz_n (by omega), eμ3, uz_n (by omega)]]
          refine lv_aload_n hx hb dX10_readsToken_167 rfl (lv_at hl 0 rfl) ?_
          refine fz_get (D := (dC, dI)) (ci := 10) (v := .int (iZ (μ4 0 28))) (C := RX10) (T := TX10) (N := 53) hx hb hts inG10 hown hK hP (k := 0) (by decide) (F := mF h0) mE_obj rfl 28 (by decide) (hts _ k1194) (fun _ h9 => h9) rfl dX10_readsToken_168 ?_
          rw [show μ4 0 28 = μ2_ 0 28 from by rw [eμ4, uz_n (by omega), eμ3, uz_n (by omega)]]
          refine fz_st (k := 5) (n := 201) (i := (μ2_ 0 9)) (z := (μ2_ 0 28)) hx hb hK hP fA_in hS 0 (by decide) mE_tokenLong rfl ⟨by omega, by omega⟩ (by decide) dX10_readsToken_171 (fun H locs hP hS => ?_)
          obtain ⟨μ5, eμ5⟩ : ∃ x : va_M, x = uz μ4 5 (μ2_ 0 9).toNat (μ2_ 0 28) := ⟨_, rfl⟩
          rw [← eμ5] at hP
          refine lv_aload_n hx hb dX10_readsToken_172 rfl (lv_at hl 0 rfl) ?_
          refine lv_dup hx hb dX10_readsToken_173 rfl ?_
          refine fz_get (D := (dC, dI)) (ci := 10) (v := .int (iZ (μ5 0 9))) (C := RX10) (T := TX10) (N := 53) hx hb hts inG10 hown hK hP (k := 0) (by decide) (F := mF h0) mE_obj rfl 9 (by decide) (hts _ k1175) (fun _ h9 => h9) rfl dX10_readsToken_174 ?_
          rw [show μ5 0 9 = μ2_ 0 9 from by rw [eμ5, uz_n (by omega), eμ4, uz_n (by omega), eμ3, uz_n (by omega)]]
          refine lv_iconst (v := iZ 1) hx hb dX10_readsToken_177 rfl ?_
          refine lv_iadd hx hb dX10_readsToken_178 ?_
          refine lv_topi (fun x9 ex9 => ?_)
          obtain rfl : x9 = iZ ((μ2_ 0 9) + 1) := ex9.trans (iZ_add _ _)
          refine fz_put (D := (dC, dI)) (ci := 10) (ty := .int) (z := ((μ2_ 0 9) + 1)) (C := RX10) (T := TX10) (N := 53) hx hb hts inG10 tyX10 tyX10_ok nmX10 hown hK hP fA_in hS (k := 0) (by decide) (F := mF h0) mE_obj rfl 9 (by decide) (hts _ k1175) (fun _ h9 => h9) rfl (by decide +kernel) rfl rfl (fun _ => Nat.le_of_ble_eq_true rfl) (fun _ _ => rfl) dX10_readsToken_179 (fun H locs hP hS => ?_)
          obtain ⟨μ6, eμ6⟩ : ∃ x : va_M, x = uz μ5 0 9 ((μ2_ 0 9) + 1) := ⟨_, rfl⟩
          rw [← eμ6] at hP
          refine lv_aload_n hx hb dX10_readsToken_182 rfl (lv_at hl 0 rfl) ?_
          refine fz_get (D := (dC, dI)) (ci := 10) (v := .int (iZ (μ6 0 9))) (C := RX10) (T := TX10) (N := 53) hx hb hts inG10 hown hK hP (k := 0) (by decide) (F := mF h0) mE_obj rfl 9 (by decide) (hts _ k1175) (fun _ h9 => h9) rfl dX10_readsToken_183 ?_
          rw [show μ6 0 9 = (μ2_ 0 9) + 1 from by rw [eμ6, uz_s]]
          refine lv_iconst (v := iZ 1) hx hb dX10_readsToken_186 rfl ?_
          refine lv_isub hx hb dX10_readsToken_187 ?_
          refine lv_topi (fun x9 ex9 => ?_)
          obtain rfl : x9 = iZ (((μ2_ 0 9) + 1) - 1) := ex9.trans (iZ_sub _ _)
          exact W.iret (v := iZ (((μ2_ 0 9) + 1) - 1)) hx hb hr (fun t9 ht9 hW9 => ⟨⟨iZ (((μ2_ 0 9) + 1) - 1), (μ6, ((μ2_ 0 9) + 1) - 1), rfl, ⟨rfl, (by
                            dsimp only
                            refine ⟨rs, n0, L, htk, hsm, ?_, ?_, Or.inr ⟨tok, ?_, Or.inr (Or.inr ⟨ano, by omega, ?_, ?_, ?_, ?_, ?_, ?_, ?_⟩)⟩⟩
                            · rw [eμ6, eμ5, eμ4, eμ3, uz_n (by omega), uz_n (by omega), uz_n (by omega), uz_n (by omega), a4]; split <;> omega
                            · rw [eμ6, eμ5, eμ4, eμ3, uz_n (by omega), uz_n (by omega), uz_n (by omega), uz_n (by omega), a4, ← t4]; exact tle
                            · rw [eμ6, eμ5, eμ4, eμ3, uz_n (by omega), uz_n (by omega), uz_n (by omega), uz_n (by omega)]; exact a4
                            · rw [eμ6, eμ5, eμ4, eμ3, uz_n (by omega), uz_n (by omega), uz_n (by omega), uz_n (by omega)]; exact a6
                            · omega
                            · rw [eμ6, eμ5, eμ4, eμ3, uz_s]; omega
                            · rw [eμ6, eμ5, eμ4, eμ3, uz_n (by omega), uz_n (by omega), uz_n (by omega), show (μ2_ 0 9 + 1 - 1).toNat = (μ2_ 0 9).toNat by congr 1; omega, uz_s]
                            · rw [eμ6, eμ5, eμ4, eμ3, uz_n (by omega), uz_n (by omega), show (μ2_ 0 9 + 1 - 1).toNat = (μ2_ 0 9).toNat by congr 1; omega, uz_s]; exact a27
                            · rw [eμ6, eμ5, eμ4, eμ3, uz_n (by omega), show (μ2_ 0 9 + 1 - 1).toNat = (μ2_ 0 9).toNat by congr 1; omega, uz_s]; exact a28
                            · subst eμ6 eμ5 eμ4 eμ3
                              have av2 := fr_mono (P2 := fun x y => PN x y ∨ (x = 0 ∧ y = 9) ∨ ((x = 3 ∨ x = 4 ∨ x = 5) ∧ y = (μ 0 9).toNat)) av (fun x y h => Or.inl h)
                              rw [a9]
                              exact fr_uz (fr_uz (fr_uz (fr_uz av2 (by simp)) (by simp)) (by simp)) (by simp))⟩, by rw [ht9]; exact hP, va_K.moved hW9.alike hK⟩, hS.F ht9⟩) hS.2.2 dX10_readsToken_188
        · refine lv_aload_n hx hb dX10_readsToken_121 rfl (lv_at hl 0 rfl) ?_
          refine lv_iconst (v := iZ 2) hx hb dX10_readsToken_122 rfl ?_
          refine lv_iload_n hx hb dX10_readsToken_123 rfl (lv_at hl 1 rfl) ?_
          refine va_callv (va_runV (As := [.int (iZ (2)), .int (iZ ((μ 0 4)))]) (rest := []) ⟨hx, hb, hml, hown, hts⟩ (m_wrong l dC dI cI cZ cII cIII h0 H.size μ2_ (2) ((μ 0 4)) (by first | assumption | omega | exact ⟨by omega, by omega⟩)) (cwV 2 hts (gV_G k1353 k1355 ks_yX10_wrong k13 k1356) rfl rfl rfl (by decide +kernel) ⟨Nat.le_of_ble_eq_true rfl, Nat.le_of_ble_eq_true rfl⟩) ⟨fun a U g mk q => by obtain ⟨q0, q1, qP, qK⟩ := q; exact ⟨q0, q1, qP, va_K.moved (u := U) (U := U.calling g mk a) (Vm.Alike.refl U.vm) qK⟩, va_recv hK hP (ci := 10) (q0 := 0) rfl ((fw_get (by decide)).trans (by rw [mE_obj]; rfl)), fun U hU hW => ⟨rfl, by rw [hU], by rw [hU]; exact hP, va_K.moved hW.alike hK⟩⟩ rfl rfl hl.1 rfl (lv_room (Nat.le_of_ble_eq_true rfl)) dX10_readsToken_124 ⟨Nat.le_of_ble_eq_true rfl, Nat.le_of_ble_eq_true rfl⟩) hS (fun q _ h => fA_le hS.1 q h) (fA_le hS.1) (fun u9 t9 H1 locs ht9 hvm9 hw9 hB9 hz9 hk9 hS => ?_)
          obtain ⟨hP, -⟩ := hB9
          rw [ht9] at hP
          generalize H1 = H at hP hS ⊢
          obtain ⟨μ7, eμ7⟩ : ∃ x : va_M, x = u9 := ⟨_, rfl⟩
          rw [← eμ7] at hP hw9
          have hμ7 := hw9; clear hw9
          rw [if_pos (by omega)] at hμ7
          have w6 : μ7 0 6 = 2 := by rw [hμ7, uz_n (by omega), uz_s]
          have w4 : μ7 0 4 = n0 + L + (if rs < 2 then 1 else 0) := by rw [hμ7, uz_n (by omega), uz_n (by omega)]; exact a4
          have wv : fr PN μ μ7 := by rw [hμ7]; exact fr_uz (fr_uz av (by simp [PN])) (by simp [PN])
          refine lv_aload_n hx hb dX10_readsToken_127 rfl (lv_at hl 0 rfl) ?_
          refine fz_get (D := (dC, dI)) (ci := 10) (v := .int (iZ (μ7 0 6))) (C := RX10) (T := TX10) (N := 53) hx hb hts inG10 hown hK hP (k := 0) (by decide) (F := mF h0) mE_obj rfl 6 (by decide) (hts _ k1172) (fun _ h9 => h9) rfl dX10_readsToken_128 ?_
          refine fz_if_le (tgt := 136) (by constructor <;> omega) hx hb dX10_readsToken_131 (by decide) (fun h9 => (by omega)) (fun c131_ => ?_)
          refine lv_iconst (v := iZ (-1)) hx hb dX10_readsToken_134 rfl ?_
          exact W.iret (v := iZ ((-1))) hx hb hr (fun t9 ht9 hW9 => ⟨⟨iZ ((-1)), (μ7, (-1)), rfl, ⟨rfl, (by
                            dsimp only
                            exact ⟨rs, n0, L, htk, hsm, by rw [w4]; split <;> omega, by rw [w4, ← t4]; exact tle, Or.inr ⟨tok, w4, Or.inr (Or.inl ⟨ano, by omega, wv, w6, rfl⟩)⟩⟩)⟩, by rw [ht9]; exact hP, va_K.moved hW9.alike hK⟩, hS.F ht9⟩) hS.2.2 dX10_readsToken_135
    · refine lv_aload_n hx hb dX10_readsToken_26 rfl (lv_at hl 2 rfl) ?_
      refine lv_aload_n hx hb dX10_readsToken_27 rfl (lv_at hl 2 rfl) ?_
      refine fz_get (D := (dC, dI)) (ci := 10) (v := .int (iZ (μb 0 4))) (C := RX10) (T := TX10) (N := 53) hx hb hts inG10 hown hK hP (k := 0) (by decide) (F := mF h0) mE_obj rfl 4 (by decide) (hts _ k1170) (fun _ h9 => h9) rfl dX10_readsToken_28 ?_
      refine va_calli (va_runV (As := [.int (iZ (μb 0 4))]) (rest := []) ⟨hx, hb, hml, hown, hts⟩ (m_byteAt l dC dI cI cZ cII cIII h0 H.size μb (μb 0 4) (by first | assumption | omega | exact ⟨by omega, by omega⟩) (by first | assumption | omega | exact ⟨by omega, by omega⟩) (by first | assumption | omega | exact ⟨by omega, by omega⟩)) (cwV 1 hts (gV_G k1346 k1348 ks_yX10_byteAt k13 k1349) rfl rfl rfl (by decide +kernel) ⟨Nat.le_of_ble_eq_true rfl, Nat.le_of_ble_eq_true rfl⟩) ⟨fun a U g mk q => by obtain ⟨q0, q1, qP, qK⟩ := q; exact ⟨q0, q1, qP, va_K.moved (u := U) (U := U.calling g mk a) (Vm.Alike.refl U.vm) qK⟩, va_recv hK hP (ci := 10) (q0 := 0) rfl ((fw_get (by decide)).trans (by rw [mE_obj]; rfl)), fun U hU hW => ⟨rfl, by rw [hU], by rw [hU]; exact hP, va_K.moved hW.alike hK⟩⟩ rfl rfl hl.1 rfl (lv_room (Nat.le_of_ble_eq_true rfl)) dX10_readsToken_31 ⟨Nat.le_of_ble_eq_true rfl, Nat.le_of_ble_eq_true rfl⟩) hS (fun q _ h => fA_le hS.1 q h) (fA_le hS.1) (fun r9 u9 t9 H1 locs ht9 hvm9 hw9 hB9 hz9 hk9 hS => ?_)
      obtain ⟨μ8, rb⟩ := u9
      obtain ⟨hP, -⟩ := hB9
      rw [ht9] at hP
      generalize H1 = H at hP hS ⊢
      obtain ⟨e9, hw9⟩ := hw9
      have e9 : r9 = iZ rb := e9
      subst e9
      simp only at hP hw9
      have hμ8 := hw9; clear hw9
      rw [hμ8.1] at hP; have hμ8 := hμ8.2
      rw [hby2, h24] at hμ8
      have hr9 := bA_rng (μ := μ) (k := n0 + L) hB (by omega)
      refine lv_bipush (v := iZ 62) hx hb dX10_readsToken_34 rfl ?_
      refine fz_icmp_ne (tgt := 52) (by constructor <;> omega) (by decide) hx hb dX10_readsToken_36 (by decide) (fun c36_ => ?_) (fun c36_ => ?_)
      · refine lv_aload_n hx hb dX10_readsToken_52 rfl (lv_at hl 2 rfl) ?_
        refine lv_iconst (v := iZ 1) hx hb dX10_readsToken_53 rfl ?_
        refine lv_aload_n hx hb dX10_readsToken_54 rfl (lv_at hl 2 rfl) ?_
        refine fz_get (D := (dC, dI)) (ci := 10) (v := .int (iZ (μb 0 4))) (C := RX10) (T := TX10) (N := 53) hx hb hts inG10 hown hK hP (k := 0) (by decide) (F := mF h0) mE_obj rfl 4 (by decide) (hts _ k1170) (fun _ h9 => h9) rfl dX10_readsToken_55 ?_
        refine va_callv (va_runV (As := [.int (iZ (1)), .int (iZ (μb 0 4))]) (rest := []) ⟨hx, hb, hml, hown, hts⟩ (m_wrong l dC dI cI cZ cII cIII h0 H.size μb (1) (μb 0 4) (by first | assumption | omega | exact ⟨by omega, by omega⟩)) (cwV 2 hts (gV_G k1353 k1355 ks_yX10_wrong k13 k1356) rfl rfl rfl (by decide +kernel) ⟨Nat.le_of_ble_eq_true rfl, Nat.le_of_ble_eq_true rfl⟩) ⟨fun a U g mk q => by obtain ⟨q0, q1, qP, qK⟩ := q; exact ⟨q0, q1, qP, va_K.moved (u := U) (U := U.calling g mk a) (Vm.Alike.refl U.vm) qK⟩, va_recv hK hP (ci := 10) (q0 := 0) rfl ((fw_get (by decide)).trans (by rw [mE_obj]; rfl)), fun U hU hW => ⟨rfl, by rw [hU], by rw [hU]; exact hP, va_K.moved hW.alike hK⟩⟩ rfl rfl hl.1 rfl (lv_room (Nat.le_of_ble_eq_true rfl)) dX10_readsToken_58 ⟨Nat.le_of_ble_eq_true rfl, Nat.le_of_ble_eq_true rfl⟩) hS (fun q _ h => fA_le hS.1 q h) (fA_le hS.1) (fun u9 t9 H1 locs ht9 hvm9 hw9 hB9 hz9 hk9 hS => ?_)
        obtain ⟨hP, -⟩ := hB9
        rw [ht9] at hP
        generalize H1 = H at hP hS ⊢
        obtain ⟨μ9, eμ9⟩ : ∃ x : va_M, x = u9 := ⟨_, rfl⟩
        rw [← eμ9] at hP hw9
        have hμ9 := hw9; clear hw9
        rw [if_pos (by omega)] at hμ9
        have w6 : μ9 0 6 = 1 := by rw [hμ9, uz_n (by omega), uz_s]
        have w4 : μ9 0 4 = μb 0 4 := by rw [hμ9, uz_n (by omega), uz_n (by omega)]
        have wv : fr PN μ μ9 := by rw [hμ9]; exact fr_uz (fr_uz v2 (by simp [PN])) (by simp [PN])
        refine lv_aload_n hx hb dX10_readsToken_61 rfl (lv_at hl 2 rfl) ?_
        refine fz_get (D := (dC, dI)) (ci := 10) (v := .int (iZ (μ9 0 6))) (C := RX10) (T := TX10) (N := 53) hx hb hts inG10 hown hK hP (k := 0) (by decide) (F := mF h0) mE_obj rfl 6 (by decide) (hts _ k1172) (fun _ h9 => h9) rfl dX10_readsToken_62 ?_
        refine fz_if_le (tgt := 70) (by constructor <;> omega) hx hb dX10_readsToken_65 (by decide) (fun h9 => (by omega)) (fun c65_ => ?_)
        refine lv_iconst (v := iZ (-1)) hx hb dX10_readsToken_68 rfl ?_
        exact W.iret (v := iZ ((-1))) hx hb hr (fun t9 ht9 hW9 => ⟨⟨iZ ((-1)), (μ9, (-1)), rfl, ⟨rfl, (by
                        dsimp only
                        have hno : tkNo μ rs n0 := by
                          rcases hor with g | g
                          · exact tkNo_of hsm (Or.inr (Or.inr ⟨g.2.1, g.2.2.1, g.2.2.2, by intro h; have h1 := h (by omega); omega⟩))
                          · rcases g.2 with g2 | g2
                            · exact tkNo_of hsm (Or.inl g2)
                            · exact tkNo_of hsm (Or.inr (Or.inl g2))
                        first | (exact ⟨rs, n0, L, htk, hsm, by omega, by omega, Or.inl ⟨hno, v2, by omega, rfl⟩⟩) | (exact ⟨rs, n0, L, htk, hsm, by omega, by omega, Or.inl ⟨hno, wv, w6, rfl⟩⟩))⟩, by rw [ht9]; exact hP, va_K.moved hW9.alike hK⟩, hS.F ht9⟩) hS.2.2 dX10_readsToken_69
      · refine lv_aload_n hx hb dX10_readsToken_39 rfl (lv_at hl 2 rfl) ?_
        refine lv_dup hx hb dX10_readsToken_40 rfl ?_
        refine fz_get (D := (dC, dI)) (ci := 10) (v := .int (iZ (μb 0 4))) (C := RX10) (T := TX10) (N := 53) hx hb hts inG10 hown hK hP (k := 0) (by decide) (F := mF h0) mE_obj rfl 4 (by decide) (hts _ k1170) (fun _ h9 => h9) rfl dX10_readsToken_41 ?_
        refine lv_iconst (v := iZ 1) hx hb dX10_readsToken_44 rfl ?_
        refine lv_iadd hx hb dX10_readsToken_45 ?_
        refine lv_topi (fun x9 ex9 => ?_)
        obtain rfl : x9 = iZ ((μb 0 4) + 1) := ex9.trans (iZ_add _ _)
        refine fz_put (D := (dC, dI)) (ci := 10) (ty := .int) (z := ((μb 0 4) + 1)) (C := RX10) (T := TX10) (N := 53) hx hb hts inG10 tyX10 tyX10_ok nmX10 hown hK hP fA_in hS (k := 0) (by decide) (F := mF h0) mE_obj rfl 4 (by decide) (hts _ k1170) (fun _ h9 => h9) rfl (by decide +kernel) rfl rfl (fun _ => Nat.le_of_ble_eq_true rfl) (fun _ _ => rfl) dX10_readsToken_46 (fun H locs hP hS => ?_)
        obtain ⟨μ10, eμ10⟩ : ∃ x : va_M, x = uz μb 0 4 ((μb 0 4) + 1) := ⟨_, rfl⟩
        rw [← eμ10] at hP
        refine lv_goto (tgt := 61) hx hb dX10_readsToken_49 (by decide) ?_
        refine lv_aload_n hx hb dX10_readsToken_61 rfl (lv_at hl 2 rfl) ?_
        refine fz_get (D := (dC, dI)) (ci := 10) (v := .int (iZ (μ10 0 6))) (C := RX10) (T := TX10) (N := 53) hx hb hts inG10 hown hK hP (k := 0) (by decide) (F := mF h0) mE_obj rfl 6 (by decide) (hts _ k1172) (fun _ h9 => h9) rfl dX10_readsToken_62 ?_
        rw [show μ10 0 6 = μb 0 6 from by rw [eμ10, uz_n (by omega)]]
        refine fz_if_le (tgt := 70) (by constructor <;> omega) hx hb dX10_readsToken_65 (by decide) (fun c65_ => ?_) (fun h9 => (by omega))
        have t6 : μ10 0 6 = 0 := by first | omega | (rw [eμ10, uz_n (by omega)]; omega)
        have t4 : μ10 0 4 = n0 + L + (if rs < 2 then 1 else 0) := by first | (rw [if_neg (by omega)]; omega) | (rw [if_pos (by omega), eμ10, uz_s]; omega)
        have t27 : μ10 0 27 = nmV μ n0 L := by first | exact h27 | (rw [eμ10, uz_n (by omega)]; exact h27)
        have t28 : μ10 0 28 = L := by first | exact h28 | (rw [eμ10, uz_n (by omega)]; exact h28)
        have vt : fr PN μ μ10 := by first | exact v2 | (subst eμ10; exact fr_uz v2 (by simp [PN]))
        have tok : tkOk μ rs n0 L := by
          rcases hor with g | g
          · exact ⟨g.2.1, g.2.2.1, g.2.2.2, fun _ => by omega⟩
          · omega
        have tq9 : μ10 0 9 = μ 0 9 := vt 0 9 (by simp [PN])
        have tle : μ10 0 4 ≤ μ 0 3 := by first | omega | (have h8 := bA_end (μ := μ) (k := n0 + L) (by omega); rw [eμ10, uz_s]; omega)
        have tU : okU μ10 := by
          obtain ⟨hU1, hU2, hU3⟩ := hU
          unfold okU
          rw [tq9]
          exact ⟨hU1, hU2, fun k hk => by rw [vt 3 k (by simp [PN]), vt 4 k (by simp [PN])]; exact hU3 k hk⟩
        have tI : ∀ k, tkIs μ10 rs (μ10 0 27) k ↔ tkIs μ rs (nmV μ n0 L) k := fun k => by unfold tkIs; rw [vt 3 k (by simp [PN]), vt 4 k (by simp [PN]), t27]
        have tR : inR (μ10 0 27) := by
          rw [t27]
          have hz := nmV_rng (μ := μ) (a := n0) L hsm
          have hz2 : (27 : Int) ^ L ≤ 27 ^ 6 := by exact_mod_cast Nat.pow_le_pow_right (show 0 < 27 by decide) tok.2.1
          have hz3 : (27 : Int) ^ 6 = 387420489 := by decide
          constructor <;> omega
        refine lv_iconst (v := iZ 0) hx hb dX10_readsToken_70 rfl ?_
        refine lv_istore_n (lv' := [(3, .int (iZ (0))), (2, .int (iZ (rs))), (1, .int (iZ (μ 0 4))), (0, .ref h0)]) hx hb dX10_readsToken_71 rfl hl (by decide) rfl (fun ls hl => ?_)
        refine LX10_readsToken_72 hx hb hml hown hts hK (Nat.le_of_ble_eq_true rfl) (Nat.le_of_ble_eq_true rfl) (Nat.le_of_ble_eq_true rfl) (Nat.le_of_ble_eq_true rfl) (μ10) (μ 0 4) (rs) (by exact tU) (by constructor <;> omega) (by exact tR) ?_ ?_ _ (0) μ10 H locs ls (by omega) (by rfl) (by intro j hj; omega) (Nat.lt_succ_self _) hP hS (lv_sub hl [0, 3, 2, 1] rfl)
        · intro k_11 μ11_ H locs ls q3_11 q4_11 q5_11 q6_11 hP hS hl
          have hl : lv_has ls 4 [(3, .int (iZ (k_11))), (0, .ref h0), (1, .int (iZ ((μ 0 4)))), (2, .int (iZ (rs)))] := hl
          refine lv_iload_n hx hb dX10_readsToken_103 rfl (lv_at hl 0 rfl) ?_
          exact W.iret (v := iZ (k_11)) hx hb hr (fun t9 ht9 hW9 => ⟨⟨iZ (k_11), (μ11_, k_11), rfl, ⟨rfl, (by
                            dsimp only
                            rw [q3_11]
                            have q4 := q4_11
                            have q5 := q5_11
                            have q6 := q6_11
                            rw [tq9] at q4
                            rw [tI] at q5
                            exact ⟨rs, n0, L, htk, hsm, by rw [t4]; split <;> omega, tle, Or.inr ⟨tok, t4, Or.inl ⟨vt, t6, q4.1, q4.2, q5, fun j hj hq => q6 j hj ((tI j).mpr hq)⟩⟩⟩)⟩, by rw [ht9]; exact hP, va_K.moved hW9.alike hK⟩, hS.F ht9⟩) hS.2.2 dX10_readsToken_104
        · intro k_12 μ12_ H locs ls q1_12 q2__12 hP hS hl
          have hl : lv_has ls 4 [(0, .ref h0), (1, .int (iZ ((μ 0 4)))), (2, .int (iZ (rs)))] := hl
          have a9 : μ12_ 0 9 = μ 0 9 := by rw [q1_12]; exact tq9
          have a6 : μ12_ 0 6 = 0 := by rw [q1_12]; exact t6
          have a4 : μ12_ 0 4 = n0 + L + (if rs < 2 then 1 else 0) := by rw [q1_12]; exact t4
          have a27 : μ12_ 0 27 = nmV μ n0 L := by rw [q1_12]; exact t27
          have a28 : μ12_ 0 28 = L := by rw [q1_12]; exact t28
          have av : fr PN μ μ12_ := by rw [q1_12]; exact vt
          have ano : ∀ j : Nat, (j : Int) < μ 0 9 → ¬ tkIs μ rs (nmV μ n0 L) j := fun j hj hq => q2__12 j (by rw [tq9]; exact hj) ((tI j).mpr hq)
          obtain ⟨hU1, hU2, hU3⟩ := hU
          refine lv_aload_n hx hb dX10_readsToken_111 rfl (lv_at hl 0 rfl) ?_
          refine fz_get (D := (dC, dI)) (ci := 10) (v := .int (iZ (μ12_ 0 9))) (C := RX10) (T := TX10) (N := 53) hx hb hts inG10 hown hK hP (k := 0) (by decide) (F := mF h0) mE_obj rfl 9 (by decide) (hts _ k1175) (fun _ h9 => h9) rfl dX10_readsToken_112 ?_
          refine lv_sipush (v := iZ 200) hx hb dX10_readsToken_115 rfl ?_
          refine fz_icmp_ne (tgt := 127) (by constructor <;> omega) (by decide) hx hb dX10_readsToken_118 (by decide) (fun c118_ => ?_) (fun c118_ => ?_)
          · refine lv_aload_n hx hb dX10_readsToken_127 rfl (lv_at hl 0 rfl) ?_
            refine fz_get (D := (dC, dI)) (ci := 10) (v := .int (iZ (μ12_ 0 6))) (C := RX10) (T := TX10) (N := 53) hx hb hts inG10 hown hK hP (k := 0) (by decide) (F := mF h0) mE_obj rfl 6 (by decide) (hts _ k1172) (fun _ h9 => h9) rfl dX10_readsToken_128 ?_
            refine fz_if_le (tgt := 136) (by constructor <;> omega) hx hb dX10_readsToken_131 (by decide) (fun c131_ => ?_) (fun h9 => (by omega))
            refine lv_aload_n hx hb dX10_readsToken_136 rfl (lv_at hl 0 rfl) ?_
            refine fz_get (D := (dC, dI)) (ci := 10) (v := .ref (h0 + 3)) (C := RX10) (T := TX10) (N := 53) hx hb hts inG10 hown hK hP (k := 0) (by decide) (F := mF h0) mE_obj rfl 11 (by decide) (hts _ k1177) (fun _ h9 => h9) rfl dX10_readsToken_137 ?_
            refine lv_aload_n hx hb dX10_readsToken_140 rfl (lv_at hl 0 rfl) ?_
            refine fz_get (D := (dC, dI)) (ci := 10) (v := .int (iZ (μ12_ 0 9))) (C := RX10) (T := TX10) (N := 53) hx hb hts inG10 hown hK hP (k := 0) (by decide) (F := mF h0) mE_obj rfl 9 (by decide) (hts _ k1175) (fun _ h9 => h9) rfl dX10_readsToken_141 ?_
            refine lv_iload_n hx hb dX10_readsToken_144 rfl (lv_at hl 2 rfl) ?_
            refine fz_st (k := 3) (n := 201) (i := (μ12_ 0 9)) (z := rs) hx hb hK hP fA_in hS 0 (by decide) mE_tokenSort rfl ⟨by omega, by omega⟩ (by decide) dX10_readsToken_145 (fun H locs hP hS => ?_)
            obtain ⟨μ13, eμ13⟩ : ∃ x : va_M, x = uz μ12_ 3 (μ12_ 0 9).toNat (rs) := ⟨_, rfl⟩
            rw [← eμ13] at hP
            refine lv_aload_n hx hb dX10_readsToken_146 rfl (lv_at hl 0 rfl) ?_
            refine fz_get (D := (dC, dI)) (ci := 10) (v := .ref (h0 + 4)) (C := RX10) (T := TX10) (N := 53) hx hb hts inG10 hown hK hP (k := 0) (by decide) (F := mF h0) mE_obj rfl 12 (by decide) (hts _ k1178) (fun _ h9 => h9) rfl dX10_readsToken_147 ?_
            refine lv_aload_n hx hb dX10_readsToken_150 rfl (lv_at hl 0 rfl) ?_
            refine fz_get (D := (dC, dI)) (ci := 10) (v := .int (iZ (μ13 0 9))) (C := RX10) (T := TX10) (N := 53) hx hb hts inG10 hown hK hP (k := 0) (by decide) (F := mF h0) mE_obj rfl 9 (by decide) (hts _ k1175) (fun _ h9 => h9) rfl dX10_readsToken_151 ?_
            rw [show μ13 0 9 = μ12_ 0 9 from by rw [eμ13, uz_n (by omega)]]
            refine lv_aload_n hx hb dX10_readsToken_154 rfl (lv_at hl 0 rfl) ?_
            refine fz_get (D := (dC, dI)) (ci := 10) (v := .int (iZ (μ13 0 27))) (C := RX10) (T := TX10) (N := 53) hx hb hts inG10 hown hK hP (k := 0) (by decide) (F := mF h0) mE_obj rfl 27 (by decide) (hts _ k1193) (fun _ h9 => h9) rfl dX10_readsToken_155 ?_
            rw [show μ13 0 27 = μ12_ 0 27 from by rw [eμ13, uz_n (by omega)]]
            refine fz_st (k := 4) (n := 201) (i := (μ12_ 0 9)) (z := (μ12_ 0 27)) hx hb hK hP fA_in hS 0 (by decide) mE_tokenLetters rfl ⟨by omega, by omega⟩ (by decide) dX10_readsToken_158 (fun H locs hP hS => ?_)
            obtain ⟨μ14, eμ14⟩ : ∃ x : va_M, x = uz μ13 4 (μ12_ 0 9).toNat (μ12_ 0 27) := ⟨_, rfl⟩
            rw [← eμ14] at hP
            refine lv_aload_n hx hb dX10_readsToken_159 rfl (lv_at hl 0 rfl) ?_
            refine fz_get (D := (dC, dI)) (ci := 10) (v := .ref (h0 + 5)) (C := RX10) (T := TX10) (N := 53) hx hb hts inG10 hown hK hP (k := 0) (by decide) (F := mF h0) mE_obj rfl 13 (by decide) (hts _ k1179) (fun _ h9 => h9) rfl dX10_readsToken_160 ?_
            refine lv_aload_n hx hb dX10_readsToken_163 rfl (lv_at hl 0 rfl) ?_
            refine fz_get (D := (dC, dI)) (ci := 10) (v := .int (iZ (μ14 0 9))) (C := RX10) (T := TX10) (N := 53) hx hb hts inG10 hown hK hP (k := 0) (by decide) (F := mF h0) mE_obj rfl 9 (by decide) (hts _ k1175) (fun _ h9 => h9) rfl dX10_readsToken_164 ?_
            rw [show μ14 0 9 = μ12_ 0 9 from by rw [eμ14, uz_n (by omega), eμ13, uz_n (by omega)]]
            refine lv_aload_n hx hb dX10_readsToken_167 rfl (lv_at hl 0 rfl) ?_
            refine fz_get (D := (dC, dI)) (ci := 10) (v := .int (iZ (μ14 0 28))) (C := RX10) (T := TX10) (N := 53) hx hb hts inG10 hown hK hP (k := 0) (by decide) (F := mF h0) mE_obj rfl 28 (by decide) (hts _ k1194) (fun _ h9 => h9) rfl dX10_readsToken_168 ?_
            rw [show μ14 0 28 = μ12_ 0 28 from by rw [eμ14, uz_n (by omega), eμ13, uz_n (by omega)]]
            refine fz_st (k := 5) (n := 201) (i := (μ12_ 0 9)) (z := (μ12_ 0 28)) hx hb hK hP fA_in hS 0 (by decide) mE_tokenLong rfl ⟨by omega, by omega⟩ (by decide) dX10_readsToken_171 (fun H locs hP hS => ?_)
            obtain ⟨μ15, eμ15⟩ : ∃ x : va_M, x = uz μ14 5 (μ12_ 0 9).toNat (μ12_ 0 28) := ⟨_, rfl⟩
            rw [← eμ15] at hP
            refine lv_aload_n hx hb dX10_readsToken_172 rfl (lv_at hl 0 rfl) ?_
            refine lv_dup hx hb dX10_readsToken_173 rfl ?_
            refine fz_get (D := (dC, dI)) (ci := 10) (v := .int (iZ (μ15 0 9))) (C := RX10) (T := TX10) (N := 53) hx hb hts inG10 hown hK hP (k := 0) (by decide) (F := mF h0) mE_obj rfl 9 (by decide) (hts _ k1175) (fun _ h9 => h9) rfl dX10_readsToken_174 ?_
            rw [show μ15 0 9 = μ12_ 0 9 from by rw [eμ15, uz_n (by omega), eμ14, uz_n (by omega), eμ13, uz_n (by omega)]]
            refine lv_iconst (v := iZ 1) hx hb dX10_readsToken_177 rfl ?_
            refine lv_iadd hx hb dX10_readsToken_178 ?_
            refine lv_topi (fun x9 ex9 => ?_)
            obtain rfl : x9 = iZ ((μ12_ 0 9) + 1) := ex9.trans (iZ_add _ _)
            refine fz_put (D := (dC, dI)) (ci := 10) (ty := .int) (z := ((μ12_ 0 9) + 1)) (C := RX10) (T := TX10) (N := 53) hx hb hts inG10 tyX10 tyX10_ok nmX10 hown hK hP fA_in hS (k := 0) (by decide) (F := mF h0) mE_obj rfl 9 (by decide) (hts _ k1175) (fun _ h9 => h9) rfl (by decide +kernel) rfl rfl (fun _ => Nat.le_of_ble_eq_true rfl) (fun _ _ => rfl) dX10_readsToken_179 (fun H locs hP hS => ?_)
            obtain ⟨μ16, eμ16⟩ : ∃ x : va_M, x = uz μ15 0 9 ((μ12_ 0 9) + 1) := ⟨_, rfl⟩
            rw [← eμ16] at hP
            refine lv_aload_n hx hb dX10_readsToken_182 rfl (lv_at hl 0 rfl) ?_
            refine fz_get (D := (dC, dI)) (ci := 10) (v := .int (iZ (μ16 0 9))) (C := RX10) (T := TX10) (N := 53) hx hb hts inG10 hown hK hP (k := 0) (by decide) (F := mF h0) mE_obj rfl 9 (by decide) (hts _ k1175) (fun _ h9 => h9) rfl dX10_readsToken_183 ?_
            rw [show μ16 0 9 = (μ12_ 0 9) + 1 from by rw [eμ16, uz_s]]
            refine lv_iconst (v := iZ 1) hx hb dX10_readsToken_186 rfl ?_
            refine lv_isub hx hb dX10_readsToken_187 ?_
            refine lv_topi (fun x9 ex9 => ?_)
            obtain rfl : x9 = iZ (((μ12_ 0 9) + 1) - 1) := ex9.trans (iZ_sub _ _)
            exact W.iret (v := iZ (((μ12_ 0 9) + 1) - 1)) hx hb hr (fun t9 ht9 hW9 => ⟨⟨iZ (((μ12_ 0 9) + 1) - 1), (μ16, ((μ12_ 0 9) + 1) - 1), rfl, ⟨rfl, (by
                                dsimp only
                                refine ⟨rs, n0, L, htk, hsm, ?_, ?_, Or.inr ⟨tok, ?_, Or.inr (Or.inr ⟨ano, by omega, ?_, ?_, ?_, ?_, ?_, ?_, ?_⟩)⟩⟩
                                · rw [eμ16, eμ15, eμ14, eμ13, uz_n (by omega), uz_n (by omega), uz_n (by omega), uz_n (by omega), a4]; split <;> omega
                                · rw [eμ16, eμ15, eμ14, eμ13, uz_n (by omega), uz_n (by omega), uz_n (by omega), uz_n (by omega), a4, ← t4]; exact tle
                                · rw [eμ16, eμ15, eμ14, eμ13, uz_n (by omega), uz_n (by omega), uz_n (by omega), uz_n (by omega)]; exact a4
                                · rw [eμ16, eμ15, eμ14, eμ13, uz_n (by omega), uz_n (by omega), uz_n (by omega), uz_n (by omega)]; exact a6
                                · omega
                                · rw [eμ16, eμ15, eμ14, eμ13, uz_s]; omega
                                · rw [eμ16, eμ15, eμ14, eμ13, uz_n (by omega), uz_n (by omega), uz_n (by omega), show (μ12_ 0 9 + 1 - 1).toNat = (μ12_ 0 9).toNat by congr 1; omega, uz_s]
                                · rw [eμ16, eμ15, eμ14, eμ13, uz_n (by omega), uz_n (by omega), show (μ12_ 0 9 + 1 - 1).toNat = (μ12_ 0 9).toNat by congr 1; omega, uz_s]; exact a27
                                · rw [eμ16, eμ15, eμ14, eμ13, uz_n (by omega), show (μ12_ 0 9 + 1 - 1).toNat = (μ12_ 0 9).toNat by congr 1; omega, uz_s]; exact a28
                                · subst eμ16 eμ15 eμ14 eμ13
                                  have av2 := fr_mono (P2 := fun x y => PN x y ∨ (x = 0 ∧ y = 9) ∨ ((x = 3 ∨ x = 4 ∨ x = 5) ∧ y = (μ 0 9).toNat)) av (fun x y h => Or.inl h)
                                  rw [a9]
                                  exact fr_uz (fr_uz (fr_uz (fr_uz av2 (by simp)) (by simp)) (by simp)) (by simp))⟩, by rw [ht9]; exact hP, va_K.moved hW9.alike hK⟩, hS.F ht9⟩) hS.2.2 dX10_readsToken_188
          · refine lv_aload_n hx hb dX10_readsToken_121 rfl (lv_at hl 0 rfl) ?_
            refine lv_iconst (v := iZ 2) hx hb dX10_readsToken_122 rfl ?_
            refine lv_iload_n hx hb dX10_readsToken_123 rfl (lv_at hl 1 rfl) ?_
            refine va_callv (va_runV (As := [.int (iZ (2)), .int (iZ ((μ 0 4)))]) (rest := []) ⟨hx, hb, hml, hown, hts⟩ (m_wrong l dC dI cI cZ cII cIII h0 H.size μ12_ (2) ((μ 0 4)) (by first | assumption | omega | exact ⟨by omega, by omega⟩)) (cwV 2 hts (gV_G k1353 k1355 ks_yX10_wrong k13 k1356) rfl rfl rfl (by decide +kernel) ⟨Nat.le_of_ble_eq_true rfl, Nat.le_of_ble_eq_true rfl⟩) ⟨fun a U g mk q => by obtain ⟨q0, q1, qP, qK⟩ := q; exact ⟨q0, q1, qP, va_K.moved (u := U) (U := U.calling g mk a) (Vm.Alike.refl U.vm) qK⟩, va_recv hK hP (ci := 10) (q0 := 0) rfl ((fw_get (by decide)).trans (by rw [mE_obj]; rfl)), fun U hU hW => ⟨rfl, by rw [hU], by rw [hU]; exact hP, va_K.moved hW.alike hK⟩⟩ rfl rfl hl.1 rfl (lv_room (Nat.le_of_ble_eq_true rfl)) dX10_readsToken_124 ⟨Nat.le_of_ble_eq_true rfl, Nat.le_of_ble_eq_true rfl⟩) hS (fun q _ h => fA_le hS.1 q h) (fA_le hS.1) (fun u9 t9 H1 locs ht9 hvm9 hw9 hB9 hz9 hk9 hS => ?_)
            obtain ⟨hP, -⟩ := hB9
            rw [ht9] at hP
            generalize H1 = H at hP hS ⊢
            obtain ⟨μ17, eμ17⟩ : ∃ x : va_M, x = u9 := ⟨_, rfl⟩
            rw [← eμ17] at hP hw9
            have hμ17 := hw9; clear hw9
            rw [if_pos (by omega)] at hμ17
            have w6 : μ17 0 6 = 2 := by rw [hμ17, uz_n (by omega), uz_s]
            have w4 : μ17 0 4 = n0 + L + (if rs < 2 then 1 else 0) := by rw [hμ17, uz_n (by omega), uz_n (by omega)]; exact a4
            have wv : fr PN μ μ17 := by rw [hμ17]; exact fr_uz (fr_uz av (by simp [PN])) (by simp [PN])
            refine lv_aload_n hx hb dX10_readsToken_127 rfl (lv_at hl 0 rfl) ?_
            refine fz_get (D := (dC, dI)) (ci := 10) (v := .int (iZ (μ17 0 6))) (C := RX10) (T := TX10) (N := 53) hx hb hts inG10 hown hK hP (k := 0) (by decide) (F := mF h0) mE_obj rfl 6 (by decide) (hts _ k1172) (fun _ h9 => h9) rfl dX10_readsToken_128 ?_
            refine fz_if_le (tgt := 136) (by constructor <;> omega) hx hb dX10_readsToken_131 (by decide) (fun h9 => (by omega)) (fun c131_ => ?_)
            refine lv_iconst (v := iZ (-1)) hx hb dX10_readsToken_134 rfl ?_
            exact W.iret (v := iZ ((-1))) hx hb hr (fun t9 ht9 hW9 => ⟨⟨iZ ((-1)), (μ17, (-1)), rfl, ⟨rfl, (by
                                dsimp only
                                exact ⟨rs, n0, L, htk, hsm, by rw [w4]; split <;> omega, by rw [w4, ← t4]; exact tle, Or.inr ⟨tok, w4, Or.inr (Or.inl ⟨ano, by omega, wv, w6, rfl⟩)⟩⟩)⟩, by rw [ht9]; exact hP, va_K.moved hW9.alike hK⟩, hS.F ht9⟩) hS.2.2 dX10_readsToken_135

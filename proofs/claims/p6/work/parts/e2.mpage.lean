
/-! the reference's page, told whole -/
theorem tkrow_rowT {μ : va_M} {p : Nat} {T : List Tk} (hT : tabR μ T) : ∀ (S : List Int) (i : Nat), (∀ (k : Nat) (e : Int), S[k]? = some e → μ (7 + p) (i + k) = e ∧ 0 ≤ e ∧ e < T.length) → tkrow μ p i S.length = rowT T S
  | [], _, _ => rfl
  | e :: S, i, h => by
    obtain ⟨h1, h2, h3⟩ := h 0 e rfl
    rw [Nat.add_zero] at h1
    have hl : e.toNat < T.length := by omega
    have he := List.getElem?_eq_getElem hl
    have hk := (hT.2.2 e.toNat _ he).1
    rw [List.length_cons, tkrow, rowT, h1, tkrow_rowT hT S (i + 1) (fun k x hk => by
      have := h (k + 1) x hk
      rw [show i + 1 + k = i + (k + 1) by omega]
      exact this)]
    have e9 : (if μ 3 e.toNat = 2 then 1 else 0 : Nat) = kdT T e := by
      unfold kdT
      rw [he]
      dsimp only
      by_cases c : (T[e.toNat]'hl).1 = 2
      · rw [if_pos c, if_pos (by omega)]
      · rw [if_neg c, if_neg (by omega)]
    rw [e9]
/-- the row of a page that was read, its folds -/
def fldR (u : va_M) (pp : Nat) (T : List Tk) (S : List Int) (l : List (Nat × Nat × Nat)) (w : Rw) : Prop := rPage w ∧ 1 ≤ rI w ∧ TR u (17 + pp) w ∧ fSt l (rowT T S) w ∧ fEnd w ∧ u 505 pp = l.length ∧ ∀ (k : Nat) (s : Nat × Nat × Nat), l[k]? = some s → u (17 + pp * 61 + 1 + k) 0 = s.1 ∧ u (17 + pp * 61 + 1 + k) 1 = s.2.1 ∧ u (17 + pp * 61 + 1 + k) 2 = s.2.2
set_option maxHeartbeats 40000000 in
set_option maxRecDepth 100000 in
theorem m_page2 (l : Launch) (dC : Nat → ClassId) (dI : Nat → Nat → Nat) (cI cZ cII cIII : ClassId) (h0 sz : Nat) (μ : va_M) (n : Int) (T0 : List Tk) (hn : inR n) (hby : ∀ j : Nat, j < 400 → 0 ≤ μ 2 j ∧ μ 2 j ≤ 255) (ht : 0 ≤ μ 0 2 ∧ μ 0 2 ≤ 400) (h10 : 0 ≤ μ 0 10 ∧ μ 0 10 ≤ 8) (hT : tabR μ T0) (hW : tabW T0) (hsr : ∀ j : Nat, j < 201 → inR (μ 3 j)) : Met l yX10_page (Cond.code yX10_page cX10_page 4 (some .int) :: wsG) ({ frames := 28, cells := 0, slots := 0, locals := 945 } : Room) (va_Pc [.ref h0, .int (iZ (n))] (fun U => U.heap.size = sz ∧ va_P (dC, dI) vwCl (fw (mE cI cZ cII cIII h0) h0 6325 μ) U.heap ∧ va_K (dC, dI) vwCl (mT cI cZ cII cIII) U)) (va_Qi (fun (r9 : Int32) (u : va_M × Int) => r9 = iZ u.2 ∧ (fun (u : va_M) (r : Int) => ((n < 0 ∨ μ 0 2 < n ∨ μ 0 10 = 8) → fr (fun x y => (x = 0 ∧ y = 0) ∨ x = 1) μ u ∧ (u 0 0 = 1 ∨ u 0 0 = 2)) ∧ (0 ≤ n → n ≤ μ 0 2 → μ 0 10 < 8 → u 0 0 = 0 ∧ u 0 2 = 0 ∧ (∀ j : Nat, j < 201 → inR (u 3 j)) ∧ (pg (bAn μ n) n 0 T0 [] = none → u 0 10 = μ 0 10 ∧ tabR u T0 ∧ fr (PGf (μ 0 10).toNat T0.length) μ u) ∧ ∀ (T : List Tk) (S : List Int), pg (bAn μ n) n 0 T0 [] = some (T, S) → u 0 10 = μ 0 10 + 1 ∧ tabR u T ∧ tabW T ∧ T0.length ≤ T.length ∧ pgR u (μ 0 10).toNat T S ∧ fr (PGs (μ 0 10).toNat T0.length) μ u ∧ ∃ (l9 : List (Nat × Nat × Nat)) (w : Rw), fldR u (μ 0 10).toNat T S l9 w)) u.1 u.2) (fun u t => va_P (dC, dI) vwCl (fw (mE cI cZ cII cIII h0) h0 6325 u.1) t.heap ∧ va_K (dC, dI) vwCl (mT cI cZ cII cIII) t) (fA h0 6325 sz)) 0 0 (fA h0 6325 sz) := by
  refine Met.ofW (cc := cX10_page) (maxL := 4) (ret := (some .int)) (by decide) rfl ?_
  intro p e s m args below meth c s₁ B hml hv
  obtain ⟨rfl, hsz, hP, hK⟩ := hv
  have hx := B.exec
  have hb := B.bytes
  have hr := B.returns
  have hts : ∀ w ∈ wsG, w.before _ s = true := hG_of (atoms_spec (ws := (Cond.code yX10_page cX10_page 4 (some .int) :: wsG)) B.pre)
  have hown : s.vm.findClass RX10 = some m.cls := findClass_of_methodNamed B.named
  have hlocks := B.notSynchronized
  subst hsz
  have hS : va_S (fA h0 6325 s.heap.size) s.heap s.heap [] := va_S.rf
  have hl := lv_entry ([.ref h0, .int (iZ (n))]) (n := 4) (Nat.le_of_ble_eq_true rfl)
  rw [lg_entry_eq]
  generalize (lg_sl ([.ref h0, .int (iZ (n))]) ++ List.replicate (4 - (lg_sl ([.ref h0, .int (iZ (n))])).length) Slot.unset).toArray = ls at hl ⊢
  have hl : lv_has ls 4 [(0, .ref h0), (1, .int (iZ (n)))] := hl
  refine lv_aload_n hx hb dX10_page_0 rfl (lv_at hl 0 rfl) ?_
  refine lv_iconst (v := iZ 0) hx hb dX10_page_1 rfl ?_
  refine fz_put (D := (dC, dI)) (ci := 10) (ty := .int) (z := 0) (C := RX10) (T := TX10) (N := 53) hx hb hts inG10 tyX10 tyX10_ok nmX10 hown hK hP fA_in hS (k := 0) (by decide) (F := mF h0) mE_obj rfl 0 (by decide) (hts _ k1166) (fun _ h9 => h9) rfl (by decide +kernel) rfl rfl (fun _ => Nat.le_of_ble_eq_true rfl) (fun _ _ => rfl) dX10_page_2 (fun H locs hP hS => ?_)
  obtain ⟨μ1, eμ1⟩ : ∃ x : va_M, x = uz μ 0 0 (0) := ⟨_, rfl⟩
  rw [← eμ1] at hP
  refine lv_aload_n hx hb dX10_page_5 rfl (lv_at hl 0 rfl) ?_
  refine lv_iload_n hx hb dX10_page_6 rfl (lv_at hl 1 rfl) ?_
  refine lv_iconst (v := iZ 0) hx hb dX10_page_7 rfl ?_
  refine lv_aload_n hx hb dX10_page_8 rfl (lv_at hl 0 rfl) ?_
  refine fz_get (D := (dC, dI)) (ci := 10) (v := .int (iZ (μ1 0 2))) (C := RX10) (T := TX10) (N := 53) hx hb hts inG10 hown hK hP (k := 0) (by decide) (F := mF h0) mE_obj rfl 2 (by decide) (hts _ k1168) (fun _ h9 => h9) rfl dX10_page_9 ?_
  rw [show μ1 0 2 = μ 0 2 from by rw [eμ1, uz_n (by omega)]]
  refine va_calli (va_runS (As := [.int (iZ (n)), .int (iZ (0)), .int (iZ (μ 0 2))]) (rest := [.ref h0]) ⟨hx, hb, hml, hown, hts⟩ (m_in l dC dI cI cZ cII cIII h0 H.size μ1 (n) (0) (μ 0 2) (by exact hn) (by constructor <;> omega) (by constructor <;> omega)) (cwS 3 hts (gS_G k1335 k1336 k13 k1337) rfl rfl rfl (by decide +kernel) ⟨Nat.le_of_ble_eq_true rfl, Nat.le_of_ble_eq_true rfl⟩) ⟨fun a U g mk q => by obtain ⟨q0, q1, qP, qK⟩ := q; exact ⟨q0, q1, qP, va_K.moved (u := U) (U := U.calling g mk a) (Vm.Alike.refl U.vm) qK⟩, fun U hU hW => ⟨rfl, by rw [hU], by rw [hU]; exact hP, va_K.moved hW.alike hK⟩⟩ rfl rfl hl.1 rfl (lv_room (Nat.le_of_ble_eq_true rfl)) dX10_page_12 ⟨Nat.le_of_ble_eq_true rfl, Nat.le_of_ble_eq_true rfl⟩) hS (fun q _ h => fA_le hS.1 q h) (fA_le hS.1) (fun r9 u9 t9 H1 locs ht9 hvm9 hw9 hB9 hz9 hk9 hS => ?_)
  obtain ⟨μ2, ri⟩ := u9
  obtain ⟨hP, -⟩ := hB9
  rw [ht9] at hP
  generalize H1 = H at hP hS ⊢
  obtain ⟨e9, hw9⟩ := hw9
  have e9 : r9 = iZ ri := e9
  subst e9
  simp only at hP hw9
  have hμ2 := hw9; clear hw9
  rw [hμ2.1] at hP; have hμ2 := hμ2.2
  have hri : ri = if 0 ≤ n ∧ n ≤ μ 0 2 then 1 else 0 := hμ2
  have hri2 : ri = 0 ∨ ri = 1 := by rw [hri]; split <;> omega
  refine fz_if_ne (tgt := 22) (by constructor <;> omega) hx hb dX10_page_15 (by decide) (fun c15_ => ?_) (fun c15_ => ?_)
  · have hin : 0 ≤ n ∧ n ≤ μ 0 2 := by
      by_cases h : 0 ≤ n ∧ n ≤ μ 0 2
      · exact h
      · rw [if_neg h] at hri; omega
    refine lv_iconst (v := iZ 0) hx hb dX10_page_22 rfl ?_
    refine lv_iconst (v := iZ 1) hx hb dX10_page_23 rfl ?_
    refine lv_iconst (v := iZ 1) hx hb dX10_page_24 rfl ?_
    refine va_calli (va_runV (As := [.int (iZ (0)), .int (iZ (1)), .int (iZ (1))]) (rest := []) ⟨hx, hb, hml, hown, hts⟩ (m_bad l dC dI cI cZ cII cIII h0 H.size μ1 (0) (1) (1) (by omega) (by first | assumption | omega | exact ⟨by omega, by omega⟩) (by first | assumption | omega | exact ⟨by omega, by omega⟩) (by rw [eμ1, uz_s])) (cwV 3 hts (gV_G k1338 k1340 ks_yX10_bad k13 k1341) rfl rfl rfl (by decide +kernel) ⟨Nat.le_of_ble_eq_true rfl, Nat.le_of_ble_eq_true rfl⟩) ⟨fun a U g mk q => by obtain ⟨q0, q1, qP, qK⟩ := q; exact ⟨q0, q1, qP, va_K.moved (u := U) (U := U.calling g mk a) (Vm.Alike.refl U.vm) qK⟩, va_recv hK hP (ci := 10) (q0 := 0) rfl ((fw_get (by decide)).trans (by rw [mE_obj]; rfl)), fun U hU hW => ⟨rfl, by rw [hU], by rw [hU]; exact hP, va_K.moved hW.alike hK⟩⟩ rfl rfl hl.1 rfl (lv_room (Nat.le_of_ble_eq_true rfl)) dX10_page_25 ⟨Nat.le_of_ble_eq_true rfl, Nat.le_of_ble_eq_true rfl⟩) hS (fun q _ h => fA_le hS.1 q h) (fA_le hS.1) (fun r9 u9 t9 H1 locs ht9 hvm9 hw9 hB9 hz9 hk9 hS => ?_)
    obtain ⟨μa, ra⟩ := u9
    obtain ⟨hP, -⟩ := hB9
    rw [ht9] at hP
    generalize H1 = H at hP hS ⊢
    obtain ⟨e9, hw9⟩ := hw9
    have e9 : r9 = iZ ra := e9
    subst e9
    simp only at hP hw9
    have hμa := hw9; clear hw9
    first | rw [if_pos True.intro] at hμa | rw [if_pos (show (0 : Int) = 0 from rfl)] at hμa | rw [if_neg (show ¬ (1 : Int) = 0 by decide)] at hμa
    refine fz_if_ne (tgt := 54) (by constructor <;> omega) hx hb dX10_page_28 (by decide) (fun h9 => (by omega)) (fun c28_ => ?_)
    obtain ⟨ea, ra0⟩ := hμa
    have f0 : ∀ x y, ¬ (x = 0 ∧ y = 0) → μa x y = μ x y := fun x y h => by rw [ea, eμ1, uz_n h]
    have g10 : μa 0 10 = μ 0 10 := f0 _ _ (by omega)
    have g00 : μa 0 0 = 0 := by rw [ea, eμ1, uz_s]
    refine lv_aload_n hx hb dX10_page_31 rfl (lv_at hl 0 rfl) ?_
    refine lv_aload_n hx hb dX10_page_32 rfl (lv_at hl 0 rfl) ?_
    refine fz_get (D := (dC, dI)) (ci := 10) (v := .int (iZ (μa 0 10))) (C := RX10) (T := TX10) (N := 53) hx hb hts inG10 hown hK hP (k := 0) (by decide) (F := mF h0) mE_obj rfl 10 (by decide) (hts _ k1176) (fun _ h9 => h9) rfl dX10_page_33 ?_
    refine lv_bipush (v := iZ 8) hx hb dX10_page_36 rfl ?_
    refine fz_icmp_ne (tgt := 45) (by constructor <;> omega) (by decide) hx hb dX10_page_38 (by decide) (fun c38_ => ?_) (fun c38_ => ?_)
    · refine lv_iconst (v := iZ 0) hx hb dX10_page_45 rfl ?_
      refine lv_iconst (v := iZ 2) hx hb dX10_page_46 rfl ?_
      refine lv_iconst (v := iZ 2) hx hb dX10_page_47 rfl ?_
      refine va_calli (va_runV (As := [.int (iZ (0)), .int (iZ (2)), .int (iZ (2))]) (rest := []) ⟨hx, hb, hml, hown, hts⟩ (m_bad l dC dI cI cZ cII cIII h0 H.size μa (0) (2) (2) (by omega) (by first | assumption | omega | exact ⟨by omega, by omega⟩) (by first | assumption | omega | exact ⟨by omega, by omega⟩) (by exact g00)) (cwV 3 hts (gV_G k1338 k1340 ks_yX10_bad k13 k1341) rfl rfl rfl (by decide +kernel) ⟨Nat.le_of_ble_eq_true rfl, Nat.le_of_ble_eq_true rfl⟩) ⟨fun a U g mk q => by obtain ⟨q0, q1, qP, qK⟩ := q; exact ⟨q0, q1, qP, va_K.moved (u := U) (U := U.calling g mk a) (Vm.Alike.refl U.vm) qK⟩, va_recv hK hP (ci := 10) (q0 := 0) rfl ((fw_get (by decide)).trans (by rw [mE_obj]; rfl)), fun U hU hW => ⟨rfl, by rw [hU], by rw [hU]; exact hP, va_K.moved hW.alike hK⟩⟩ rfl rfl hl.1 rfl (lv_room (Nat.le_of_ble_eq_true rfl)) dX10_page_48 ⟨Nat.le_of_ble_eq_true rfl, Nat.le_of_ble_eq_true rfl⟩) hS (fun q _ h => fA_le hS.1 q h) (fA_le hS.1) (fun r9 u9 t9 H1 locs ht9 hvm9 hw9 hB9 hz9 hk9 hS => ?_)
      obtain ⟨μd, rd⟩ := u9
      obtain ⟨hP, -⟩ := hB9
      rw [ht9] at hP
      generalize H1 = H at hP hS ⊢
      obtain ⟨e9, hw9⟩ := hw9
      have e9 : r9 = iZ rd := e9
      subst e9
      simp only at hP hw9
      have hμd := hw9; clear hw9
      first | rw [if_pos True.intro] at hμd | rw [if_pos (show (0 : Int) = 0 from rfl)] at hμd | rw [if_neg (show ¬ (1 : Int) = 0 by decide)] at hμd
      refine fz_if_eq (tgt := 56) (by constructor <;> omega) hx hb dX10_page_51 (by decide) (fun c51_ => ?_) (fun h9 => (by omega))
      obtain ⟨ed, rd0⟩ := hμd
      refine lv_aload_n hx hb dX10_page_56 rfl (lv_at hl 0 rfl) ?_
      refine lv_iconst (v := iZ 0) hx hb dX10_page_57 rfl ?_
      refine fz_put (D := (dC, dI)) (ci := 10) (ty := .int) (z := 0) (C := RX10) (T := TX10) (N := 53) hx hb hts inG10 tyX10 tyX10_ok nmX10 hown hK hP fA_in hS (k := 0) (by decide) (F := mF h0) mE_obj rfl 2 (by decide) (hts _ k1168) (fun _ h9 => h9) rfl (by decide +kernel) rfl rfl (fun _ => Nat.le_of_ble_eq_true rfl) (fun _ _ => rfl) dX10_page_58 (fun H locs hP hS => ?_)
      obtain ⟨μ3, eμ3⟩ : ∃ x : va_M, x = uz μd 0 2 (0) := ⟨_, rfl⟩
      rw [← eμ3] at hP
      refine lv_aload_n hx hb dX10_page_61 rfl (lv_at hl 0 rfl) ?_
      refine lv_iload_n hx hb dX10_page_62 rfl (lv_at hl 1 rfl) ?_
      refine fz_put (D := (dC, dI)) (ci := 10) (ty := .int) (z := n) (C := RX10) (T := TX10) (N := 53) hx hb hts inG10 tyX10 tyX10_ok nmX10 hown hK hP fA_in hS (k := 0) (by decide) (F := mF h0) mE_obj rfl 3 (by decide) (hts _ k1169) (fun _ h9 => h9) rfl (by decide +kernel) rfl rfl (fun _ => Nat.le_of_ble_eq_true rfl) (fun _ _ => rfl) dX10_page_63 (fun H locs hP hS => ?_)
      obtain ⟨μ4, eμ4⟩ : ∃ x : va_M, x = uz μ3 0 3 (n) := ⟨_, rfl⟩
      rw [← eμ4] at hP
      refine lv_aload_n hx hb dX10_page_66 rfl (lv_at hl 0 rfl) ?_
      refine lv_iconst (v := iZ 0) hx hb dX10_page_67 rfl ?_
      refine fz_put (D := (dC, dI)) (ci := 10) (ty := .int) (z := 0) (C := RX10) (T := TX10) (N := 53) hx hb hts inG10 tyX10 tyX10_ok nmX10 hown hK hP fA_in hS (k := 0) (by decide) (F := mF h0) mE_obj rfl 4 (by decide) (hts _ k1170) (fun _ h9 => h9) rfl (by decide +kernel) rfl rfl (fun _ => Nat.le_of_ble_eq_true rfl) (fun _ _ => rfl) dX10_page_68 (fun H locs hP hS => ?_)
      obtain ⟨μ5, eμ5⟩ : ∃ x : va_M, x = uz μ4 0 4 (0) := ⟨_, rfl⟩
      rw [← eμ5] at hP
      refine lv_aload_n hx hb dX10_page_71 rfl (lv_at hl 0 rfl) ?_
      refine lv_iconst (v := iZ 0) hx hb dX10_page_72 rfl ?_
      refine fz_put (D := (dC, dI)) (ci := 10) (ty := .int) (z := 0) (C := RX10) (T := TX10) (N := 53) hx hb hts inG10 tyX10 tyX10_ok nmX10 hown hK hP fA_in hS (k := 0) (by decide) (F := mF h0) mE_obj rfl 6 (by decide) (hts _ k1172) (fun _ h9 => h9) rfl (by decide +kernel) rfl rfl (fun _ => Nat.le_of_ble_eq_true rfl) (fun _ _ => rfl) dX10_page_73 (fun H locs hP hS => ?_)
      obtain ⟨μ6, eμ6⟩ : ∃ x : va_M, x = uz μ5 0 6 (0) := ⟨_, rfl⟩
      rw [← eμ6] at hP
      refine lv_aload_n hx hb dX10_page_76 rfl (lv_at hl 0 rfl) ?_
      refine lv_iconst (v := iZ (-1)) hx hb dX10_page_77 rfl ?_
      refine fz_put (D := (dC, dI)) (ci := 10) (ty := .int) (z := ((-1))) (C := RX10) (T := TX10) (N := 53) hx hb hts inG10 tyX10 tyX10_ok nmX10 hown hK hP fA_in hS (k := 0) (by decide) (F := mF h0) mE_obj rfl 7 (by decide) (hts _ k1173) (fun _ h9 => h9) rfl (by decide +kernel) rfl rfl (fun _ => Nat.le_of_ble_eq_true rfl) (fun _ _ => rfl) dX10_page_78 (fun H locs hP hS => ?_)
      obtain ⟨μ7, eμ7⟩ : ∃ x : va_M, x = uz μ6 0 7 ((-1)) := ⟨_, rfl⟩
      rw [← eμ7] at hP
      refine lv_aload_n hx hb dX10_page_81 rfl (lv_at hl 0 rfl) ?_
      refine fz_get (D := (dC, dI)) (ci := 10) (v := .int (iZ (μ7 0 9))) (C := RX10) (T := TX10) (N := 53) hx hb hts inG10 hown hK hP (k := 0) (by decide) (F := mF h0) mE_obj rfl 9 (by decide) (hts _ k1175) (fun _ h9 => h9) rfl dX10_page_82 ?_
      rw [show μ7 0 9 = μd 0 9 from by rw [eμ7, uz_n (by omega), eμ6, uz_n (by omega), eμ5, uz_n (by omega), eμ4, uz_n (by omega), eμ3, uz_n (by omega)]]
      refine lv_istore_n (lv' := [(2, .int (iZ (μd 0 9))), (0, .ref h0), (1, .int (iZ (n)))]) hx hb dX10_page_85 rfl hl (by decide) rfl (fun ls hl => ?_)
      refine lv_iconst (v := iZ 0) hx hb dX10_page_86 rfl ?_
      have k1 : ∀ x y, ¬ (x = 0 ∧ (y = 0 ∨ y = 2 ∨ y = 3 ∨ y = 4 ∨ y = 6 ∨ y = 7)) → μ7 x y = μ x y := fun x y h => by rw [eμ7, eμ6, eμ5, eμ4, eμ3, uz_n (by omega), uz_n (by omega), uz_n (by omega), uz_n (by omega), uz_n (by omega), ed]; exact f0 x y (by omega)
      have k2 : μ7 0 2 = 0 := by rw [eμ7, eμ6, eμ5, eμ4, eμ3, uz_n (by omega), uz_n (by omega), uz_n (by omega), uz_n (by omega), uz_s]
      have k3 : μ7 0 3 = n := by rw [eμ7, eμ6, eμ5, eμ4, eμ3, uz_n (by omega), uz_n (by omega), uz_n (by omega), uz_s]
      have k4 : μ7 0 4 = 0 := by rw [eμ7, eμ6, eμ5, eμ4, eμ3, uz_n (by omega), uz_n (by omega), uz_s]
      have k6 : μ7 0 6 = 0 := by rw [eμ7, eμ6, eμ5, eμ4, eμ3, uz_n (by omega), uz_s]
      have k00 : μ7 0 0 = 0 := by rw [eμ7, eμ6, eμ5, eμ4, eμ3, uz_n (by omega), uz_n (by omega), uz_n (by omega), uz_n (by omega), uz_n (by omega), ed]; exact g00
      have hpp8 : 0 ≤ μ 0 10 ∧ μ 0 10 < 8 := by omega
      have ebn : bA μ7 = bAn μ n := by
        funext k
        unfold bA bAn
        rw [k3, k1 2 _ (by omega)]
      have k9 : μ7 0 9 = T0.length := (k1 0 9 (by omega)).trans hT.1
      obtain ⟨μ8, e8⟩ : ∃ x : va_M, x = μ7 := ⟨_, rfl⟩
      refine lv_istore_n (lv' := [(3, .int (iZ (0))), (2, .int (iZ (μd 0 9))), (0, .ref h0), (1, .int (iZ (n)))]) hx hb dX10_page_87 rfl hl (by decide) rfl (fun ls hl => ?_)
      refine LX10_page_88 hx hb hml hown hts hK (Nat.le_of_ble_eq_true rfl) (Nat.le_of_ble_eq_true rfl) (Nat.le_of_ble_eq_true rfl) (Nat.le_of_ble_eq_true rfl) (μ7) (μ 0 10) (μd 0 9) (n) (T0) (by exact hpp8) (by exact ⟨by omega, by omega, fun j hj => by rw [k1 2 j (by omega)]; exact hby j hj⟩) (by exact k1 0 10 (by omega)) ?_ _ (0) (T0) ([]) μ7 H locs ls (by exact Or.inl ⟨fr_rfl, k6, by omega, by omega, by rw [k4], ⟨k9, hT.2.1, fun k e he => by rw [k1 3 k (by omega), k1 4 k (by omega), k1 5 k (by omega)]; exact hT.2.2 k e he⟩, hW, Nat.le_refl _, rfl, Nat.zero_le _, fun j hj => by rw [k1 3 j (by omega)]; exact hsr j hj, fun k x hx => by rw [List.getElem?_nil] at hx; cases hx⟩) (Nat.lt_succ_self _) hP hS (lv_sub hl [0, 1, 3, 2] rfl)
      · intro so_8 T_8 S_8 μ8_ H locs ls q1_8 hP hS hl
        have hl : lv_has ls 4 [(3, .int (iZ (so_8))), (2, .int (iZ ((μd 0 9)))), (1, .int (iZ (n))), (0, .ref h0)] := hl
        have hf := pfin_fr q1_8
        have h6 := pfin_6 q1_8
        have hso0 := pfin_so q1_8
        have m10 : μ8_ 0 10 = μ 0 10 := (hf 0 10 (PR_n (by omega))).trans (k1 0 10 (by omega))
        have hsrX := pfin_sr q1_8
        have hP10 : μd 0 9 = T0.length := by rw [ed, f0 0 9 (by omega)]; exact hT.1
        refine lv_iload_n hx hb dX10_page_188 rfl (lv_at hl 0 rfl) ?_
        refine fz_if_ne (tgt := 201) (by constructor <;> omega) hx hb dX10_page_189 (by decide) (fun c189_ => ?_) (fun c189_ => ?_)
        · refine lv_aload_n hx hb dX10_page_201 rfl (lv_at hl 3 rfl) ?_
          refine lv_aload_n hx hb dX10_page_202 rfl (lv_at hl 3 rfl) ?_
          refine fz_get (D := (dC, dI)) (ci := 10) (v := .int (iZ (μ8_ 0 7))) (C := RX10) (T := TX10) (N := 53) hx hb hts inG10 hown hK hP (k := 0) (by decide) (F := mF h0) mE_obj rfl 7 (by decide) (hts _ k1173) (fun _ h9 => h9) rfl dX10_page_203 ?_
          refine fz_put (D := (dC, dI)) (ci := 10) (ty := .int) (z := (μ8_ 0 7)) (C := RX10) (T := TX10) (N := 53) hx hb hts inG10 tyX10 tyX10_ok nmX10 hown hK hP fA_in hS (k := 0) (by decide) (F := mF h0) mE_obj rfl 5 (by decide) (hts _ k1171) (fun _ h9 => h9) rfl (by decide +kernel) rfl rfl (fun _ => Nat.le_of_ble_eq_true rfl) (fun _ _ => rfl) dX10_page_206 (fun H locs hP hS => ?_)
          obtain ⟨μ10, eμ10⟩ : ∃ x : va_M, x = uz μ8_ 0 5 (μ8_ 0 7) := ⟨_, rfl⟩
          rw [← eμ10] at hP
          refine lv_aload_n hx hb dX10_page_209 rfl (lv_at hl 3 rfl) ?_
          refine fz_get (D := (dC, dI)) (ci := 10) (v := .int (iZ (μ10 0 6))) (C := RX10) (T := TX10) (N := 53) hx hb hts inG10 hown hK hP (k := 0) (by decide) (F := mF h0) mE_obj rfl 6 (by decide) (hts _ k1172) (fun _ h9 => h9) rfl dX10_page_210 ?_
          rw [show μ10 0 6 = μ8_ 0 6 from by rw [eμ10, uz_n (by omega)]]
          refine fz_if_le (tgt := 229) (by constructor <;> omega) hx hb dX10_page_213 (by decide) (fun c213_ => ?_) (fun c213_ => ?_)
          · obtain ⟨hk, hend⟩ := pfin_ok q1_8 (by omega)
            have pe := pok_end hk hend
            have ks := hk.2.2.2.2.2.2.2.2.1
            have kl := hk.2.2.2.2.2.2.2.2.2.1
            refine lv_aload_n hx hb dX10_page_229 rfl (lv_at hl 3 rfl) ?_
            refine fz_get (D := (dC, dI)) (ci := 10) (v := .ref (h0 + 15)) (C := RX10) (T := TX10) (N := 53) hx hb hts inG10 hown hK hP (k := 0) (by decide) (F := mF h0) mE_obj rfl 15 (by decide) (hts _ k1181) (fun _ h9 => h9) rfl dX10_page_230 ?_
            refine lv_aload_n hx hb dX10_page_233 rfl (lv_at hl 3 rfl) ?_
            refine fz_get (D := (dC, dI)) (ci := 10) (v := .int (iZ (μ10 0 10))) (C := RX10) (T := TX10) (N := 53) hx hb hts inG10 hown hK hP (k := 0) (by decide) (F := mF h0) mE_obj rfl 10 (by decide) (hts _ k1176) (fun _ h9 => h9) rfl dX10_page_234 ?_
            rw [show μ10 0 10 = μ8_ 0 10 from by rw [eμ10, uz_n (by omega)]]
            rw [show μ8_ 0 10 = μ 0 10 from (by exact m10)]
            refine lv_iload_n hx hb dX10_page_237 rfl (lv_at hl 0 rfl) ?_
            refine fz_st (k := 15) (n := 8) (i := (μ 0 10)) (z := so_8) hx hb hK hP fA_in hS 0 (by decide) mE_pageLong rfl ⟨by omega, by omega⟩ (by decide) dX10_page_238 (fun H locs hP hS => ?_)
            obtain ⟨μ11, eμ11⟩ : ∃ x : va_M, x = uz μ10 15 (μ 0 10).toNat (so_8) := ⟨_, rfl⟩
            rw [← eμ11] at hP
            have y1 : ∀ x y, ¬ (x = 0 ∧ y = 5) → ¬ (x = 15 ∧ y = (μ 0 10).toNat) → μ11 x y = μ8_ x y := fun x y h1 h2 => by rw [eμ11, eμ10, uz_n h2, uz_n h1]
            have y15 : μ11 15 (μ 0 10).toNat = so_8 := by rw [eμ11, eμ10, uz_s]
            have kS := hk.2.2.2.2.2.2.2.2.2.2.2
            have kT := hk.2.2.2.2.2.1
            skip
            refine lv_aload_n hx hb dX10_page_239 rfl (lv_at hl 3 rfl) ?_
            refine lv_aload_n hx hb dX10_page_240 rfl (lv_at hl 3 rfl) ?_
            refine fz_get (D := (dC, dI)) (ci := 10) (v := .int (iZ (μ11 0 10))) (C := RX10) (T := TX10) (N := 53) hx hb hts inG10 hown hK hP (k := 0) (by decide) (F := mF h0) mE_obj rfl 10 (by decide) (hts _ k1176) (fun _ h9 => h9) rfl dX10_page_241 ?_
            rw [show μ11 0 10 = μ8_ 0 10 from by rw [eμ11, uz_n (by omega), eμ10, uz_n (by omega)]]
            rw [show μ8_ 0 10 = μ 0 10 from (by exact m10)]
            refine va_callv (va_runV (As := [.int (iZ (μ 0 10))]) (rest := []) ⟨hx, hb, hml, hown, hts⟩ (m_folds2 l dC dI cI cZ cII cIII h0 H.size μ11 (μ 0 10) (by omega) (by rw [y15]; omega) (by
                                intro j hj
                                rw [y15] at hj
                                rw [y1 _ _ (by omega) (by omega)]
                                obtain ⟨x9, hx9⟩ : ∃ x9, S_8[j]? = some x9 := ⟨_, List.getElem?_eq_getElem (by omega)⟩
                                have h9 := kS j x9 hx9
                                have h8 := kT.2.1
                                omega) (by
                                intro j hj
                                rw [y1 _ _ (by omega) (by omega)]
                                exact hsrX j hj)) (cwV 1 hts (gV_G k1369 k1371 ks_yX10_folds k13 k1372) rfl rfl rfl (by decide +kernel) ⟨Nat.le_of_ble_eq_true rfl, Nat.le_of_ble_eq_true rfl⟩) ⟨fun a U g mk q => by obtain ⟨q0, q1, qP, qK⟩ := q; exact ⟨q0, q1, qP, va_K.moved (u := U) (U := U.calling g mk a) (Vm.Alike.refl U.vm) qK⟩, va_recv hK hP (ci := 10) (q0 := 0) rfl ((fw_get (by decide)).trans (by rw [mE_obj]; rfl)), fun U hU hW => ⟨rfl, by rw [hU], by rw [hU]; exact hP, va_K.moved hW.alike hK⟩⟩ rfl rfl hl.1 rfl (lv_room (Nat.le_of_ble_eq_true rfl)) dX10_page_244 ⟨Nat.le_of_ble_eq_true rfl, Nat.le_of_ble_eq_true rfl⟩) hS (fun q _ h => fA_le hS.1 q h) (fA_le hS.1) (fun u9 t9 H1 locs ht9 hvm9 hw9 hB9 hz9 hk9 hS => ?_)
            obtain ⟨hP, -⟩ := hB9
            rw [ht9] at hP
            generalize H1 = H at hP hS ⊢
            obtain ⟨μz, eμz⟩ : ∃ x : va_M, x = u9 := ⟨_, rfl⟩
            rw [← eμz] at hP hw9
            have hμz := hw9; clear hw9
            obtain ⟨⟨w, l9, w1, w2, w3, ⟨w4, w5⟩, w6, w7, w8, w9⟩, hff⟩ := hμz
            have z10 : μz 0 10 = μ 0 10 := (hff 0 10 (FF_not (by omega))).trans ((y1 0 10 (by omega) (by omega)).trans m10)
            have kT9 : tabR μ11 T_8 := ⟨by rw [y1 _ _ (by omega) (by omega)]; exact kT.1, kT.2.1, fun k e he => by
              rw [y1 _ _ (by omega) (by omega), y1 _ _ (by omega) (by omega), y1 _ _ (by omega) (by omega)]
              exact kT.2.2 k e he⟩
            have w6b : fSt l9 (rowT T_8 S_8) w := by
              rw [y15, show (so_8).toNat = (S_8).length by omega] at w6
              rw [← tkrow_rowT kT9 S_8 0 (fun k e hk => by rw [Nat.zero_add, y1 (7 + (μ 0 10).toNat) k (by omega) (by omega)]; exact kS k e hk)]
              exact w6
            refine lv_aload_n hx hb dX10_page_247 rfl (lv_at hl 3 rfl) ?_
            refine lv_dup hx hb dX10_page_248 rfl ?_
            refine fz_get (D := (dC, dI)) (ci := 10) (v := .int (iZ (μz 0 10))) (C := RX10) (T := TX10) (N := 53) hx hb hts inG10 hown hK hP (k := 0) (by decide) (F := mF h0) mE_obj rfl 10 (by decide) (hts _ k1176) (fun _ h9 => h9) rfl dX10_page_249 ?_
            refine lv_iconst (v := iZ 1) hx hb dX10_page_252 rfl ?_
            refine lv_iadd hx hb dX10_page_253 ?_
            refine lv_topi (fun x9 ex9 => ?_)
            obtain rfl : x9 = iZ ((μz 0 10) + 1) := ex9.trans (iZ_add _ _)
            refine fz_put (D := (dC, dI)) (ci := 10) (ty := .int) (z := ((μz 0 10) + 1)) (C := RX10) (T := TX10) (N := 53) hx hb hts inG10 tyX10 tyX10_ok nmX10 hown hK hP fA_in hS (k := 0) (by decide) (F := mF h0) mE_obj rfl 10 (by decide) (hts _ k1176) (fun _ h9 => h9) rfl (by decide +kernel) rfl rfl (fun _ => Nat.le_of_ble_eq_true rfl) (fun _ _ => rfl) dX10_page_254 (fun H locs hP hS => ?_)
            obtain ⟨μ12, eμ12⟩ : ∃ x : va_M, x = uz μz 0 10 ((μz 0 10) + 1) := ⟨_, rfl⟩
            rw [← eμ12] at hP
            refine lv_aload_n hx hb dX10_page_257 rfl (lv_at hl 3 rfl) ?_
            refine fz_get (D := (dC, dI)) (ci := 10) (v := .int (iZ (μ12 0 10))) (C := RX10) (T := TX10) (N := 53) hx hb hts inG10 hown hK hP (k := 0) (by decide) (F := mF h0) mE_obj rfl 10 (by decide) (hts _ k1176) (fun _ h9 => h9) rfl dX10_page_258 ?_
            rw [show μ12 0 10 = (μz 0 10) + 1 from by rw [eμ12, uz_s]]
            refine lv_iconst (v := iZ 1) hx hb dX10_page_261 rfl ?_
            refine lv_isub hx hb dX10_page_262 ?_
            refine lv_topi (fun x9 ex9 => ?_)
            obtain rfl : x9 = iZ (((μz 0 10) + 1) - 1) := ex9.trans (iZ_sub _ _)
            exact W.iret (v := iZ (((μz 0 10) + 1) - 1)) hx hb hr (fun t9 ht9 hW9 => ⟨⟨iZ (((μz 0 10) + 1) - 1), (μ12, ((μz 0 10) + 1) - 1), rfl, ⟨rfl, (by
                                dsimp only
                                refine ⟨fun h => absurd h (by omega), fun _ _ _ => ?_⟩
                                rw [ebn, k3] at pe
                                rw [if_neg (by omega)] at pe
                                have z1 : ∀ x y, ¬ FF (μ 0 10).toNat x y → ¬ (x = 0 ∧ (y = 5 ∨ y = 10)) → ¬ (x = 15 ∧ y = (μ 0 10).toNat) → μ12 x y = μ8_ x y := fun x y h1 h2 h3 => by
                                  rw [eμ12, uz_n (by omega), hff x y h1, y1 x y (by omega) h3]
                                refine ⟨?_, ?_, fun j hj => ?_, fun h => ?_, fun T S h => ?_⟩
                                · rw [z1 0 0 (FF_not (by omega)) (by omega) (by omega), hf 0 0 (PR_n (by omega))]; exact k00
                                · rw [z1 0 2 (FF_not (by omega)) (by omega) (by omega), hf 0 2 (PR_n (by omega))]; exact k2
                                · rw [z1 3 j (FF_not (by omega)) (by omega) (by omega)]; exact hsrX j hj
                                · rw [pe] at h; cases h
                                rw [pe] at h
                                cases h
                                have hkW := hk.2.2.2.2.2.2.1
                                have hkT := hk.2.2.2.2.2.2.2.1
                                refine ⟨by rw [eμ12, uz_s, z10], ?_, hkW, hkT, ⟨by omega, kl, ?_, fun k x hx => ?_, ⟨w, w1, w2, ?_⟩, ?_, ?_⟩, fun x y h => ?_, l9, w, w1, w2, ?_, w6b, w7, ?_, fun k s hk9 => ?_⟩
                                · refine ⟨by rw [z1 0 9 (FF_not (by omega)) (by omega) (by omega)]; exact kT.1, kT.2.1, fun k e he => ?_⟩
                                  rw [z1 3 k (FF_not (by omega)) (by omega) (by omega), z1 4 k (FF_not (by omega)) (by omega) (by omega), z1 5 k (FF_not (by omega)) (by omega) (by omega)]
                                  exact kT.2.2 k e he
                                · rw [eμ12, uz_n (by omega), hff 15 _ (FF_not (by omega)), y15]; exact ks.symm
                                · rw [z1 _ k (FF_not (by omega)) (by omega) (by omega)]; exact kS k x hx
                                · rw [show 17 + (μ 0 10).toNat = (17 + μ 0 10).toNat by omega]
                                  exact TR_fr (P := fun x y => x = 0 ∧ y = 10) w3 (by rw [eμ12]; exact fr_uz fr_rfl ⟨rfl, rfl⟩) (fun x => by omega) (by omega)
                                · rw [eμ12, uz_n (by omega)]; exact w4
                                · rw [eμ12, uz_n (by omega)]; exact w5
                                · have h5 : ¬ FF (μ 0 10).toNat x y := fun h9 => h (Or.inr (Or.inr (Or.inr h9)))
                                  have h6 : ¬ PGf (μ 0 10).toNat T0.length x y := fun h9 => h (Or.inl h9)
                                  have h7 : ¬ PR (μ 0 10).toNat T0.length x y := fun h9 => h6 (Or.inr h9)
                                  have h8 : ¬ (x = 0 ∧ y = 10) := fun h9 => h (Or.inr (Or.inl h9))
                                  have hA : ¬ (x = 15 ∧ y = (μ 0 10).toNat) := fun h9 => h (Or.inr (Or.inr (Or.inl h9)))
                                  rw [z1 x y h5 (by unfold PGf at h6; omega) hA, hf x y h7]
                                  exact k1 x y (by unfold PGf PR PN at h6; omega)
                                · rw [show 17 + (μ 0 10).toNat = (17 + μ 0 10).toNat by omega]
                                  exact TR_fr (P := fun x y => x = 0 ∧ y = 10) w3 (by rw [eμ12]; exact fr_uz fr_rfl ⟨rfl, rfl⟩) (fun x => by omega) (by omega)
                                · rw [eμ12, uz_n (by omega)]; exact w8
                                · rw [eμ12, uz_n (by omega), uz_n (by omega), uz_n (by omega)]; exact w9 k s hk9)⟩, by rw [ht9]; exact hP, va_K.moved hW9.alike hK⟩, hS.F ht9⟩) hS.2.2 dX10_page_263
          · have hn0 := pfin_n q1_8 (by omega)
            have hfw : fr (PR (μ 0 10).toNat T0.length) μ8_ μ8_ := fr_rfl
            refine lv_aload_n hx hb dX10_page_216 rfl (lv_at hl 3 rfl) ?_
            refine lv_iload_n hx hb dX10_page_217 rfl (lv_at hl 1 rfl) ?_
            refine fz_put (D := (dC, dI)) (ci := 10) (ty := .int) (z := ((μd 0 9))) (C := RX10) (T := TX10) (N := 53) hx hb hts inG10 tyX10 tyX10_ok nmX10 hown hK hP fA_in hS (k := 0) (by decide) (F := mF h0) mE_obj rfl 9 (by decide) (hts _ k1175) (fun _ h9 => h9) rfl (by decide +kernel) rfl rfl (fun _ => Nat.le_of_ble_eq_true rfl) (fun _ _ => rfl) dX10_page_218 (fun H locs hP hS => ?_)
            obtain ⟨μ13, eμ13⟩ : ∃ x : va_M, x = uz μ10 0 9 ((μd 0 9)) := ⟨_, rfl⟩
            rw [← eμ13] at hP
            refine lv_aload_n hx hb dX10_page_221 rfl (lv_at hl 3 rfl) ?_
            refine fz_get (D := (dC, dI)) (ci := 10) (v := .int (iZ (μ13 0 6))) (C := RX10) (T := TX10) (N := 53) hx hb hts inG10 hown hK hP (k := 0) (by decide) (F := mF h0) mE_obj rfl 6 (by decide) (hts _ k1172) (fun _ h9 => h9) rfl dX10_page_222 ?_
            rw [show μ13 0 6 = μ8_ 0 6 from by rw [eμ13, uz_n (by omega), eμ10, uz_n (by omega)]]
            refine lv_bipush (v := iZ 10) hx hb dX10_page_225 rfl ?_
            refine lv_isub hx hb dX10_page_227 ?_
            refine lv_topi (fun x9 ex9 => ?_)
            obtain rfl : x9 = iZ ((μ8_ 0 6) - 10) := ex9.trans (iZ_sub _ _)
            exact W.iret (v := iZ ((μ8_ 0 6) - 10)) hx hb hr (fun t9 ht9 hW9 => ⟨⟨iZ ((μ8_ 0 6) - 10), (μ13, (μ8_ 0 6) - 10), rfl, ⟨rfl, (by
                                dsimp only
                                refine ⟨fun h => absurd h (by omega), fun _ _ _ => ?_⟩
                                rw [ebn, k3] at hn0
                                have v1 : ∀ x y, ¬ (x = 0 ∧ (y = 5 ∨ y = 9)) → ¬ PR (μ 0 10).toNat T0.length x y → μ13 x y = μ7 x y := fun x y h1 h2 => by
                                  rw [eμ13, eμ10, uz_n (by omega), uz_n (by omega), hfw x y h2, hf x y h2]
                                refine ⟨by rw [v1 0 0 (by omega) (PR_n (by omega))]; exact k00, by rw [v1 0 2 (by omega) (PR_n (by omega))]; exact k2, fun j hj => ?_, fun _ => ⟨?_, ?_, ?_⟩, fun T S h => ?_⟩
                                · rw [eμ13, eμ10, uz_n (by omega), uz_n (by omega)]
                                  by_cases h9 : PR (μ 0 10).toNat T0.length 3 j
                                  · first
                                      | exact hsrX j hj
                                      | (rw [hμw]
                                         split
                                         · rw [uz_n (by omega), uz_n (by omega)]; exact hsrX j hj
                                         · exact hsrX j hj)
                                  · rw [hfw 3 j h9]; exact hsrX j hj
                                · rw [v1 0 10 (by omega) (PR_n (by omega))]; exact k1 0 10 (by omega)
                                · refine ⟨by rw [eμ13, eμ10, uz_s]; exact hP10, hT.2.1, fun k e he => ?_⟩
                                  have hkl : k < T0.length := (List.getElem?_eq_some_iff.mp he).1
                                  rw [v1 3 k (by omega) (by unfold PR PN; omega), v1 4 k (by omega) (by unfold PR PN; omega), v1 5 k (by omega) (by unfold PR PN; omega), k1 3 k (by omega), k1 4 k (by omega), k1 5 k (by omega)]
                                  exact hT.2.2 k e he
                                · intro x y h
                                  rw [v1 x y (by unfold PGf PR PN at h; omega) (fun h9 => h (Or.inr h9))]
                                  exact k1 x y (by unfold PGf PR PN at h; omega)
                                · rw [hn0] at h; cases h)⟩, by rw [ht9]; exact hP, va_K.moved hW9.alike hK⟩, hS.F ht9⟩) hS.2.2 dX10_page_228
        · refine lv_aload_n hx hb dX10_page_192 rfl (lv_at hl 3 rfl) ?_
          refine lv_iconst (v := iZ 1) hx hb dX10_page_193 rfl ?_
          refine lv_aload_n hx hb dX10_page_194 rfl (lv_at hl 3 rfl) ?_
          refine fz_get (D := (dC, dI)) (ci := 10) (v := .int (iZ (μ8_ 0 4))) (C := RX10) (T := TX10) (N := 53) hx hb hts inG10 hown hK hP (k := 0) (by decide) (F := mF h0) mE_obj rfl 4 (by decide) (hts _ k1170) (fun _ h9 => h9) rfl dX10_page_195 ?_
          refine va_callv (va_runV (As := [.int (iZ (1)), .int (iZ (μ8_ 0 4))]) (rest := []) ⟨hx, hb, hml, hown, hts⟩ (m_wrong l dC dI cI cZ cII cIII h0 H.size μ8_ (1) (μ8_ 0 4) (by constructor <;> omega)) (cwV 2 hts (gV_G k1353 k1355 ks_yX10_wrong k13 k1356) rfl rfl rfl (by decide +kernel) ⟨Nat.le_of_ble_eq_true rfl, Nat.le_of_ble_eq_true rfl⟩) ⟨fun a U g mk q => by obtain ⟨q0, q1, qP, qK⟩ := q; exact ⟨q0, q1, qP, va_K.moved (u := U) (U := U.calling g mk a) (Vm.Alike.refl U.vm) qK⟩, va_recv hK hP (ci := 10) (q0 := 0) rfl ((fw_get (by decide)).trans (by rw [mE_obj]; rfl)), fun U hU hW => ⟨rfl, by rw [hU], by rw [hU]; exact hP, va_K.moved hW.alike hK⟩⟩ rfl rfl hl.1 rfl (lv_room (Nat.le_of_ble_eq_true rfl)) dX10_page_198 ⟨Nat.le_of_ble_eq_true rfl, Nat.le_of_ble_eq_true rfl⟩) hS (fun q _ h => fA_le hS.1 q h) (fA_le hS.1) (fun u9 t9 H1 locs ht9 hvm9 hw9 hB9 hz9 hk9 hS => ?_)
          obtain ⟨hP, -⟩ := hB9
          rw [ht9] at hP
          generalize H1 = H at hP hS ⊢
          obtain ⟨μw, eμw⟩ : ∃ x : va_M, x = u9 := ⟨_, rfl⟩
          rw [← eμw] at hP hw9
          have hμw := hw9; clear hw9
          have hn0 := pfin_0 q1_8 (by omega)
          have hw6 : μw 0 6 = 1 ∨ μw 0 6 = 2 := by
            rw [hμw]
            split
            · rw [uz_n (by omega), uz_s]; exact Or.inl rfl
            · omega
          have hfw : fr (PR (μ 0 10).toNat T0.length) μ8_ μw := by
            rw [hμw]
            split
            · exact fr_uz (fr_uz fr_rfl (by unfold PR PN; omega)) (by unfold PR PN; omega)
            · exact fr_rfl
          refine lv_aload_n hx hb dX10_page_201 rfl (lv_at hl 3 rfl) ?_
          refine lv_aload_n hx hb dX10_page_202 rfl (lv_at hl 3 rfl) ?_
          refine fz_get (D := (dC, dI)) (ci := 10) (v := .int (iZ (μw 0 7))) (C := RX10) (T := TX10) (N := 53) hx hb hts inG10 hown hK hP (k := 0) (by decide) (F := mF h0) mE_obj rfl 7 (by decide) (hts _ k1173) (fun _ h9 => h9) rfl dX10_page_203 ?_
          refine fz_put (D := (dC, dI)) (ci := 10) (ty := .int) (z := (μw 0 7)) (C := RX10) (T := TX10) (N := 53) hx hb hts inG10 tyX10 tyX10_ok nmX10 hown hK hP fA_in hS (k := 0) (by decide) (F := mF h0) mE_obj rfl 5 (by decide) (hts _ k1171) (fun _ h9 => h9) rfl (by decide +kernel) rfl rfl (fun _ => Nat.le_of_ble_eq_true rfl) (fun _ _ => rfl) dX10_page_206 (fun H locs hP hS => ?_)
          obtain ⟨μ14, eμ14⟩ : ∃ x : va_M, x = uz μw 0 5 (μw 0 7) := ⟨_, rfl⟩
          rw [← eμ14] at hP
          refine lv_aload_n hx hb dX10_page_209 rfl (lv_at hl 3 rfl) ?_
          refine fz_get (D := (dC, dI)) (ci := 10) (v := .int (iZ (μ14 0 6))) (C := RX10) (T := TX10) (N := 53) hx hb hts inG10 hown hK hP (k := 0) (by decide) (F := mF h0) mE_obj rfl 6 (by decide) (hts _ k1172) (fun _ h9 => h9) rfl dX10_page_210 ?_
          rw [show μ14 0 6 = μw 0 6 from by rw [eμ14, uz_n (by omega)]]
          refine fz_if_le (tgt := 229) (by constructor <;> omega) hx hb dX10_page_213 (by decide) (fun h9 => (by omega)) (fun c213_ => ?_)
          refine lv_aload_n hx hb dX10_page_216 rfl (lv_at hl 3 rfl) ?_
          refine lv_iload_n hx hb dX10_page_217 rfl (lv_at hl 1 rfl) ?_
          refine fz_put (D := (dC, dI)) (ci := 10) (ty := .int) (z := ((μd 0 9))) (C := RX10) (T := TX10) (N := 53) hx hb hts inG10 tyX10 tyX10_ok nmX10 hown hK hP fA_in hS (k := 0) (by decide) (F := mF h0) mE_obj rfl 9 (by decide) (hts _ k1175) (fun _ h9 => h9) rfl (by decide +kernel) rfl rfl (fun _ => Nat.le_of_ble_eq_true rfl) (fun _ _ => rfl) dX10_page_218 (fun H locs hP hS => ?_)
          obtain ⟨μ15, eμ15⟩ : ∃ x : va_M, x = uz μ14 0 9 ((μd 0 9)) := ⟨_, rfl⟩
          rw [← eμ15] at hP
          refine lv_aload_n hx hb dX10_page_221 rfl (lv_at hl 3 rfl) ?_
          refine fz_get (D := (dC, dI)) (ci := 10) (v := .int (iZ (μ15 0 6))) (C := RX10) (T := TX10) (N := 53) hx hb hts inG10 hown hK hP (k := 0) (by decide) (F := mF h0) mE_obj rfl 6 (by decide) (hts _ k1172) (fun _ h9 => h9) rfl dX10_page_222 ?_
          rw [show μ15 0 6 = μw 0 6 from by rw [eμ15, uz_n (by omega), eμ14, uz_n (by omega)]]
          refine lv_bipush (v := iZ 10) hx hb dX10_page_225 rfl ?_
          refine lv_isub hx hb dX10_page_227 ?_
          refine lv_topi (fun x9 ex9 => ?_)
          obtain rfl : x9 = iZ ((μw 0 6) - 10) := ex9.trans (iZ_sub _ _)
          exact W.iret (v := iZ ((μw 0 6) - 10)) hx hb hr (fun t9 ht9 hW9 => ⟨⟨iZ ((μw 0 6) - 10), (μ15, (μw 0 6) - 10), rfl, ⟨rfl, (by
                            dsimp only
                            refine ⟨fun h => absurd h (by omega), fun _ _ _ => ?_⟩
                            rw [ebn, k3] at hn0
                            have v1 : ∀ x y, ¬ (x = 0 ∧ (y = 5 ∨ y = 9)) → ¬ PR (μ 0 10).toNat T0.length x y → μ15 x y = μ7 x y := fun x y h1 h2 => by
                              rw [eμ15, eμ14, uz_n (by omega), uz_n (by omega), hfw x y h2, hf x y h2]
                            refine ⟨by rw [v1 0 0 (by omega) (PR_n (by omega))]; exact k00, by rw [v1 0 2 (by omega) (PR_n (by omega))]; exact k2, fun j hj => ?_, fun _ => ⟨?_, ?_, ?_⟩, fun T S h => ?_⟩
                            · rw [eμ15, eμ14, uz_n (by omega), uz_n (by omega)]
                              by_cases h9 : PR (μ 0 10).toNat T0.length 3 j
                              · first
                                  | exact hsrX j hj
                                  | (rw [hμw]
                                     split
                                     · rw [uz_n (by omega), uz_n (by omega)]; exact hsrX j hj
                                     · exact hsrX j hj)
                              · rw [hfw 3 j h9]; exact hsrX j hj
                            · rw [v1 0 10 (by omega) (PR_n (by omega))]; exact k1 0 10 (by omega)
                            · refine ⟨by rw [eμ15, eμ14, uz_s]; exact hP10, hT.2.1, fun k e he => ?_⟩
                              have hkl : k < T0.length := (List.getElem?_eq_some_iff.mp he).1
                              rw [v1 3 k (by omega) (by unfold PR PN; omega), v1 4 k (by omega) (by unfold PR PN; omega), v1 5 k (by omega) (by unfold PR PN; omega), k1 3 k (by omega), k1 4 k (by omega), k1 5 k (by omega)]
                              exact hT.2.2 k e he
                            · intro x y h
                              rw [v1 x y (by unfold PGf PR PN at h; omega) (fun h9 => h (Or.inr h9))]
                              exact k1 x y (by unfold PGf PR PN at h; omega)
                            · rw [hn0] at h; cases h)⟩, by rw [ht9]; exact hP, va_K.moved hW9.alike hK⟩, hS.F ht9⟩) hS.2.2 dX10_page_228
    · refine lv_iconst (v := iZ 1) hx hb dX10_page_41 rfl ?_
      refine lv_goto (tgt := 46) hx hb dX10_page_42 (by decide) ?_
      refine lv_iconst (v := iZ 2) hx hb dX10_page_46 rfl ?_
      refine lv_iconst (v := iZ 2) hx hb dX10_page_47 rfl ?_
      refine va_calli (va_runV (As := [.int (iZ (1)), .int (iZ (2)), .int (iZ (2))]) (rest := []) ⟨hx, hb, hml, hown, hts⟩ (m_bad l dC dI cI cZ cII cIII h0 H.size μa (1) (2) (2) (by omega) (by first | assumption | omega | exact ⟨by omega, by omega⟩) (by first | assumption | omega | exact ⟨by omega, by omega⟩) (by exact g00)) (cwV 3 hts (gV_G k1338 k1340 ks_yX10_bad k13 k1341) rfl rfl rfl (by decide +kernel) ⟨Nat.le_of_ble_eq_true rfl, Nat.le_of_ble_eq_true rfl⟩) ⟨fun a U g mk q => by obtain ⟨q0, q1, qP, qK⟩ := q; exact ⟨q0, q1, qP, va_K.moved (u := U) (U := U.calling g mk a) (Vm.Alike.refl U.vm) qK⟩, va_recv hK hP (ci := 10) (q0 := 0) rfl ((fw_get (by decide)).trans (by rw [mE_obj]; rfl)), fun U hU hW => ⟨rfl, by rw [hU], by rw [hU]; exact hP, va_K.moved hW.alike hK⟩⟩ rfl rfl hl.1 rfl (lv_room (Nat.le_of_ble_eq_true rfl)) dX10_page_48 ⟨Nat.le_of_ble_eq_true rfl, Nat.le_of_ble_eq_true rfl⟩) hS (fun q _ h => fA_le hS.1 q h) (fA_le hS.1) (fun r9 u9 t9 H1 locs ht9 hvm9 hw9 hB9 hz9 hk9 hS => ?_)
      obtain ⟨μd, rd⟩ := u9
      obtain ⟨hP, -⟩ := hB9
      rw [ht9] at hP
      generalize H1 = H at hP hS ⊢
      obtain ⟨e9, hw9⟩ := hw9
      have e9 : r9 = iZ rd := e9
      subst e9
      simp only at hP hw9
      have hμd := hw9; clear hw9
      first | rw [if_pos True.intro] at hμd | rw [if_pos (show (0 : Int) = 0 from rfl)] at hμd | rw [if_neg (show ¬ (1 : Int) = 0 by decide)] at hμd
      refine fz_if_eq (tgt := 56) (by constructor <;> omega) hx hb dX10_page_51 (by decide) (fun h9 => (by omega)) (fun c51_ => ?_)
      refine lv_iconst (v := iZ 0) hx hb dX10_page_54 rfl ?_
      exact W.iret (v := iZ (0)) hx hb hr (fun t9 ht9 hW9 => ⟨⟨iZ (0), (μd, 0), rfl, ⟨rfl, (by
                    dsimp only
                    first
                      | (obtain ⟨ea, _⟩ := hμa
                         exact ⟨fun _ => ⟨by rw [ea, eμ1]; exact fr_uz (fr_uz (fr_uz fr_rfl (Or.inl ⟨rfl, rfl⟩)) (Or.inl ⟨rfl, rfl⟩)) (Or.inr rfl), Or.inl (by rw [ea, uz_n (by omega), uz_s])⟩, fun h1 h2 h3 => absurd h1 (by omega)⟩)
                      | (obtain ⟨ed, _⟩ := hμd
                         exact ⟨fun _ => ⟨by rw [ed]; exact fr_uz (fr_uz (fun x y h => f0 x y (fun h2 => h (Or.inl h2))) (Or.inl ⟨rfl, rfl⟩)) (Or.inr rfl), Or.inr (by rw [ed, uz_n (by omega), uz_s])⟩, fun h1 h2 h3 => absurd h1 (by omega)⟩))⟩, by rw [ht9]; exact hP, va_K.moved hW9.alike hK⟩, hS.F ht9⟩) hS.2.2 dX10_page_55
  · have hin : ¬ (0 ≤ n ∧ n ≤ μ 0 2) := by
      intro h
      rw [if_pos h] at hri; omega
    refine lv_iconst (v := iZ 1) hx hb dX10_page_18 rfl ?_
    refine lv_goto (tgt := 23) hx hb dX10_page_19 (by decide) ?_
    refine lv_iconst (v := iZ 1) hx hb dX10_page_23 rfl ?_
    refine lv_iconst (v := iZ 1) hx hb dX10_page_24 rfl ?_
    refine va_calli (va_runV (As := [.int (iZ (1)), .int (iZ (1)), .int (iZ (1))]) (rest := []) ⟨hx, hb, hml, hown, hts⟩ (m_bad l dC dI cI cZ cII cIII h0 H.size μ1 (1) (1) (1) (by omega) (by first | assumption | omega | exact ⟨by omega, by omega⟩) (by first | assumption | omega | exact ⟨by omega, by omega⟩) (by rw [eμ1, uz_s])) (cwV 3 hts (gV_G k1338 k1340 ks_yX10_bad k13 k1341) rfl rfl rfl (by decide +kernel) ⟨Nat.le_of_ble_eq_true rfl, Nat.le_of_ble_eq_true rfl⟩) ⟨fun a U g mk q => by obtain ⟨q0, q1, qP, qK⟩ := q; exact ⟨q0, q1, qP, va_K.moved (u := U) (U := U.calling g mk a) (Vm.Alike.refl U.vm) qK⟩, va_recv hK hP (ci := 10) (q0 := 0) rfl ((fw_get (by decide)).trans (by rw [mE_obj]; rfl)), fun U hU hW => ⟨rfl, by rw [hU], by rw [hU]; exact hP, va_K.moved hW.alike hK⟩⟩ rfl rfl hl.1 rfl (lv_room (Nat.le_of_ble_eq_true rfl)) dX10_page_25 ⟨Nat.le_of_ble_eq_true rfl, Nat.le_of_ble_eq_true rfl⟩) hS (fun q _ h => fA_le hS.1 q h) (fA_le hS.1) (fun r9 u9 t9 H1 locs ht9 hvm9 hw9 hB9 hz9 hk9 hS => ?_)
    obtain ⟨μa, ra⟩ := u9
    obtain ⟨hP, -⟩ := hB9
    rw [ht9] at hP
    generalize H1 = H at hP hS ⊢
    obtain ⟨e9, hw9⟩ := hw9
    have e9 : r9 = iZ ra := e9
    subst e9
    simp only at hP hw9
    have hμa := hw9; clear hw9
    first | rw [if_pos True.intro] at hμa | rw [if_pos (show (0 : Int) = 0 from rfl)] at hμa | rw [if_neg (show ¬ (1 : Int) = 0 by decide)] at hμa
    refine fz_if_ne (tgt := 54) (by constructor <;> omega) hx hb dX10_page_28 (by decide) (fun c28_ => ?_) (fun h9 => (by omega))
    refine lv_iconst (v := iZ 0) hx hb dX10_page_54 rfl ?_
    exact W.iret (v := iZ (0)) hx hb hr (fun t9 ht9 hW9 => ⟨⟨iZ (0), (μa, 0), rfl, ⟨rfl, (by
                dsimp only
                first
                  | (obtain ⟨ea, _⟩ := hμa
                     exact ⟨fun _ => ⟨by rw [ea, eμ1]; exact fr_uz (fr_uz (fr_uz fr_rfl (Or.inl ⟨rfl, rfl⟩)) (Or.inl ⟨rfl, rfl⟩)) (Or.inr rfl), Or.inl (by rw [ea, uz_n (by omega), uz_s])⟩, fun h1 h2 h3 => absurd h1 (by omega)⟩)
                  | (obtain ⟨ed, _⟩ := hμd
                     exact ⟨fun _ => ⟨by rw [ed]; exact fr_uz (fr_uz (fun x y h => f0 x y (fun h2 => h (Or.inl h2))) (Or.inl ⟨rfl, rfl⟩)) (Or.inr rfl), Or.inr (by rw [ed, uz_n (by omega), uz_s])⟩, fun h1 h2 h3 => absurd h1 (by omega)⟩))⟩, by rw [ht9]; exact hP, va_K.moved hW9.alike hK⟩, hS.F ht9⟩) hS.2.2 dX10_page_55


/-! lay of the reference, told whole -/
set_option maxHeartbeats 4000000 in
set_option maxRecDepth 100000 in
theorem f_asIf (l : Launch) (dC : Nat → ClassId) (dI : Nat → Nat → Nat) (cI cZ cII cIII : ClassId) (h0 sz : Nat) (μ : va_M) (pp : Int) (w : Rw) (b : Rw) (hpp : 0 ≤ pp ∧ pp < 8) (hTw : TR μ 0 w) (hB : skB w ∧ rL w ≤ 160) (hTb : TR μ (17 + pp).toNat b) (hPg : rPage b) (hC9 : rN (lrow w b) ≤ 900) (h22 : μ 0 22 = 0 ∨ μ 0 22 = 1) (h22b : μ 0 22 = 0 ↔ w = .leaf) : Met l yX10_asIf (Cond.code yX10_asIf cX10_asIf 2 (some .int) :: wsG) ({ frames := 69, cells := 0, slots := 0, locals := 2355 } : Room) (va_Pc [.ref h0, .int (iZ (pp))] (fun U => U.heap.size = sz ∧ va_P (dC, dI) vwCl (fw (mE cI cZ cII cIII h0) h0 6325 μ) U.heap ∧ va_K (dC, dI) vwCl (mT cI cZ cII cIII) U)) (va_Qi (fun (r9 : Int32) (u : va_M × Int) => r9 = iZ u.2 ∧ (fun (u : va_M) (r : Int) => TR u 53 (lyW w b) ∧ fr (LPq 53) μ u ∧ r = lyC w b ∧ 0 ≤ r ∧ r ≤ 400) u.1 u.2) (fun u t => va_P (dC, dI) vwCl (fw (mE cI cZ cII cIII h0) h0 6325 u.1) t.heap ∧ va_K (dC, dI) vwCl (mT cI cZ cII cIII) t) (fA h0 6325 sz)) 0 0 (fA h0 6325 sz) := by
  refine Met.ofW (cc := cX10_asIf) (maxL := 2) (ret := (some .int)) (by decide) rfl ?_
  intro p e s m args below meth c s₁ B hml hv
  obtain ⟨rfl, hsz, hP, hK⟩ := hv
  have hx := B.exec
  have hb := B.bytes
  have hr := B.returns
  have hts : ∀ w ∈ wsG, w.before _ s = true := hG_of (atoms_spec (ws := (Cond.code yX10_asIf cX10_asIf 2 (some .int) :: wsG)) B.pre)
  have hown : s.vm.findClass RX10 = some m.cls := findClass_of_methodNamed B.named
  have hlocks := B.notSynchronized
  subst hsz
  have hS : va_S (fA h0 6325 s.heap.size) s.heap s.heap [] := va_S.rf
  have hl := lv_entry ([.ref h0, .int (iZ (pp))]) (n := 2) (Nat.le_of_ble_eq_true rfl)
  rw [lg_entry_eq]
  generalize (lg_sl ([.ref h0, .int (iZ (pp))]) ++ List.replicate (2 - (lg_sl ([.ref h0, .int (iZ (pp))])).length) Slot.unset).toArray = ls at hl ⊢
  have hl : lv_has ls 2 [(0, .ref h0), (1, .int (iZ (pp)))] := hl
  have hpb := rPage_b hPg
  have hpl := rL_T b hPg.1
  have hpt := hPg.2.2
  obtain ⟨b1_, b2_, b3_, b4_, b5_⟩ := hB.1
  have hbL := hB.2
  have h22h := hid_i h22b
  clear h22b
  refine lv_aload_n hx hb dX10_asIf_0 rfl (lv_at hl 0 rfl) ?_
  refine fz_get (D := (dC, dI)) (ci := 10) (v := .int (iZ (μ 0 22))) (C := RX10) (T := TX10) (N := 53) hx hb hts inG10 hown hK hP (k := 0) (by decide) (F := mF h0) mE_obj rfl 22 (by decide) (hts _ k1188) (fun _ h9 => h9) rfl dX10_asIf_1 ?_
  refine fz_if_eq (tgt := 19) (by constructor <;> omega) hx hb dX10_asIf_4 (by decide) (fun c4_ => ?_) (fun c4_ => ?_)
  · refine lv_aload_n hx hb dX10_asIf_19 rfl (lv_at hl 0 rfl) ?_
    refine lv_bipush (v := iZ 17) hx hb dX10_asIf_20 rfl ?_
    refine lv_iload_n hx hb dX10_asIf_22 rfl (lv_at hl 1 rfl) ?_
    refine lv_iadd hx hb dX10_asIf_23 ?_
    refine lv_topi (fun x9 ex9 => ?_)
    obtain rfl : x9 = iZ (17 + pp) := ex9.trans (iZ_add _ _)
    refine lv_bipush (v := iZ 53) hx hb dX10_asIf_24 rfl ?_
    refine va_callv (va_runV (As := [.int (iZ (17 + pp)), .int (iZ (53))]) (rest := []) ⟨hx, hb, hml, hown, hts⟩ (m_copiesAll l dC dI cI cZ cII cIII h0 s.heap.size μ (17 + pp) (53) (b) (by omega) (by decide) (by omega) (by exact hTb) (by omega)) (cwV 2 hts (gV_G k1428 k1430 ks_yX10_copiesAll k13 k1431) rfl rfl rfl (by decide +kernel) ⟨Nat.le_of_ble_eq_true rfl, Nat.le_of_ble_eq_true rfl⟩) ⟨fun a U g mk q => by obtain ⟨q0, q1, qP, qK⟩ := q; exact ⟨q0, q1, qP, va_K.moved (u := U) (U := U.calling g mk a) (Vm.Alike.refl U.vm) qK⟩, va_recv hK hP (ci := 10) (q0 := 0) rfl ((fw_get (by decide)).trans (by rw [mE_obj]; rfl)), fun U hU hW => ⟨rfl, by rw [hU], by rw [hU]; exact hP, va_K.moved hW.alike hK⟩⟩ rfl rfl hl.1 rfl (lv_room (Nat.le_of_ble_eq_true rfl)) dX10_asIf_26 ⟨Nat.le_of_ble_eq_true rfl, Nat.le_of_ble_eq_true rfl⟩) hS (fun q _ h => fA_le hS.1 q h) (fA_le hS.1) (fun u9 t9 H1 locs ht9 hvm9 hw9 hB9 hz9 hk9 hS => ?_)
    obtain ⟨hP, -⟩ := hB9
    rw [ht9] at hP
    generalize H1 = H at hP hS ⊢
    obtain ⟨μ1, eμ1⟩ : ∃ x : va_M, x = u9 := ⟨_, rfl⟩
    rw [← eμ1] at hP hw9
    have hμ1 := hw9; clear hw9
    refine lv_iconst (v := iZ 0) hx hb dX10_asIf_29 rfl ?_
    exact W.iret (v := iZ (0)) hx hb hr (fun t9 ht9 hW9 => ⟨⟨iZ (0), (μ1, 0), rfl, ⟨rfl, (by
                dsimp only
                obtain ⟨z1, z2⟩ := hμ1
                obtain rfl : w = .leaf := (hid_e h22h).mp (by omega)
                exact ⟨z1, fr_mono z2 (fun x y h => Or.inr h), rfl, by omega, by omega⟩)⟩, by rw [ht9]; exact hP, va_K.moved hW9.alike hK⟩, hS.F ht9⟩) hS.2.2 dX10_asIf_30
  · refine lv_aload_n hx hb dX10_asIf_7 rfl (lv_at hl 0 rfl) ?_
    refine lv_iconst (v := iZ 0) hx hb dX10_asIf_8 rfl ?_
    refine lv_bipush (v := iZ 17) hx hb dX10_asIf_9 rfl ?_
    refine lv_iload_n hx hb dX10_asIf_11 rfl (lv_at hl 1 rfl) ?_
    refine lv_iadd hx hb dX10_asIf_12 ?_
    refine lv_topi (fun x9 ex9 => ?_)
    obtain rfl : x9 = iZ (17 + pp) := ex9.trans (iZ_add _ _)
    refine lv_bipush (v := iZ 53) hx hb dX10_asIf_13 rfl ?_
    refine va_calli (va_runV (As := [.int (iZ (0)), .int (iZ (17 + pp)), .int (iZ (53))]) (rest := []) ⟨hx, hb, hml, hown, hts⟩ (m_lays l dC dI cI cZ cII cIII h0 s.heap.size μ (0) (17 + pp) (53) (w) (b) (by decide) (by omega) (by omega) (by exact hTw) (by exact hTb) (by exact b1_) (by exact hPg.1) (by omega) (by omega) (by omega) (by exact hC9)) (cwV 3 hts (gV_G k1543 k1545 ks_yX10_lays k13 k1546) rfl rfl rfl (by decide +kernel) ⟨Nat.le_of_ble_eq_true rfl, Nat.le_of_ble_eq_true rfl⟩) ⟨fun a U g mk q => by obtain ⟨q0, q1, qP, qK⟩ := q; exact ⟨q0, q1, qP, va_K.moved (u := U) (U := U.calling g mk a) (Vm.Alike.refl U.vm) qK⟩, va_recv hK hP (ci := 10) (q0 := 0) rfl ((fw_get (by decide)).trans (by rw [mE_obj]; rfl)), fun U hU hW => ⟨rfl, by rw [hU], by rw [hU]; exact hP, va_K.moved hW.alike hK⟩⟩ rfl rfl hl.1 rfl (lv_room (Nat.le_of_ble_eq_true rfl)) dX10_asIf_15 ⟨Nat.le_of_ble_eq_true rfl, Nat.le_of_ble_eq_true rfl⟩) hS (fun q _ h => fA_le hS.1 q h) (fA_le hS.1) (fun r9 u9 t9 H1 locs ht9 hvm9 hw9 hB9 hz9 hk9 hS => ?_)
    obtain ⟨μ2, r3⟩ := u9
    obtain ⟨hP, -⟩ := hB9
    rw [ht9] at hP
    generalize H1 = H at hP hS ⊢
    obtain ⟨e9, hw9⟩ := hw9
    have e9 : r9 = iZ r3 := e9
    subst e9
    simp only at hP hw9
    have hμ2 := hw9; clear hw9
    exact W.iret (v := iZ (r3)) hx hb hr (fun t9 ht9 hW9 => ⟨⟨iZ (r3), (μ2, r3), rfl, ⟨rfl, (by
                dsimp only
                obtain ⟨z1, z2, z3⟩ := hμ2
                have h9 := lay_60 (w := w) (by omega) hPg
                have hne : w ≠ .leaf := fun e => by have := (hid_e h22h).mpr e; omega
                refine ⟨by rw [lyW_n hne]; exact z2, z3, by rw [lyC_n hne]; exact z1, by omega, by omega⟩)⟩, by rw [ht9]; exact hP, va_K.moved hW9.alike hK⟩, hS.F ht9⟩) hS.2.2 dX10_asIf_18
set_option maxHeartbeats 4000000 in
set_option maxRecDepth 100000 in
theorem f_lay (l : Launch) (dC : Nat → ClassId) (dI : Nat → Nat → Nat) (cI cZ cII cIII : ClassId) (h0 sz : Nat) (μ : va_M) (pp : Int) (J : Rw → Prop) (Wk : Rw) (Bs : List Rw) (b : Rw) (hR : RI J μ) (hJK : JOK J) (hSK : SKJ J Wk Bs μ) (hp : inR pp) (hwp : 0 ≤ pp ∧ pp < μ 0 10 → TR μ (17 + pp.toNat) b ∧ rPage b ∧ 1 ≤ rI b) : Met l yX10_lay (Cond.code yX10_lay cX10_lay 3 (some .int) :: wsG) ({ frames := 70, cells := 0, slots := 0, locals := 2376 } : Room) (va_Pc [.ref h0, .int (iZ (pp))] (fun U => U.heap.size = sz ∧ va_P (dC, dI) vwCl (fw (mE cI cZ cII cIII h0) h0 6325 μ) U.heap ∧ va_K (dC, dI) vwCl (mT cI cZ cII cIII) U)) (va_Qi (fun (r9 : Int32) (u : va_M × Int) => r9 = iZ u.2 ∧ (fun (u : va_M) (r : Int) => GE J μ u ∧ u 0 0 = cd2 (0 ≤ pp ∧ pp < μ 0 10) (rL (lyW Wk b) ≤ 160) ∧ (cd2 (0 ≤ pp ∧ pp < μ 0 10) (rL (lyW Wk b) ≤ 160) = 0 → r = lyC Wk b ∧ SKr (lyW Wk b) (Wk :: Bs.take 15) u) ∧ (¬ cd2 (0 ≤ pp ∧ pp < μ 0 10) (rL (lyW Wk b) ≤ 160) = 0 → SKr Wk Bs u)) u.1 u.2) (fun u t => va_P (dC, dI) vwCl (fw (mE cI cZ cII cIII h0) h0 6325 u.1) t.heap ∧ va_K (dC, dI) vwCl (mT cI cZ cII cIII) t) (fA h0 6325 sz)) 0 0 (fA h0 6325 sz) := by
  refine Met.ofW (cc := cX10_lay) (maxL := 3) (ret := (some .int)) (by decide) rfl ?_
  intro p e s m args below meth c s₁ B hml hv
  obtain ⟨rfl, hsz, hP, hK⟩ := hv
  have hx := B.exec
  have hb := B.bytes
  have hr := B.returns
  have hts : ∀ w ∈ wsG, w.before _ s = true := hG_of (atoms_spec (ws := (Cond.code yX10_lay cX10_lay 3 (some .int) :: wsG)) B.pre)
  have hown : s.vm.findClass RX10 = some m.cls := findClass_of_methodNamed B.named
  have hlocks := B.notSynchronized
  subst hsz
  have hS : va_S (fA h0 6325 s.heap.size) s.heap s.heap [] := va_S.rf
  have hl := lv_entry ([.ref h0, .int (iZ (pp))]) (n := 3) (Nat.le_of_ble_eq_true rfl)
  rw [lg_entry_eq]
  generalize (lg_sl ([.ref h0, .int (iZ (pp))]) ++ List.replicate (3 - (lg_sl ([.ref h0, .int (iZ (pp))])).length) Slot.unset).toArray = ls at hl ⊢
  have hl : lv_has ls 3 [(0, .ref h0), (1, .int (iZ (pp)))] := hl
  have hQ := hR.1
  refine lv_aload_n hx hb dX10_lay_0 rfl (lv_at hl 0 rfl) ?_
  refine lv_iconst (v := iZ 0) hx hb dX10_lay_1 rfl ?_
  refine fz_put (D := (dC, dI)) (ci := 10) (ty := .int) (z := 0) (C := RX10) (T := TX10) (N := 53) hx hb hts inG10 tyX10 tyX10_ok nmX10 hown hK hP fA_in hS (k := 0) (by decide) (F := mF h0) mE_obj rfl 0 (by decide) (hts _ k1166) (fun _ h9 => h9) rfl (by decide +kernel) rfl rfl (fun _ => Nat.le_of_ble_eq_true rfl) (fun _ _ => rfl) dX10_lay_2 (fun H locs hP hS => ?_)
  obtain ⟨μ1, eμ1⟩ : ∃ x : va_M, x = uz μ 0 0 (0) := ⟨_, rfl⟩
  rw [← eμ1] at hP
  have hfr : fr PS μ μ1 := by rw [eμ1]; exact fr_uz fr_rfl (by unfold PS; omega)
  have ht0 : μ1 0 0 = 0 := by rw [eμ1, uz_s]
  have e10 := hfr 0 10 (PS_n (by omega))
  have e9 := hfr 0 9 (PS_n (by omega))
  have e71 := hfr 719 0 (PS_n (by omega))
  have hQ1 := RQ_fr hQ hfr
  have hQc := hQ
  obtain ⟨f10, ⟨fT, fTb, fTw⟩, fS3, fPg, fw9, fwB, fwT⟩ := hQc
  obtain ⟨g10, ⟨gT, gTb, gTw⟩, gS3, gPg, gw, gwB, gwT⟩ := hQ1
  have gtk := TR_tok gwT gwB.1 gwB.2.1
  have gt1 := gtk.1
  have gt2 := gtk.2.1
  refine lv_aload_n hx hb dX10_lay_5 rfl (lv_at hl 0 rfl) ?_
  refine lv_iload_n hx hb dX10_lay_6 rfl (lv_at hl 1 rfl) ?_
  refine lv_iconst (v := iZ 0) hx hb dX10_lay_7 rfl ?_
  refine lv_aload_n hx hb dX10_lay_8 rfl (lv_at hl 0 rfl) ?_
  refine fz_get (D := (dC, dI)) (ci := 10) (v := .int (iZ (μ1 0 10))) (C := RX10) (T := TX10) (N := 53) hx hb hts inG10 hown hK hP (k := 0) (by decide) (F := mF h0) mE_obj rfl 10 (by decide) (hts _ k1176) (fun _ h9 => h9) rfl dX10_lay_9 ?_
  rw [show μ1 0 10 = μ 0 10 from by rw [eμ1, uz_n (by omega)]]
  refine lv_iconst (v := iZ 1) hx hb dX10_lay_12 rfl ?_
  refine lv_isub hx hb dX10_lay_13 ?_
  refine lv_topi (fun x9 ex9 => ?_)
  obtain rfl : x9 = iZ ((μ 0 10) - 1) := ex9.trans (iZ_sub _ _)
  refine va_calli (va_runS (As := [.int (iZ (pp)), .int (iZ (0)), .int (iZ ((μ 0 10) - 1))]) (rest := [.ref h0]) ⟨hx, hb, hml, hown, hts⟩ (m_in l dC dI cI cZ cII cIII h0 H.size μ1 (pp) (0) ((μ 0 10) - 1) (by first | assumption | omega | exact ⟨by omega, by omega⟩) (by first | assumption | omega | exact ⟨by omega, by omega⟩) (by first | assumption | omega | exact ⟨by omega, by omega⟩)) (cwS 3 hts (gS_G k1339 k1340 k13 k1341) rfl rfl rfl (by decide +kernel) ⟨Nat.le_of_ble_eq_true rfl, Nat.le_of_ble_eq_true rfl⟩) ⟨fun a U g mk q => by obtain ⟨q0, q1, qP, qK⟩ := q; exact ⟨q0, q1, qP, va_K.moved (u := U) (U := U.calling g mk a) (Vm.Alike.refl U.vm) qK⟩, fun U hU hW => ⟨rfl, by rw [hU], by rw [hU]; exact hP, va_K.moved hW.alike hK⟩⟩ rfl rfl hl.1 rfl (lv_room (Nat.le_of_ble_eq_true rfl)) dX10_lay_14 ⟨Nat.le_of_ble_eq_true rfl, Nat.le_of_ble_eq_true rfl⟩) hS (fun q _ h => fA_le hS.1 q h) (fA_le hS.1) (fun r9 u9 t9 H1 locs ht9 hvm9 hw9 hB9 hz9 hk9 hS => ?_)
  obtain ⟨μ2, r3⟩ := u9
  obtain ⟨hP, -⟩ := hB9
  rw [ht9] at hP
  generalize H1 = H at hP hS ⊢
  obtain ⟨e9, hw9⟩ := hw9
  have e9 : r9 = iZ r3 := e9
  subst e9
  simp only at hP hw9
  have hμ2 := hw9; clear hw9
  rw [hμ2.1] at hP; have hμ2 := hμ2.2
  have hin := hμ2
  have hin2 := if_01 hμ2
  refine fz_if_ne (tgt := 24) (by constructor <;> omega) hx hb dX10_lay_17 (by decide) (fun c17_ => ?_) (fun c17_ => ?_)
  · have hpp := if_get hin (by omega)
    refine lv_iconst (v := iZ 0) hx hb dX10_lay_24 rfl ?_
    refine lv_iconst (v := iZ 1) hx hb dX10_lay_25 rfl ?_
    refine lv_iconst (v := iZ 0) hx hb dX10_lay_26 rfl ?_
    refine va_calli (va_runV (As := [.int (iZ (0)), .int (iZ (1)), .int (iZ (0))]) (rest := []) ⟨hx, hb, hml, hown, hts⟩ (m_bad2 l dC dI cI cZ cII cIII h0 H.size μ1 (0) (1) (0) (by first | assumption | omega | exact ⟨by omega, by omega⟩) (by first | assumption | omega | exact ⟨by omega, by omega⟩) (by first | assumption | omega | exact ⟨by omega, by omega⟩) (by first | assumption | omega | exact ⟨by omega, by omega⟩)) (cwV 3 hts (gV_G k1342 k1344 ks_yX10_bad k13 k1345) rfl rfl rfl (by decide +kernel) ⟨Nat.le_of_ble_eq_true rfl, Nat.le_of_ble_eq_true rfl⟩) ⟨fun a U g mk q => by obtain ⟨q0, q1, qP, qK⟩ := q; exact ⟨q0, q1, qP, va_K.moved (u := U) (U := U.calling g mk a) (Vm.Alike.refl U.vm) qK⟩, va_recv hK hP (ci := 10) (q0 := 0) rfl ((fw_get (by decide)).trans (by rw [mE_obj]; rfl)), fun U hU hW => ⟨rfl, by rw [hU], by rw [hU]; exact hP, va_K.moved hW.alike hK⟩⟩ rfl rfl hl.1 rfl (lv_room (Nat.le_of_ble_eq_true rfl)) dX10_lay_27 ⟨Nat.le_of_ble_eq_true rfl, Nat.le_of_ble_eq_true rfl⟩) hS (fun q _ h => fA_le hS.1 q h) (fA_le hS.1) (fun r9 u9 t9 H1 locs ht9 hvm9 hw9 hB9 hz9 hk9 hS => ?_)
    obtain ⟨μ4, r5⟩ := u9
    obtain ⟨hP, -⟩ := hB9
    rw [ht9] at hP
    generalize H1 = H at hP hS ⊢
    obtain ⟨e9, hw9⟩ := hw9
    have e9 : r9 = iZ r5 := e9
    subst e9
    simp only at hP hw9
    have hμ4 := hw9; clear hw9
    have hfr := fr_trans hfr (badP_fr hμ4)
    have hrb := badP_r hμ4
    obtain rfl : r5 = 0 := by omega
    refine fz_if_eq (tgt := 35) (by decide) hx hb dX10_lay_30 (by decide) (fun c30_ => ?_) (fun h9 => absurd h9 (by decide))
    have hQ2 := RQ_fr hQ hfr
    obtain ⟨k10, ⟨kT, kTb, kTw⟩, kS3, kPg, kw, kwB, kwT⟩ := hQ2
    have e10k := hfr 0 10 (PS_n (by omega))
    have e9k := hfr 0 9 (PS_n (by omega))
    have e71k := hfr 719 0 (PS_n (by omega))
    have ktk := TR_tok kwT kwB.1 kwB.2.1
    have kt1 := ktk.1
    have kt2 := ktk.2.1
    have hR2 := RI_PS hR hfr
    have hb22 := hR2.2.2.2.1
    have hSKu := SKr_PS hSK.1 hSK.2.2.2 hfr
    have sB := hJK.2.1 Wk hSK.2.1
    obtain ⟨p3, pw1, pw2⟩ := hwp (by omega)
    have pTR : TR μ4 (17 + pp).toNat b := by rw [show (17 + pp).toNat = 17 + pp.toNat by omega]; exact TR_PS p3 hfr (by omega)
    have aJ := lyW_J hJK hSK.2.1 pw1 pw2
    have lJ := (hJK.2.2.2.1 Wk b hSK.2.1 pw1 pw2).1.2.1
    have aNe := lyW_ne sB.1 pw1 pw2
    refine lv_aload_n hx hb dX10_lay_35 rfl (lv_at hl 0 rfl) ?_
    refine lv_iload_n hx hb dX10_lay_36 rfl (lv_at hl 1 rfl) ?_
    refine va_calli (va_runV (As := [.int (iZ (pp))]) (rest := []) ⟨hx, hb, hml, hown, hts⟩ (f_asIf l dC dI cI cZ cII cIII h0 H.size μ4 (pp) (Wk) (b) (by omega) (by exact hSKu.1) (by exact sB) (by exact pTR) (by exact pw1) (by exact lJ) (by exact hb22) (by exact hSKu.2.1)) (cwV 1 hts (gV_G k1539 k1541 ks_yX10_asIf k13 k1542) rfl rfl rfl (by decide +kernel) ⟨Nat.le_of_ble_eq_true rfl, Nat.le_of_ble_eq_true rfl⟩) ⟨fun a U g mk q => by obtain ⟨q0, q1, qP, qK⟩ := q; exact ⟨q0, q1, qP, va_K.moved (u := U) (U := U.calling g mk a) (Vm.Alike.refl U.vm) qK⟩, va_recv hK hP (ci := 10) (q0 := 0) rfl ((fw_get (by decide)).trans (by rw [mE_obj]; rfl)), fun U hU hW => ⟨rfl, by rw [hU], by rw [hU]; exact hP, va_K.moved hW.alike hK⟩⟩ rfl rfl hl.1 rfl (lv_room (Nat.le_of_ble_eq_true rfl)) dX10_lay_37 ⟨Nat.le_of_ble_eq_true rfl, Nat.le_of_ble_eq_true rfl⟩) hS (fun q _ h => fA_le hS.1 q h) (fA_le hS.1) (fun r9 u9 t9 H1 locs ht9 hvm9 hw9 hB9 hz9 hk9 hS => ?_)
    obtain ⟨μz, rz⟩ := u9
    obtain ⟨hP, -⟩ := hB9
    rw [ht9] at hP
    generalize H1 = H at hP hS ⊢
    obtain ⟨e9, hw9⟩ := hw9
    have e9 : r9 = iZ rz := e9
    subst e9
    simp only at hP hw9
    have hμz := hw9; clear hw9
    obtain ⟨y1, y2, y3, y4, y5⟩ := hμz
    have hfr := fr_trans hfr (fr_mono y2 (fun x y h => LPq_PS h))
    have h00z : μz 0 0 = _ := y2 0 0 (by unfold LPq LD PT; omega)
    have ytk := TR_tok y1 aJ.1.1 aJ.1.2.1
    clear hSKu
    refine lv_istore_n (lv' := [(2, .int (iZ (rz))), (0, .ref h0), (1, .int (iZ (pp)))]) hx hb dX10_lay_40 rfl hl (by decide) rfl (fun ls hl => ?_)
    refine lv_aload_n hx hb dX10_lay_41 rfl (lv_at hl 1 rfl) ?_
    refine lv_aload_n hx hb dX10_lay_42 rfl (lv_at hl 1 rfl) ?_
    refine lv_bipush (v := iZ 53) hx hb dX10_lay_43 rfl ?_
    refine va_calli (va_runV (As := [.int (iZ (53))]) (rest := [.ref h0]) ⟨hx, hb, hml, hown, hts⟩ (m_sizeOfAll2 l dC dI cI cZ cII cIII h0 H.size μz (53) (by decide) (by exact ytk)) (cwV 1 hts (gV_G k1488 k1490 ks_yX10_sizeOfAll k13 k1491) rfl rfl rfl (by decide +kernel) ⟨Nat.le_of_ble_eq_true rfl, Nat.le_of_ble_eq_true rfl⟩) ⟨fun a U g mk q => by obtain ⟨q0, q1, qP, qK⟩ := q; exact ⟨q0, q1, qP, va_K.moved (u := U) (U := U.calling g mk a) (Vm.Alike.refl U.vm) qK⟩, va_recv hK hP (ci := 10) (q0 := 0) rfl ((fw_get (by decide)).trans (by rw [mE_obj]; rfl)), fun U hU hW => ⟨rfl, by rw [hU], by rw [hU]; exact hP, va_K.moved hW.alike hK⟩⟩ rfl rfl hl.1 rfl (lv_room (Nat.le_of_ble_eq_true rfl)) dX10_lay_45 ⟨Nat.le_of_ble_eq_true rfl, Nat.le_of_ble_eq_true rfl⟩) hS (fun q _ h => fA_le hS.1 q h) (fA_le hS.1) (fun r9 u9 t9 H1 locs ht9 hvm9 hw9 hB9 hz9 hk9 hS => ?_)
    obtain ⟨μ6, rs⟩ := u9
    obtain ⟨hP, -⟩ := hB9
    rw [ht9] at hP
    generalize H1 = H at hP hS ⊢
    obtain ⟨e9, hw9⟩ := hw9
    have e9 : r9 = iZ rs := e9
    subst e9
    simp only at hP hw9
    have hμ6 := hw9; clear hw9
    rw [hμ6.1] at hP; have hμ6 := hμ6.2
    have hrs : rs = (rL (lyW Wk b) : Int) := by
      have h9 := hμ6
      rw [show (53 : Int).toNat = 53 from rfl, y1.1, Int.toNat_natCast, cS_row _ 0 y1.2] at h9
      exact h9
    have hrl := rL_N (lyW Wk b)
    have hrn := aJ.1.2.1
    refine lv_sipush (v := iZ 160) hx hb dX10_lay_48 rfl ?_
    refine fz_icmp_le (tgt := 58) (by constructor <;> omega) (by decide) hx hb dX10_lay_51 (by decide) (fun c51_ => ?_) (fun c51_ => ?_)
    · refine lv_iconst (v := iZ 0) hx hb dX10_lay_58 rfl ?_
      refine lv_iconst (v := iZ 2) hx hb dX10_lay_59 rfl ?_
      refine lv_iconst (v := iZ 2) hx hb dX10_lay_60 rfl ?_
      refine va_calli (va_runV (As := [.int (iZ (0)), .int (iZ (2)), .int (iZ (2))]) (rest := []) ⟨hx, hb, hml, hown, hts⟩ (m_bad2 l dC dI cI cZ cII cIII h0 H.size μz (0) (2) (2) (by first | assumption | omega | exact ⟨by omega, by omega⟩) (by first | assumption | omega | exact ⟨by omega, by omega⟩) (by first | assumption | omega | exact ⟨by omega, by omega⟩) (by first | assumption | omega | exact ⟨by omega, by omega⟩)) (cwV 3 hts (gV_G k1342 k1344 ks_yX10_bad k13 k1345) rfl rfl rfl (by decide +kernel) ⟨Nat.le_of_ble_eq_true rfl, Nat.le_of_ble_eq_true rfl⟩) ⟨fun a U g mk q => by obtain ⟨q0, q1, qP, qK⟩ := q; exact ⟨q0, q1, qP, va_K.moved (u := U) (U := U.calling g mk a) (Vm.Alike.refl U.vm) qK⟩, va_recv hK hP (ci := 10) (q0 := 0) rfl ((fw_get (by decide)).trans (by rw [mE_obj]; rfl)), fun U hU hW => ⟨rfl, by rw [hU], by rw [hU]; exact hP, va_K.moved hW.alike hK⟩⟩ rfl rfl hl.1 rfl (lv_room (Nat.le_of_ble_eq_true rfl)) dX10_lay_61 ⟨Nat.le_of_ble_eq_true rfl, Nat.le_of_ble_eq_true rfl⟩) hS (fun q _ h => fA_le hS.1 q h) (fA_le hS.1) (fun r9 u9 t9 H1 locs ht9 hvm9 hw9 hB9 hz9 hk9 hS => ?_)
      obtain ⟨μ7, r8⟩ := u9
      obtain ⟨hP, -⟩ := hB9
      rw [ht9] at hP
      generalize H1 = H at hP hS ⊢
      obtain ⟨e9, hw9⟩ := hw9
      have e9 : r9 = iZ r8 := e9
      subst e9
      simp only at hP hw9
      have hμ7 := hw9; clear hw9
      have hfr := fr_trans hfr (badP_fr hμ7)
      have hrb := badP_r hμ7
      obtain rfl : r8 = 0 := by omega
      refine fz_if_eq (tgt := 69) (by decide) hx hb dX10_lay_64 (by decide) (fun c64_ => ?_) (fun h9 => absurd h9 (by decide))
      have hbe : μ7 = μz := by
        have h9 := hμ7
        unfold badP at h9
        rw [if_pos rfl] at h9
        exact h9.1
      have y1b : TR μ7 53 (lyW Wk b) := by rw [hbe]; exact y1
      have hRb := RI_PS hR hfr
      have hSK2 := SKr_PS hSK.1 hSK.2.2.2 hfr
      have aJ2 : J (lyW Wk b) := aJ.2 (by omega)
      refine lv_aload_n hx hb dX10_lay_69 rfl (lv_at hl 1 rfl) ?_
      refine lv_iload_n hx hb dX10_lay_70 rfl (lv_at hl 0 rfl) ?_
      refine va_callv (va_runV (As := [.int (iZ (rz))]) (rest := []) ⟨hx, hb, hml, hown, hts⟩ (f_remembers l dC dI cI cZ cII cIII h0 H.size μ7 (rz) (Wk) (Bs) (by exact hRb.2.2.2.2.1) (by exact hSK2.2.2) (by exact hSK.2.2.2) (by exact fun i B hB => (hJK.2.1 B (hSK.2.2.1 i B hB)).1) (by exact hSK2.1) (by exact sB.1) (by exact hRb.2.2.2.1) (by exact hSK2.2.1)) (cwV 1 hts (gV_G k1476 k1478 ks_yX10_remembers k13 k1479) rfl rfl rfl (by decide +kernel) ⟨Nat.le_of_ble_eq_true rfl, Nat.le_of_ble_eq_true rfl⟩) ⟨fun a U g mk q => by obtain ⟨q0, q1, qP, qK⟩ := q; exact ⟨q0, q1, qP, va_K.moved (u := U) (U := U.calling g mk a) (Vm.Alike.refl U.vm) qK⟩, va_recv hK hP (ci := 10) (q0 := 0) rfl ((fw_get (by decide)).trans (by rw [mE_obj]; rfl)), fun U hU hW => ⟨rfl, by rw [hU], by rw [hU]; exact hP, va_K.moved hW.alike hK⟩⟩ rfl rfl hl.1 rfl (lv_room (Nat.le_of_ble_eq_true rfl)) dX10_lay_71 ⟨Nat.le_of_ble_eq_true rfl, Nat.le_of_ble_eq_true rfl⟩) hS (fun q _ h => fA_le hS.1 q h) (fA_le hS.1) (fun u9 t9 H1 locs ht9 hvm9 hw9 hB9 hz9 hk9 hS => ?_)
      obtain ⟨hP, -⟩ := hB9
      rw [ht9] at hP
      generalize H1 = H at hP hS ⊢
      obtain ⟨μr, eμr⟩ : ∃ x : va_M, x = u9 := ⟨_, rfl⟩
      rw [← eμr] at hP hw9
      have hμr := hw9; clear hw9
      obtain ⟨z1, z2, z3⟩ := hμr
      have y1c : TR μr 53 (lyW Wk b) := TR_fr y1b z1 (fun x => by unfold BF; omega) (by unfold BF; omega)
      refine lv_aload_n hx hb dX10_lay_74 rfl (lv_at hl 1 rfl) ?_
      refine lv_bipush (v := iZ 53) hx hb dX10_lay_75 rfl ?_
      refine lv_iconst (v := iZ 0) hx hb dX10_lay_77 rfl ?_
      refine va_callv (va_runV (As := [.int (iZ (53)), .int (iZ (0))]) (rest := []) ⟨hx, hb, hml, hown, hts⟩ (m_copiesAll l dC dI cI cZ cII cIII h0 H.size μr (53) (0) ((lyW Wk b)) (by decide) (by decide) (by decide) (by exact y1c) (by exact aJ.1.2.1)) (cwV 2 hts (gV_G k1428 k1430 ks_yX10_copiesAll k13 k1431) rfl rfl rfl (by decide +kernel) ⟨Nat.le_of_ble_eq_true rfl, Nat.le_of_ble_eq_true rfl⟩) ⟨fun a U g mk q => by obtain ⟨q0, q1, qP, qK⟩ := q; exact ⟨q0, q1, qP, va_K.moved (u := U) (U := U.calling g mk a) (Vm.Alike.refl U.vm) qK⟩, va_recv hK hP (ci := 10) (q0 := 0) rfl ((fw_get (by decide)).trans (by rw [mE_obj]; rfl)), fun U hU hW => ⟨rfl, by rw [hU], by rw [hU]; exact hP, va_K.moved hW.alike hK⟩⟩ rfl rfl hl.1 rfl (lv_room (Nat.le_of_ble_eq_true rfl)) dX10_lay_78 ⟨Nat.le_of_ble_eq_true rfl, Nat.le_of_ble_eq_true rfl⟩) hS (fun q _ h => fA_le hS.1 q h) (fA_le hS.1) (fun u9 t9 H1 locs ht9 hvm9 hw9 hB9 hz9 hk9 hS => ?_)
      obtain ⟨hP, -⟩ := hB9
      rw [ht9] at hP
      generalize H1 = H at hP hS ⊢
      obtain ⟨μk, eμk⟩ : ∃ x : va_M, x = u9 := ⟨_, rfl⟩
      rw [← eμk] at hP hw9
      have hμk := hw9; clear hw9
      obtain ⟨x1, x2⟩ := hμk
      rw [show (0 : Int).toNat = 0 from rfl] at x1 x2
      refine lv_aload_n hx hb dX10_lay_81 rfl (lv_at hl 1 rfl) ?_
      refine lv_iconst (v := iZ 1) hx hb dX10_lay_82 rfl ?_
      refine fz_put (D := (dC, dI)) (ci := 10) (ty := .boolean) (z := 1) (C := RX10) (T := TX10) (N := 53) hx hb hts inG10 tyX10 tyX10_ok nmX10 hown hK hP fA_in hS (k := 0) (by decide) (F := mF h0) mE_obj rfl 22 (by decide) (hts _ k1188) (fun _ h9 => h9) rfl (by decide +kernel) (fz_narZ (by decide)) rfl (fun _ => Nat.le_of_ble_eq_true rfl) (fun _ _ => rfl) dX10_lay_83 (fun H locs hP hS => ?_)
      obtain ⟨μ10, eμ10⟩ : ∃ x : va_M, x = uz μk 0 22 (1) := ⟨_, rfl⟩
      rw [← eμ10] at hP
      refine lv_aload_n hx hb dX10_lay_86 rfl (lv_at hl 1 rfl) ?_
      refine lv_dup hx hb dX10_lay_87 rfl ?_
      refine fz_get (D := (dC, dI)) (ci := 10) (v := .int (iZ (μ10 0 24))) (C := RX10) (T := TX10) (N := 53) hx hb hts inG10 hown hK hP (k := 0) (by decide) (F := mF h0) mE_obj rfl 24 (by decide) (hts _ k1190) (fun _ h9 => h9) rfl dX10_lay_88 ?_
      rw [show μ10 0 24 = μk 0 24 from by rw [eμ10, uz_n (by omega)]]
      refine lv_iload_n hx hb dX10_lay_91 rfl (lv_at hl 0 rfl) ?_
      refine lv_iadd hx hb dX10_lay_92 ?_
      refine lv_topi (fun x9 ex9 => ?_)
      obtain rfl : x9 = iZ ((μk 0 24) + rz) := ex9.trans (iZ_add _ _)
      refine fz_put (D := (dC, dI)) (ci := 10) (ty := .int) (z := ((μk 0 24) + rz)) (C := RX10) (T := TX10) (N := 53) hx hb hts inG10 tyX10 tyX10_ok nmX10 hown hK hP fA_in hS (k := 0) (by decide) (F := mF h0) mE_obj rfl 24 (by decide) (hts _ k1190) (fun _ h9 => h9) rfl (by decide +kernel) rfl rfl (fun _ => Nat.le_of_ble_eq_true rfl) (fun _ _ => rfl) dX10_lay_93 (fun H locs hP hS => ?_)
      obtain ⟨μ11, eμ11⟩ : ∃ x : va_M, x = uz μ10 0 24 ((μk 0 24) + rz) := ⟨_, rfl⟩
      rw [← eμ11] at hP
      refine lv_iload_n hx hb dX10_lay_96 rfl (lv_at hl 0 rfl) ?_
      exact W.iret (v := iZ (rz)) hx hb hr (fun t9 ht9 hW9 => ⟨⟨iZ (rz), (μ11, rz), rfl, ⟨rfl, (by
                    dsimp only
                    have ff : fr (fun x y => x = 0 ∧ (y = 22 ∨ y = 24)) μk μ11 := by rw [eμ11, eμ10]; exact fr_uz (fr_uz fr_rfl ⟨rfl, by omega⟩) ⟨rfl, by omega⟩
                    have gT : TR μ11 0 (lyW Wk b) := TR_fr x1 ff (fun x => by omega) (by omega)
                    have gk := fr_trans (fr_trans (fr_mono (P2 := KF) z1 (fun x y h => Or.inr (Or.inr (Or.inl h)))) (fr_mono (P2 := KF) x2 (fun x y h => Or.inr (Or.inl h)))) (fr_mono (P2 := KF) ff (fun x y h => Or.inr (Or.inr (Or.inr h))))
                    have gf : fr KF μ μ11 := fr_trans (fr_mono hfr (fun x y h => Or.inl h)) gk
                    have g22 : μ11 0 22 = 1 := by rw [eμ11, eμ10, uz_n (by omega), uz_s]
                    have g0a := ff 0 0 (by omega)
                    have g0b := x2 0 0 (by unfold PT; omega)
                    have g0c := z1 0 0 (by unfold BF; omega)
                    have gx : fr (fun x y => PT 0 x y ∨ (x = 0 ∧ (y = 22 ∨ y = 24))) μr μ11 := fr_trans (fr_mono x2 (fun x y h => Or.inl h)) (fr_mono ff (fun x y h => Or.inr h))
                    have hS9 : SKJ J (lyW Wk b) (Wk :: Bs.take 15) μ11 := ⟨⟨gT, ⟨fun h => by omega, fun h => absurd h aNe⟩, bkX_fr z3 (len_cons Wk Bs) gx (fun x y h => by unfold PT; omega)⟩, aJ2, JBs_cons hSK.2.1 hSK.2.2.1, len_cons Wk Bs⟩
                    have cd9 : cd2 (0 ≤ pp ∧ pp < μ 0 10) (rL (lyW Wk b) ≤ 160) = 0 := cd2_0 ⟨by omega, by omega⟩ (by omega)
                    exact ⟨⟨gf, RI_SK hJK hR gf (Or.inr g22) (fun j hj => by rw [gx 721 j (by unfold PT; omega)]; exact z2 j hj) hS9, by omega⟩, by omega, fun _ => ⟨y3, hS9.1⟩, fun h => absurd cd9 h⟩)⟩, by rw [ht9]; exact hP, va_K.moved hW9.alike hK⟩, hS.F ht9⟩) hS.2.2 dX10_lay_97
    · refine lv_iconst (v := iZ 1) hx hb dX10_lay_54 rfl ?_
      refine lv_goto (tgt := 59) hx hb dX10_lay_55 (by decide) ?_
      refine lv_iconst (v := iZ 2) hx hb dX10_lay_59 rfl ?_
      refine lv_iconst (v := iZ 2) hx hb dX10_lay_60 rfl ?_
      refine va_calli (va_runV (As := [.int (iZ (1)), .int (iZ (2)), .int (iZ (2))]) (rest := []) ⟨hx, hb, hml, hown, hts⟩ (m_bad2 l dC dI cI cZ cII cIII h0 H.size μz (1) (2) (2) (by first | assumption | omega | exact ⟨by omega, by omega⟩) (by first | assumption | omega | exact ⟨by omega, by omega⟩) (by first | assumption | omega | exact ⟨by omega, by omega⟩) (by first | assumption | omega | exact ⟨by omega, by omega⟩)) (cwV 3 hts (gV_G k1342 k1344 ks_yX10_bad k13 k1345) rfl rfl rfl (by decide +kernel) ⟨Nat.le_of_ble_eq_true rfl, Nat.le_of_ble_eq_true rfl⟩) ⟨fun a U g mk q => by obtain ⟨q0, q1, qP, qK⟩ := q; exact ⟨q0, q1, qP, va_K.moved (u := U) (U := U.calling g mk a) (Vm.Alike.refl U.vm) qK⟩, va_recv hK hP (ci := 10) (q0 := 0) rfl ((fw_get (by decide)).trans (by rw [mE_obj]; rfl)), fun U hU hW => ⟨rfl, by rw [hU], by rw [hU]; exact hP, va_K.moved hW.alike hK⟩⟩ rfl rfl hl.1 rfl (lv_room (Nat.le_of_ble_eq_true rfl)) dX10_lay_61 ⟨Nat.le_of_ble_eq_true rfl, Nat.le_of_ble_eq_true rfl⟩) hS (fun q _ h => fA_le hS.1 q h) (fA_le hS.1) (fun r9 u9 t9 H1 locs ht9 hvm9 hw9 hB9 hz9 hk9 hS => ?_)
      obtain ⟨μ12, r13⟩ := u9
      obtain ⟨hP, -⟩ := hB9
      rw [ht9] at hP
      generalize H1 = H at hP hS ⊢
      obtain ⟨e9, hw9⟩ := hw9
      have e9 : r9 = iZ r13 := e9
      subst e9
      simp only at hP hw9
      have hμ12 := hw9; clear hw9
      have hfr := fr_trans hfr (badP_fr hμ12)
      have hrb := badP_r hμ12
      obtain rfl : r13 = 1 := by omega
      refine fz_if_eq (tgt := 69) (by decide) hx hb dX10_lay_64 (by decide) (fun h9 => absurd h9 (by decide)) (fun c64_ => ?_)
      refine lv_iconst (v := iZ 0) hx hb dX10_lay_67 rfl ?_
      exact W.iret (v := iZ (0)) hx hb hr (fun t9 ht9 hW9 => ⟨⟨iZ (0), (μ12, 0), rfl, ⟨rfl, (by
                    dsimp only
                    have cd9 : cd2 (0 ≤ pp ∧ pp < μ 0 10) (rL (lyW Wk b) ≤ 160) = 2 := cd2_2 ⟨by omega, by omega⟩ (by omega)
                    exact ⟨GE_PS hR ⟨hfr, by omega⟩, by omega, fun hc => absurd (cd9.symm.trans hc) (by decide), fun _ => SKr_PS hSK.1 hSK.2.2.2 hfr⟩)⟩, by rw [ht9]; exact hP, va_K.moved hW9.alike hK⟩, hS.F ht9⟩) hS.2.2 dX10_lay_68
  · have hpn := if_not hin (by omega)
    refine lv_iconst (v := iZ 1) hx hb dX10_lay_20 rfl ?_
    refine lv_goto (tgt := 25) hx hb dX10_lay_21 (by decide) ?_
    refine lv_iconst (v := iZ 1) hx hb dX10_lay_25 rfl ?_
    refine lv_iconst (v := iZ 0) hx hb dX10_lay_26 rfl ?_
    refine va_calli (va_runV (As := [.int (iZ (1)), .int (iZ (1)), .int (iZ (0))]) (rest := []) ⟨hx, hb, hml, hown, hts⟩ (m_bad2 l dC dI cI cZ cII cIII h0 H.size μ1 (1) (1) (0) (by first | assumption | omega | exact ⟨by omega, by omega⟩) (by first | assumption | omega | exact ⟨by omega, by omega⟩) (by first | assumption | omega | exact ⟨by omega, by omega⟩) (by first | assumption | omega | exact ⟨by omega, by omega⟩)) (cwV 3 hts (gV_G k1342 k1344 ks_yX10_bad k13 k1345) rfl rfl rfl (by decide +kernel) ⟨Nat.le_of_ble_eq_true rfl, Nat.le_of_ble_eq_true rfl⟩) ⟨fun a U g mk q => by obtain ⟨q0, q1, qP, qK⟩ := q; exact ⟨q0, q1, qP, va_K.moved (u := U) (U := U.calling g mk a) (Vm.Alike.refl U.vm) qK⟩, va_recv hK hP (ci := 10) (q0 := 0) rfl ((fw_get (by decide)).trans (by rw [mE_obj]; rfl)), fun U hU hW => ⟨rfl, by rw [hU], by rw [hU]; exact hP, va_K.moved hW.alike hK⟩⟩ rfl rfl hl.1 rfl (lv_room (Nat.le_of_ble_eq_true rfl)) dX10_lay_27 ⟨Nat.le_of_ble_eq_true rfl, Nat.le_of_ble_eq_true rfl⟩) hS (fun q _ h => fA_le hS.1 q h) (fA_le hS.1) (fun r9 u9 t9 H1 locs ht9 hvm9 hw9 hB9 hz9 hk9 hS => ?_)
    obtain ⟨μ14, r15⟩ := u9
    obtain ⟨hP, -⟩ := hB9
    rw [ht9] at hP
    generalize H1 = H at hP hS ⊢
    obtain ⟨e9, hw9⟩ := hw9
    have e9 : r9 = iZ r15 := e9
    subst e9
    simp only at hP hw9
    have hμ14 := hw9; clear hw9
    have hfr := fr_trans hfr (badP_fr hμ14)
    have hrb := badP_r hμ14
    obtain rfl : r15 = 1 := by omega
    refine fz_if_eq (tgt := 35) (by decide) hx hb dX10_lay_30 (by decide) (fun h9 => absurd h9 (by decide)) (fun c30_ => ?_)
    refine lv_iconst (v := iZ 0) hx hb dX10_lay_33 rfl ?_
    exact W.iret (v := iZ (0)) hx hb hr (fun t9 ht9 hW9 => ⟨⟨iZ (0), (μ14, 0), rfl, ⟨rfl, (by
                dsimp only
                have cd9 : cd2 (0 ≤ pp ∧ pp < μ 0 10) (rL (lyW Wk b) ≤ 160) = 1 := cd2_1 (by omega)
                exact ⟨GE_PS hR ⟨hfr, by omega⟩, by omega, fun hc => absurd (cd9.symm.trans hc) (by decide), fun _ => SKr_PS hSK.1 hSK.2.2.2 hfr⟩)⟩, by rw [ht9]; exact hP, va_K.moved hW9.alike hK⟩, hS.F ht9⟩) hS.2.2 dX10_lay_34

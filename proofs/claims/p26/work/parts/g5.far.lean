
/-! distance of the reference, told whole -/
set_option maxHeartbeats 4000000 in
set_option maxRecDepth 100000 in
theorem m_far2 (l : Launch) (dC : Nat → ClassId) (dI : Nat → Nat → Nat) (cI cZ cII cIII : ClassId) (h0 sz : Nat) (μ : va_M) (pp : Int) (pq : Int) (w : Rw) (b : Rw) (hpp : 0 ≤ pp ∧ pp < 8) (hpq : 0 ≤ pq ∧ pq < 8) (hTw : TR μ (17 + pq).toNat w) (hWg : rPage w) (hTb : TR μ (17 + pp).toNat b) (hPg : rPage b) (hC9 : rN (lrow w b) ≤ 900) : Met l yX10_far (Cond.code yX10_far cX10_far 3 (some .int) :: wsG) ({ frames := 69, cells := 0, slots := 0, locals := 2355 } : Room) (va_Pc [.ref h0, .int (iZ (pp)), .int (iZ (pq))] (fun U => U.heap.size = sz ∧ va_P (dC, dI) vwCl (fw (mE cI cZ cII cIII h0) h0 6325 μ) U.heap ∧ va_K (dC, dI) vwCl (mT cI cZ cII cIII) U)) (va_Qi (fun (r9 : Int32) (u : va_M × Int) => r9 = iZ u.2 ∧ (fun (u : va_M) (r : Int) => fr (LPq 53) μ u ∧ r = (lay w b).1 ∧ 0 ≤ r ∧ r ≤ 400) u.1 u.2) (fun u t => va_P (dC, dI) vwCl (fw (mE cI cZ cII cIII h0) h0 6325 u.1) t.heap ∧ va_K (dC, dI) vwCl (mT cI cZ cII cIII) t) (fA h0 6325 sz)) 0 0 (fA h0 6325 sz) := by
  refine Met.ofW (cc := cX10_far) (maxL := 3) (ret := (some .int)) (by decide) rfl ?_
  intro p e s m args below meth c s₁ B hml hv
  obtain ⟨rfl, hsz, hP, hK⟩ := hv
  have hx := B.exec
  have hb := B.bytes
  have hr := B.returns
  have hts : ∀ w ∈ wsG, w.before _ s = true := hG_of (atoms_spec (ws := (Cond.code yX10_far cX10_far 3 (some .int) :: wsG)) B.pre)
  have hown : s.vm.findClass RX10 = some m.cls := findClass_of_methodNamed B.named
  have hlocks := B.notSynchronized
  subst hsz
  have hS : va_S (fA h0 6325 s.heap.size) s.heap s.heap [] := va_S.rf
  have hl := lv_entry ([.ref h0, .int (iZ (pp)), .int (iZ (pq))]) (n := 3) (Nat.le_of_ble_eq_true rfl)
  rw [lg_entry_eq]
  generalize (lg_sl ([.ref h0, .int (iZ (pp)), .int (iZ (pq))]) ++ List.replicate (3 - (lg_sl ([.ref h0, .int (iZ (pp)), .int (iZ (pq))])).length) Slot.unset).toArray = ls at hl ⊢
  have hl : lv_has ls 3 [(0, .ref h0), (1, .int (iZ (pp))), (2, .int (iZ (pq)))] := hl
  have hpb := rPage_b hPg
  have hpl := rL_T b hPg.1
  have hpt := hPg.2.2
  have hwb := rPage_b hWg
  have hwl := rL_T w hWg.1
  have hwt := hWg.2.2
  refine lv_aload_n hx hb dX10_far_0 rfl (lv_at hl 0 rfl) ?_
  refine lv_bipush (v := iZ 17) hx hb dX10_far_1 rfl ?_
  refine lv_iload_n hx hb dX10_far_3 rfl (lv_at hl 2 rfl) ?_
  refine lv_iadd hx hb dX10_far_4 ?_
  refine lv_topi (fun x9 ex9 => ?_)
  obtain rfl : x9 = iZ (17 + pq) := ex9.trans (iZ_add _ _)
  refine lv_bipush (v := iZ 17) hx hb dX10_far_5 rfl ?_
  refine lv_iload_n hx hb dX10_far_7 rfl (lv_at hl 1 rfl) ?_
  refine lv_iadd hx hb dX10_far_8 ?_
  refine lv_topi (fun x9 ex9 => ?_)
  obtain rfl : x9 = iZ (17 + pp) := ex9.trans (iZ_add _ _)
  refine lv_bipush (v := iZ 53) hx hb dX10_far_9 rfl ?_
  refine va_calli (va_runV (As := [.int (iZ (17 + pq)), .int (iZ (17 + pp)), .int (iZ (53))]) (rest := []) ⟨hx, hb, hml, hown, hts⟩ (m_lays l dC dI cI cZ cII cIII h0 s.heap.size μ (17 + pq) (17 + pp) (53) (w) (b) (by omega) (by omega) (by omega) (by exact hTw) (by exact hTb) (by exact hWg.1) (by exact hPg.1) (by omega) (by omega) (by omega) (by exact hC9)) (cwV 3 hts (gV_G k1543 k1545 ks_yX10_lays k13 k1546) rfl rfl rfl (by decide +kernel) ⟨Nat.le_of_ble_eq_true rfl, Nat.le_of_ble_eq_true rfl⟩) ⟨fun a U g mk q => by obtain ⟨q0, q1, qP, qK⟩ := q; exact ⟨q0, q1, qP, va_K.moved (u := U) (U := U.calling g mk a) (Vm.Alike.refl U.vm) qK⟩, va_recv hK hP (ci := 10) (q0 := 0) rfl ((fw_get (by decide)).trans (by rw [mE_obj]; rfl)), fun U hU hW => ⟨rfl, by rw [hU], by rw [hU]; exact hP, va_K.moved hW.alike hK⟩⟩ rfl rfl hl.1 rfl (lv_room (Nat.le_of_ble_eq_true rfl)) dX10_far_11 ⟨Nat.le_of_ble_eq_true rfl, Nat.le_of_ble_eq_true rfl⟩) hS (fun q _ h => fA_le hS.1 q h) (fA_le hS.1) (fun r9 u9 t9 H1 locs ht9 hvm9 hw9 hB9 hz9 hk9 hS => ?_)
  obtain ⟨μ1, r2⟩ := u9
  obtain ⟨hP, -⟩ := hB9
  rw [ht9] at hP
  generalize H1 = H at hP hS ⊢
  obtain ⟨e9, hw9⟩ := hw9
  have e9 : r9 = iZ r2 := e9
  subst e9
  simp only at hP hw9
  have hμ1 := hw9; clear hw9
  exact W.iret (v := iZ (r2)) hx hb hr (fun t9 ht9 hW9 => ⟨⟨iZ (r2), (μ1, r2), rfl, ⟨rfl, (by
            dsimp only
            obtain ⟨z1, z2, z3⟩ := hμ1
            have h9 := lay_60 (w := w) (by omega) hPg
            exact ⟨z3, z1, by omega, by omega⟩)⟩, by rw [ht9]; exact hP, va_K.moved hW9.alike hK⟩, hS.F ht9⟩) hS.2.2 dX10_far_14
set_option maxHeartbeats 4000000 in
set_option maxRecDepth 100000 in
theorem f_distance (l : Launch) (dC : Nat → ClassId) (dI : Nat → Nat → Nat) (cI cZ cII cIII : ClassId) (h0 sz : Nat) (μ : va_M) (pp : Int) (pq : Int) (J : Rw → Prop) (wp : Rw) (wq : Rw) (hR : RI J μ) (hJK : JOK J) (hp : inR pp) (hq : inR pq) (hwp : 0 ≤ pp ∧ pp < μ 0 10 → TR μ (17 + pp.toNat) wp ∧ rPage wp ∧ 1 ≤ rI wp) (hwq : 0 ≤ pq ∧ pq < μ 0 10 → TR μ (17 + pq.toNat) wq ∧ rPage wq ∧ 1 ≤ rI wq) : Met l yX10_distance (Cond.code yX10_distance cX10_distance 3 (some .int) :: wsG) ({ frames := 70, cells := 0, slots := 0, locals := 2377 } : Room) (va_Pc [.ref h0, .int (iZ (pp)), .int (iZ (pq))] (fun U => U.heap.size = sz ∧ va_P (dC, dI) vwCl (fw (mE cI cZ cII cIII h0) h0 6325 μ) U.heap ∧ va_K (dC, dI) vwCl (mT cI cZ cII cIII) U)) (va_Qi (fun (r9 : Int32) (u : va_M × Int) => r9 = iZ u.2 ∧ (fun (u : va_M) (r : Int) => (fr PS μ u ∧ (u 0 0 = 0 ∨ u 0 0 = 1 ∨ u 0 0 = 2)) ∧ u 0 0 = cd2 ((0 ≤ pp ∧ pp < μ 0 10) ∧ 0 ≤ pq ∧ pq < μ 0 10) True ∧ (cd2 ((0 ≤ pp ∧ pp < μ 0 10) ∧ 0 ≤ pq ∧ pq < μ 0 10) True = 0 → r = (lay wq wp).1)) u.1 u.2) (fun u t => va_P (dC, dI) vwCl (fw (mE cI cZ cII cIII h0) h0 6325 u.1) t.heap ∧ va_K (dC, dI) vwCl (mT cI cZ cII cIII) t) (fA h0 6325 sz)) 0 0 (fA h0 6325 sz) := by
  refine Met.ofW (cc := cX10_distance) (maxL := 3) (ret := (some .int)) (by decide) rfl ?_
  intro p e s m args below meth c s₁ B hml hv
  obtain ⟨rfl, hsz, hP, hK⟩ := hv
  have hx := B.exec
  have hb := B.bytes
  have hr := B.returns
  have hts : ∀ w ∈ wsG, w.before _ s = true := hG_of (atoms_spec (ws := (Cond.code yX10_distance cX10_distance 3 (some .int) :: wsG)) B.pre)
  have hown : s.vm.findClass RX10 = some m.cls := findClass_of_methodNamed B.named
  have hlocks := B.notSynchronized
  subst hsz
  have hS : va_S (fA h0 6325 s.heap.size) s.heap s.heap [] := va_S.rf
  have hl := lv_entry ([.ref h0, .int (iZ (pp)), .int (iZ (pq))]) (n := 3) (Nat.le_of_ble_eq_true rfl)
  rw [lg_entry_eq]
  generalize (lg_sl ([.ref h0, .int (iZ (pp)), .int (iZ (pq))]) ++ List.replicate (3 - (lg_sl ([.ref h0, .int (iZ (pp)), .int (iZ (pq))])).length) Slot.unset).toArray = ls at hl ⊢
  have hl : lv_has ls 3 [(0, .ref h0), (1, .int (iZ (pp))), (2, .int (iZ (pq)))] := hl
  have hQ := hR.1
  refine lv_aload_n hx hb dX10_distance_0 rfl (lv_at hl 0 rfl) ?_
  refine lv_iconst (v := iZ 0) hx hb dX10_distance_1 rfl ?_
  refine fz_put (D := (dC, dI)) (ci := 10) (ty := .int) (z := 0) (C := RX10) (T := TX10) (N := 53) hx hb hts inG10 tyX10 tyX10_ok nmX10 hown hK hP fA_in hS (k := 0) (by decide) (F := mF h0) mE_obj rfl 0 (by decide) (hts _ k1166) (fun _ h9 => h9) rfl (by decide +kernel) rfl rfl (fun _ => Nat.le_of_ble_eq_true rfl) (fun _ _ => rfl) dX10_distance_2 (fun H locs hP hS => ?_)
  obtain ⟨μ1, eμ1⟩ : ∃ x : va_M, x = uz μ 0 0 (0) := ⟨_, rfl⟩
  rw [← eμ1] at hP
  have hfr : fr PS μ μ1 := by rw [eμ1]; exact fr_uz fr_rfl (by unfold PS; omega)
  have ht0 : μ1 0 0 = 0 := by rw [eμ1, uz_s]
  have e10 := hfr 0 10 (PS_n (by omega))
  have e9 := hfr 0 9 (PS_n (by omega))
  have e71 := hfr 719 0 (PS_n (by omega))
  have hQ1 := RQ_fr hQ hfr
  have hQc := hQ
  obtain ⟨f10, ⟨fT, fTb, fTw⟩, fS3, fPg, fw9, fwB, fwT⟩ := hQc
  obtain ⟨g10, ⟨gT, gTb, gTw⟩, gS3, gPg, gw, gwB, gwT⟩ := hQ1
  have gtk := TR_tok gwT gwB.1 gwB.2.1
  have gt1 := gtk.1
  have gt2 := gtk.2.1
  refine lv_aload_n hx hb dX10_distance_5 rfl (lv_at hl 0 rfl) ?_
  refine lv_aload_n hx hb dX10_distance_6 rfl (lv_at hl 0 rfl) ?_
  refine lv_iload_n hx hb dX10_distance_7 rfl (lv_at hl 1 rfl) ?_
  refine va_calli (va_runV (As := [.int (iZ (pp))]) (rest := [.ref h0]) ⟨hx, hb, hml, hown, hts⟩ (m_isPage l dC dI cI cZ cII cIII h0 H.size μ1 (pp) (by first | assumption | omega | exact ⟨by omega, by omega⟩) (by first | assumption | omega | exact ⟨by omega, by omega⟩)) (cwV 1 hts (gV_G k1588 k1590 ks_yX10_isPage k13 k1591) rfl rfl rfl (by decide +kernel) ⟨Nat.le_of_ble_eq_true rfl, Nat.le_of_ble_eq_true rfl⟩) ⟨fun a U g mk q => by obtain ⟨q0, q1, qP, qK⟩ := q; exact ⟨q0, q1, qP, va_K.moved (u := U) (U := U.calling g mk a) (Vm.Alike.refl U.vm) qK⟩, va_recv hK hP (ci := 10) (q0 := 0) rfl ((fw_get (by decide)).trans (by rw [mE_obj]; rfl)), fun U hU hW => ⟨rfl, by rw [hU], by rw [hU]; exact hP, va_K.moved hW.alike hK⟩⟩ rfl rfl hl.1 rfl (lv_room (Nat.le_of_ble_eq_true rfl)) dX10_distance_8 ⟨Nat.le_of_ble_eq_true rfl, Nat.le_of_ble_eq_true rfl⟩) hS (fun q _ h => fA_le hS.1 q h) (fA_le hS.1) (fun r9 u9 t9 H1 locs ht9 hvm9 hw9 hB9 hz9 hk9 hS => ?_)
  obtain ⟨μ2, r3⟩ := u9
  obtain ⟨hP, -⟩ := hB9
  rw [ht9] at hP
  generalize H1 = H at hP hS ⊢
  obtain ⟨e9, hw9⟩ := hw9
  have e9 : r9 = iZ r3 := e9
  subst e9
  simp only at hP hw9
  have hμ2 := hw9; clear hw9
  rw [hμ2.1] at hP; have hμ2 := hμ2.2
  have hip := hμ2
  have hip2 := if_01 hμ2
  refine fz_if_eq (tgt := 22) (by constructor <;> omega) hx hb dX10_distance_11 (by decide) (fun c11_ => ?_) (fun c11_ => ?_)
  · have hpn := if_not hip (by omega)
    refine lv_iconst (v := iZ 1) hx hb dX10_distance_22 rfl ?_
    refine lv_goto (tgt := 27) hx hb dX10_distance_23 (by decide) ?_
    refine lv_iconst (v := iZ 1) hx hb dX10_distance_27 rfl ?_
    refine lv_iconst (v := iZ 0) hx hb dX10_distance_28 rfl ?_
    refine va_calli (va_runV (As := [.int (iZ (1)), .int (iZ (1)), .int (iZ (0))]) (rest := []) ⟨hx, hb, hml, hown, hts⟩ (m_bad2 l dC dI cI cZ cII cIII h0 H.size μ1 (1) (1) (0) (by first | assumption | omega | exact ⟨by omega, by omega⟩) (by first | assumption | omega | exact ⟨by omega, by omega⟩) (by first | assumption | omega | exact ⟨by omega, by omega⟩) (by first | assumption | omega | exact ⟨by omega, by omega⟩)) (cwV 3 hts (gV_G k1342 k1344 ks_yX10_bad k13 k1345) rfl rfl rfl (by decide +kernel) ⟨Nat.le_of_ble_eq_true rfl, Nat.le_of_ble_eq_true rfl⟩) ⟨fun a U g mk q => by obtain ⟨q0, q1, qP, qK⟩ := q; exact ⟨q0, q1, qP, va_K.moved (u := U) (U := U.calling g mk a) (Vm.Alike.refl U.vm) qK⟩, va_recv hK hP (ci := 10) (q0 := 0) rfl ((fw_get (by decide)).trans (by rw [mE_obj]; rfl)), fun U hU hW => ⟨rfl, by rw [hU], by rw [hU]; exact hP, va_K.moved hW.alike hK⟩⟩ rfl rfl hl.1 rfl (lv_room (Nat.le_of_ble_eq_true rfl)) dX10_distance_29 ⟨Nat.le_of_ble_eq_true rfl, Nat.le_of_ble_eq_true rfl⟩) hS (fun q _ h => fA_le hS.1 q h) (fA_le hS.1) (fun r9 u9 t9 H1 locs ht9 hvm9 hw9 hB9 hz9 hk9 hS => ?_)
    obtain ⟨μ4, r5⟩ := u9
    obtain ⟨hP, -⟩ := hB9
    rw [ht9] at hP
    generalize H1 = H at hP hS ⊢
    obtain ⟨e9, hw9⟩ := hw9
    have e9 : r9 = iZ r5 := e9
    subst e9
    simp only at hP hw9
    have hμ4 := hw9; clear hw9
    have hfr := fr_trans hfr (badP_fr hμ4)
    have hrb := badP_r hμ4
    obtain rfl : r5 = 1 := by omega
    refine fz_if_eq (tgt := 37) (by decide) hx hb dX10_distance_32 (by decide) (fun h9 => absurd h9 (by decide)) (fun c32_ => ?_)
    refine lv_iconst (v := iZ 0) hx hb dX10_distance_35 rfl ?_
    exact W.iret (v := iZ (0)) hx hb hr (fun t9 ht9 hW9 => ⟨⟨iZ (0), (μ4, 0), rfl, ⟨rfl, (by
                dsimp only
                have cd9 : cd2 ((0 ≤ pp ∧ pp < μ 0 10) ∧ 0 ≤ pq ∧ pq < μ 0 10) True = 1 := cd2_1 (by omega)
                exact ⟨⟨hfr, by omega⟩, by omega, fun hc => absurd (cd9.symm.trans hc) (by decide)⟩)⟩, by rw [ht9]; exact hP, va_K.moved hW9.alike hK⟩, hS.F ht9⟩) hS.2.2 dX10_distance_36
  · have hpp := if_get hip (by omega)
    refine lv_aload_n hx hb dX10_distance_14 rfl (lv_at hl 0 rfl) ?_
    refine lv_iload_n hx hb dX10_distance_15 rfl (lv_at hl 2 rfl) ?_
    refine va_calli (va_runV (As := [.int (iZ (pq))]) (rest := [.ref h0]) ⟨hx, hb, hml, hown, hts⟩ (m_isPage l dC dI cI cZ cII cIII h0 H.size μ1 (pq) (by first | assumption | omega | exact ⟨by omega, by omega⟩) (by first | assumption | omega | exact ⟨by omega, by omega⟩)) (cwV 1 hts (gV_G k1588 k1590 ks_yX10_isPage k13 k1591) rfl rfl rfl (by decide +kernel) ⟨Nat.le_of_ble_eq_true rfl, Nat.le_of_ble_eq_true rfl⟩) ⟨fun a U g mk q => by obtain ⟨q0, q1, qP, qK⟩ := q; exact ⟨q0, q1, qP, va_K.moved (u := U) (U := U.calling g mk a) (Vm.Alike.refl U.vm) qK⟩, va_recv hK hP (ci := 10) (q0 := 0) rfl ((fw_get (by decide)).trans (by rw [mE_obj]; rfl)), fun U hU hW => ⟨rfl, by rw [hU], by rw [hU]; exact hP, va_K.moved hW.alike hK⟩⟩ rfl rfl hl.1 rfl (lv_room (Nat.le_of_ble_eq_true rfl)) dX10_distance_16 ⟨Nat.le_of_ble_eq_true rfl, Nat.le_of_ble_eq_true rfl⟩) hS (fun q _ h => fA_le hS.1 q h) (fA_le hS.1) (fun r9 u9 t9 H1 locs ht9 hvm9 hw9 hB9 hz9 hk9 hS => ?_)
    obtain ⟨μ6, r7⟩ := u9
    obtain ⟨hP, -⟩ := hB9
    rw [ht9] at hP
    generalize H1 = H at hP hS ⊢
    obtain ⟨e9, hw9⟩ := hw9
    have e9 : r9 = iZ r7 := e9
    subst e9
    simp only at hP hw9
    have hμ6 := hw9; clear hw9
    rw [hμ6.1] at hP; have hμ6 := hμ6.2
    have hjn := hμ6
    have hjn2 := if_01 hμ6
    refine fz_if_ne (tgt := 26) (by constructor <;> omega) hx hb dX10_distance_19 (by decide) (fun c19_ => ?_) (fun c19_ => ?_)
    · have hqq := if_get hjn (by omega)
      refine lv_iconst (v := iZ 0) hx hb dX10_distance_26 rfl ?_
      refine lv_iconst (v := iZ 1) hx hb dX10_distance_27 rfl ?_
      refine lv_iconst (v := iZ 0) hx hb dX10_distance_28 rfl ?_
      refine va_calli (va_runV (As := [.int (iZ (0)), .int (iZ (1)), .int (iZ (0))]) (rest := []) ⟨hx, hb, hml, hown, hts⟩ (m_bad2 l dC dI cI cZ cII cIII h0 H.size μ1 (0) (1) (0) (by first | assumption | omega | exact ⟨by omega, by omega⟩) (by first | assumption | omega | exact ⟨by omega, by omega⟩) (by first | assumption | omega | exact ⟨by omega, by omega⟩) (by first | assumption | omega | exact ⟨by omega, by omega⟩)) (cwV 3 hts (gV_G k1342 k1344 ks_yX10_bad k13 k1345) rfl rfl rfl (by decide +kernel) ⟨Nat.le_of_ble_eq_true rfl, Nat.le_of_ble_eq_true rfl⟩) ⟨fun a U g mk q => by obtain ⟨q0, q1, qP, qK⟩ := q; exact ⟨q0, q1, qP, va_K.moved (u := U) (U := U.calling g mk a) (Vm.Alike.refl U.vm) qK⟩, va_recv hK hP (ci := 10) (q0 := 0) rfl ((fw_get (by decide)).trans (by rw [mE_obj]; rfl)), fun U hU hW => ⟨rfl, by rw [hU], by rw [hU]; exact hP, va_K.moved hW.alike hK⟩⟩ rfl rfl hl.1 rfl (lv_room (Nat.le_of_ble_eq_true rfl)) dX10_distance_29 ⟨Nat.le_of_ble_eq_true rfl, Nat.le_of_ble_eq_true rfl⟩) hS (fun q _ h => fA_le hS.1 q h) (fA_le hS.1) (fun r9 u9 t9 H1 locs ht9 hvm9 hw9 hB9 hz9 hk9 hS => ?_)
      obtain ⟨μ8, r10⟩ := u9
      obtain ⟨hP, -⟩ := hB9
      rw [ht9] at hP
      generalize H1 = H at hP hS ⊢
      obtain ⟨e9, hw9⟩ := hw9
      have e9 : r9 = iZ r10 := e9
      subst e9
      simp only at hP hw9
      have hμ8 := hw9; clear hw9
      have hfr := fr_trans hfr (badP_fr hμ8)
      have hrb := badP_r hμ8
      obtain rfl : r10 = 0 := by omega
      refine fz_if_eq (tgt := 37) (by decide) hx hb dX10_distance_32 (by decide) (fun c32_ => ?_) (fun h9 => absurd h9 (by decide))
      have hQ2 := RQ_fr hQ hfr
      obtain ⟨k10, ⟨kT, kTb, kTw⟩, kS3, kPg, kw, kwB, kwT⟩ := hQ2
      have e10k := hfr 0 10 (PS_n (by omega))
      have e9k := hfr 0 9 (PS_n (by omega))
      have e71k := hfr 719 0 (PS_n (by omega))
      have ktk := TR_tok kwT kwB.1 kwB.2.1
      have kt1 := ktk.1
      have kt2 := ktk.2.1
      obtain ⟨p3, pw1, pw2⟩ := hwp (by omega)
      obtain ⟨v3, vw1, vw2⟩ := hwq (by omega)
      have pTR : TR μ8 (17 + pp).toNat wp := by rw [show (17 + pp).toNat = 17 + pp.toNat by omega]; exact TR_PS p3 hfr (by omega)
      have vTR : TR μ8 (17 + pq).toNat wq := by rw [show (17 + pq).toNat = 17 + pq.toNat by omega]; exact TR_PS v3 hfr (by omega)
      have rJ := hJK.2.2.1 wq vw1 vw2
      have lJ := (hJK.2.2.2.1 wq wp rJ pw1 pw2).1.2.1
      refine lv_aload_n hx hb dX10_distance_37 rfl (lv_at hl 0 rfl) ?_
      refine lv_iload_n hx hb dX10_distance_38 rfl (lv_at hl 1 rfl) ?_
      refine lv_iload_n hx hb dX10_distance_39 rfl (lv_at hl 2 rfl) ?_
      refine va_calli (va_runV (As := [.int (iZ (pp)), .int (iZ (pq))]) (rest := []) ⟨hx, hb, hml, hown, hts⟩ (m_far2 l dC dI cI cZ cII cIII h0 H.size μ8 (pp) (pq) (wq) (wp) (by omega) (by omega) (by exact vTR) (by exact vw1) (by exact pTR) (by exact pw1) (by exact lJ)) (cwV 2 hts (gV_G k1703 k1705 ks_yX10_far k13 k1706) rfl rfl rfl (by decide +kernel) ⟨Nat.le_of_ble_eq_true rfl, Nat.le_of_ble_eq_true rfl⟩) ⟨fun a U g mk q => by obtain ⟨q0, q1, qP, qK⟩ := q; exact ⟨q0, q1, qP, va_K.moved (u := U) (U := U.calling g mk a) (Vm.Alike.refl U.vm) qK⟩, va_recv hK hP (ci := 10) (q0 := 0) rfl ((fw_get (by decide)).trans (by rw [mE_obj]; rfl)), fun U hU hW => ⟨rfl, by rw [hU], by rw [hU]; exact hP, va_K.moved hW.alike hK⟩⟩ rfl rfl hl.1 rfl (lv_room (Nat.le_of_ble_eq_true rfl)) dX10_distance_40 ⟨Nat.le_of_ble_eq_true rfl, Nat.le_of_ble_eq_true rfl⟩) hS (fun q _ h => fA_le hS.1 q h) (fA_le hS.1) (fun r9 u9 t9 H1 locs ht9 hvm9 hw9 hB9 hz9 hk9 hS => ?_)
      obtain ⟨μz, rz⟩ := u9
      obtain ⟨hP, -⟩ := hB9
      rw [ht9] at hP
      generalize H1 = H at hP hS ⊢
      obtain ⟨e9, hw9⟩ := hw9
      have e9 : r9 = iZ rz := e9
      subst e9
      simp only at hP hw9
      have hμz := hw9; clear hw9
      exact W.iret (v := iZ (rz)) hx hb hr (fun t9 ht9 hW9 => ⟨⟨iZ (rz), (μz, rz), rfl, ⟨rfl, (by
                    dsimp only
                    obtain ⟨y2, y3, y4⟩ := hμz
                    have h00z := y2 0 0 (by unfold LPq LD PT; omega)
                    have cd9 : cd2 ((0 ≤ pp ∧ pp < μ 0 10) ∧ 0 ≤ pq ∧ pq < μ 0 10) True = 0 := cd2_0 (by omega) trivial
                    exact ⟨⟨fr_trans hfr (fr_mono y2 (fun x y h => LPq_PS h)), by omega⟩, by omega, fun _ => y3⟩)⟩, by rw [ht9]; exact hP, va_K.moved hW9.alike hK⟩, hS.F ht9⟩) hS.2.2 dX10_distance_43
    · have hqn := if_not hjn (by omega)
      refine lv_iconst (v := iZ 1) hx hb dX10_distance_22 rfl ?_
      refine lv_goto (tgt := 27) hx hb dX10_distance_23 (by decide) ?_
      refine lv_iconst (v := iZ 1) hx hb dX10_distance_27 rfl ?_
      refine lv_iconst (v := iZ 0) hx hb dX10_distance_28 rfl ?_
      refine va_calli (va_runV (As := [.int (iZ (1)), .int (iZ (1)), .int (iZ (0))]) (rest := []) ⟨hx, hb, hml, hown, hts⟩ (m_bad2 l dC dI cI cZ cII cIII h0 H.size μ1 (1) (1) (0) (by first | assumption | omega | exact ⟨by omega, by omega⟩) (by first | assumption | omega | exact ⟨by omega, by omega⟩) (by first | assumption | omega | exact ⟨by omega, by omega⟩) (by first | assumption | omega | exact ⟨by omega, by omega⟩)) (cwV 3 hts (gV_G k1342 k1344 ks_yX10_bad k13 k1345) rfl rfl rfl (by decide +kernel) ⟨Nat.le_of_ble_eq_true rfl, Nat.le_of_ble_eq_true rfl⟩) ⟨fun a U g mk q => by obtain ⟨q0, q1, qP, qK⟩ := q; exact ⟨q0, q1, qP, va_K.moved (u := U) (U := U.calling g mk a) (Vm.Alike.refl U.vm) qK⟩, va_recv hK hP (ci := 10) (q0 := 0) rfl ((fw_get (by decide)).trans (by rw [mE_obj]; rfl)), fun U hU hW => ⟨rfl, by rw [hU], by rw [hU]; exact hP, va_K.moved hW.alike hK⟩⟩ rfl rfl hl.1 rfl (lv_room (Nat.le_of_ble_eq_true rfl)) dX10_distance_29 ⟨Nat.le_of_ble_eq_true rfl, Nat.le_of_ble_eq_true rfl⟩) hS (fun q _ h => fA_le hS.1 q h) (fA_le hS.1) (fun r9 u9 t9 H1 locs ht9 hvm9 hw9 hB9 hz9 hk9 hS => ?_)
      obtain ⟨μ11, r12⟩ := u9
      obtain ⟨hP, -⟩ := hB9
      rw [ht9] at hP
      generalize H1 = H at hP hS ⊢
      obtain ⟨e9, hw9⟩ := hw9
      have e9 : r9 = iZ r12 := e9
      subst e9
      simp only at hP hw9
      have hμ11 := hw9; clear hw9
      have hfr := fr_trans hfr (badP_fr hμ11)
      have hrb := badP_r hμ11
      obtain rfl : r12 = 1 := by omega
      refine fz_if_eq (tgt := 37) (by decide) hx hb dX10_distance_32 (by decide) (fun h9 => absurd h9 (by decide)) (fun c32_ => ?_)
      refine lv_iconst (v := iZ 0) hx hb dX10_distance_35 rfl ?_
      exact W.iret (v := iZ (0)) hx hb hr (fun t9 ht9 hW9 => ⟨⟨iZ (0), (μ11, 0), rfl, ⟨rfl, (by
                    dsimp only
                    have cd9 : cd2 ((0 ≤ pp ∧ pp < μ 0 10) ∧ 0 ≤ pq ∧ pq < μ 0 10) True = 1 := cd2_1 (by omega)
                    exact ⟨⟨hfr, by omega⟩, by omega, fun hc => absurd (cd9.symm.trans hc) (by decide)⟩)⟩, by rw [ht9]; exact hP, va_K.moved hW9.alike hK⟩, hS.F ht9⟩) hS.2.2 dX10_distance_36


/-! what is told of a page's nodes: the reference -/
set_option maxHeartbeats 4000000 in
set_option maxRecDepth 100000 in
theorem f_pageNode (l : Launch) (dC : Nat → ClassId) (dI : Nat → Nat → Nat) (cI cZ cII cIII : ClassId) (h0 sz : Nat) (μ : va_M) (pp : Int) (i : Int) (w : Int) (wp : Rw) (hQ : RQ μ) (hp : inR pp) (hi9 : inR i) (hw9 : inR w) (hwp : 0 ≤ pp ∧ pp < μ 0 10 → TR μ (17 + pp.toNat) wp ∧ rPage wp) : Met l yX10_pageNode (Cond.code yX10_pageNode cX10_pageNode 5 (some .int) :: wsG) ({ frames := 3, cells := 0, slots := 0, locals := 62 } : Room) (va_Pc [.ref h0, .int (iZ (pp)), .int (iZ (i)), .int (iZ (w))] (fun U => U.heap.size = sz ∧ va_P (dC, dI) vwCl (fw (mE cI cZ cII cIII h0) h0 6325 μ) U.heap ∧ va_K (dC, dI) vwCl (mT cI cZ cII cIII) U)) (va_Qi (fun (r9 : Int32) (u : va_M × Int) => r9 = iZ u.2 ∧ (fun (u : va_M) (r : Int) => (fr PS μ u ∧ (u 0 0 = 0 ∨ u 0 0 = 1 ∨ u 0 0 = 2)) ∧ u 0 0 = cd2 ((0 ≤ pp ∧ pp < μ 0 10) ∧ 0 ≤ i ∧ i < rN wp) (0 ≤ w ∧ w ≤ 5) ∧ (cd2 ((0 ≤ pp ∧ pp < μ 0 10) ∧ 0 ≤ i ∧ i < rN wp) (0 ≤ w ∧ w ≤ 5) = 0 → r = ofV wp i.toNat w)) u.1 u.2) (fun u t => va_P (dC, dI) vwCl (fw (mE cI cZ cII cIII h0) h0 6325 u.1) t.heap ∧ va_K (dC, dI) vwCl (mT cI cZ cII cIII) t) (fA h0 6325 sz)) 0 0 (fA h0 6325 sz) := by
  refine Met.ofW (cc := cX10_pageNode) (maxL := 5) (ret := (some .int)) (by decide) rfl ?_
  intro p e s m args below meth c s₁ B hml hv
  obtain ⟨rfl, hsz, hP, hK⟩ := hv
  have hx := B.exec
  have hb := B.bytes
  have hr := B.returns
  have hts : ∀ w ∈ wsG, w.before _ s = true := hG_of (atoms_spec (ws := (Cond.code yX10_pageNode cX10_pageNode 5 (some .int) :: wsG)) B.pre)
  have hown : s.vm.findClass RX10 = some m.cls := findClass_of_methodNamed B.named
  have hlocks := B.notSynchronized
  subst hsz
  have hS : va_S (fA h0 6325 s.heap.size) s.heap s.heap [] := va_S.rf
  have hl := lv_entry ([.ref h0, .int (iZ (pp)), .int (iZ (i)), .int (iZ (w))]) (n := 5) (Nat.le_of_ble_eq_true rfl)
  rw [lg_entry_eq]
  generalize (lg_sl ([.ref h0, .int (iZ (pp)), .int (iZ (i)), .int (iZ (w))]) ++ List.replicate (5 - (lg_sl ([.ref h0, .int (iZ (pp)), .int (iZ (i)), .int (iZ (w))])).length) Slot.unset).toArray = ls at hl ⊢
  have hl : lv_has ls 5 [(0, .ref h0), (1, .int (iZ (pp))), (2, .int (iZ (i))), (3, .int (iZ (w)))] := hl
  refine lv_aload_n hx hb dX10_pageNode_0 rfl (lv_at hl 0 rfl) ?_
  refine lv_iconst (v := iZ 0) hx hb dX10_pageNode_1 rfl ?_
  refine fz_put (D := (dC, dI)) (ci := 10) (ty := .int) (z := 0) (C := RX10) (T := TX10) (N := 53) hx hb hts inG10 tyX10 tyX10_ok nmX10 hown hK hP fA_in hS (k := 0) (by decide) (F := mF h0) mE_obj rfl 0 (by decide) (hts _ k1166) (fun _ h9 => h9) rfl (by decide +kernel) rfl rfl (fun _ => Nat.le_of_ble_eq_true rfl) (fun _ _ => rfl) dX10_pageNode_2 (fun H locs hP hS => ?_)
  obtain ⟨μ1, eμ1⟩ : ∃ x : va_M, x = uz μ 0 0 (0) := ⟨_, rfl⟩
  rw [← eμ1] at hP
  have hfr : fr PS μ μ1 := by rw [eμ1]; exact fr_uz fr_rfl (by unfold PS; omega)
  have ht0 : μ1 0 0 = 0 := by rw [eμ1, uz_s]
  have e10 := hfr 0 10 (PS_n (by omega))
  have e9 := hfr 0 9 (PS_n (by omega))
  have e71 := hfr 719 0 (PS_n (by omega))
  have hQ1 := RQ_fr hQ hfr
  have hQc := hQ
  obtain ⟨f10, ⟨fT, fTb, fTw⟩, fS3, fPg, fw9, fwB, fwT⟩ := hQc
  obtain ⟨g10, ⟨gT, gTb, gTw⟩, gS3, gPg, gw, gwB, gwT⟩ := hQ1
  have gtk := TR_tok gwT gwB.1 gwB.2.1
  have gt1 := gtk.1
  have gt2 := gtk.2.1
  refine lv_aload_n hx hb dX10_pageNode_5 rfl (lv_at hl 0 rfl) ?_
  refine lv_iload_n hx hb dX10_pageNode_6 rfl (lv_at hl 1 rfl) ?_
  refine va_calli (va_runV (As := [.int (iZ (pp))]) (rest := []) ⟨hx, hb, hml, hown, hts⟩ (m_isPage l dC dI cI cZ cII cIII h0 H.size μ1 (pp) (by first | assumption | omega | exact ⟨by omega, by omega⟩) (by first | assumption | omega | exact ⟨by omega, by omega⟩)) (cwV 1 hts (gV_G k1588 k1590 ks_yX10_isPage k13 k1591) rfl rfl rfl (by decide +kernel) ⟨Nat.le_of_ble_eq_true rfl, Nat.le_of_ble_eq_true rfl⟩) ⟨fun a U g mk q => by obtain ⟨q0, q1, qP, qK⟩ := q; exact ⟨q0, q1, qP, va_K.moved (u := U) (U := U.calling g mk a) (Vm.Alike.refl U.vm) qK⟩, va_recv hK hP (ci := 10) (q0 := 0) rfl ((fw_get (by decide)).trans (by rw [mE_obj]; rfl)), fun U hU hW => ⟨rfl, by rw [hU], by rw [hU]; exact hP, va_K.moved hW.alike hK⟩⟩ rfl rfl hl.1 rfl (lv_room (Nat.le_of_ble_eq_true rfl)) dX10_pageNode_7 ⟨Nat.le_of_ble_eq_true rfl, Nat.le_of_ble_eq_true rfl⟩) hS (fun q _ h => fA_le hS.1 q h) (fA_le hS.1) (fun r9 u9 t9 H1 locs ht9 hvm9 hw9 hB9 hz9 hk9 hS => ?_)
  obtain ⟨μ2, r3⟩ := u9
  obtain ⟨hP, -⟩ := hB9
  rw [ht9] at hP
  generalize H1 = H at hP hS ⊢
  obtain ⟨e9, hw9⟩ := hw9
  have e9 : r9 = iZ r3 := e9
  subst e9
  simp only at hP hw9
  have hμ2 := hw9; clear hw9
  rw [hμ2.1] at hP; have hμ2 := hμ2.2
  have hip := hμ2
  have hip2 := if_01 hμ2
  refine fz_if_eq (tgt := 36) (by constructor <;> omega) hx hb dX10_pageNode_10 (by decide) (fun c10_ => ?_) (fun c10_ => ?_)
  · have hpn := if_not hip (by omega)
    refine lv_iconst (v := iZ 0) hx hb dX10_pageNode_36 rfl ?_
    refine lv_istore (lv' := [(4, .int (iZ (0))), (0, .ref h0), (1, .int (iZ (pp))), (2, .int (iZ (i))), (3, .int (iZ (w)))]) hx hb dX10_pageNode_37 hl (by decide) rfl (fun ls hl => ?_)
    refine lv_aload_n hx hb dX10_pageNode_39 rfl (lv_at hl 1 rfl) ?_
    refine lv_iload hx hb dX10_pageNode_40 (lv_at hl 0 rfl) ?_
    refine fz_if_ne (tgt := 49) (by decide) hx hb dX10_pageNode_42 (by decide) (fun h9 => absurd h9 (by decide)) (fun c42_ => ?_)
    refine lv_iconst (v := iZ 1) hx hb dX10_pageNode_45 rfl ?_
    refine lv_goto (tgt := 50) hx hb dX10_pageNode_46 (by decide) ?_
    refine lv_iconst (v := iZ 1) hx hb dX10_pageNode_50 rfl ?_
    refine lv_iconst (v := iZ 0) hx hb dX10_pageNode_51 rfl ?_
    refine va_calli (va_runV (As := [.int (iZ (1)), .int (iZ (1)), .int (iZ (0))]) (rest := []) ⟨hx, hb, hml, hown, hts⟩ (m_bad2 l dC dI cI cZ cII cIII h0 H.size μ1 (1) (1) (0) (by first | assumption | omega | exact ⟨by omega, by omega⟩) (by first | assumption | omega | exact ⟨by omega, by omega⟩) (by first | assumption | omega | exact ⟨by omega, by omega⟩) (by first | assumption | omega | exact ⟨by omega, by omega⟩)) (cwV 3 hts (gV_G k1342 k1344 ks_yX10_bad k13 k1345) rfl rfl rfl (by decide +kernel) ⟨Nat.le_of_ble_eq_true rfl, Nat.le_of_ble_eq_true rfl⟩) ⟨fun a U g mk q => by obtain ⟨q0, q1, qP, qK⟩ := q; exact ⟨q0, q1, qP, va_K.moved (u := U) (U := U.calling g mk a) (Vm.Alike.refl U.vm) qK⟩, va_recv hK hP (ci := 10) (q0 := 0) rfl ((fw_get (by decide)).trans (by rw [mE_obj]; rfl)), fun U hU hW => ⟨rfl, by rw [hU], by rw [hU]; exact hP, va_K.moved hW.alike hK⟩⟩ rfl rfl hl.1 rfl (lv_room (Nat.le_of_ble_eq_true rfl)) dX10_pageNode_52 ⟨Nat.le_of_ble_eq_true rfl, Nat.le_of_ble_eq_true rfl⟩) hS (fun q _ h => fA_le hS.1 q h) (fA_le hS.1) (fun r9 u9 t9 H1 locs ht9 hvm9 hw9 hB9 hz9 hk9 hS => ?_)
    obtain ⟨μ4, r5⟩ := u9
    obtain ⟨hP, -⟩ := hB9
    rw [ht9] at hP
    generalize H1 = H at hP hS ⊢
    obtain ⟨e9, hw9⟩ := hw9
    have e9 : r9 = iZ r5 := e9
    subst e9
    simp only at hP hw9
    have hμ4 := hw9; clear hw9
    have hfr := fr_trans hfr (badP_fr hμ4)
    have hrb := badP_r hμ4
    obtain rfl : r5 = 1 := by omega
    refine fz_if_ne (tgt := 81) (by decide) hx hb dX10_pageNode_55 (by decide) (fun c55_ => ?_) (fun h9 => absurd h9 (by decide))
    refine lv_iconst (v := iZ 0) hx hb dX10_pageNode_81 rfl ?_
    exact W.iret (v := iZ (0)) hx hb hr (fun t9 ht9 hW9 => ⟨⟨iZ (0), (μ4, 0), rfl, ⟨rfl, (by
                dsimp only
                have cd9 : cd2 ((0 ≤ pp ∧ pp < μ 0 10) ∧ 0 ≤ i ∧ i < rN wp) (0 ≤ w ∧ w ≤ 5) = 1 := cd2_1 (by omega)
                exact ⟨⟨hfr, by omega⟩, by omega, fun hc => absurd (cd9.symm.trans hc) (by decide)⟩)⟩, by rw [ht9]; exact hP, va_K.moved hW9.alike hK⟩, hS.F ht9⟩) hS.2.2 dX10_pageNode_82
  · have hpp := if_get hip (by omega)
    obtain ⟨q3w, qw1⟩ := hwp (by omega)
    have qwb := rPage_b qw1
    have qt1 := q3w.1
    have e17 : (17 + pp).toNat = 17 + pp.toNat := by omega
    refine lv_iload_n hx hb dX10_pageNode_13 rfl (lv_at hl 2 rfl) ?_
    refine lv_iconst (v := iZ 0) hx hb dX10_pageNode_14 rfl ?_
    refine lv_aload_n hx hb dX10_pageNode_15 rfl (lv_at hl 0 rfl) ?_
    refine fz_get (D := (dC, dI)) (ci := 10) (v := .ref (h0 + 719)) (C := RX10) (T := TX10) (N := 53) hx hb hts inG10 hown hK hP (k := 0) (by decide) (F := mF h0) mE_obj rfl 21 (by decide) (hts _ k1187) (fun _ h9 => h9) rfl dX10_pageNode_16 ?_
    refine lv_bipush (v := iZ 17) hx hb dX10_pageNode_19 rfl ?_
    refine lv_iload_n hx hb dX10_pageNode_21 rfl (lv_at hl 1 rfl) ?_
    refine lv_iadd hx hb dX10_pageNode_22 ?_
    refine lv_topi (fun x9 ex9 => ?_)
    obtain rfl : x9 = iZ (17 + pp) := ex9.trans (iZ_add _ _)
    refine fz_ld (k := 719) (n := 70) hx hb hK hP 0 (by decide) mE_nodes rfl ⟨by omega, by omega⟩ (by decide) dX10_pageNode_23 ?_
    rw [show μ1 719 (17 + pp).toNat = μ 719 (17 + pp).toNat from by rw [eμ1, uz_n (by omega)]]
    rw [show μ 719 (17 + pp).toNat = μ 719 (17 + pp.toNat) from (by first | (rw [e17]; done) | rw [e17, hfr 719 (17 + pp.toNat) (PS_n (by omega))])]
    refine lv_iconst (v := iZ 1) hx hb dX10_pageNode_24 rfl ?_
    refine lv_isub hx hb dX10_pageNode_25 ?_
    refine lv_topi (fun x9 ex9 => ?_)
    obtain rfl : x9 = iZ ((μ 719 (17 + pp.toNat)) - 1) := ex9.trans (iZ_sub _ _)
    refine va_calli (va_runS (As := [.int (iZ (i)), .int (iZ (0)), .int (iZ ((μ 719 (17 + pp.toNat)) - 1))]) (rest := []) ⟨hx, hb, hml, hown, hts⟩ (m_in l dC dI cI cZ cII cIII h0 H.size μ1 (i) (0) ((μ 719 (17 + pp.toNat)) - 1) (by first | assumption | omega | exact ⟨by omega, by omega⟩) (by first | assumption | omega | exact ⟨by omega, by omega⟩) (by first | assumption | omega | exact ⟨by omega, by omega⟩)) (cwS 3 hts (gS_G k1339 k1340 k13 k1341) rfl rfl rfl (by decide +kernel) ⟨Nat.le_of_ble_eq_true rfl, Nat.le_of_ble_eq_true rfl⟩) ⟨fun a U g mk q => by obtain ⟨q0, q1, qP, qK⟩ := q; exact ⟨q0, q1, qP, va_K.moved (u := U) (U := U.calling g mk a) (Vm.Alike.refl U.vm) qK⟩, fun U hU hW => ⟨rfl, by rw [hU], by rw [hU]; exact hP, va_K.moved hW.alike hK⟩⟩ rfl rfl hl.1 rfl (lv_room (Nat.le_of_ble_eq_true rfl)) dX10_pageNode_26 ⟨Nat.le_of_ble_eq_true rfl, Nat.le_of_ble_eq_true rfl⟩) hS (fun q _ h => fA_le hS.1 q h) (fA_le hS.1) (fun r9 u9 t9 H1 locs ht9 hvm9 hw9 hB9 hz9 hk9 hS => ?_)
    obtain ⟨μ6, r7⟩ := u9
    obtain ⟨hP, -⟩ := hB9
    rw [ht9] at hP
    generalize H1 = H at hP hS ⊢
    obtain ⟨e9, hw9⟩ := hw9
    have e9 : r9 = iZ r7 := e9
    subst e9
    simp only at hP hw9
    have hμ6 := hw9; clear hw9
    rw [hμ6.1] at hP; have hμ6 := hμ6.2
    have hin := hμ6
    have hin2 := if_01 hμ6
    refine fz_if_eq (tgt := 36) (by constructor <;> omega) hx hb dX10_pageNode_29 (by decide) (fun c29_ => ?_) (fun c29_ => ?_)
    · have hkn := if_not hin (by omega)
      refine lv_iconst (v := iZ 0) hx hb dX10_pageNode_36 rfl ?_
      refine lv_istore (lv' := [(4, .int (iZ (0))), (0, .ref h0), (1, .int (iZ (pp))), (2, .int (iZ (i))), (3, .int (iZ (w)))]) hx hb dX10_pageNode_37 hl (by decide) rfl (fun ls hl => ?_)
      refine lv_aload_n hx hb dX10_pageNode_39 rfl (lv_at hl 1 rfl) ?_
      refine lv_iload hx hb dX10_pageNode_40 (lv_at hl 0 rfl) ?_
      refine fz_if_ne (tgt := 49) (by decide) hx hb dX10_pageNode_42 (by decide) (fun h9 => absurd h9 (by decide)) (fun c42_ => ?_)
      refine lv_iconst (v := iZ 1) hx hb dX10_pageNode_45 rfl ?_
      refine lv_goto (tgt := 50) hx hb dX10_pageNode_46 (by decide) ?_
      refine lv_iconst (v := iZ 1) hx hb dX10_pageNode_50 rfl ?_
      refine lv_iconst (v := iZ 0) hx hb dX10_pageNode_51 rfl ?_
      refine va_calli (va_runV (As := [.int (iZ (1)), .int (iZ (1)), .int (iZ (0))]) (rest := []) ⟨hx, hb, hml, hown, hts⟩ (m_bad2 l dC dI cI cZ cII cIII h0 H.size μ1 (1) (1) (0) (by first | assumption | omega | exact ⟨by omega, by omega⟩) (by first | assumption | omega | exact ⟨by omega, by omega⟩) (by first | assumption | omega | exact ⟨by omega, by omega⟩) (by first | assumption | omega | exact ⟨by omega, by omega⟩)) (cwV 3 hts (gV_G k1342 k1344 ks_yX10_bad k13 k1345) rfl rfl rfl (by decide +kernel) ⟨Nat.le_of_ble_eq_true rfl, Nat.le_of_ble_eq_true rfl⟩) ⟨fun a U g mk q => by obtain ⟨q0, q1, qP, qK⟩ := q; exact ⟨q0, q1, qP, va_K.moved (u := U) (U := U.calling g mk a) (Vm.Alike.refl U.vm) qK⟩, va_recv hK hP (ci := 10) (q0 := 0) rfl ((fw_get (by decide)).trans (by rw [mE_obj]; rfl)), fun U hU hW => ⟨rfl, by rw [hU], by rw [hU]; exact hP, va_K.moved hW.alike hK⟩⟩ rfl rfl hl.1 rfl (lv_room (Nat.le_of_ble_eq_true rfl)) dX10_pageNode_52 ⟨Nat.le_of_ble_eq_true rfl, Nat.le_of_ble_eq_true rfl⟩) hS (fun q _ h => fA_le hS.1 q h) (fA_le hS.1) (fun r9 u9 t9 H1 locs ht9 hvm9 hw9 hB9 hz9 hk9 hS => ?_)
      obtain ⟨μ8, r10⟩ := u9
      obtain ⟨hP, -⟩ := hB9
      rw [ht9] at hP
      generalize H1 = H at hP hS ⊢
      obtain ⟨e9, hw9⟩ := hw9
      have e9 : r9 = iZ r10 := e9
      subst e9
      simp only at hP hw9
      have hμ8 := hw9; clear hw9
      have hfr := fr_trans hfr (badP_fr hμ8)
      have hrb := badP_r hμ8
      obtain rfl : r10 = 1 := by omega
      refine fz_if_ne (tgt := 81) (by decide) hx hb dX10_pageNode_55 (by decide) (fun c55_ => ?_) (fun h9 => absurd h9 (by decide))
      refine lv_iconst (v := iZ 0) hx hb dX10_pageNode_81 rfl ?_
      exact W.iret (v := iZ (0)) hx hb hr (fun t9 ht9 hW9 => ⟨⟨iZ (0), (μ8, 0), rfl, ⟨rfl, (by
                    dsimp only
                    have cd9 : cd2 ((0 ≤ pp ∧ pp < μ 0 10) ∧ 0 ≤ i ∧ i < rN wp) (0 ≤ w ∧ w ≤ 5) = 1 := cd2_1 (by omega)
                    exact ⟨⟨hfr, by omega⟩, by omega, fun hc => absurd (cd9.symm.trans hc) (by decide)⟩)⟩, by rw [ht9]; exact hP, va_K.moved hW9.alike hK⟩, hS.F ht9⟩) hS.2.2 dX10_pageNode_82
    · have hkk := if_get hin (by omega)
      refine lv_iconst (v := iZ 1) hx hb dX10_pageNode_32 rfl ?_
      refine lv_goto (tgt := 37) hx hb dX10_pageNode_33 (by decide) ?_
      refine lv_istore (lv' := [(4, .int (iZ (1))), (0, .ref h0), (1, .int (iZ (pp))), (2, .int (iZ (i))), (3, .int (iZ (w)))]) hx hb dX10_pageNode_37 hl (by decide) rfl (fun ls hl => ?_)
      refine lv_aload_n hx hb dX10_pageNode_39 rfl (lv_at hl 1 rfl) ?_
      refine lv_iload hx hb dX10_pageNode_40 (lv_at hl 0 rfl) ?_
      refine fz_if_ne (tgt := 49) (by decide) hx hb dX10_pageNode_42 (by decide) (fun c42_ => ?_) (fun h9 => absurd h9 (by decide))
      refine lv_iconst (v := iZ 0) hx hb dX10_pageNode_49 rfl ?_
      refine lv_iconst (v := iZ 1) hx hb dX10_pageNode_50 rfl ?_
      refine lv_iconst (v := iZ 0) hx hb dX10_pageNode_51 rfl ?_
      refine va_calli (va_runV (As := [.int (iZ (0)), .int (iZ (1)), .int (iZ (0))]) (rest := []) ⟨hx, hb, hml, hown, hts⟩ (m_bad2 l dC dI cI cZ cII cIII h0 H.size μ1 (0) (1) (0) (by first | assumption | omega | exact ⟨by omega, by omega⟩) (by first | assumption | omega | exact ⟨by omega, by omega⟩) (by first | assumption | omega | exact ⟨by omega, by omega⟩) (by first | assumption | omega | exact ⟨by omega, by omega⟩)) (cwV 3 hts (gV_G k1342 k1344 ks_yX10_bad k13 k1345) rfl rfl rfl (by decide +kernel) ⟨Nat.le_of_ble_eq_true rfl, Nat.le_of_ble_eq_true rfl⟩) ⟨fun a U g mk q => by obtain ⟨q0, q1, qP, qK⟩ := q; exact ⟨q0, q1, qP, va_K.moved (u := U) (U := U.calling g mk a) (Vm.Alike.refl U.vm) qK⟩, va_recv hK hP (ci := 10) (q0 := 0) rfl ((fw_get (by decide)).trans (by rw [mE_obj]; rfl)), fun U hU hW => ⟨rfl, by rw [hU], by rw [hU]; exact hP, va_K.moved hW.alike hK⟩⟩ rfl rfl hl.1 rfl (lv_room (Nat.le_of_ble_eq_true rfl)) dX10_pageNode_52 ⟨Nat.le_of_ble_eq_true rfl, Nat.le_of_ble_eq_true rfl⟩) hS (fun q _ h => fA_le hS.1 q h) (fA_le hS.1) (fun r9 u9 t9 H1 locs ht9 hvm9 hw9 hB9 hz9 hk9 hS => ?_)
      obtain ⟨μ11, r12⟩ := u9
      obtain ⟨hP, -⟩ := hB9
      rw [ht9] at hP
      generalize H1 = H at hP hS ⊢
      obtain ⟨e9, hw9⟩ := hw9
      have e9 : r9 = iZ r12 := e9
      subst e9
      simp only at hP hw9
      have hμ11 := hw9; clear hw9
      have hfr := fr_trans hfr (badP_fr hμ11)
      have hrb := badP_r hμ11
      obtain rfl : r12 = 0 := by omega
      refine fz_if_ne (tgt := 81) (by decide) hx hb dX10_pageNode_55 (by decide) (fun h9 => absurd h9 (by decide)) (fun c55_ => ?_)
      refine lv_aload_n hx hb dX10_pageNode_58 rfl (lv_at hl 1 rfl) ?_
      refine lv_iload_n hx hb dX10_pageNode_59 rfl (lv_at hl 4 rfl) ?_
      refine lv_iconst (v := iZ 0) hx hb dX10_pageNode_60 rfl ?_
      refine lv_iconst (v := iZ 5) hx hb dX10_pageNode_61 rfl ?_
      refine va_calli (va_runS (As := [.int (iZ (w)), .int (iZ (0)), .int (iZ (5))]) (rest := [.ref h0]) ⟨hx, hb, hml, hown, hts⟩ (m_in l dC dI cI cZ cII cIII h0 H.size μ11 (w) (0) (5) (by first | assumption | omega | exact ⟨by omega, by omega⟩) (by first | assumption | omega | exact ⟨by omega, by omega⟩) (by first | assumption | omega | exact ⟨by omega, by omega⟩)) (cwS 3 hts (gS_G k1339 k1340 k13 k1341) rfl rfl rfl (by decide +kernel) ⟨Nat.le_of_ble_eq_true rfl, Nat.le_of_ble_eq_true rfl⟩) ⟨fun a U g mk q => by obtain ⟨q0, q1, qP, qK⟩ := q; exact ⟨q0, q1, qP, va_K.moved (u := U) (U := U.calling g mk a) (Vm.Alike.refl U.vm) qK⟩, fun U hU hW => ⟨rfl, by rw [hU], by rw [hU]; exact hP, va_K.moved hW.alike hK⟩⟩ rfl rfl hl.1 rfl (lv_room (Nat.le_of_ble_eq_true rfl)) dX10_pageNode_62 ⟨Nat.le_of_ble_eq_true rfl, Nat.le_of_ble_eq_true rfl⟩) hS (fun q _ h => fA_le hS.1 q h) (fA_le hS.1) (fun r9 u9 t9 H1 locs ht9 hvm9 hw9 hB9 hz9 hk9 hS => ?_)
      obtain ⟨μ13, r14⟩ := u9
      obtain ⟨hP, -⟩ := hB9
      rw [ht9] at hP
      generalize H1 = H at hP hS ⊢
      obtain ⟨e9, hw9⟩ := hw9
      have e9 : r9 = iZ r14 := e9
      subst e9
      simp only at hP hw9
      have hμ13 := hw9; clear hw9
      rw [hμ13.1] at hP; have hμ13 := hμ13.2
      have hin := hμ13
      have hin2 := if_01 hμ13
      refine fz_if_ne (tgt := 72) (by constructor <;> omega) hx hb dX10_pageNode_65 (by decide) (fun c65_ => ?_) (fun c65_ => ?_)
      · refine lv_iconst (v := iZ 0) hx hb dX10_pageNode_72 rfl ?_
        refine lv_iconst (v := iZ 2) hx hb dX10_pageNode_73 rfl ?_
        refine lv_iconst (v := iZ 1) hx hb dX10_pageNode_74 rfl ?_
        refine va_calli (va_runV (As := [.int (iZ (0)), .int (iZ (2)), .int (iZ (1))]) (rest := []) ⟨hx, hb, hml, hown, hts⟩ (m_bad2 l dC dI cI cZ cII cIII h0 H.size μ11 (0) (2) (1) (by first | assumption | omega | exact ⟨by omega, by omega⟩) (by first | assumption | omega | exact ⟨by omega, by omega⟩) (by first | assumption | omega | exact ⟨by omega, by omega⟩) (by first | assumption | omega | exact ⟨by omega, by omega⟩)) (cwV 3 hts (gV_G k1342 k1344 ks_yX10_bad k13 k1345) rfl rfl rfl (by decide +kernel) ⟨Nat.le_of_ble_eq_true rfl, Nat.le_of_ble_eq_true rfl⟩) ⟨fun a U g mk q => by obtain ⟨q0, q1, qP, qK⟩ := q; exact ⟨q0, q1, qP, va_K.moved (u := U) (U := U.calling g mk a) (Vm.Alike.refl U.vm) qK⟩, va_recv hK hP (ci := 10) (q0 := 0) rfl ((fw_get (by decide)).trans (by rw [mE_obj]; rfl)), fun U hU hW => ⟨rfl, by rw [hU], by rw [hU]; exact hP, va_K.moved hW.alike hK⟩⟩ rfl rfl hl.1 rfl (lv_room (Nat.le_of_ble_eq_true rfl)) dX10_pageNode_75 ⟨Nat.le_of_ble_eq_true rfl, Nat.le_of_ble_eq_true rfl⟩) hS (fun q _ h => fA_le hS.1 q h) (fA_le hS.1) (fun r9 u9 t9 H1 locs ht9 hvm9 hw9 hB9 hz9 hk9 hS => ?_)
        obtain ⟨μ15, r16⟩ := u9
        obtain ⟨hP, -⟩ := hB9
        rw [ht9] at hP
        generalize H1 = H at hP hS ⊢
        obtain ⟨e9, hw9⟩ := hw9
        have e9 : r9 = iZ r16 := e9
        subst e9
        simp only at hP hw9
        have hμ15 := hw9; clear hw9
        have hfr := fr_trans hfr (badP_fr hμ15)
        have hrb := badP_r hμ15
        obtain rfl : r16 = 0 := by omega
        refine fz_if_eq (tgt := 83) (by decide) hx hb dX10_pageNode_78 (by decide) (fun c78_ => ?_) (fun h9 => absurd h9 (by decide))
        have hQ2 := RQ_fr hQ hfr
        obtain ⟨k10, ⟨kT, kTb, kTw⟩, kS3, kPg, kw, kwB, kwT⟩ := hQ2
        have e10k := hfr 0 10 (PS_n (by omega))
        have e9k := hfr 0 9 (PS_n (by omega))
        have e71k := hfr 719 0 (PS_n (by omega))
        have ktk := TR_tok kwT kwB.1 kwB.2.1
        have kt1 := ktk.1
        have kt2 := ktk.2.1
        obtain ⟨p3, pw1⟩ := hwp (by omega)
        have pT := TR_PS p3 hfr (by omega)
        have pwb := rPage_b pw1
        have pTR : TR μ15 (17 + pp).toNat wp := by rw [show (17 + pp).toNat = 17 + pp.toNat by omega]; exact pT
        have ptk := TR_tok pTR pw1.1 (by omega)
        have pt1 := ptk.1
        have pt2 := ptk.2.1
        have pt9 := pTR.1
        obtain ⟨o1, o2, o3, o4⟩ := of_all pTR pw1.1
        have e719 := hfr 719 (17 + pp.toNat) (PS_n (by omega))
        refine lv_aload_n hx hb dX10_pageNode_83 rfl (lv_at hl 1 rfl) ?_
        refine lv_bipush (v := iZ 17) hx hb dX10_pageNode_84 rfl ?_
        refine lv_iload_n hx hb dX10_pageNode_86 rfl (lv_at hl 2 rfl) ?_
        refine lv_iadd hx hb dX10_pageNode_87 ?_
        refine lv_topi (fun x9 ex9 => ?_)
        obtain rfl : x9 = iZ (17 + pp) := ex9.trans (iZ_add _ _)
        refine lv_iload_n hx hb dX10_pageNode_88 rfl (lv_at hl 3 rfl) ?_
        refine lv_iload_n hx hb dX10_pageNode_89 rfl (lv_at hl 4 rfl) ?_
        refine va_calli (va_runV (As := [.int (iZ (17 + pp)), .int (iZ (i)), .int (iZ (w))]) (rest := []) ⟨hx, hb, hml, hown, hts⟩ (m_of2 l dC dI cI cZ cII cIII h0 H.size μ15 (17 + pp) (i) (w) (wp) (by omega) (by rw [show (17 + pp).toNat = 17 + pp.toNat by omega]; omega) (by exact ⟨pTR, pw1.1, by omega⟩) (by omega)) (cwV 3 hts (gV_G k1627 k1629 ks_yX10_of k13 k1630) rfl rfl rfl (by decide +kernel) ⟨Nat.le_of_ble_eq_true rfl, Nat.le_of_ble_eq_true rfl⟩) ⟨fun a U g mk q => by obtain ⟨q0, q1, qP, qK⟩ := q; exact ⟨q0, q1, qP, va_K.moved (u := U) (U := U.calling g mk a) (Vm.Alike.refl U.vm) qK⟩, va_recv hK hP (ci := 10) (q0 := 0) rfl ((fw_get (by decide)).trans (by rw [mE_obj]; rfl)), fun U hU hW => ⟨rfl, by rw [hU], by rw [hU]; exact hP, va_K.moved hW.alike hK⟩⟩ rfl rfl hl.1 rfl (lv_room (Nat.le_of_ble_eq_true rfl)) dX10_pageNode_90 ⟨Nat.le_of_ble_eq_true rfl, Nat.le_of_ble_eq_true rfl⟩) hS (fun q _ h => fA_le hS.1 q h) (fA_le hS.1) (fun r9 u9 t9 H1 locs ht9 hvm9 hw9 hB9 hz9 hk9 hS => ?_)
        obtain ⟨μ17, r18⟩ := u9
        obtain ⟨hP, -⟩ := hB9
        rw [ht9] at hP
        generalize H1 = H at hP hS ⊢
        obtain ⟨e9, hw9⟩ := hw9
        have e9 : r9 = iZ r18 := e9
        subst e9
        simp only at hP hw9
        have hμ17 := hw9; clear hw9
        rw [hμ17.1] at hP; have hμ17 := hμ17.2
        exact W.iret (v := iZ (r18)) hx hb hr (fun t9 ht9 hW9 => ⟨⟨iZ (r18), (μ15, r18), rfl, ⟨rfl, (by
                        dsimp only
                        have cd9 : cd2 ((0 ≤ pp ∧ pp < μ 0 10) ∧ 0 ≤ i ∧ i < rN wp) (0 ≤ w ∧ w ≤ 5) = 0 := cd2_0 (by omega) (by omega)
                        exact ⟨⟨hfr, by omega⟩, by omega, fun _ => hμ17⟩)⟩, by rw [ht9]; exact hP, va_K.moved hW9.alike hK⟩, hS.F ht9⟩) hS.2.2 dX10_pageNode_93
      · refine lv_iconst (v := iZ 1) hx hb dX10_pageNode_68 rfl ?_
        refine lv_goto (tgt := 73) hx hb dX10_pageNode_69 (by decide) ?_
        refine lv_iconst (v := iZ 2) hx hb dX10_pageNode_73 rfl ?_
        refine lv_iconst (v := iZ 1) hx hb dX10_pageNode_74 rfl ?_
        refine va_calli (va_runV (As := [.int (iZ (1)), .int (iZ (2)), .int (iZ (1))]) (rest := []) ⟨hx, hb, hml, hown, hts⟩ (m_bad2 l dC dI cI cZ cII cIII h0 H.size μ11 (1) (2) (1) (by first | assumption | omega | exact ⟨by omega, by omega⟩) (by first | assumption | omega | exact ⟨by omega, by omega⟩) (by first | assumption | omega | exact ⟨by omega, by omega⟩) (by first | assumption | omega | exact ⟨by omega, by omega⟩)) (cwV 3 hts (gV_G k1342 k1344 ks_yX10_bad k13 k1345) rfl rfl rfl (by decide +kernel) ⟨Nat.le_of_ble_eq_true rfl, Nat.le_of_ble_eq_true rfl⟩) ⟨fun a U g mk q => by obtain ⟨q0, q1, qP, qK⟩ := q; exact ⟨q0, q1, qP, va_K.moved (u := U) (U := U.calling g mk a) (Vm.Alike.refl U.vm) qK⟩, va_recv hK hP (ci := 10) (q0 := 0) rfl ((fw_get (by decide)).trans (by rw [mE_obj]; rfl)), fun U hU hW => ⟨rfl, by rw [hU], by rw [hU]; exact hP, va_K.moved hW.alike hK⟩⟩ rfl rfl hl.1 rfl (lv_room (Nat.le_of_ble_eq_true rfl)) dX10_pageNode_75 ⟨Nat.le_of_ble_eq_true rfl, Nat.le_of_ble_eq_true rfl⟩) hS (fun q _ h => fA_le hS.1 q h) (fA_le hS.1) (fun r9 u9 t9 H1 locs ht9 hvm9 hw9 hB9 hz9 hk9 hS => ?_)
        obtain ⟨μ19, r20⟩ := u9
        obtain ⟨hP, -⟩ := hB9
        rw [ht9] at hP
        generalize H1 = H at hP hS ⊢
        obtain ⟨e9, hw9⟩ := hw9
        have e9 : r9 = iZ r20 := e9
        subst e9
        simp only at hP hw9
        have hμ19 := hw9; clear hw9
        have hfr := fr_trans hfr (badP_fr hμ19)
        have hrb := badP_r hμ19
        obtain rfl : r20 = 1 := by omega
        refine fz_if_eq (tgt := 83) (by decide) hx hb dX10_pageNode_78 (by decide) (fun h9 => absurd h9 (by decide)) (fun c78_ => ?_)
        refine lv_iconst (v := iZ 0) hx hb dX10_pageNode_81 rfl ?_
        exact W.iret (v := iZ (0)) hx hb hr (fun t9 ht9 hW9 => ⟨⟨iZ (0), (μ19, 0), rfl, ⟨rfl, (by
                        dsimp only
                        have cd9 : cd2 ((0 ≤ pp ∧ pp < μ 0 10) ∧ 0 ≤ i ∧ i < rN wp) (0 ≤ w ∧ w ≤ 5) = 2 := cd2_2 (by omega) (by omega)
                        exact ⟨⟨hfr, by omega⟩, by omega, fun hc => absurd (cd9.symm.trans hc) (by decide)⟩)⟩, by rw [ht9]; exact hP, va_K.moved hW9.alike hK⟩, hS.F ht9⟩) hS.2.2 dX10_pageNode_82

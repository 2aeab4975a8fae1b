
/-! public methods that ask alone: the pages stay -/
set_option maxHeartbeats 4000000 in
set_option maxRecDepth 100000 in
theorem q_fault (l : Launch) (dC : Nat → ClassId) (dI : Nat → Nat → Nat) (cI cZ cII cIII : ClassId) (h0 sz : Nat) (μ : va_M) (T : List Tk) (hI : CI T μ) : Met l yX9_fault (Cond.code yX9_fault cX9_fault 1 (some .int) :: wsG) ({ frames := 1, cells := 0, slots := 0, locals := 14 } : Room) (va_Pc [.ref h0] (fun U => U.heap.size = sz ∧ va_P (dC, dI) vwCl (fw (sE cI cZ cII cIII h0) h0 233 μ) U.heap ∧ va_K (dC, dI) vwCl (sT cI cZ cII cIII) U ∧ xM U)) (va_Qi (fun (r9 : Int32) (u : va_M × Int) => r9 = iZ u.2 ∧ (fun (u : va_M) (r : Int) => CI T u ∧ SZ μ u) u.1 u.2) (fun u t => va_P (dC, dI) vwCl (fw (sE cI cZ cII cIII h0) h0 233 u.1) t.heap ∧ va_K (dC, dI) vwCl (sT cI cZ cII cIII) t) (fA h0 233 sz)) 0 0 (fA h0 233 sz) := by
  refine Met.ofW (cc := cX9_fault) (maxL := 1) (ret := (some .int)) (by decide) rfl ?_
  intro p e s m args below meth c s₁ B hml hv
  obtain ⟨rfl, hsz, hP, hK, hM⟩ := hv
  have hx := B.exec
  have hb := B.bytes
  have hr := B.returns
  have hts : ∀ w ∈ wsG, w.before _ s = true := hG_of (atoms_spec (ws := (Cond.code yX9_fault cX9_fault 1 (some .int) :: wsG)) B.pre)
  have hown : s.vm.findClass RX9 = some m.cls := findClass_of_methodNamed B.named
  have hlocks := B.notSynchronized
  subst hsz
  have hS : va_S (fA h0 233 s.heap.size) s.heap s.heap [] := va_S.rf
  have hl := lv_entry ([.ref h0]) (n := 1) (Nat.le_of_ble_eq_true rfl)
  rw [lg_entry_eq]
  generalize (lg_sl ([.ref h0]) ++ List.replicate (1 - (lg_sl ([.ref h0])).length) Slot.unset).toArray = ls at hl ⊢
  have hl : lv_has ls 1 [(0, .ref h0)] := hl
  have hlc := CI_lc hI
  have h66 := CI_n6 hI
  refine lv_aload_n hx hb dX9_fault_0 rfl (lv_at hl 0 rfl) ?_
  refine fz_get (D := (dC, dI)) (ci := 9) (v := .ref (h0 + 1)) (C := RX9) (T := TX9) (N := 15) hx hb hts inG9 hown hK hP (k := 0) (by decide) (F := (sF0 h0)) sE_0 rfl 0 (by decide) (hts _ k332) (fun _ h9 => h9) rfl dX9_fault_1 ?_
  refine fz_get (D := (dC, dI)) (ci := 5) (v := .int (iZ (μ 1 6))) (C := RX5) (T := TX5) (N := 8) hx hb hts inG5 hown hK hP (k := 1) (by decide) (F := (sF1 h0)) sE_1 rfl 6 (by decide) (hts _ k46) (fun _ h9 => h9) rfl dX9_fault_4 ?_
  exact W.iret (v := iZ (μ 1 6)) hx hb hr (fun t9 ht9 hW9 => ⟨⟨iZ (μ 1 6), (μ, μ 1 6), rfl, ⟨rfl, (by
            dsimp only
            exact ⟨hI, SZ_rf⟩)⟩, by rw [ht9]; exact hP, va_K.moved hW9.alike hK⟩, hS.F ht9⟩) hS.2.2 dX9_fault_7
set_option maxHeartbeats 4000000 in
set_option maxRecDepth 100000 in
theorem q_told (l : Launch) (hfl : l.stackTraces = false) (dC : Nat → ClassId) (dI : Nat → Nat → Nat) (cI cZ cII cIII : ClassId) (h0 sz : Nat) (μ : va_M) (wh : Int) (T : List Tk) (hI : CI T μ) (h_wh : inR wh) : vx_Met l yX9_told (Cond.code yX9_told cX9_told 2 (some .int) :: wsG) ({ frames := 7, cells := 1, slots := 6, locals := 110 } : Room) (va_Pc [.ref h0, .int (iZ (wh))] (fun U => U.heap.size = sz ∧ va_P (dC, dI) vwCl (fw (sE cI cZ cII cIII h0) h0 233 μ) U.heap ∧ va_K (dC, dI) vwCl (sT cI cZ cII cIII) U ∧ xM U ∧ xX (fA h0 233 sz) U)) (va_Qi (fun (r9 : Int32) (u : va_M × Int) => r9 = iZ u.2 ∧ (fun (u : va_M) (r : Int) => CI T u ∧ SZ μ u) u.1 u.2) (fun u t => va_P (dC, dI) vwCl (fw (sE cI cZ cII cIII h0) h0 233 u.1) t.heap ∧ va_K (dC, dI) vwCl (sT cI cZ cII cIII) t) (fA h0 233 sz)) (vx_X (fun (u : va_M) => CI T u ∧ SZ μ u) (fun E u t => E ∈ (["java/lang/IllegalArgumentException"] : List String) ∧ va_P (dC, dI) vwCl (fw (sE cI cZ cII cIII h0) h0 233 u) t.heap ∧ va_K (dC, dI) vwCl (sT cI cZ cII cIII) t) (fA h0 233 sz)) 1 6 (fA h0 233 sz) := by
  refine vx_ofW (cc := cX9_told) (maxL := 2) (ret := (some .int)) (by decide) rfl ?_
  intro p e s m args below meth c s₁ B hml hnt hv
  obtain ⟨rfl, hsz, hP, hK, hM, hEx⟩ := hv
  have hx := B.exec
  have hb := B.bytes
  have hr := B.returns
  have hts : ∀ w ∈ wsG, w.before _ s = true := hG_of (atoms_spec (ws := (Cond.code yX9_told cX9_told 2 (some .int) :: wsG)) B.pre)
  have hown : s.vm.findClass RX9 = some m.cls := findClass_of_methodNamed B.named
  have hlocks := B.notSynchronized
  subst hsz
  have hS : va_S (fA h0 233 s.heap.size) s.heap s.heap [] := va_S.rf
  have hl := lv_entry ([.ref h0, .int (iZ (wh))]) (n := 2) (Nat.le_of_ble_eq_true rfl)
  rw [lg_entry_eq]
  generalize (lg_sl ([.ref h0, .int (iZ (wh))]) ++ List.replicate (2 - (lg_sl ([.ref h0, .int (iZ (wh))])).length) Slot.unset).toArray = ls at hl ⊢
  have hl : lv_has ls 2 [(0, .ref h0), (1, .int (iZ (wh)))] := hl
  have hlc := CI_lc hI
  have h66 := CI_n6 hI
  refine lv_iload_n hx hb dX9_told_0 rfl (lv_at hl 1 rfl) ?_
  by_cases hc1_0 : wh = 0
  · refine lv_tableIn (tgt := 56) (off := 55) hx hb dX9_told_1 (by rw [iZ_toInt (by first | assumption | (constructor <;> omega) | decide), hc1_0]; decide +kernel) (by rw [iZ_toInt (by first | assumption | (constructor <;> omega) | decide), hc1_0]; decide +kernel) (by rw [iZ_toInt (by first | assumption | (constructor <;> omega) | decide), hc1_0]; decide +kernel) (by decide) ?_
    refine lv_aload_n hx hb dX9_told_56 rfl (lv_at hl 0 rfl) ?_
    refine fz_get (D := (dC, dI)) (ci := 9) (v := .int (iZ (μ 0 2))) (C := RX9) (T := TX9) (N := 15) hx hb hts inG9 hown hK hP (k := 0) (by decide) (F := (sF0 h0)) sE_0 rfl 2 (by decide) (hts _ k334) (fun _ h9 => h9) rfl dX9_told_57 ?_
    exact W_widen (Nat.le_of_ble_eq_true rfl) (Nat.le_of_ble_eq_true rfl) (vx_ret (W.iret (v := iZ (μ 0 2)) hx hb hr (fun t9 ht9 hW9 => ⟨⟨iZ (μ 0 2), (μ, μ 0 2), rfl, ⟨rfl, (by
                dsimp only
                exact ⟨hI, SZ_rf⟩)⟩, by rw [ht9]; exact hP, va_K.moved hW9.alike hK⟩, hS.F ht9⟩) hS.2.2 dX9_told_60))
  · skip
    by_cases hc1_1 : wh = 1
    · refine lv_tableIn (tgt := 61) (off := 60) hx hb dX9_told_1 (by rw [iZ_toInt (by first | assumption | (constructor <;> omega) | decide), hc1_1]; decide +kernel) (by rw [iZ_toInt (by first | assumption | (constructor <;> omega) | decide), hc1_1]; decide +kernel) (by rw [iZ_toInt (by first | assumption | (constructor <;> omega) | decide), hc1_1]; decide +kernel) (by decide) ?_
      refine lv_aload_n hx hb dX9_told_61 rfl (lv_at hl 0 rfl) ?_
      refine fz_get (D := (dC, dI)) (ci := 9) (v := .ref (h0 + 1)) (C := RX9) (T := TX9) (N := 15) hx hb hts inG9 hown hK hP (k := 0) (by decide) (F := (sF0 h0)) sE_0 rfl 0 (by decide) (hts _ k332) (fun _ h9 => h9) rfl dX9_told_62 ?_
      refine fz_get (D := (dC, dI)) (ci := 5) (v := .int (iZ (μ 1 3))) (C := RX5) (T := TX5) (N := 8) hx hb hts inG5 hown hK hP (k := 1) (by decide) (F := (sF1 h0)) sE_1 rfl 3 (by decide) (hts _ k40) (fun _ h9 => h9) rfl dX9_told_65 ?_
      exact W_widen (Nat.le_of_ble_eq_true rfl) (Nat.le_of_ble_eq_true rfl) (vx_ret (W.iret (v := iZ (μ 1 3)) hx hb hr (fun t9 ht9 hW9 => ⟨⟨iZ (μ 1 3), (μ, μ 1 3), rfl, ⟨rfl, (by
                    dsimp only
                    exact ⟨hI, SZ_rf⟩)⟩, by rw [ht9]; exact hP, va_K.moved hW9.alike hK⟩, hS.F ht9⟩) hS.2.2 dX9_told_68))
    · skip
      by_cases hc1_2 : wh = 2
      · refine lv_tableIn (tgt := 69) (off := 68) hx hb dX9_told_1 (by rw [iZ_toInt (by first | assumption | (constructor <;> omega) | decide), hc1_2]; decide +kernel) (by rw [iZ_toInt (by first | assumption | (constructor <;> omega) | decide), hc1_2]; decide +kernel) (by rw [iZ_toInt (by first | assumption | (constructor <;> omega) | decide), hc1_2]; decide +kernel) (by decide) ?_
        refine lv_aload_n hx hb dX9_told_69 rfl (lv_at hl 0 rfl) ?_
        refine fz_get (D := (dC, dI)) (ci := 9) (v := .ref (h0 + 6)) (C := RX9) (T := TX9) (N := 15) hx hb hts inG9 hown hK hP (k := 0) (by decide) (F := (sF0 h0)) sE_0 rfl 3 (by decide) (hts _ k335) (fun _ h9 => h9) rfl dX9_told_70 ?_
        refine fz_get (D := (dC, dI)) (ci := 4) (v := .int (iZ (μ 6 6))) (C := RX4) (T := TX4) (N := 8) hx hb hts inG4 hown hK hP (k := 6) (by decide) (F := (sRF h0 6)) (sE_rowO rowB_6) rfl 6 (by decide) (hts _ k101) (fun _ h9 => h9) rfl dX9_told_73 ?_
        exact W_widen (Nat.le_of_ble_eq_true rfl) (Nat.le_of_ble_eq_true rfl) (vx_ret (W.iret (v := iZ (μ 6 6)) hx hb hr (fun t9 ht9 hW9 => ⟨⟨iZ (μ 6 6), (μ, μ 6 6), rfl, ⟨rfl, (by
                        dsimp only
                        exact ⟨hI, SZ_rf⟩)⟩, by rw [ht9]; exact hP, va_K.moved hW9.alike hK⟩, hS.F ht9⟩) hS.2.2 dX9_told_76))
      · skip
        by_cases hc1_3 : wh = 3
        · refine lv_tableIn (tgt := 77) (off := 76) hx hb dX9_told_1 (by rw [iZ_toInt (by first | assumption | (constructor <;> omega) | decide), hc1_3]; decide +kernel) (by rw [iZ_toInt (by first | assumption | (constructor <;> omega) | decide), hc1_3]; decide +kernel) (by rw [iZ_toInt (by first | assumption | (constructor <;> omega) | decide), hc1_3]; decide +kernel) (by decide) ?_
          refine lv_aload_n hx hb dX9_told_77 rfl (lv_at hl 0 rfl) ?_
          refine fz_get (D := (dC, dI)) (ci := 9) (v := .ref (h0 + 6)) (C := RX9) (T := TX9) (N := 15) hx hb hts inG9 hown hK hP (k := 0) (by decide) (F := (sF0 h0)) sE_0 rfl 3 (by decide) (hts _ k335) (fun _ h9 => h9) rfl dX9_told_78 ?_
          refine va_calli (va_runV (As := []) (rest := []) ⟨hx, hb, hml, hown, hts⟩ (s_Rsize l dC dI cI cZ cII cIII h0 s.heap.size μ (6) (1100) (rowB_6) (by exact (rG_len hI.1.2.2.1))) (cwV 0 hts (gV_G k513 k514 k515 k3 k516) rfl rfl rfl (by decide +kernel) ⟨Nat.le_of_ble_eq_true rfl, Nat.le_of_ble_eq_true rfl⟩) ⟨fun a U g mk q => by obtain ⟨q0, q1, qP, qK, qM⟩ := q; exact ⟨q0, q1, qP, va_K.moved (u := U) (U := U.calling g mk a) (Vm.Alike.refl U.vm) qK, qM⟩, va_recv hK hP (ci := 4) (q0 := 6) rfl ((fw_get (by decide)).trans (by rw [(sE_rowO rowB_6)])), fun U hU hW => ⟨rfl, by rw [hU], by rw [hU]; exact hP, va_K.moved hW.alike hK, xM_warm hW hM⟩⟩ rfl rfl hl.1 rfl (lv_room (Nat.le_of_ble_eq_true rfl)) dX9_told_81 ⟨Nat.le_of_ble_eq_true rfl, Nat.le_of_ble_eq_true rfl⟩) hS (fun q _ h => fA_le hS.1 q h) (fA_le hS.1) (fun r9 u9 t9 H1 locs ht9 hvm9 hw9 hB9 hz9 hk9 hS => ?_)
          obtain ⟨μ1, r2⟩ := u9
          obtain ⟨hP, -⟩ := hB9
          rw [ht9] at hP
          generalize H1 = H at hP hS ⊢
          obtain ⟨e9, hw9⟩ := hw9
          have e9 : r9 = iZ r2 := e9
          subst e9
          simp only at hP hw9
          have hμ1 := hw9; clear hw9
          rw [hμ1.1] at hP; have hμ1 := hμ1.2
          exact W_widen (Nat.le_of_ble_eq_true rfl) (Nat.le_of_ble_eq_true rfl) (vx_ret (W.iret (v := iZ (r2)) hx hb hr (fun t9 ht9 hW9 => ⟨⟨iZ (r2), (μ, r2), rfl, ⟨rfl, (by
                            dsimp only
                            exact ⟨hI, SZ_rf⟩)⟩, by rw [ht9]; exact hP, va_K.moved hW9.alike hK⟩, hS.F ht9⟩) hS.2.2 dX9_told_84))
        · skip
          by_cases hc1_4 : wh = 4
          · refine lv_tableIn (tgt := 85) (off := 84) hx hb dX9_told_1 (by rw [iZ_toInt (by first | assumption | (constructor <;> omega) | decide), hc1_4]; decide +kernel) (by rw [iZ_toInt (by first | assumption | (constructor <;> omega) | decide), hc1_4]; decide +kernel) (by rw [iZ_toInt (by first | assumption | (constructor <;> omega) | decide), hc1_4]; decide +kernel) (by decide) ?_
            refine lv_aload_n hx hb dX9_told_85 rfl (lv_at hl 0 rfl) ?_
            refine fz_get (D := (dC, dI)) (ci := 9) (v := .ref (h0 + 6)) (C := RX9) (T := TX9) (N := 15) hx hb hts inG9 hown hK hP (k := 0) (by decide) (F := (sF0 h0)) sE_0 rfl 3 (by decide) (hts _ k335) (fun _ h9 => h9) rfl dX9_told_86 ?_
            refine lv_sipush (v := iZ 512) hx hb dX9_told_89 rfl ?_
            refine va_calli (va_runV (As := [.int (iZ (512))]) (rest := []) ⟨hx, hb, hml, hown, hts⟩ (s_RcountOf l dC dI cI cZ cII cIII h0 s.heap.size μ (6) (1100) (512) (rowB_6) (by exact (rG_len hI.1.2.2.1)) (by exact hI.1.2.2.1.1) (by constructor <;> decide)) (cwV 1 hts (gV_G k856 k857 k858 k3 k859) rfl rfl rfl (by decide +kernel) ⟨Nat.le_of_ble_eq_true rfl, Nat.le_of_ble_eq_true rfl⟩) ⟨fun a U g mk q => by obtain ⟨q0, q1, qP, qK, qM⟩ := q; exact ⟨q0, q1, qP, va_K.moved (u := U) (U := U.calling g mk a) (Vm.Alike.refl U.vm) qK, qM⟩, va_recv hK hP (ci := 4) (q0 := 6) rfl ((fw_get (by decide)).trans (by rw [(sE_rowO rowB_6)])), fun U hU hW => ⟨rfl, by rw [hU], by rw [hU]; exact hP, va_K.moved hW.alike hK, xM_warm hW hM⟩⟩ rfl rfl hl.1 rfl (lv_room (Nat.le_of_ble_eq_true rfl)) dX9_told_92 ⟨Nat.le_of_ble_eq_true rfl, Nat.le_of_ble_eq_true rfl⟩) hS (fun q _ h => fA_le hS.1 q h) (fA_le hS.1) (fun r9 u9 t9 H1 locs ht9 hvm9 hw9 hB9 hz9 hk9 hS => ?_)
            obtain ⟨μ3, r4⟩ := u9
            obtain ⟨hP, -⟩ := hB9
            rw [ht9] at hP
            generalize H1 = H at hP hS ⊢
            obtain ⟨e9, hw9⟩ := hw9
            have e9 : r9 = iZ r4 := e9
            subst e9
            simp only at hP hw9
            have hμ3 := hw9; clear hw9
            rw [hμ3.1] at hP; have hμ3 := hμ3.2
            exact W_widen (Nat.le_of_ble_eq_true rfl) (Nat.le_of_ble_eq_true rfl) (vx_ret (W.iret (v := iZ (r4)) hx hb hr (fun t9 ht9 hW9 => ⟨⟨iZ (r4), (μ, r4), rfl, ⟨rfl, (by
                                dsimp only
                                exact ⟨hI, SZ_rf⟩)⟩, by rw [ht9]; exact hP, va_K.moved hW9.alike hK⟩, hS.F ht9⟩) hS.2.2 dX9_told_95))
          · skip
            by_cases hc1_5 : wh = 5
            · refine lv_tableIn (tgt := 96) (off := 95) hx hb dX9_told_1 (by rw [iZ_toInt (by first | assumption | (constructor <;> omega) | decide), hc1_5]; decide +kernel) (by rw [iZ_toInt (by first | assumption | (constructor <;> omega) | decide), hc1_5]; decide +kernel) (by rw [iZ_toInt (by first | assumption | (constructor <;> omega) | decide), hc1_5]; decide +kernel) (by decide) ?_
              refine lv_aload_n hx hb dX9_told_96 rfl (lv_at hl 0 rfl) ?_
              refine fz_get (D := (dC, dI)) (ci := 9) (v := .ref (h0 + 6)) (C := RX9) (T := TX9) (N := 15) hx hb hts inG9 hown hK hP (k := 0) (by decide) (F := (sF0 h0)) sE_0 rfl 3 (by decide) (hts _ k335) (fun _ h9 => h9) rfl dX9_told_97 ?_
              refine lv_sipush (v := iZ 513) hx hb dX9_told_100 rfl ?_
              refine va_calli (va_runV (As := [.int (iZ (513))]) (rest := []) ⟨hx, hb, hml, hown, hts⟩ (s_RcountOf l dC dI cI cZ cII cIII h0 s.heap.size μ (6) (1100) (513) (rowB_6) (by exact (rG_len hI.1.2.2.1)) (by exact hI.1.2.2.1.1) (by constructor <;> decide)) (cwV 1 hts (gV_G k856 k857 k858 k3 k859) rfl rfl rfl (by decide +kernel) ⟨Nat.le_of_ble_eq_true rfl, Nat.le_of_ble_eq_true rfl⟩) ⟨fun a U g mk q => by obtain ⟨q0, q1, qP, qK, qM⟩ := q; exact ⟨q0, q1, qP, va_K.moved (u := U) (U := U.calling g mk a) (Vm.Alike.refl U.vm) qK, qM⟩, va_recv hK hP (ci := 4) (q0 := 6) rfl ((fw_get (by decide)).trans (by rw [(sE_rowO rowB_6)])), fun U hU hW => ⟨rfl, by rw [hU], by rw [hU]; exact hP, va_K.moved hW.alike hK, xM_warm hW hM⟩⟩ rfl rfl hl.1 rfl (lv_room (Nat.le_of_ble_eq_true rfl)) dX9_told_103 ⟨Nat.le_of_ble_eq_true rfl, Nat.le_of_ble_eq_true rfl⟩) hS (fun q _ h => fA_le hS.1 q h) (fA_le hS.1) (fun r9 u9 t9 H1 locs ht9 hvm9 hw9 hB9 hz9 hk9 hS => ?_)
              obtain ⟨μ5, r6⟩ := u9
              obtain ⟨hP, -⟩ := hB9
              rw [ht9] at hP
              generalize H1 = H at hP hS ⊢
              obtain ⟨e9, hw9⟩ := hw9
              have e9 : r9 = iZ r6 := e9
              subst e9
              simp only at hP hw9
              have hμ5 := hw9; clear hw9
              rw [hμ5.1] at hP; have hμ5 := hμ5.2
              exact W_widen (Nat.le_of_ble_eq_true rfl) (Nat.le_of_ble_eq_true rfl) (vx_ret (W.iret (v := iZ (r6)) hx hb hr (fun t9 ht9 hW9 => ⟨⟨iZ (r6), (μ, r6), rfl, ⟨rfl, (by
                                    dsimp only
                                    exact ⟨hI, SZ_rf⟩)⟩, by rw [ht9]; exact hP, va_K.moved hW9.alike hK⟩, hS.F ht9⟩) hS.2.2 dX9_told_106))
            · skip
              by_cases hc1_6 : wh = 6
              · refine lv_tableIn (tgt := 107) (off := 106) hx hb dX9_told_1 (by rw [iZ_toInt (by first | assumption | (constructor <;> omega) | decide), hc1_6]; decide +kernel) (by rw [iZ_toInt (by first | assumption | (constructor <;> omega) | decide), hc1_6]; decide +kernel) (by rw [iZ_toInt (by first | assumption | (constructor <;> omega) | decide), hc1_6]; decide +kernel) (by decide) ?_
                refine lv_aload_n hx hb dX9_told_107 rfl (lv_at hl 0 rfl) ?_
                refine fz_get (D := (dC, dI)) (ci := 9) (v := .ref (h0 + 6)) (C := RX9) (T := TX9) (N := 15) hx hb hts inG9 hown hK hP (k := 0) (by decide) (F := (sF0 h0)) sE_0 rfl 3 (by decide) (hts _ k335) (fun _ h9 => h9) rfl dX9_told_108 ?_
                refine lv_sipush (v := iZ 514) hx hb dX9_told_111 rfl ?_
                refine va_calli (va_runV (As := [.int (iZ (514))]) (rest := []) ⟨hx, hb, hml, hown, hts⟩ (s_RcountOf l dC dI cI cZ cII cIII h0 s.heap.size μ (6) (1100) (514) (rowB_6) (by exact (rG_len hI.1.2.2.1)) (by exact hI.1.2.2.1.1) (by constructor <;> decide)) (cwV 1 hts (gV_G k856 k857 k858 k3 k859) rfl rfl rfl (by decide +kernel) ⟨Nat.le_of_ble_eq_true rfl, Nat.le_of_ble_eq_true rfl⟩) ⟨fun a U g mk q => by obtain ⟨q0, q1, qP, qK, qM⟩ := q; exact ⟨q0, q1, qP, va_K.moved (u := U) (U := U.calling g mk a) (Vm.Alike.refl U.vm) qK, qM⟩, va_recv hK hP (ci := 4) (q0 := 6) rfl ((fw_get (by decide)).trans (by rw [(sE_rowO rowB_6)])), fun U hU hW => ⟨rfl, by rw [hU], by rw [hU]; exact hP, va_K.moved hW.alike hK, xM_warm hW hM⟩⟩ rfl rfl hl.1 rfl (lv_room (Nat.le_of_ble_eq_true rfl)) dX9_told_114 ⟨Nat.le_of_ble_eq_true rfl, Nat.le_of_ble_eq_true rfl⟩) hS (fun q _ h => fA_le hS.1 q h) (fA_le hS.1) (fun r9 u9 t9 H1 locs ht9 hvm9 hw9 hB9 hz9 hk9 hS => ?_)
                obtain ⟨μ7, r8⟩ := u9
                obtain ⟨hP, -⟩ := hB9
                rw [ht9] at hP
                generalize H1 = H at hP hS ⊢
                obtain ⟨e9, hw9⟩ := hw9
                have e9 : r9 = iZ r8 := e9
                subst e9
                simp only at hP hw9
                have hμ7 := hw9; clear hw9
                rw [hμ7.1] at hP; have hμ7 := hμ7.2
                exact W_widen (Nat.le_of_ble_eq_true rfl) (Nat.le_of_ble_eq_true rfl) (vx_ret (W.iret (v := iZ (r8)) hx hb hr (fun t9 ht9 hW9 => ⟨⟨iZ (r8), (μ, r8), rfl, ⟨rfl, (by
                                        dsimp only
                                        exact ⟨hI, SZ_rf⟩)⟩, by rw [ht9]; exact hP, va_K.moved hW9.alike hK⟩, hS.F ht9⟩) hS.2.2 dX9_told_117))
              · skip
                by_cases hc1_7 : wh = 7
                · refine lv_tableIn (tgt := 118) (off := 117) hx hb dX9_told_1 (by rw [iZ_toInt (by first | assumption | (constructor <;> omega) | decide), hc1_7]; decide +kernel) (by rw [iZ_toInt (by first | assumption | (constructor <;> omega) | decide), hc1_7]; decide +kernel) (by rw [iZ_toInt (by first | assumption | (constructor <;> omega) | decide), hc1_7]; decide +kernel) (by decide) ?_
                  refine lv_aload_n hx hb dX9_told_118 rfl (lv_at hl 0 rfl) ?_
                  refine fz_get (D := (dC, dI)) (ci := 9) (v := .ref (h0 + 18)) (C := RX9) (T := TX9) (N := 15) hx hb hts inG9 hown hK hP (k := 0) (by decide) (F := (sF0 h0)) sE_0 rfl 7 (by decide) (hts _ k339) (fun _ h9 => h9) rfl dX9_told_119 ?_
                  refine fz_get (D := (dC, dI)) (ci := 3) (v := .int (iZ (μ 18 4))) (C := RX3) (T := TX3) (N := 5) hx hb hts inG3 hown hK hP (k := 18) (by decide) (F := (sF18 h0)) sE_18 rfl 4 (by decide) (hts _ k135) (fun _ h9 => h9) rfl dX9_told_122 ?_
                  exact W_widen (Nat.le_of_ble_eq_true rfl) (Nat.le_of_ble_eq_true rfl) (vx_ret (W.iret (v := iZ (μ 18 4)) hx hb hr (fun t9 ht9 hW9 => ⟨⟨iZ (μ 18 4), (μ, μ 18 4), rfl, ⟨rfl, (by
                                            dsimp only
                                            exact ⟨hI, SZ_rf⟩)⟩, by rw [ht9]; exact hP, va_K.moved hW9.alike hK⟩, hS.F ht9⟩) hS.2.2 dX9_told_125))
                · skip
                  by_cases hc1_8 : wh = 8
                  · refine lv_tableIn (tgt := 126) (off := 125) hx hb dX9_told_1 (by rw [iZ_toInt (by first | assumption | (constructor <;> omega) | decide), hc1_8]; decide +kernel) (by rw [iZ_toInt (by first | assumption | (constructor <;> omega) | decide), hc1_8]; decide +kernel) (by rw [iZ_toInt (by first | assumption | (constructor <;> omega) | decide), hc1_8]; decide +kernel) (by decide) ?_
                    refine lv_aload_n hx hb dX9_told_126 rfl (lv_at hl 0 rfl) ?_
                    refine fz_get (D := (dC, dI)) (ci := 9) (v := .int (iZ (μ 0 5))) (C := RX9) (T := TX9) (N := 15) hx hb hts inG9 hown hK hP (k := 0) (by decide) (F := (sF0 h0)) sE_0 rfl 5 (by decide) (hts _ k337) (fun _ h9 => h9) rfl dX9_told_127 ?_
                    exact W_widen (Nat.le_of_ble_eq_true rfl) (Nat.le_of_ble_eq_true rfl) (vx_ret (W.iret (v := iZ (μ 0 5)) hx hb hr (fun t9 ht9 hW9 => ⟨⟨iZ (μ 0 5), (μ, μ 0 5), rfl, ⟨rfl, (by
                                                dsimp only
                                                exact ⟨hI, SZ_rf⟩)⟩, by rw [ht9]; exact hP, va_K.moved hW9.alike hK⟩, hS.F ht9⟩) hS.2.2 dX9_told_130))
                  · skip
                    by_cases hc1_9 : wh = 9
                    · refine lv_tableIn (tgt := 131) (off := 130) hx hb dX9_told_1 (by rw [iZ_toInt (by first | assumption | (constructor <;> omega) | decide), hc1_9]; decide +kernel) (by rw [iZ_toInt (by first | assumption | (constructor <;> omega) | decide), hc1_9]; decide +kernel) (by rw [iZ_toInt (by first | assumption | (constructor <;> omega) | decide), hc1_9]; decide +kernel) (by decide) ?_
                      refine lv_aload_n hx hb dX9_told_131 rfl (lv_at hl 0 rfl) ?_
                      refine fz_get (D := (dC, dI)) (ci := 9) (v := .ref (h0 + 1)) (C := RX9) (T := TX9) (N := 15) hx hb hts inG9 hown hK hP (k := 0) (by decide) (F := (sF0 h0)) sE_0 rfl 0 (by decide) (hts _ k332) (fun _ h9 => h9) rfl dX9_told_132 ?_
                      refine fz_get (D := (dC, dI)) (ci := 5) (v := .int (iZ (μ 1 1))) (C := RX5) (T := TX5) (N := 8) hx hb hts inG5 hown hK hP (k := 1) (by decide) (F := (sF1 h0)) sE_1 rfl 1 (by decide) (hts _ k37) (fun _ h9 => h9) rfl dX9_told_135 ?_
                      exact W_widen (Nat.le_of_ble_eq_true rfl) (Nat.le_of_ble_eq_true rfl) (vx_ret (W.iret (v := iZ (μ 1 1)) hx hb hr (fun t9 ht9 hW9 => ⟨⟨iZ (μ 1 1), (μ, μ 1 1), rfl, ⟨rfl, (by
                                                    dsimp only
                                                    exact ⟨hI, SZ_rf⟩)⟩, by rw [ht9]; exact hP, va_K.moved hW9.alike hK⟩, hS.F ht9⟩) hS.2.2 dX9_told_138))
                    · skip
                      refine lv_tableOut (tgt := 139) hx hb dX9_told_1 (by rw [iZ_toInt (by first | assumption | (constructor <;> omega) | decide)]; (first | ((try clear h66); (try clear hlc); (try clear hsz); (try clear hnt); (try clear s₁); omega) | omega)) (by decide) ?_
                      refine lv_aload_n hx hb dX9_told_139 rfl (lv_at hl 0 rfl) ?_
                      refine lv_iconst (v := iZ 0) hx hb dX9_told_140 rfl ?_
                      refine vx_callv (vx_runV (As := [.int (iZ (0))]) (rest := []) ⟨hx, hb, hml, hown, hts⟩ (x_needArgument l hfl dC dI cI cZ cII cIII h0 s.heap.size μ  ) (cwV 1 hts (gV_G k596 k598 ks_yX9_needArgument k1 k599) rfl rfl rfl (by decide +kernel) ⟨Nat.le_of_ble_eq_true rfl, Nat.le_of_ble_eq_true rfl⟩) ⟨fun a U g mk q => by obtain ⟨q0, q1, qP, qK, qM, qE⟩ := q; exact ⟨q0, q1, qP, va_K.moved (u := U) (U := U.calling g mk a) (Vm.Alike.refl U.vm) qK, qM, xX_call qE⟩, va_recv hK hP (ci := 9) (q0 := 0) rfl ((fw_get (by decide)).trans (by rw [sE_0]; rfl)), fun U hU hW => ⟨rfl, by rw [hU], by rw [hU]; exact hP, va_K.moved hW.alike hK, xM_warm hW hM, xX_at hEx hS (fun q h => fA_le hS.1 q h) hU hW⟩⟩ rfl rfl hl.1 rfl (lv_room (Nat.le_of_ble_eq_true rfl)) dX9_told_141 ⟨Nat.le_of_ble_eq_true rfl, Nat.le_of_ble_eq_true rfl⟩) hS (fun q _ h => fA_le hS.1 q h) (fA_le hS.1) (fun q _ h => fA_le hS.1 q h) (fun E9 ce9 q9 u9 t9 H1 locs ht9 hvm9 hpx9 hBX9 hz9 hk9 hS hce9 hcv9 hcl9 => ?_) (fun u9 t9 H1 locs ht9 hvm9 hw9 hB9 hz9 hk9 hS => hw9.elim)
                      obtain ⟨hE9, hP9, hK9⟩ := hBX9
                      exact vx_out (fun x hx9 => (hnt x hx9).elim) hlocks hce9 hcv9 hcl9 (fun t8 ht8 hW8 => ⟨u9, (by
                                                    show CI T u9 ∧ SZ μ u9
                                                    exact CZ_thr hI hpx9), ⟨hE9, by rw [ht8, ← ht9]; exact hP9, va_K.moved hW8 hK⟩, hS.F ht8⟩) hS.2.2 (Nat.le_of_ble_eq_true rfl) (Nat.le_of_ble_eq_true rfl)
set_option maxHeartbeats 4000000 in
set_option maxRecDepth 100000 in
theorem q_pageOf (l : Launch) (hfl : l.stackTraces = false) (dC : Nat → ClassId) (dI : Nat → Nat → Nat) (cI cZ cII cIII : ClassId) (h0 sz : Nat) (μ : va_M) (pg : Int) (wh : Int) (T : List Tk) (hI : CI T μ) (h_pg : inR pg) (h_wh : inR wh) : vx_Met l yX9_pageOf (Cond.code yX9_pageOf cX9_pageOf 4 (some .int) :: wsG) ({ frames := 8, cells := 1, slots := 6, locals := 131 } : Room) (va_Pc [.ref h0, .int (iZ (pg)), .int (iZ (wh))] (fun U => U.heap.size = sz ∧ va_P (dC, dI) vwCl (fw (sE cI cZ cII cIII h0) h0 233 μ) U.heap ∧ va_K (dC, dI) vwCl (sT cI cZ cII cIII) U ∧ xM U ∧ xX (fA h0 233 sz) U)) (va_Qi (fun (r9 : Int32) (u : va_M × Int) => r9 = iZ u.2 ∧ (fun (u : va_M) (r : Int) => CI T u ∧ SZ μ u) u.1 u.2) (fun u t => va_P (dC, dI) vwCl (fw (sE cI cZ cII cIII h0) h0 233 u.1) t.heap ∧ va_K (dC, dI) vwCl (sT cI cZ cII cIII) t) (fA h0 233 sz)) (vx_X (fun (u : va_M) => CI T u ∧ SZ μ u) (fun E u t => E ∈ (["java/util/NoSuchElementException", "java/lang/IllegalArgumentException"] : List String) ∧ va_P (dC, dI) vwCl (fw (sE cI cZ cII cIII h0) h0 233 u) t.heap ∧ va_K (dC, dI) vwCl (sT cI cZ cII cIII) t) (fA h0 233 sz)) 1 6 (fA h0 233 sz) := by
  refine vx_ofW (cc := cX9_pageOf) (maxL := 4) (ret := (some .int)) (by decide) rfl ?_
  intro p e s m args below meth c s₁ B hml hnt hv
  obtain ⟨rfl, hsz, hP, hK, hM, hEx⟩ := hv
  have hx := B.exec
  have hb := B.bytes
  have hr := B.returns
  have hts : ∀ w ∈ wsG, w.before _ s = true := hG_of (atoms_spec (ws := (Cond.code yX9_pageOf cX9_pageOf 4 (some .int) :: wsG)) B.pre)
  have hown : s.vm.findClass RX9 = some m.cls := findClass_of_methodNamed B.named
  have hlocks := B.notSynchronized
  subst hsz
  have hS : va_S (fA h0 233 s.heap.size) s.heap s.heap [] := va_S.rf
  have hl := lv_entry ([.ref h0, .int (iZ (pg)), .int (iZ (wh))]) (n := 4) (Nat.le_of_ble_eq_true rfl)
  rw [lg_entry_eq]
  generalize (lg_sl ([.ref h0, .int (iZ (pg)), .int (iZ (wh))]) ++ List.replicate (4 - (lg_sl ([.ref h0, .int (iZ (pg)), .int (iZ (wh))])).length) Slot.unset).toArray = ls at hl ⊢
  have hl : lv_has ls 4 [(0, .ref h0), (1, .int (iZ (pg))), (2, .int (iZ (wh)))] := hl
  have hlc := CI_lc hI
  have h66 := CI_n6 hI
  refine lv_aload_n hx hb dX9_pageOf_0 rfl (lv_at hl 0 rfl) ?_
  refine lv_iload_n hx hb dX9_pageOf_1 rfl (lv_at hl 1 rfl) ?_
  by_cases hn2_ : 0 ≤ pg ∧ pg < μ 0 2
  · refine va_callv (va_runV (As := [.int (iZ (pg))]) (rest := []) ⟨hx, hb, hml, hown, hts⟩ (s_needPage l dC dI cI cZ cII cIII h0 s.heap.size μ (pg) (by first | assumption | omega | exact CI_lc hI | exact CI_cn hI | exact (CI_n6 hI).1 | decide) (by first | assumption | omega | exact CI_lc hI | exact CI_cn hI | exact (CI_n6 hI).1 | decide) (by exact hn2_)) (cwV 1 hts (gV_G k735 k737 ks_yX9_needPage k1 k738) rfl rfl rfl (by decide +kernel) ⟨Nat.le_of_ble_eq_true rfl, Nat.le_of_ble_eq_true rfl⟩) ⟨fun a U g mk q => by obtain ⟨q0, q1, qP, qK, qM⟩ := q; exact ⟨q0, q1, qP, va_K.moved (u := U) (U := U.calling g mk a) (Vm.Alike.refl U.vm) qK, qM⟩, va_recv hK hP (ci := 9) (q0 := 0) rfl ((fw_get (by decide)).trans (by rw [sE_0]; rfl)), fun U hU hW => ⟨rfl, by rw [hU], by rw [hU]; exact hP, va_K.moved hW.alike hK, xM_warm hW hM⟩⟩ rfl rfl hl.1 rfl (lv_room (Nat.le_of_ble_eq_true rfl)) dX9_pageOf_2 ⟨Nat.le_of_ble_eq_true rfl, Nat.le_of_ble_eq_true rfl⟩) hS (fun q _ h => fA_le hS.1 q h) (fA_le hS.1) (fun u9 t9 H1 locs ht9 hvm9 hw9 hB9 hz9 hk9 hS => ?_)
    obtain ⟨hP, -⟩ := hB9
    rw [ht9] at hP
    generalize H1 = H at hP hS ⊢
    obtain ⟨μ1, eμ1⟩ : ∃ x : va_M, x = u9 := ⟨_, rfl⟩
    rw [← eμ1] at hP hw9
    have hμ1 := hw9; clear hw9
    rw [hμ1] at hP
    obtain ⟨hl1, hl2⟩ := CI_lf hI pg (by (first | ((try clear hl2); (try clear hl1); (try clear hμ1); (try clear x); (try clear eμ1); (try clear μ1); (try clear hz9); (try clear h66); (try clear hlc); (try clear hsz); (try clear hnt); (try clear s₁); omega) | omega)) (by (first | ((try clear hl2); (try clear hl1); (try clear hμ1); (try clear x); (try clear eμ1); (try clear μ1); (try clear hz9); (try clear h66); (try clear hsz); (try clear hnt); (try clear s₁); omega) | omega))
    have hg2 := hl1.2.2.2
    refine lv_aload_n hx hb dX9_pageOf_5 rfl (lv_at hl 0 rfl) ?_
    refine fz_get (D := (dC, dI)) (ci := 9) (v := .ref (h0 + 5)) (C := RX9) (T := TX9) (N := 15) hx hb hts inG9 hown hK hP (k := 0) (by decide) (F := (sF0 h0)) sE_0 rfl 1 (by decide) (hts _ k333) (fun _ h9 => h9) rfl dX9_pageOf_6 ?_
    refine lv_iload_n hx hb dX9_pageOf_9 rfl (lv_at hl 1 rfl) ?_
    refine fz_ald (k := 5) (n := 8) (k2 := (113 + (pg).toNat * 15)) hx hb hK hP 1 rfl (by decide) sE_5 rfl ⟨by (first | ((try clear hg2); (try clear hl2); (try clear hl1); (try clear hμ1); (try clear x); (try clear eμ1); (try clear μ1); (try clear hz9); (try clear h66); (try clear hlc); (try clear hsz); (try clear hnt); (try clear s₁); omega) | omega), by (first | ((try clear hg2); (try clear hl2); (try clear hl1); (try clear hμ1); (try clear x); (try clear eμ1); (try clear μ1); (try clear hz9); (try clear h66); (try clear hsz); (try clear hnt); (try clear s₁); omega) | omega)⟩ (by decide) (if_pos (by (first | ((try clear hg2); (try clear hl2); (try clear hl1); (try clear hμ1); (try clear x); (try clear eμ1); (try clear μ1); (try clear hz9); (try clear h66); (try clear hsz); (try clear hnt); (try clear s₁); omega) | omega))) dX9_pageOf_10 ?_
    refine lv_astore_n (lv' := [(3, .ref (h0 + (113 + (pg).toNat * 15))), (0, .ref h0), (1, .int (iZ (pg))), (2, .int (iZ (wh)))]) hx hb dX9_pageOf_11 rfl hl (by decide) rfl (fun ls hl => ?_)
    refine lv_iload_n hx hb dX9_pageOf_12 rfl (lv_at hl 3 rfl) ?_
    by_cases hc13_0 : wh = 0
    · refine lv_tableIn (tgt := 48) (off := 35) hx hb dX9_pageOf_13 (by rw [iZ_toInt (by first | assumption | (constructor <;> omega) | decide), hc13_0]; decide +kernel) (by rw [iZ_toInt (by first | assumption | (constructor <;> omega) | decide), hc13_0]; decide +kernel) (by rw [iZ_toInt (by first | assumption | (constructor <;> omega) | decide), hc13_0]; decide +kernel) (by decide) ?_
      refine lv_aload_n hx hb dX9_pageOf_48 rfl (lv_at hl 0 rfl) ?_
      refine fz_get (D := (dC, dI)) (ci := 1) (v := .int (iZ (μ (113 + (pg).toNat * 15) 2))) (C := RX1) (T := TX1) (N := 8) hx hb hts inG1 hown hK hP (k := (113 + (pg).toNat * 15)) (by (first | ((try clear hc13_0); (try clear hg2); (try clear hl2); (try clear hl1); (try clear hμ1); (try clear x); (try clear eμ1); (try clear μ1); (try clear hz9); (try clear h66); (try clear hsz); (try clear hnt); (try clear s₁); omega) | omega)) (F := (sLF h0 (113 + (pg).toNat * 15))) (sE_leafO (show (pg).toNat < 8 by (first | ((try clear hc13_0); (try clear hg2); (try clear hl2); (try clear hl1); (try clear hμ1); (try clear x); (try clear eμ1); (try clear μ1); (try clear hz9); (try clear h66); (try clear hsz); (try clear hnt); (try clear s₁); omega) | omega)) rfl) rfl 2 (by decide) (hts _ k301) (fun _ h9 => h9) rfl dX9_pageOf_49 ?_
      exact W_widen (Nat.le_of_ble_eq_true rfl) (Nat.le_of_ble_eq_true rfl) (vx_ret (W.iret (v := iZ (μ (113 + (pg).toNat * 15) 2)) hx hb hr (fun t9 ht9 hW9 => ⟨⟨iZ (μ (113 + (pg).toNat * 15) 2), (μ, μ (113 + (pg).toNat * 15) 2), rfl, ⟨rfl, (by
                    dsimp only
                    exact ⟨hI, SZ_rf⟩)⟩, by rw [ht9]; exact hP, va_K.moved hW9.alike hK⟩, hS.F ht9⟩) hS.2.2 dX9_pageOf_52))
    · skip
      by_cases hc13_1 : wh = 1
      · refine lv_tableIn (tgt := 53) (off := 40) hx hb dX9_pageOf_13 (by rw [iZ_toInt (by first | assumption | (constructor <;> omega) | decide), hc13_1]; decide +kernel) (by rw [iZ_toInt (by first | assumption | (constructor <;> omega) | decide), hc13_1]; decide +kernel) (by rw [iZ_toInt (by first | assumption | (constructor <;> omega) | decide), hc13_1]; decide +kernel) (by decide) ?_
        refine lv_aload_n hx hb dX9_pageOf_53 rfl (lv_at hl 0 rfl) ?_
        refine fz_get (D := (dC, dI)) (ci := 1) (v := .ref (h0 + ((113 + (pg).toNat * 15) + 3))) (C := RX1) (T := TX1) (N := 8) hx hb hts inG1 hown hK hP (k := (113 + (pg).toNat * 15)) (by (first | ((try clear hc13_1); (try clear hc13_0); (try clear hg2); (try clear hl2); (try clear hl1); (try clear hμ1); (try clear x); (try clear eμ1); (try clear μ1); (try clear hz9); (try clear h66); (try clear hsz); (try clear hnt); (try clear s₁); omega) | omega)) (F := (sLF h0 (113 + (pg).toNat * 15))) (sE_leafO (show (pg).toNat < 8 by (first | ((try clear hc13_1); (try clear hc13_0); (try clear hg2); (try clear hl2); (try clear hl1); (try clear hμ1); (try clear x); (try clear eμ1); (try clear μ1); (try clear hz9); (try clear h66); (try clear hsz); (try clear hnt); (try clear s₁); omega) | omega)) rfl) rfl 3 (by decide) (hts _ k304) (fun _ h9 => h9) rfl dX9_pageOf_54 ?_
        refine fz_get (D := (dC, dI)) (ci := 4) (v := .int (iZ (μ ((113 + (pg).toNat * 15) + 3) 6))) (C := RX4) (T := TX4) (N := 8) hx hb hts inG4 hown hK hP (k := ((113 + (pg).toNat * 15) + 3)) (by (first | ((try clear hc13_1); (try clear hc13_0); (try clear hg2); (try clear hl2); (try clear hl1); (try clear hμ1); (try clear x); (try clear eμ1); (try clear μ1); (try clear hz9); (try clear h66); (try clear hsz); (try clear hnt); (try clear s₁); omega) | omega)) (F := (sRF h0 ((113 + (pg).toNat * 15) + 3))) (sE_rowO (rowB_L (show (pg).toNat < 8 by (first | ((try clear hc13_1); (try clear hc13_0); (try clear hg2); (try clear hl2); (try clear hl1); (try clear hμ1); (try clear x); (try clear eμ1); (try clear μ1); (try clear hz9); (try clear h66); (try clear hsz); (try clear hnt); (try clear s₁); omega) | omega)) rfl)) rfl 6 (by decide) (hts _ k101) (fun _ h9 => h9) rfl dX9_pageOf_57 ?_
        exact W_widen (Nat.le_of_ble_eq_true rfl) (Nat.le_of_ble_eq_true rfl) (vx_ret (W.iret (v := iZ (μ ((113 + (pg).toNat * 15) + 3) 6)) hx hb hr (fun t9 ht9 hW9 => ⟨⟨iZ (μ ((113 + (pg).toNat * 15) + 3) 6), (μ, μ ((113 + (pg).toNat * 15) + 3) 6), rfl, ⟨rfl, (by
                        dsimp only
                        exact ⟨hI, SZ_rf⟩)⟩, by rw [ht9]; exact hP, va_K.moved hW9.alike hK⟩, hS.F ht9⟩) hS.2.2 dX9_pageOf_60))
      · skip
        by_cases hc13_2 : wh = 2
        · refine lv_tableIn (tgt := 61) (off := 48) hx hb dX9_pageOf_13 (by rw [iZ_toInt (by first | assumption | (constructor <;> omega) | decide), hc13_2]; decide +kernel) (by rw [iZ_toInt (by first | assumption | (constructor <;> omega) | decide), hc13_2]; decide +kernel) (by rw [iZ_toInt (by first | assumption | (constructor <;> omega) | decide), hc13_2]; decide +kernel) (by decide) ?_
          refine lv_aload_n hx hb dX9_pageOf_61 rfl (lv_at hl 0 rfl) ?_
          refine fz_get (D := (dC, dI)) (ci := 1) (v := .ref (h0 + ((113 + (pg).toNat * 15) + 3))) (C := RX1) (T := TX1) (N := 8) hx hb hts inG1 hown hK hP (k := (113 + (pg).toNat * 15)) (by (first | ((try clear hc13_2); (try clear hc13_1); (try clear hc13_0); (try clear hg2); (try clear hl2); (try clear hl1); (try clear hμ1); (try clear x); (try clear eμ1); (try clear μ1); (try clear hz9); (try clear h66); (try clear hsz); (try clear hnt); (try clear s₁); omega) | omega)) (F := (sLF h0 (113 + (pg).toNat * 15))) (sE_leafO (show (pg).toNat < 8 by (first | ((try clear hc13_2); (try clear hc13_1); (try clear hc13_0); (try clear hg2); (try clear hl2); (try clear hl1); (try clear hμ1); (try clear x); (try clear eμ1); (try clear μ1); (try clear hz9); (try clear h66); (try clear hsz); (try clear hnt); (try clear s₁); omega) | omega)) rfl) rfl 3 (by decide) (hts _ k304) (fun _ h9 => h9) rfl dX9_pageOf_62 ?_
          refine va_calli (va_runV (As := []) (rest := []) ⟨hx, hb, hml, hown, hts⟩ (s_Rsize l dC dI cI cZ cII cIII h0 H.size μ (((113 + (pg).toNat * 15) + 3)) (96) ((rowB_L (show (pg).toNat < 8 by (first | ((try clear hc13_2); (try clear hc13_1); (try clear hc13_0); (try clear hg2); (try clear hl2); (try clear hl1); (try clear hμ1); (try clear x); (try clear eμ1); (try clear μ1); (try clear hz9); (try clear h66); (try clear hsz); (try clear hnt); (try clear s₁); omega) | omega)) rfl)) (by exact rG_len hg2)) (cwV 0 hts (gV_G k513 k514 k515 k3 k516) rfl rfl rfl (by decide +kernel) ⟨Nat.le_of_ble_eq_true rfl, Nat.le_of_ble_eq_true rfl⟩) ⟨fun a U g mk q => by obtain ⟨q0, q1, qP, qK, qM⟩ := q; exact ⟨q0, q1, qP, va_K.moved (u := U) (U := U.calling g mk a) (Vm.Alike.refl U.vm) qK, qM⟩, va_recv hK hP (ci := 4) (q0 := ((113 + (pg).toNat * 15) + 3)) rfl ((fw_get (by (first | ((try clear q); (try clear mk); (try clear g); (try clear U); (try clear hc13_2); (try clear hc13_1); (try clear hc13_0); (try clear hg2); (try clear hl2); (try clear hl1); (try clear hμ1); (try clear x); (try clear eμ1); (try clear μ1); (try clear hz9); (try clear h66); (try clear hsz); (try clear hnt); (try clear s₁); omega) | omega))).trans (by rw [(sE_rowO (rowB_L (show (pg).toNat < 8 by (first | ((try clear q); (try clear mk); (try clear g); (try clear U); (try clear hc13_2); (try clear hc13_1); (try clear hc13_0); (try clear hg2); (try clear hl2); (try clear hl1); (try clear hμ1); (try clear x); (try clear eμ1); (try clear μ1); (try clear hz9); (try clear h66); (try clear hsz); (try clear hnt); (try clear s₁); omega) | omega)) rfl))])), fun U hU hW => ⟨rfl, by rw [hU], by rw [hU]; exact hP, va_K.moved hW.alike hK, xM_warm hW hM⟩⟩ rfl rfl hl.1 rfl (lv_room (Nat.le_of_ble_eq_true rfl)) dX9_pageOf_65 ⟨Nat.le_of_ble_eq_true rfl, Nat.le_of_ble_eq_true rfl⟩) hS (fun q _ h => fA_le hS.1 q h) (fA_le hS.1) (fun r9 u9 t9 H1 locs ht9 hvm9 hw9 hB9 hz9 hk9 hS => ?_)
          obtain ⟨μ2, r3⟩ := u9
          obtain ⟨hP, -⟩ := hB9
          rw [ht9] at hP
          generalize H1 = H at hP hS ⊢
          obtain ⟨e9, hw9⟩ := hw9
          have e9 : r9 = iZ r3 := e9
          subst e9
          simp only at hP hw9
          have hμ2 := hw9; clear hw9
          rw [hμ2.1] at hP; have hμ2 := hμ2.2
          exact W_widen (Nat.le_of_ble_eq_true rfl) (Nat.le_of_ble_eq_true rfl) (vx_ret (W.iret (v := iZ (r3)) hx hb hr (fun t9 ht9 hW9 => ⟨⟨iZ (r3), (μ, r3), rfl, ⟨rfl, (by
                            dsimp only
                            exact ⟨hI, SZ_rf⟩)⟩, by rw [ht9]; exact hP, va_K.moved hW9.alike hK⟩, hS.F ht9⟩) hS.2.2 dX9_pageOf_68))
        · skip
          by_cases hc13_3 : wh = 3
          · refine lv_tableIn (tgt := 69) (off := 56) hx hb dX9_pageOf_13 (by rw [iZ_toInt (by first | assumption | (constructor <;> omega) | decide), hc13_3]; decide +kernel) (by rw [iZ_toInt (by first | assumption | (constructor <;> omega) | decide), hc13_3]; decide +kernel) (by rw [iZ_toInt (by first | assumption | (constructor <;> omega) | decide), hc13_3]; decide +kernel) (by decide) ?_
            refine lv_aload_n hx hb dX9_pageOf_69 rfl (lv_at hl 0 rfl) ?_
            refine fz_get (D := (dC, dI)) (ci := 1) (v := .ref (h0 + ((113 + (pg).toNat * 15) + 3))) (C := RX1) (T := TX1) (N := 8) hx hb hts inG1 hown hK hP (k := (113 + (pg).toNat * 15)) (by (first | ((try clear hc13_3); (try clear hc13_2); (try clear hc13_1); (try clear hc13_0); (try clear hg2); (try clear hl2); (try clear hl1); (try clear hμ1); (try clear x); (try clear eμ1); (try clear μ1); (try clear hz9); (try clear h66); (try clear hsz); (try clear hnt); (try clear s₁); omega) | omega)) (F := (sLF h0 (113 + (pg).toNat * 15))) (sE_leafO (show (pg).toNat < 8 by (first | ((try clear hc13_3); (try clear hc13_2); (try clear hc13_1); (try clear hc13_0); (try clear hg2); (try clear hl2); (try clear hl1); (try clear hμ1); (try clear x); (try clear eμ1); (try clear μ1); (try clear hz9); (try clear h66); (try clear hsz); (try clear hnt); (try clear s₁); omega) | omega)) rfl) rfl 3 (by decide) (hts _ k304) (fun _ h9 => h9) rfl dX9_pageOf_70 ?_
            refine lv_sipush (v := iZ 514) hx hb dX9_pageOf_73 rfl ?_
            refine va_calli (va_runV (As := [.int (iZ (514))]) (rest := []) ⟨hx, hb, hml, hown, hts⟩ (s_RcountOf l dC dI cI cZ cII cIII h0 H.size μ (((113 + (pg).toNat * 15) + 3)) (96) (514) ((rowB_L (show (pg).toNat < 8 by (first | ((try clear hc13_3); (try clear hc13_2); (try clear hc13_1); (try clear hc13_0); (try clear hg2); (try clear hl2); (try clear hl1); (try clear hμ1); (try clear x); (try clear eμ1); (try clear μ1); (try clear hz9); (try clear h66); (try clear hsz); (try clear hnt); (try clear s₁); omega) | omega)) rfl)) (by exact rG_len hg2) (by exact hg2.1) (by constructor <;> decide)) (cwV 1 hts (gV_G k856 k857 k858 k3 k859) rfl rfl rfl (by decide +kernel) ⟨Nat.le_of_ble_eq_true rfl, Nat.le_of_ble_eq_true rfl⟩) ⟨fun a U g mk q => by obtain ⟨q0, q1, qP, qK, qM⟩ := q; exact ⟨q0, q1, qP, va_K.moved (u := U) (U := U.calling g mk a) (Vm.Alike.refl U.vm) qK, qM⟩, va_recv hK hP (ci := 4) (q0 := ((113 + (pg).toNat * 15) + 3)) rfl ((fw_get (by (first | ((try clear q); (try clear mk); (try clear g); (try clear U); (try clear hc13_3); (try clear hc13_2); (try clear hc13_1); (try clear hc13_0); (try clear hg2); (try clear hl2); (try clear hl1); (try clear hμ1); (try clear x); (try clear eμ1); (try clear μ1); (try clear hz9); (try clear h66); (try clear hsz); (try clear hnt); (try clear s₁); omega) | omega))).trans (by rw [(sE_rowO (rowB_L (show (pg).toNat < 8 by (first | ((try clear q); (try clear mk); (try clear g); (try clear U); (try clear hc13_3); (try clear hc13_2); (try clear hc13_1); (try clear hc13_0); (try clear hg2); (try clear hl2); (try clear hl1); (try clear hμ1); (try clear x); (try clear eμ1); (try clear μ1); (try clear hz9); (try clear h66); (try clear hsz); (try clear hnt); (try clear s₁); omega) | omega)) rfl))])), fun U hU hW => ⟨rfl, by rw [hU], by rw [hU]; exact hP, va_K.moved hW.alike hK, xM_warm hW hM⟩⟩ rfl rfl hl.1 rfl (lv_room (Nat.le_of_ble_eq_true rfl)) dX9_pageOf_76 ⟨Nat.le_of_ble_eq_true rfl, Nat.le_of_ble_eq_true rfl⟩) hS (fun q _ h => fA_le hS.1 q h) (fA_le hS.1) (fun r9 u9 t9 H1 locs ht9 hvm9 hw9 hB9 hz9 hk9 hS => ?_)
            obtain ⟨μ4, r5⟩ := u9
            obtain ⟨hP, -⟩ := hB9
            rw [ht9] at hP
            generalize H1 = H at hP hS ⊢
            obtain ⟨e9, hw9⟩ := hw9
            have e9 : r9 = iZ r5 := e9
            subst e9
            simp only at hP hw9
            have hμ4 := hw9; clear hw9
            rw [hμ4.1] at hP; have hμ4 := hμ4.2
            exact W_widen (Nat.le_of_ble_eq_true rfl) (Nat.le_of_ble_eq_true rfl) (vx_ret (W.iret (v := iZ (r5)) hx hb hr (fun t9 ht9 hW9 => ⟨⟨iZ (r5), (μ, r5), rfl, ⟨rfl, (by
                                dsimp only
                                exact ⟨hI, SZ_rf⟩)⟩, by rw [ht9]; exact hP, va_K.moved hW9.alike hK⟩, hS.F ht9⟩) hS.2.2 dX9_pageOf_79))
          · skip
            by_cases hc13_4 : wh = 4
            · refine lv_tableIn (tgt := 80) (off := 67) hx hb dX9_pageOf_13 (by rw [iZ_toInt (by first | assumption | (constructor <;> omega) | decide), hc13_4]; decide +kernel) (by rw [iZ_toInt (by first | assumption | (constructor <;> omega) | decide), hc13_4]; decide +kernel) (by rw [iZ_toInt (by first | assumption | (constructor <;> omega) | decide), hc13_4]; decide +kernel) (by decide) ?_
              refine lv_aload_n hx hb dX9_pageOf_80 rfl (lv_at hl 0 rfl) ?_
              refine fz_get (D := (dC, dI)) (ci := 1) (v := .ref (h0 + ((113 + (pg).toNat * 15) + 3))) (C := RX1) (T := TX1) (N := 8) hx hb hts inG1 hown hK hP (k := (113 + (pg).toNat * 15)) (by (first | ((try clear hc13_4); (try clear hc13_3); (try clear hc13_2); (try clear hc13_1); (try clear hc13_0); (try clear hg2); (try clear hl2); (try clear hl1); (try clear hμ1); (try clear x); (try clear eμ1); (try clear μ1); (try clear hz9); (try clear h66); (try clear hsz); (try clear hnt); (try clear s₁); omega) | omega)) (F := (sLF h0 (113 + (pg).toNat * 15))) (sE_leafO (show (pg).toNat < 8 by (first | ((try clear hc13_4); (try clear hc13_3); (try clear hc13_2); (try clear hc13_1); (try clear hc13_0); (try clear hg2); (try clear hl2); (try clear hl1); (try clear hμ1); (try clear x); (try clear eμ1); (try clear μ1); (try clear hz9); (try clear h66); (try clear hsz); (try clear hnt); (try clear s₁); omega) | omega)) rfl) rfl 3 (by decide) (hts _ k304) (fun _ h9 => h9) rfl dX9_pageOf_81 ?_
              refine va_calli (va_runV (As := []) (rest := []) ⟨hx, hb, hml, hown, hts⟩ (s_RdeepestRepeat l dC dI cI cZ cII cIII h0 H.size μ (((113 + (pg).toNat * 15) + 3)) (96) ((rowB_L (show (pg).toNat < 8 by (first | ((try clear hc13_4); (try clear hc13_3); (try clear hc13_2); (try clear hc13_1); (try clear hc13_0); (try clear hg2); (try clear hl2); (try clear hl1); (try clear hμ1); (try clear x); (try clear eμ1); (try clear μ1); (try clear hz9); (try clear h66); (try clear hsz); (try clear hnt); (try clear s₁); omega) | omega)) rfl)) (by exact hg2)) (cwV 0 hts (gV_G k867 k868 k869 k3 k870) rfl rfl rfl (by decide +kernel) ⟨Nat.le_of_ble_eq_true rfl, Nat.le_of_ble_eq_true rfl⟩) ⟨fun a U g mk q => by obtain ⟨q0, q1, qP, qK, qM⟩ := q; exact ⟨q0, q1, qP, va_K.moved (u := U) (U := U.calling g mk a) (Vm.Alike.refl U.vm) qK, qM⟩, va_recv hK hP (ci := 4) (q0 := ((113 + (pg).toNat * 15) + 3)) rfl ((fw_get (by (first | ((try clear q); (try clear mk); (try clear g); (try clear U); (try clear hc13_4); (try clear hc13_3); (try clear hc13_2); (try clear hc13_1); (try clear hc13_0); (try clear hg2); (try clear hl2); (try clear hl1); (try clear hμ1); (try clear x); (try clear eμ1); (try clear μ1); (try clear hz9); (try clear h66); (try clear hsz); (try clear hnt); (try clear s₁); omega) | omega))).trans (by rw [(sE_rowO (rowB_L (show (pg).toNat < 8 by (first | ((try clear q); (try clear mk); (try clear g); (try clear U); (try clear hc13_4); (try clear hc13_3); (try clear hc13_2); (try clear hc13_1); (try clear hc13_0); (try clear hg2); (try clear hl2); (try clear hl1); (try clear hμ1); (try clear x); (try clear eμ1); (try clear μ1); (try clear hz9); (try clear h66); (try clear hsz); (try clear hnt); (try clear s₁); omega) | omega)) rfl))])), fun U hU hW => ⟨rfl, by rw [hU], by rw [hU]; exact hP, va_K.moved hW.alike hK, xM_warm hW hM⟩⟩ rfl rfl hl.1 rfl (lv_room (Nat.le_of_ble_eq_true rfl)) dX9_pageOf_84 ⟨Nat.le_of_ble_eq_true rfl, Nat.le_of_ble_eq_true rfl⟩) hS (fun q _ h => fA_le hS.1 q h) (fA_le hS.1) (fun r9 u9 t9 H1 locs ht9 hvm9 hw9 hB9 hz9 hk9 hS => ?_)
              obtain ⟨μ6, r7⟩ := u9
              obtain ⟨hP, -⟩ := hB9
              rw [ht9] at hP
              generalize H1 = H at hP hS ⊢
              obtain ⟨e9, hw9⟩ := hw9
              have e9 : r9 = iZ r7 := e9
              subst e9
              simp only at hP hw9
              have hμ6 := hw9; clear hw9
              rw [hμ6] at hP
              exact W_widen (Nat.le_of_ble_eq_true rfl) (Nat.le_of_ble_eq_true rfl) (vx_ret (W.iret (v := iZ (r7)) hx hb hr (fun t9 ht9 hW9 => ⟨⟨iZ (r7), (μ, r7), rfl, ⟨rfl, (by
                                    dsimp only
                                    exact ⟨hI, SZ_rf⟩)⟩, by rw [ht9]; exact hP, va_K.moved hW9.alike hK⟩, hS.F ht9⟩) hS.2.2 dX9_pageOf_87))
            · skip
              refine lv_tableOut (tgt := 88) hx hb dX9_pageOf_13 (by rw [iZ_toInt (by first | assumption | (constructor <;> omega) | decide)]; (first | ((try clear hg2); (try clear hl2); (try clear hl1); (try clear hμ1); (try clear x); (try clear eμ1); (try clear μ1); (try clear hz9); (try clear hn2_); (try clear h66); (try clear hlc); (try clear hsz); (try clear hnt); (try clear s₁); omega) | omega)) (by decide) ?_
              refine lv_aload_n hx hb dX9_pageOf_88 rfl (lv_at hl 1 rfl) ?_
              refine lv_iconst (v := iZ 0) hx hb dX9_pageOf_89 rfl ?_
              refine vx_callv (vx_runV (As := [.int (iZ (0))]) (rest := []) ⟨hx, hb, hml, hown, hts⟩ (x_needArgument l hfl dC dI cI cZ cII cIII h0 H.size μ  ) (cwV 1 hts (gV_G k596 k598 ks_yX9_needArgument k1 k599) rfl rfl rfl (by decide +kernel) ⟨Nat.le_of_ble_eq_true rfl, Nat.le_of_ble_eq_true rfl⟩) ⟨fun a U g mk q => by obtain ⟨q0, q1, qP, qK, qM, qE⟩ := q; exact ⟨q0, q1, qP, va_K.moved (u := U) (U := U.calling g mk a) (Vm.Alike.refl U.vm) qK, qM, xX_call qE⟩, va_recv hK hP (ci := 9) (q0 := 0) rfl ((fw_get (by decide)).trans (by rw [sE_0]; rfl)), fun U hU hW => ⟨rfl, by rw [hU], by rw [hU]; exact hP, va_K.moved hW.alike hK, xM_warm hW hM, xX_at hEx hS (fun q h => fA_le hS.1 q h) hU hW⟩⟩ rfl rfl hl.1 rfl (lv_room (Nat.le_of_ble_eq_true rfl)) dX9_pageOf_90 ⟨Nat.le_of_ble_eq_true rfl, Nat.le_of_ble_eq_true rfl⟩) hS (fun q _ h => fA_le hS.1 q h) (fA_le hS.1) (fun q _ h => fA_le hS.1 q h) (fun E9 ce9 q9 u9 t9 H1 locs ht9 hvm9 hpx9 hBX9 hz9 hk9 hS hce9 hcv9 hcl9 => ?_) (fun u9 t9 H1 locs ht9 hvm9 hw9 hB9 hz9 hk9 hS => hw9.elim)
              obtain ⟨hE9, hP9, hK9⟩ := hBX9
              exact vx_out (fun x hx9 => (hnt x hx9).elim) hlocks hce9 hcv9 hcl9 (fun t8 ht8 hW8 => ⟨u9, (by
                                    show CI T u9 ∧ SZ μ u9
                                    exact CZ_thr hI hpx9), ⟨(show ∀ z ∈ (["java/lang/IllegalArgumentException"] : List String), z ∈ (["java/util/NoSuchElementException", "java/lang/IllegalArgumentException"] : List String) by decide +kernel) E9 hE9, by rw [ht8, ← ht9]; exact hP9, va_K.moved hW8 hK⟩, hS.F ht8⟩) hS.2.2 (Nat.le_of_ble_eq_true rfl) (Nat.le_of_ble_eq_true rfl)
  · refine vx_callv (vx_runV (As := [.int (iZ (pg))]) (rest := []) ⟨hx, hb, hml, hown, hts⟩ (x_needPage l hfl dC dI cI cZ cII cIII h0 s.heap.size μ (pg) (by first | assumption | omega | exact CI_lc hI | exact CI_cn hI | exact (CI_n6 hI).1 | decide) (by first | assumption | omega | exact CI_lc hI | exact CI_cn hI | exact (CI_n6 hI).1 | decide) (hn2_)) (cwV 1 hts (gV_G k735 k737 ks_yX9_needPage k1 k738) rfl rfl rfl (by decide +kernel) ⟨Nat.le_of_ble_eq_true rfl, Nat.le_of_ble_eq_true rfl⟩) ⟨fun a U g mk q => by obtain ⟨q0, q1, qP, qK, qM, qE⟩ := q; exact ⟨q0, q1, qP, va_K.moved (u := U) (U := U.calling g mk a) (Vm.Alike.refl U.vm) qK, qM, xX_call qE⟩, va_recv hK hP (ci := 9) (q0 := 0) rfl ((fw_get (by decide)).trans (by rw [sE_0]; rfl)), fun U hU hW => ⟨rfl, by rw [hU], by rw [hU]; exact hP, va_K.moved hW.alike hK, xM_warm hW hM, xX_at hEx hS (fun q h => fA_le hS.1 q h) hU hW⟩⟩ rfl rfl hl.1 rfl (lv_room (Nat.le_of_ble_eq_true rfl)) dX9_pageOf_2 ⟨Nat.le_of_ble_eq_true rfl, Nat.le_of_ble_eq_true rfl⟩) hS (fun q _ h => fA_le hS.1 q h) (fA_le hS.1) (fun q _ h => fA_le hS.1 q h) (fun E9 ce9 q9 u9 t9 H1 locs ht9 hvm9 hpx9 hBX9 hz9 hk9 hS hce9 hcv9 hcl9 => ?_) (fun u9 t9 H1 locs ht9 hvm9 hw9 hB9 hz9 hk9 hS => hw9.elim)
    obtain ⟨hE9, hP9, hK9⟩ := hBX9
    exact vx_out (fun x hx9 => (hnt x hx9).elim) hlocks hce9 hcv9 hcl9 (fun t8 ht8 hW8 => ⟨u9, (by
                show CI T u9 ∧ SZ μ u9
                exact CZ_thr hI hpx9), ⟨(show ∀ z ∈ (["java/util/NoSuchElementException"] : List String), z ∈ (["java/util/NoSuchElementException", "java/lang/IllegalArgumentException"] : List String) by decide +kernel) E9 hE9, by rw [ht8, ← ht9]; exact hP9, va_K.moved hW8 hK⟩, hS.F ht8⟩) hS.2.2 (Nat.le_of_ble_eq_true rfl) (Nat.le_of_ble_eq_true rfl)
set_option maxHeartbeats 4000000 in
set_option maxRecDepth 100000 in
theorem q_token (l : Launch) (hfl : l.stackTraces = false) (dC : Nat → ClassId) (dI : Nat → Nat → Nat) (cI cZ cII cIII : ClassId) (h0 sz : Nat) (μ : va_M) (pg : Int) (kn : Int) (T : List Tk) (hI : CI T μ) (h_pg : inR pg) (h_kn : inR kn) : vx_Met l yX9_token (Cond.code yX9_token cX9_token 3 (some .int) :: wsG) ({ frames := 9, cells := 1, slots := 6, locals := 153 } : Room) (va_Pc [.ref h0, .int (iZ (pg)), .int (iZ (kn))] (fun U => U.heap.size = sz ∧ va_P (dC, dI) vwCl (fw (sE cI cZ cII cIII h0) h0 233 μ) U.heap ∧ va_K (dC, dI) vwCl (sT cI cZ cII cIII) U ∧ xM U ∧ xX (fA h0 233 sz) U)) (va_Qi (fun (r9 : Int32) (u : va_M × Int) => r9 = iZ u.2 ∧ (fun (u : va_M) (r : Int) => CI T u ∧ SZ μ u) u.1 u.2) (fun u t => va_P (dC, dI) vwCl (fw (sE cI cZ cII cIII h0) h0 233 u.1) t.heap ∧ va_K (dC, dI) vwCl (sT cI cZ cII cIII) t) (fA h0 233 sz)) (vx_X (fun (u : va_M) => CI T u ∧ SZ μ u) (fun E u t => E ∈ (["java/util/NoSuchElementException"] : List String) ∧ va_P (dC, dI) vwCl (fw (sE cI cZ cII cIII h0) h0 233 u) t.heap ∧ va_K (dC, dI) vwCl (sT cI cZ cII cIII) t) (fA h0 233 sz)) 1 6 (fA h0 233 sz) := by
  refine vx_ofW (cc := cX9_token) (maxL := 3) (ret := (some .int)) (by decide) rfl ?_
  intro p e s m args below meth c s₁ B hml hnt hv
  obtain ⟨rfl, hsz, hP, hK, hM, hEx⟩ := hv
  have hx := B.exec
  have hb := B.bytes
  have hr := B.returns
  have hts : ∀ w ∈ wsG, w.before _ s = true := hG_of (atoms_spec (ws := (Cond.code yX9_token cX9_token 3 (some .int) :: wsG)) B.pre)
  have hown : s.vm.findClass RX9 = some m.cls := findClass_of_methodNamed B.named
  have hlocks := B.notSynchronized
  subst hsz
  have hS : va_S (fA h0 233 s.heap.size) s.heap s.heap [] := va_S.rf
  have hl := lv_entry ([.ref h0, .int (iZ (pg)), .int (iZ (kn))]) (n := 3) (Nat.le_of_ble_eq_true rfl)
  rw [lg_entry_eq]
  generalize (lg_sl ([.ref h0, .int (iZ (pg)), .int (iZ (kn))]) ++ List.replicate (3 - (lg_sl ([.ref h0, .int (iZ (pg)), .int (iZ (kn))])).length) Slot.unset).toArray = ls at hl ⊢
  have hl : lv_has ls 3 [(0, .ref h0), (1, .int (iZ (pg))), (2, .int (iZ (kn)))] := hl
  have hlc := CI_lc hI
  have h66 := CI_n6 hI
  refine lv_aload_n hx hb dX9_token_0 rfl (lv_at hl 0 rfl) ?_
  refine lv_iload_n hx hb dX9_token_1 rfl (lv_at hl 1 rfl) ?_
  refine lv_iload_n hx hb dX9_token_2 rfl (lv_at hl 2 rfl) ?_
  by_cases hn3_ : (0 ≤ pg ∧ pg < μ 0 2) ∧ 0 ≤ kn ∧ kn < μ (113 + (pg).toNat * 15) 2
  · refine va_callv (va_runV (As := [.int (iZ (pg)), .int (iZ (kn))]) (rest := []) ⟨hx, hb, hml, hown, hts⟩ (s_needPlace l dC dI cI cZ cII cIII h0 s.heap.size μ (pg) (kn) (by first | assumption | omega | exact CI_lc hI | exact CI_cn hI | exact (CI_n6 hI).1 | decide) (by first | assumption | omega | exact CI_lc hI | exact CI_cn hI | exact (CI_n6 hI).1 | decide) (by first | assumption | omega | exact CI_lc hI | exact CI_cn hI | exact (CI_n6 hI).1 | decide) (by first | assumption | omega | exact CI_lc hI | exact CI_cn hI | exact (CI_n6 hI).1 | decide) (by exact hn3_)) (cwV 2 hts (gV_G k878 k880 ks_yX9_needPlace k1 k881) rfl rfl rfl (by decide +kernel) ⟨Nat.le_of_ble_eq_true rfl, Nat.le_of_ble_eq_true rfl⟩) ⟨fun a U g mk q => by obtain ⟨q0, q1, qP, qK, qM⟩ := q; exact ⟨q0, q1, qP, va_K.moved (u := U) (U := U.calling g mk a) (Vm.Alike.refl U.vm) qK, qM⟩, va_recv hK hP (ci := 9) (q0 := 0) rfl ((fw_get (by decide)).trans (by rw [sE_0]; rfl)), fun U hU hW => ⟨rfl, by rw [hU], by rw [hU]; exact hP, va_K.moved hW.alike hK, xM_warm hW hM⟩⟩ rfl rfl hl.1 rfl (lv_room (Nat.le_of_ble_eq_true rfl)) dX9_token_3 ⟨Nat.le_of_ble_eq_true rfl, Nat.le_of_ble_eq_true rfl⟩) hS (fun q _ h => fA_le hS.1 q h) (fA_le hS.1) (fun u9 t9 H1 locs ht9 hvm9 hw9 hB9 hz9 hk9 hS => ?_)
    obtain ⟨hP, -⟩ := hB9
    rw [ht9] at hP
    generalize H1 = H at hP hS ⊢
    obtain ⟨μ1, eμ1⟩ : ∃ x : va_M, x = u9 := ⟨_, rfl⟩
    rw [← eμ1] at hP hw9
    have hμ1 := hw9; clear hw9
    rw [hμ1] at hP
    obtain ⟨hl1, hl2⟩ := CI_lf hI pg (by (first | ((try clear hl2); (try clear hl1); (try clear hμ1); (try clear x); (try clear eμ1); (try clear μ1); (try clear hz9); (try clear h66); (try clear hlc); (try clear hsz); (try clear hnt); (try clear s₁); omega) | omega)) (by (first | ((try clear hl2); (try clear hl1); (try clear hμ1); (try clear x); (try clear eμ1); (try clear μ1); (try clear hz9); (try clear h66); (try clear hsz); (try clear hnt); (try clear s₁); omega) | omega))
    have hn9 := hl1.1.1
    refine lv_aload_n hx hb dX9_token_6 rfl (lv_at hl 0 rfl) ?_
    refine fz_get (D := (dC, dI)) (ci := 9) (v := .ref (h0 + 5)) (C := RX9) (T := TX9) (N := 15) hx hb hts inG9 hown hK hP (k := 0) (by decide) (F := (sF0 h0)) sE_0 rfl 1 (by decide) (hts _ k333) (fun _ h9 => h9) rfl dX9_token_7 ?_
    refine lv_iload_n hx hb dX9_token_10 rfl (lv_at hl 1 rfl) ?_
    refine fz_ald (k := 5) (n := 8) (k2 := (113 + (pg).toNat * 15)) hx hb hK hP 1 rfl (by decide) sE_5 rfl ⟨by (first | ((try clear hn9); (try clear hl2); (try clear hl1); (try clear hμ1); (try clear x); (try clear eμ1); (try clear μ1); (try clear hz9); (try clear h66); (try clear hlc); (try clear hsz); (try clear hnt); (try clear s₁); omega) | omega), by (first | ((try clear hn9); (try clear hl2); (try clear hl1); (try clear hμ1); (try clear x); (try clear eμ1); (try clear μ1); (try clear hz9); (try clear h66); (try clear hsz); (try clear hnt); (try clear s₁); omega) | omega)⟩ (by decide) (if_pos (by (first | ((try clear hn9); (try clear hl2); (try clear hl1); (try clear hμ1); (try clear x); (try clear eμ1); (try clear μ1); (try clear hz9); (try clear h66); (try clear hsz); (try clear hnt); (try clear s₁); omega) | omega))) dX9_token_11 ?_
    refine fz_get (D := (dC, dI)) (ci := 1) (v := .ref (h0 + ((113 + (pg).toNat * 15) + 1))) (C := RX1) (T := TX1) (N := 8) hx hb hts inG1 hown hK hP (k := (113 + (pg).toNat * 15)) (by (first | ((try clear hn9); (try clear hl2); (try clear hl1); (try clear hμ1); (try clear x); (try clear eμ1); (try clear μ1); (try clear hz9); (try clear h66); (try clear hsz); (try clear hnt); (try clear s₁); omega) | omega)) (F := (sLF h0 (113 + (pg).toNat * 15))) (sE_leafO (show (pg).toNat < 8 by (first | ((try clear hn9); (try clear hl2); (try clear hl1); (try clear hμ1); (try clear x); (try clear eμ1); (try clear μ1); (try clear hz9); (try clear h66); (try clear hsz); (try clear hnt); (try clear s₁); omega) | omega)) rfl) rfl 0 (by decide) (hts _ k297) (fun _ h9 => h9) rfl dX9_token_12 ?_
    refine lv_iload_n hx hb dX9_token_15 rfl (lv_at hl 2 rfl) ?_
    refine fz_ld (k := ((113 + (pg).toNat * 15) + 1)) (n := 60) hx hb hK hP 0 (by (first | ((try clear hn9); (try clear hl2); (try clear hl1); (try clear hμ1); (try clear x); (try clear eμ1); (try clear μ1); (try clear hz9); (try clear h66); (try clear hsz); (try clear hnt); (try clear s₁); omega) | omega)) (sE_leafA 1 60 (show (pg).toNat < 8 by (first | ((try clear hn9); (try clear hl2); (try clear hl1); (try clear hμ1); (try clear x); (try clear eμ1); (try clear μ1); (try clear hz9); (try clear h66); (try clear hsz); (try clear hnt); (try clear s₁); omega) | omega)) rfl (by decide)) rfl ⟨by (first | ((try clear hn9); (try clear hl2); (try clear hl1); (try clear hμ1); (try clear x); (try clear eμ1); (try clear μ1); (try clear hz9); (try clear h66); (try clear hlc); (try clear hsz); (try clear hnt); (try clear s₁); omega) | omega), by (first | ((try clear hl2); (try clear hl1); (try clear hμ1); (try clear x); (try clear eμ1); (try clear μ1); (try clear hz9); (try clear h66); (try clear hlc); (try clear hsz); (try clear hnt); (try clear s₁); omega) | omega)⟩ (by decide) dX9_token_16 ?_
    exact W_widen (Nat.le_of_ble_eq_true rfl) (Nat.le_of_ble_eq_true rfl) (vx_ret (W.iret (v := iZ (μ ((113 + (pg).toNat * 15) + 1) (kn).toNat)) hx hb hr (fun t9 ht9 hW9 => ⟨⟨iZ (μ ((113 + (pg).toNat * 15) + 1) (kn).toNat), (μ, μ ((113 + (pg).toNat * 15) + 1) (kn).toNat), rfl, ⟨rfl, (by
                dsimp only
                exact ⟨hI, SZ_rf⟩)⟩, by rw [ht9]; exact hP, va_K.moved hW9.alike hK⟩, hS.F ht9⟩) hS.2.2 dX9_token_17))
  · refine vx_callv (vx_runV (As := [.int (iZ (pg)), .int (iZ (kn))]) (rest := []) ⟨hx, hb, hml, hown, hts⟩ (x_needPlace l hfl dC dI cI cZ cII cIII h0 s.heap.size μ (pg) (kn) (by first | assumption | omega | exact CI_lc hI | exact CI_cn hI | exact (CI_n6 hI).1 | decide) (by first | assumption | omega | exact CI_lc hI | exact CI_cn hI | exact (CI_n6 hI).1 | decide) (by first | assumption | omega | exact CI_lc hI | exact CI_cn hI | exact (CI_n6 hI).1 | decide) (by first | assumption | omega | exact CI_lc hI | exact CI_cn hI | exact (CI_n6 hI).1 | decide) (hn3_)) (cwV 2 hts (gV_G k878 k880 ks_yX9_needPlace k1 k881) rfl rfl rfl (by decide +kernel) ⟨Nat.le_of_ble_eq_true rfl, Nat.le_of_ble_eq_true rfl⟩) ⟨fun a U g mk q => by obtain ⟨q0, q1, qP, qK, qM, qE⟩ := q; exact ⟨q0, q1, qP, va_K.moved (u := U) (U := U.calling g mk a) (Vm.Alike.refl U.vm) qK, qM, xX_call qE⟩, va_recv hK hP (ci := 9) (q0 := 0) rfl ((fw_get (by decide)).trans (by rw [sE_0]; rfl)), fun U hU hW => ⟨rfl, by rw [hU], by rw [hU]; exact hP, va_K.moved hW.alike hK, xM_warm hW hM, xX_at hEx hS (fun q h => fA_le hS.1 q h) hU hW⟩⟩ rfl rfl hl.1 rfl (lv_room (Nat.le_of_ble_eq_true rfl)) dX9_token_3 ⟨Nat.le_of_ble_eq_true rfl, Nat.le_of_ble_eq_true rfl⟩) hS (fun q _ h => fA_le hS.1 q h) (fA_le hS.1) (fun q _ h => fA_le hS.1 q h) (fun E9 ce9 q9 u9 t9 H1 locs ht9 hvm9 hpx9 hBX9 hz9 hk9 hS hce9 hcv9 hcl9 => ?_) (fun u9 t9 H1 locs ht9 hvm9 hw9 hB9 hz9 hk9 hS => hw9.elim)
    obtain ⟨hE9, hP9, hK9⟩ := hBX9
    exact vx_out (fun x hx9 => (hnt x hx9).elim) hlocks hce9 hcv9 hcl9 (fun t8 ht8 hW8 => ⟨u9, (by
                show CI T u9 ∧ SZ μ u9
                exact CZ_thr hI hpx9), ⟨hE9, by rw [ht8, ← ht9]; exact hP9, va_K.moved hW8 hK⟩, hS.F ht8⟩) hS.2.2 (Nat.le_of_ble_eq_true rfl) (Nat.le_of_ble_eq_true rfl)
set_option maxHeartbeats 4000000 in
set_option maxRecDepth 100000 in
theorem q_node (l : Launch) (hfl : l.stackTraces = false) (dC : Nat → ClassId) (dI : Nat → Nat → Nat) (cI cZ cII cIII : ClassId) (h0 sz : Nat) (μ : va_M) (nd : Int) (wh : Int) (T : List Tk) (hI : CI T μ) (h_nd : inR nd) (h_wh : inR wh) : vx_Met l yX9_node (Cond.code yX9_node cX9_node 3 (some .int) :: wsG) ({ frames := 8, cells := 1, slots := 6, locals := 132 } : Room) (va_Pc [.ref h0, .int (iZ (nd)), .int (iZ (wh))] (fun U => U.heap.size = sz ∧ va_P (dC, dI) vwCl (fw (sE cI cZ cII cIII h0) h0 233 μ) U.heap ∧ va_K (dC, dI) vwCl (sT cI cZ cII cIII) U ∧ xM U ∧ xX (fA h0 233 sz) U)) (va_Qi (fun (r9 : Int32) (u : va_M × Int) => r9 = iZ u.2 ∧ (fun (u : va_M) (r : Int) => CI T u ∧ SZ μ u) u.1 u.2) (fun u t => va_P (dC, dI) vwCl (fw (sE cI cZ cII cIII h0) h0 233 u.1) t.heap ∧ va_K (dC, dI) vwCl (sT cI cZ cII cIII) t) (fA h0 233 sz)) (vx_X (fun (u : va_M) => CI T u ∧ SZ μ u) (fun E u t => E ∈ (["java/util/NoSuchElementException", "java/lang/IllegalArgumentException"] : List String) ∧ va_P (dC, dI) vwCl (fw (sE cI cZ cII cIII h0) h0 233 u) t.heap ∧ va_K (dC, dI) vwCl (sT cI cZ cII cIII) t) (fA h0 233 sz)) 1 6 (fA h0 233 sz) := by
  refine vx_ofW (cc := cX9_node) (maxL := 3) (ret := (some .int)) (by decide) rfl ?_
  intro p e s m args below meth c s₁ B hml hnt hv
  obtain ⟨rfl, hsz, hP, hK, hM, hEx⟩ := hv
  have hx := B.exec
  have hb := B.bytes
  have hr := B.returns
  have hts : ∀ w ∈ wsG, w.before _ s = true := hG_of (atoms_spec (ws := (Cond.code yX9_node cX9_node 3 (some .int) :: wsG)) B.pre)
  have hown : s.vm.findClass RX9 = some m.cls := findClass_of_methodNamed B.named
  have hlocks := B.notSynchronized
  subst hsz
  have hS : va_S (fA h0 233 s.heap.size) s.heap s.heap [] := va_S.rf
  have hl := lv_entry ([.ref h0, .int (iZ (nd)), .int (iZ (wh))]) (n := 3) (Nat.le_of_ble_eq_true rfl)
  rw [lg_entry_eq]
  generalize (lg_sl ([.ref h0, .int (iZ (nd)), .int (iZ (wh))]) ++ List.replicate (3 - (lg_sl ([.ref h0, .int (iZ (nd)), .int (iZ (wh))])).length) Slot.unset).toArray = ls at hl ⊢
  have hl : lv_has ls 3 [(0, .ref h0), (1, .int (iZ (nd))), (2, .int (iZ (wh)))] := hl
  have hlc := CI_lc hI
  have h66 := CI_n6 hI
  refine lv_aload_n hx hb dX9_node_0 rfl (lv_at hl 0 rfl) ?_
  refine lv_aload_n hx hb dX9_node_1 rfl (lv_at hl 0 rfl) ?_
  refine fz_get (D := (dC, dI)) (ci := 9) (v := .ref (h0 + 6)) (C := RX9) (T := TX9) (N := 15) hx hb hts inG9 hown hK hP (k := 0) (by decide) (F := (sF0 h0)) sE_0 rfl 3 (by decide) (hts _ k335) (fun _ h9 => h9) rfl dX9_node_2 ?_
  refine lv_iload_n hx hb dX9_node_5 rfl (lv_at hl 1 rfl) ?_
  by_cases hn6_ : 0 ≤ nd ∧ nd < μ 6 6
  · refine va_callv (va_runV (As := [.ref (h0 + 6), .int (iZ (nd))]) (rest := []) ⟨hx, hb, hml, hown, hts⟩ (s_needNode l dC dI cI cZ cII cIII h0 s.heap.size μ (6) (1100) (nd) (rowB_6) (by first | assumption | omega | exact CI_lc hI | exact CI_cn hI | exact (CI_n6 hI).1 | decide) (by first | assumption | (first | ((try clear hn6_); (try clear hlc); (try clear hsz); (try clear hnt); (try clear s₁); omega) | omega) | exact CI_lc hI | exact CI_cn hI | exact (CI_n6 hI).1 | decide) (by exact hn6_)) (cwV 2 hts (gV_G k914 k916 ks_yX9_needNode k1 k917) rfl rfl rfl (by decide +kernel) ⟨Nat.le_of_ble_eq_true rfl, Nat.le_of_ble_eq_true rfl⟩) ⟨fun a U g mk q => by obtain ⟨q0, q1, qP, qK, qM⟩ := q; exact ⟨q0, q1, qP, va_K.moved (u := U) (U := U.calling g mk a) (Vm.Alike.refl U.vm) qK, qM⟩, va_recv hK hP (ci := 9) (q0 := 0) rfl ((fw_get (by decide)).trans (by rw [sE_0]; rfl)), fun U hU hW => ⟨rfl, by rw [hU], by rw [hU]; exact hP, va_K.moved hW.alike hK, xM_warm hW hM⟩⟩ rfl rfl hl.1 rfl (lv_room (Nat.le_of_ble_eq_true rfl)) dX9_node_6 ⟨Nat.le_of_ble_eq_true rfl, Nat.le_of_ble_eq_true rfl⟩) hS (fun q _ h => fA_le hS.1 q h) (fA_le hS.1) (fun u9 t9 H1 locs ht9 hvm9 hw9 hB9 hz9 hk9 hS => ?_)
    obtain ⟨hP, -⟩ := hB9
    rw [ht9] at hP
    generalize H1 = H at hP hS ⊢
    obtain ⟨μ1, eμ1⟩ : ∃ x : va_M, x = u9 := ⟨_, rfl⟩
    rw [← eμ1] at hP hw9
    have hμ1 := hw9; clear hw9
    rw [hμ1] at hP
    refine lv_aload_n hx hb dX9_node_9 rfl (lv_at hl 0 rfl) ?_
    refine lv_iload_n hx hb dX9_node_10 rfl (lv_at hl 2 rfl) ?_
    refine fz_if_lt (tgt := 23) (by first | assumption | (constructor <;> omega) | decide) hx hb dX9_node_11 (by decide) (fun c11_ => ?_) (fun c11_ => ?_)
    · refine lv_iconst (v := iZ 0) hx hb dX9_node_23 rfl ?_
      refine vx_callv (vx_runV (As := [.int (iZ (0))]) (rest := []) ⟨hx, hb, hml, hown, hts⟩ (x_needArgument l hfl dC dI cI cZ cII cIII h0 H.size μ  ) (cwV 1 hts (gV_G k596 k598 ks_yX9_needArgument k1 k599) rfl rfl rfl (by decide +kernel) ⟨Nat.le_of_ble_eq_true rfl, Nat.le_of_ble_eq_true rfl⟩) ⟨fun a U g mk q => by obtain ⟨q0, q1, qP, qK, qM, qE⟩ := q; exact ⟨q0, q1, qP, va_K.moved (u := U) (U := U.calling g mk a) (Vm.Alike.refl U.vm) qK, qM, xX_call qE⟩, va_recv hK hP (ci := 9) (q0 := 0) rfl ((fw_get (by decide)).trans (by rw [sE_0]; rfl)), fun U hU hW => ⟨rfl, by rw [hU], by rw [hU]; exact hP, va_K.moved hW.alike hK, xM_warm hW hM, xX_at hEx hS (fun q h => fA_le hS.1 q h) hU hW⟩⟩ rfl rfl hl.1 rfl (lv_room (Nat.le_of_ble_eq_true rfl)) dX9_node_24 ⟨Nat.le_of_ble_eq_true rfl, Nat.le_of_ble_eq_true rfl⟩) hS (fun q _ h => fA_le hS.1 q h) (fA_le hS.1) (fun q _ h => fA_le hS.1 q h) (fun E9 ce9 q9 u9 t9 H1 locs ht9 hvm9 hpx9 hBX9 hz9 hk9 hS hce9 hcv9 hcl9 => ?_) (fun u9 t9 H1 locs ht9 hvm9 hw9 hB9 hz9 hk9 hS => hw9.elim)
      obtain ⟨hE9, hP9, hK9⟩ := hBX9
      exact vx_out (fun x hx9 => (hnt x hx9).elim) hlocks hce9 hcv9 hcl9 (fun t8 ht8 hW8 => ⟨u9, (by
                    show CI T u9 ∧ SZ μ u9
                    exact CZ_thr hI hpx9), ⟨(show ∀ z ∈ (["java/lang/IllegalArgumentException"] : List String), z ∈ (["java/util/NoSuchElementException", "java/lang/IllegalArgumentException"] : List String) by decide +kernel) E9 hE9, by rw [ht8, ← ht9]; exact hP9, va_K.moved hW8 hK⟩, hS.F ht8⟩) hS.2.2 (Nat.le_of_ble_eq_true rfl) (Nat.le_of_ble_eq_true rfl)
    · refine lv_iload_n hx hb dX9_node_14 rfl (lv_at hl 2 rfl) ?_
      refine lv_iconst (v := iZ 5) hx hb dX9_node_15 rfl ?_
      refine fz_icmp_gt (tgt := 23) (by first | assumption | (constructor <;> omega) | decide) (by decide) hx hb dX9_node_16 (by decide) (fun c16_ => ?_) (fun c16_ => ?_)
      · refine lv_iconst (v := iZ 0) hx hb dX9_node_23 rfl ?_
        refine vx_callv (vx_runV (As := [.int (iZ (0))]) (rest := []) ⟨hx, hb, hml, hown, hts⟩ (x_needArgument l hfl dC dI cI cZ cII cIII h0 H.size μ  ) (cwV 1 hts (gV_G k596 k598 ks_yX9_needArgument k1 k599) rfl rfl rfl (by decide +kernel) ⟨Nat.le_of_ble_eq_true rfl, Nat.le_of_ble_eq_true rfl⟩) ⟨fun a U g mk q => by obtain ⟨q0, q1, qP, qK, qM, qE⟩ := q; exact ⟨q0, q1, qP, va_K.moved (u := U) (U := U.calling g mk a) (Vm.Alike.refl U.vm) qK, qM, xX_call qE⟩, va_recv hK hP (ci := 9) (q0 := 0) rfl ((fw_get (by decide)).trans (by rw [sE_0]; rfl)), fun U hU hW => ⟨rfl, by rw [hU], by rw [hU]; exact hP, va_K.moved hW.alike hK, xM_warm hW hM, xX_at hEx hS (fun q h => fA_le hS.1 q h) hU hW⟩⟩ rfl rfl hl.1 rfl (lv_room (Nat.le_of_ble_eq_true rfl)) dX9_node_24 ⟨Nat.le_of_ble_eq_true rfl, Nat.le_of_ble_eq_true rfl⟩) hS (fun q _ h => fA_le hS.1 q h) (fA_le hS.1) (fun q _ h => fA_le hS.1 q h) (fun E9 ce9 q9 u9 t9 H1 locs ht9 hvm9 hpx9 hBX9 hz9 hk9 hS hce9 hcv9 hcl9 => ?_) (fun u9 t9 H1 locs ht9 hvm9 hw9 hB9 hz9 hk9 hS => hw9.elim)
        obtain ⟨hE9, hP9, hK9⟩ := hBX9
        exact vx_out (fun x hx9 => (hnt x hx9).elim) hlocks hce9 hcv9 hcl9 (fun t8 ht8 hW8 => ⟨u9, (by
                        show CI T u9 ∧ SZ μ u9
                        exact CZ_thr hI hpx9), ⟨(show ∀ z ∈ (["java/lang/IllegalArgumentException"] : List String), z ∈ (["java/util/NoSuchElementException", "java/lang/IllegalArgumentException"] : List String) by decide +kernel) E9 hE9, by rw [ht8, ← ht9]; exact hP9, va_K.moved hW8 hK⟩, hS.F ht8⟩) hS.2.2 (Nat.le_of_ble_eq_true rfl) (Nat.le_of_ble_eq_true rfl)
      · refine lv_iconst (v := iZ 1) hx hb dX9_node_19 rfl ?_
        refine lv_goto (tgt := 24) hx hb dX9_node_20 (by decide) ?_
        refine va_callv (va_runV (As := [.int (iZ (1))]) (rest := []) ⟨hx, hb, hml, hown, hts⟩ (s_needArgument l dC dI cI cZ cII cIII h0 H.size μ  ) (cwV 1 hts (gV_G k596 k598 ks_yX9_needArgument k1 k599) rfl rfl rfl (by decide +kernel) ⟨Nat.le_of_ble_eq_true rfl, Nat.le_of_ble_eq_true rfl⟩) ⟨fun a U g mk q => by obtain ⟨q0, q1, qP, qK, qM⟩ := q; exact ⟨q0, q1, qP, va_K.moved (u := U) (U := U.calling g mk a) (Vm.Alike.refl U.vm) qK, qM⟩, va_recv hK hP (ci := 9) (q0 := 0) rfl ((fw_get (by decide)).trans (by rw [sE_0]; rfl)), fun U hU hW => ⟨rfl, by rw [hU], by rw [hU]; exact hP, va_K.moved hW.alike hK, xM_warm hW hM⟩⟩ rfl rfl hl.1 rfl (lv_room (Nat.le_of_ble_eq_true rfl)) dX9_node_24 ⟨Nat.le_of_ble_eq_true rfl, Nat.le_of_ble_eq_true rfl⟩) hS (fun q _ h => fA_le hS.1 q h) (fA_le hS.1) (fun u9 t9 H1 locs ht9 hvm9 hw9 hB9 hz9 hk9 hS => ?_)
        obtain ⟨hP, -⟩ := hB9
        rw [ht9] at hP
        generalize H1 = H at hP hS ⊢
        obtain ⟨μ2, eμ2⟩ : ∃ x : va_M, x = u9 := ⟨_, rfl⟩
        rw [← eμ2] at hP hw9
        have hμ2 := hw9; clear hw9
        rw [hμ2] at hP
        refine lv_aload_n hx hb dX9_node_27 rfl (lv_at hl 0 rfl) ?_
        refine fz_get (D := (dC, dI)) (ci := 9) (v := .ref (h0 + 6)) (C := RX9) (T := TX9) (N := 15) hx hb hts inG9 hown hK hP (k := 0) (by decide) (F := (sF0 h0)) sE_0 rfl 3 (by decide) (hts _ k335) (fun _ h9 => h9) rfl dX9_node_28 ?_
        refine lv_iload_n hx hb dX9_node_31 rfl (lv_at hl 1 rfl) ?_
        refine lv_iload_n hx hb dX9_node_32 rfl (lv_at hl 2 rfl) ?_
        refine va_calli (va_runV (As := [.int (iZ (nd)), .int (iZ (wh))]) (rest := []) ⟨hx, hb, hml, hown, hts⟩ (s_RtellNode l dC dI cI cZ cII cIII h0 H.size μ (6) (1100) (nd) (wh) (rowB_6) (by exact hI.1.2.2.1) (by first | assumption | omega | exact CI_lc hI | exact CI_cn hI | exact (CI_n6 hI).1 | decide) (by first | assumption | omega | exact CI_lc hI | exact CI_cn hI | exact (CI_n6 hI).1 | decide)) (cwV 2 hts (gV_G k918 k919 k920 k3 k921) rfl rfl rfl (by decide +kernel) ⟨Nat.le_of_ble_eq_true rfl, Nat.le_of_ble_eq_true rfl⟩) ⟨fun a U g mk q => by obtain ⟨q0, q1, qP, qK, qM⟩ := q; exact ⟨q0, q1, qP, va_K.moved (u := U) (U := U.calling g mk a) (Vm.Alike.refl U.vm) qK, qM⟩, va_recv hK hP (ci := 4) (q0 := 6) rfl ((fw_get (by decide)).trans (by rw [(sE_rowO rowB_6)])), fun U hU hW => ⟨rfl, by rw [hU], by rw [hU]; exact hP, va_K.moved hW.alike hK, xM_warm hW hM⟩⟩ rfl rfl hl.1 rfl (lv_room (Nat.le_of_ble_eq_true rfl)) dX9_node_33 ⟨Nat.le_of_ble_eq_true rfl, Nat.le_of_ble_eq_true rfl⟩) hS (fun q _ h => fA_le hS.1 q h) (fA_le hS.1) (fun r9 u9 t9 H1 locs ht9 hvm9 hw9 hB9 hz9 hk9 hS => ?_)
        obtain ⟨μ3, r4⟩ := u9
        obtain ⟨hP, -⟩ := hB9
        rw [ht9] at hP
        generalize H1 = H at hP hS ⊢
        obtain ⟨e9, hw9⟩ := hw9
        have e9 : r9 = iZ r4 := e9
        subst e9
        simp only at hP hw9
        have hμ3 := hw9; clear hw9
        rw [hμ3] at hP
        exact W_widen (Nat.le_of_ble_eq_true rfl) (Nat.le_of_ble_eq_true rfl) (vx_ret (W.iret (v := iZ (r4)) hx hb hr (fun t9 ht9 hW9 => ⟨⟨iZ (r4), (μ, r4), rfl, ⟨rfl, (by
                        dsimp only
                        exact ⟨hI, SZ_rf⟩)⟩, by rw [ht9]; exact hP, va_K.moved hW9.alike hK⟩, hS.F ht9⟩) hS.2.2 dX9_node_36))
  · refine vx_callv (vx_runV (As := [.ref (h0 + 6), .int (iZ (nd))]) (rest := []) ⟨hx, hb, hml, hown, hts⟩ (x_needNode l hfl dC dI cI cZ cII cIII h0 s.heap.size μ (6) (1100) (nd) (rowB_6) (by first | assumption | omega | exact CI_lc hI | exact CI_cn hI | exact (CI_n6 hI).1 | decide) (by first | assumption | (first | ((try clear hn6_); (try clear hlc); (try clear hsz); (try clear hnt); (try clear s₁); omega) | omega) | exact CI_lc hI | exact CI_cn hI | exact (CI_n6 hI).1 | decide) (hn6_)) (cwV 2 hts (gV_G k914 k916 ks_yX9_needNode k1 k917) rfl rfl rfl (by decide +kernel) ⟨Nat.le_of_ble_eq_true rfl, Nat.le_of_ble_eq_true rfl⟩) ⟨fun a U g mk q => by obtain ⟨q0, q1, qP, qK, qM, qE⟩ := q; exact ⟨q0, q1, qP, va_K.moved (u := U) (U := U.calling g mk a) (Vm.Alike.refl U.vm) qK, qM, xX_call qE⟩, va_recv hK hP (ci := 9) (q0 := 0) rfl ((fw_get (by decide)).trans (by rw [sE_0]; rfl)), fun U hU hW => ⟨rfl, by rw [hU], by rw [hU]; exact hP, va_K.moved hW.alike hK, xM_warm hW hM, xX_at hEx hS (fun q h => fA_le hS.1 q h) hU hW⟩⟩ rfl rfl hl.1 rfl (lv_room (Nat.le_of_ble_eq_true rfl)) dX9_node_6 ⟨Nat.le_of_ble_eq_true rfl, Nat.le_of_ble_eq_true rfl⟩) hS (fun q _ h => fA_le hS.1 q h) (fA_le hS.1) (fun q _ h => fA_le hS.1 q h) (fun E9 ce9 q9 u9 t9 H1 locs ht9 hvm9 hpx9 hBX9 hz9 hk9 hS hce9 hcv9 hcl9 => ?_) (fun u9 t9 H1 locs ht9 hvm9 hw9 hB9 hz9 hk9 hS => hw9.elim)
    obtain ⟨hE9, hP9, hK9⟩ := hBX9
    exact vx_out (fun x hx9 => (hnt x hx9).elim) hlocks hce9 hcv9 hcl9 (fun t8 ht8 hW8 => ⟨u9, (by
                show CI T u9 ∧ SZ μ u9
                exact CZ_thr hI hpx9), ⟨(show ∀ z ∈ (["java/util/NoSuchElementException"] : List String), z ∈ (["java/util/NoSuchElementException", "java/lang/IllegalArgumentException"] : List String) by decide +kernel) E9 hE9, by rw [ht8, ← ht9]; exact hP9, va_K.moved hW8 hK⟩, hS.F ht8⟩) hS.2.2 (Nat.le_of_ble_eq_true rfl) (Nat.le_of_ble_eq_true rfl)
set_option maxHeartbeats 4000000 in
set_option maxRecDepth 100000 in
theorem q_pageNode (l : Launch) (hfl : l.stackTraces = false) (dC : Nat → ClassId) (dI : Nat → Nat → Nat) (cI cZ cII cIII : ClassId) (h0 sz : Nat) (μ : va_M) (pg : Int) (nd : Int) (wh : Int) (T : List Tk) (hI : CI T μ) (h_pg : inR pg) (h_nd : inR nd) (h_wh : inR wh) : vx_Met l yX9_pageNode (Cond.code yX9_pageNode cX9_pageNode 4 (some .int) :: wsG) ({ frames := 8, cells := 1, slots := 6, locals := 132 } : Room) (va_Pc [.ref h0, .int (iZ (pg)), .int (iZ (nd)), .int (iZ (wh))] (fun U => U.heap.size = sz ∧ va_P (dC, dI) vwCl (fw (sE cI cZ cII cIII h0) h0 233 μ) U.heap ∧ va_K (dC, dI) vwCl (sT cI cZ cII cIII) U ∧ xM U ∧ xX (fA h0 233 sz) U)) (va_Qi (fun (r9 : Int32) (u : va_M × Int) => r9 = iZ u.2 ∧ (fun (u : va_M) (r : Int) => CI T u ∧ SZ μ u) u.1 u.2) (fun u t => va_P (dC, dI) vwCl (fw (sE cI cZ cII cIII h0) h0 233 u.1) t.heap ∧ va_K (dC, dI) vwCl (sT cI cZ cII cIII) t) (fA h0 233 sz)) (vx_X (fun (u : va_M) => CI T u ∧ SZ μ u) (fun E u t => E ∈ (["java/util/NoSuchElementException", "java/lang/IllegalArgumentException"] : List String) ∧ va_P (dC, dI) vwCl (fw (sE cI cZ cII cIII h0) h0 233 u) t.heap ∧ va_K (dC, dI) vwCl (sT cI cZ cII cIII) t) (fA h0 233 sz)) 1 6 (fA h0 233 sz) := by
  refine vx_ofW (cc := cX9_pageNode) (maxL := 4) (ret := (some .int)) (by decide) rfl ?_
  intro p e s m args below meth c s₁ B hml hnt hv
  obtain ⟨rfl, hsz, hP, hK, hM, hEx⟩ := hv
  have hx := B.exec
  have hb := B.bytes
  have hr := B.returns
  have hts : ∀ w ∈ wsG, w.before _ s = true := hG_of (atoms_spec (ws := (Cond.code yX9_pageNode cX9_pageNode 4 (some .int) :: wsG)) B.pre)
  have hown : s.vm.findClass RX9 = some m.cls := findClass_of_methodNamed B.named
  have hlocks := B.notSynchronized
  subst hsz
  have hS : va_S (fA h0 233 s.heap.size) s.heap s.heap [] := va_S.rf
  have hl := lv_entry ([.ref h0, .int (iZ (pg)), .int (iZ (nd)), .int (iZ (wh))]) (n := 4) (Nat.le_of_ble_eq_true rfl)
  rw [lg_entry_eq]
  generalize (lg_sl ([.ref h0, .int (iZ (pg)), .int (iZ (nd)), .int (iZ (wh))]) ++ List.replicate (4 - (lg_sl ([.ref h0, .int (iZ (pg)), .int (iZ (nd)), .int (iZ (wh))])).length) Slot.unset).toArray = ls at hl ⊢
  have hl : lv_has ls 4 [(0, .ref h0), (1, .int (iZ (pg))), (2, .int (iZ (nd))), (3, .int (iZ (wh)))] := hl
  have hlc := CI_lc hI
  have h66 := CI_n6 hI
  refine lv_aload_n hx hb dX9_pageNode_0 rfl (lv_at hl 0 rfl) ?_
  refine lv_iload_n hx hb dX9_pageNode_1 rfl (lv_at hl 1 rfl) ?_
  by_cases hn2_ : 0 ≤ pg ∧ pg < μ 0 2
  · refine va_callv (va_runV (As := [.int (iZ (pg))]) (rest := []) ⟨hx, hb, hml, hown, hts⟩ (s_needPage l dC dI cI cZ cII cIII h0 s.heap.size μ (pg) (by first | assumption | omega | exact CI_lc hI | exact CI_cn hI | exact (CI_n6 hI).1 | decide) (by first | assumption | omega | exact CI_lc hI | exact CI_cn hI | exact (CI_n6 hI).1 | decide) (by exact hn2_)) (cwV 1 hts (gV_G k735 k737 ks_yX9_needPage k1 k738) rfl rfl rfl (by decide +kernel) ⟨Nat.le_of_ble_eq_true rfl, Nat.le_of_ble_eq_true rfl⟩) ⟨fun a U g mk q => by obtain ⟨q0, q1, qP, qK, qM⟩ := q; exact ⟨q0, q1, qP, va_K.moved (u := U) (U := U.calling g mk a) (Vm.Alike.refl U.vm) qK, qM⟩, va_recv hK hP (ci := 9) (q0 := 0) rfl ((fw_get (by decide)).trans (by rw [sE_0]; rfl)), fun U hU hW => ⟨rfl, by rw [hU], by rw [hU]; exact hP, va_K.moved hW.alike hK, xM_warm hW hM⟩⟩ rfl rfl hl.1 rfl (lv_room (Nat.le_of_ble_eq_true rfl)) dX9_pageNode_2 ⟨Nat.le_of_ble_eq_true rfl, Nat.le_of_ble_eq_true rfl⟩) hS (fun q _ h => fA_le hS.1 q h) (fA_le hS.1) (fun u9 t9 H1 locs ht9 hvm9 hw9 hB9 hz9 hk9 hS => ?_)
    obtain ⟨hP, -⟩ := hB9
    rw [ht9] at hP
    generalize H1 = H at hP hS ⊢
    obtain ⟨μ1, eμ1⟩ : ∃ x : va_M, x = u9 := ⟨_, rfl⟩
    rw [← eμ1] at hP hw9
    have hμ1 := hw9; clear hw9
    rw [hμ1] at hP
    obtain ⟨hl1, hl2⟩ := CI_lf hI pg (by (first | ((try clear hl2); (try clear hl1); (try clear hμ1); (try clear x); (try clear eμ1); (try clear μ1); (try clear hz9); (try clear h66); (try clear hlc); (try clear hsz); (try clear hnt); (try clear s₁); omega) | omega)) (by (first | ((try clear hl2); (try clear hl1); (try clear hμ1); (try clear x); (try clear eμ1); (try clear μ1); (try clear hz9); (try clear h66); (try clear hsz); (try clear hnt); (try clear s₁); omega) | omega))
    have hg2 := hl1.2.2.2
    have hn2 := rG_nod hg2
    have hm2 := rG_len hg2
    refine lv_aload_n hx hb dX9_pageNode_5 rfl (lv_at hl 0 rfl) ?_
    refine lv_aload_n hx hb dX9_pageNode_6 rfl (lv_at hl 0 rfl) ?_
    refine fz_get (D := (dC, dI)) (ci := 9) (v := .ref (h0 + 5)) (C := RX9) (T := TX9) (N := 15) hx hb hts inG9 hown hK hP (k := 0) (by decide) (F := (sF0 h0)) sE_0 rfl 1 (by decide) (hts _ k333) (fun _ h9 => h9) rfl dX9_pageNode_7 ?_
    refine lv_iload_n hx hb dX9_pageNode_10 rfl (lv_at hl 1 rfl) ?_
    refine fz_ald (k := 5) (n := 8) (k2 := (113 + (pg).toNat * 15)) hx hb hK hP 1 rfl (by decide) sE_5 rfl ⟨by (first | ((try clear hm2); (try clear hn2); (try clear hg2); (try clear hl2); (try clear hl1); (try clear hμ1); (try clear x); (try clear eμ1); (try clear μ1); (try clear hz9); (try clear h66); (try clear hlc); (try clear hsz); (try clear hnt); (try clear s₁); omega) | omega), by (first | ((try clear hm2); (try clear hn2); (try clear hg2); (try clear hl2); (try clear hl1); (try clear hμ1); (try clear x); (try clear eμ1); (try clear μ1); (try clear hz9); (try clear h66); (try clear hsz); (try clear hnt); (try clear s₁); omega) | omega)⟩ (by decide) (if_pos (by (first | ((try clear hm2); (try clear hn2); (try clear hg2); (try clear hl2); (try clear hl1); (try clear hμ1); (try clear x); (try clear eμ1); (try clear μ1); (try clear hz9); (try clear h66); (try clear hsz); (try clear hnt); (try clear s₁); omega) | omega))) dX9_pageNode_11 ?_
    refine fz_get (D := (dC, dI)) (ci := 1) (v := .ref (h0 + ((113 + (pg).toNat * 15) + 3))) (C := RX1) (T := TX1) (N := 8) hx hb hts inG1 hown hK hP (k := (113 + (pg).toNat * 15)) (by (first | ((try clear hm2); (try clear hn2); (try clear hg2); (try clear hl2); (try clear hl1); (try clear hμ1); (try clear x); (try clear eμ1); (try clear μ1); (try clear hz9); (try clear h66); (try clear hsz); (try clear hnt); (try clear s₁); omega) | omega)) (F := (sLF h0 (113 + (pg).toNat * 15))) (sE_leafO (show (pg).toNat < 8 by (first | ((try clear hm2); (try clear hn2); (try clear hg2); (try clear hl2); (try clear hl1); (try clear hμ1); (try clear x); (try clear eμ1); (try clear μ1); (try clear hz9); (try clear h66); (try clear hsz); (try clear hnt); (try clear s₁); omega) | omega)) rfl) rfl 3 (by decide) (hts _ k304) (fun _ h9 => h9) rfl dX9_pageNode_12 ?_
    refine lv_iload_n hx hb dX9_pageNode_15 rfl (lv_at hl 2 rfl) ?_
    by_cases hn16_ : 0 ≤ nd ∧ nd < μ ((113 + (pg).toNat * 15) + 3) 6
    · refine va_callv (va_runV (As := [.ref (h0 + ((113 + (pg).toNat * 15) + 3)), .int (iZ (nd))]) (rest := []) ⟨hx, hb, hml, hown, hts⟩ (s_needNode l dC dI cI cZ cII cIII h0 H.size μ (((113 + (pg).toNat * 15) + 3)) (96) (nd) ((rowB_L (show (pg).toNat < 8 by (first | ((try clear hn16_); (try clear hm2); (try clear hn2); (try clear hg2); (try clear hl2); (try clear hl1); (try clear hμ1); (try clear x); (try clear eμ1); (try clear μ1); (try clear hz9); (try clear h66); (try clear hsz); (try clear hnt); (try clear s₁); omega) | omega)) rfl)) (by first | assumption | omega | exact CI_lc hI | exact CI_cn hI | exact (CI_n6 hI).1 | decide) (by first | assumption | (first | ((try clear hn16_); (try clear hg2); (try clear hl2); (try clear hl1); (try clear hμ1); (try clear x); (try clear eμ1); (try clear μ1); (try clear hz9); (try clear hn2_); (try clear h66); (try clear hlc); (try clear hsz); (try clear hnt); (try clear s₁); omega) | omega) | exact CI_lc hI | exact CI_cn hI | exact (CI_n6 hI).1 | decide) (by exact hn16_)) (cwV 2 hts (gV_G k914 k916 ks_yX9_needNode k1 k917) rfl rfl rfl (by decide +kernel) ⟨Nat.le_of_ble_eq_true rfl, Nat.le_of_ble_eq_true rfl⟩) ⟨fun a U g mk q => by obtain ⟨q0, q1, qP, qK, qM⟩ := q; exact ⟨q0, q1, qP, va_K.moved (u := U) (U := U.calling g mk a) (Vm.Alike.refl U.vm) qK, qM⟩, va_recv hK hP (ci := 9) (q0 := 0) rfl ((fw_get (by decide)).trans (by rw [sE_0]; rfl)), fun U hU hW => ⟨rfl, by rw [hU], by rw [hU]; exact hP, va_K.moved hW.alike hK, xM_warm hW hM⟩⟩ rfl rfl hl.1 rfl (lv_room (Nat.le_of_ble_eq_true rfl)) dX9_pageNode_16 ⟨Nat.le_of_ble_eq_true rfl, Nat.le_of_ble_eq_true rfl⟩) hS (fun q _ h => fA_le hS.1 q h) (fA_le hS.1) (fun u9 t9 H1 locs ht9 hvm9 hw9 hB9 hz9 hk9 hS => ?_)
      obtain ⟨hP, -⟩ := hB9
      rw [ht9] at hP
      generalize H1 = H at hP hS ⊢
      obtain ⟨μ2, eμ2⟩ : ∃ x : va_M, x = u9 := ⟨_, rfl⟩
      rw [← eμ2] at hP hw9
      have hμ2 := hw9; clear hw9
      rw [hμ2] at hP
      refine lv_aload_n hx hb dX9_pageNode_19 rfl (lv_at hl 0 rfl) ?_
      refine lv_iload_n hx hb dX9_pageNode_20 rfl (lv_at hl 3 rfl) ?_
      refine fz_if_lt (tgt := 33) (by first | assumption | (constructor <;> omega) | decide) hx hb dX9_pageNode_21 (by decide) (fun c21_ => ?_) (fun c21_ => ?_)
      · refine lv_iconst (v := iZ 0) hx hb dX9_pageNode_33 rfl ?_
        refine vx_callv (vx_runV (As := [.int (iZ (0))]) (rest := []) ⟨hx, hb, hml, hown, hts⟩ (x_needArgument l hfl dC dI cI cZ cII cIII h0 H.size μ  ) (cwV 1 hts (gV_G k596 k598 ks_yX9_needArgument k1 k599) rfl rfl rfl (by decide +kernel) ⟨Nat.le_of_ble_eq_true rfl, Nat.le_of_ble_eq_true rfl⟩) ⟨fun a U g mk q => by obtain ⟨q0, q1, qP, qK, qM, qE⟩ := q; exact ⟨q0, q1, qP, va_K.moved (u := U) (U := U.calling g mk a) (Vm.Alike.refl U.vm) qK, qM, xX_call qE⟩, va_recv hK hP (ci := 9) (q0 := 0) rfl ((fw_get (by decide)).trans (by rw [sE_0]; rfl)), fun U hU hW => ⟨rfl, by rw [hU], by rw [hU]; exact hP, va_K.moved hW.alike hK, xM_warm hW hM, xX_at hEx hS (fun q h => fA_le hS.1 q h) hU hW⟩⟩ rfl rfl hl.1 rfl (lv_room (Nat.le_of_ble_eq_true rfl)) dX9_pageNode_34 ⟨Nat.le_of_ble_eq_true rfl, Nat.le_of_ble_eq_true rfl⟩) hS (fun q _ h => fA_le hS.1 q h) (fA_le hS.1) (fun q _ h => fA_le hS.1 q h) (fun E9 ce9 q9 u9 t9 H1 locs ht9 hvm9 hpx9 hBX9 hz9 hk9 hS hce9 hcv9 hcl9 => ?_) (fun u9 t9 H1 locs ht9 hvm9 hw9 hB9 hz9 hk9 hS => hw9.elim)
        obtain ⟨hE9, hP9, hK9⟩ := hBX9
        exact vx_out (fun x hx9 => (hnt x hx9).elim) hlocks hce9 hcv9 hcl9 (fun t8 ht8 hW8 => ⟨u9, (by
                        show CI T u9 ∧ SZ μ u9
                        exact CZ_thr hI hpx9), ⟨(show ∀ z ∈ (["java/lang/IllegalArgumentException"] : List String), z ∈ (["java/util/NoSuchElementException", "java/lang/IllegalArgumentException"] : List String) by decide +kernel) E9 hE9, by rw [ht8, ← ht9]; exact hP9, va_K.moved hW8 hK⟩, hS.F ht8⟩) hS.2.2 (Nat.le_of_ble_eq_true rfl) (Nat.le_of_ble_eq_true rfl)
      · refine lv_iload_n hx hb dX9_pageNode_24 rfl (lv_at hl 3 rfl) ?_
        refine lv_iconst (v := iZ 5) hx hb dX9_pageNode_25 rfl ?_
        refine fz_icmp_gt (tgt := 33) (by first | assumption | (constructor <;> omega) | decide) (by decide) hx hb dX9_pageNode_26 (by decide) (fun c26_ => ?_) (fun c26_ => ?_)
        · refine lv_iconst (v := iZ 0) hx hb dX9_pageNode_33 rfl ?_
          refine vx_callv (vx_runV (As := [.int (iZ (0))]) (rest := []) ⟨hx, hb, hml, hown, hts⟩ (x_needArgument l hfl dC dI cI cZ cII cIII h0 H.size μ  ) (cwV 1 hts (gV_G k596 k598 ks_yX9_needArgument k1 k599) rfl rfl rfl (by decide +kernel) ⟨Nat.le_of_ble_eq_true rfl, Nat.le_of_ble_eq_true rfl⟩) ⟨fun a U g mk q => by obtain ⟨q0, q1, qP, qK, qM, qE⟩ := q; exact ⟨q0, q1, qP, va_K.moved (u := U) (U := U.calling g mk a) (Vm.Alike.refl U.vm) qK, qM, xX_call qE⟩, va_recv hK hP (ci := 9) (q0 := 0) rfl ((fw_get (by decide)).trans (by rw [sE_0]; rfl)), fun U hU hW => ⟨rfl, by rw [hU], by rw [hU]; exact hP, va_K.moved hW.alike hK, xM_warm hW hM, xX_at hEx hS (fun q h => fA_le hS.1 q h) hU hW⟩⟩ rfl rfl hl.1 rfl (lv_room (Nat.le_of_ble_eq_true rfl)) dX9_pageNode_34 ⟨Nat.le_of_ble_eq_true rfl, Nat.le_of_ble_eq_true rfl⟩) hS (fun q _ h => fA_le hS.1 q h) (fA_le hS.1) (fun q _ h => fA_le hS.1 q h) (fun E9 ce9 q9 u9 t9 H1 locs ht9 hvm9 hpx9 hBX9 hz9 hk9 hS hce9 hcv9 hcl9 => ?_) (fun u9 t9 H1 locs ht9 hvm9 hw9 hB9 hz9 hk9 hS => hw9.elim)
          obtain ⟨hE9, hP9, hK9⟩ := hBX9
          exact vx_out (fun x hx9 => (hnt x hx9).elim) hlocks hce9 hcv9 hcl9 (fun t8 ht8 hW8 => ⟨u9, (by
                            show CI T u9 ∧ SZ μ u9
                            exact CZ_thr hI hpx9), ⟨(show ∀ z ∈ (["java/lang/IllegalArgumentException"] : List String), z ∈ (["java/util/NoSuchElementException", "java/lang/IllegalArgumentException"] : List String) by decide +kernel) E9 hE9, by rw [ht8, ← ht9]; exact hP9, va_K.moved hW8 hK⟩, hS.F ht8⟩) hS.2.2 (Nat.le_of_ble_eq_true rfl) (Nat.le_of_ble_eq_true rfl)
        · refine lv_iconst (v := iZ 1) hx hb dX9_pageNode_29 rfl ?_
          refine lv_goto (tgt := 34) hx hb dX9_pageNode_30 (by decide) ?_
          refine va_callv (va_runV (As := [.int (iZ (1))]) (rest := []) ⟨hx, hb, hml, hown, hts⟩ (s_needArgument l dC dI cI cZ cII cIII h0 H.size μ  ) (cwV 1 hts (gV_G k596 k598 ks_yX9_needArgument k1 k599) rfl rfl rfl (by decide +kernel) ⟨Nat.le_of_ble_eq_true rfl, Nat.le_of_ble_eq_true rfl⟩) ⟨fun a U g mk q => by obtain ⟨q0, q1, qP, qK, qM⟩ := q; exact ⟨q0, q1, qP, va_K.moved (u := U) (U := U.calling g mk a) (Vm.Alike.refl U.vm) qK, qM⟩, va_recv hK hP (ci := 9) (q0 := 0) rfl ((fw_get (by decide)).trans (by rw [sE_0]; rfl)), fun U hU hW => ⟨rfl, by rw [hU], by rw [hU]; exact hP, va_K.moved hW.alike hK, xM_warm hW hM⟩⟩ rfl rfl hl.1 rfl (lv_room (Nat.le_of_ble_eq_true rfl)) dX9_pageNode_34 ⟨Nat.le_of_ble_eq_true rfl, Nat.le_of_ble_eq_true rfl⟩) hS (fun q _ h => fA_le hS.1 q h) (fA_le hS.1) (fun u9 t9 H1 locs ht9 hvm9 hw9 hB9 hz9 hk9 hS => ?_)
          obtain ⟨hP, -⟩ := hB9
          rw [ht9] at hP
          generalize H1 = H at hP hS ⊢
          obtain ⟨μ3, eμ3⟩ : ∃ x : va_M, x = u9 := ⟨_, rfl⟩
          rw [← eμ3] at hP hw9
          have hμ3 := hw9; clear hw9
          rw [hμ3] at hP
          refine lv_aload_n hx hb dX9_pageNode_37 rfl (lv_at hl 0 rfl) ?_
          refine fz_get (D := (dC, dI)) (ci := 9) (v := .ref (h0 + 5)) (C := RX9) (T := TX9) (N := 15) hx hb hts inG9 hown hK hP (k := 0) (by decide) (F := (sF0 h0)) sE_0 rfl 1 (by decide) (hts _ k333) (fun _ h9 => h9) rfl dX9_pageNode_38 ?_
          refine lv_iload_n hx hb dX9_pageNode_41 rfl (lv_at hl 1 rfl) ?_
          refine fz_ald (k := 5) (n := 8) (k2 := (113 + (pg).toNat * 15)) hx hb hK hP 1 rfl (by decide) sE_5 rfl ⟨by (first | ((try clear hμ3); (try clear x); (try clear eμ3); (try clear μ3); (try clear hz9); (try clear c26_); (try clear c21_); (try clear hμ2); (try clear eμ2); (try clear μ2); (try clear hn16_); (try clear hm2); (try clear hn2); (try clear hg2); (try clear hl2); (try clear hl1); (try clear hμ1); (try clear eμ1); (try clear μ1); (try clear h66); (try clear hlc); (try clear hsz); (try clear hnt); (try clear s₁); omega) | omega), by (first | ((try clear hμ3); (try clear x); (try clear eμ3); (try clear μ3); (try clear hz9); (try clear c26_); (try clear c21_); (try clear hμ2); (try clear eμ2); (try clear μ2); (try clear hn16_); (try clear hm2); (try clear hn2); (try clear hg2); (try clear hl2); (try clear hl1); (try clear hμ1); (try clear eμ1); (try clear μ1); (try clear h66); (try clear hsz); (try clear hnt); (try clear s₁); omega) | omega)⟩ (by decide) (if_pos (by (first | ((try clear hμ3); (try clear x); (try clear eμ3); (try clear μ3); (try clear hz9); (try clear c26_); (try clear c21_); (try clear hμ2); (try clear eμ2); (try clear μ2); (try clear hn16_); (try clear hm2); (try clear hn2); (try clear hg2); (try clear hl2); (try clear hl1); (try clear hμ1); (try clear eμ1); (try clear μ1); (try clear h66); (try clear hsz); (try clear hnt); (try clear s₁); omega) | omega))) dX9_pageNode_42 ?_
          refine fz_get (D := (dC, dI)) (ci := 1) (v := .ref (h0 + ((113 + (pg).toNat * 15) + 3))) (C := RX1) (T := TX1) (N := 8) hx hb hts inG1 hown hK hP (k := (113 + (pg).toNat * 15)) (by (first | ((try clear hμ3); (try clear x); (try clear eμ3); (try clear μ3); (try clear hz9); (try clear c26_); (try clear c21_); (try clear hμ2); (try clear eμ2); (try clear μ2); (try clear hn16_); (try clear hm2); (try clear hn2); (try clear hg2); (try clear hl2); (try clear hl1); (try clear hμ1); (try clear eμ1); (try clear μ1); (try clear h66); (try clear hsz); (try clear hnt); (try clear s₁); omega) | omega)) (F := (sLF h0 (113 + (pg).toNat * 15))) (sE_leafO (show (pg).toNat < 8 by (first | ((try clear hμ3); (try clear x); (try clear eμ3); (try clear μ3); (try clear hz9); (try clear c26_); (try clear c21_); (try clear hμ2); (try clear eμ2); (try clear μ2); (try clear hn16_); (try clear hm2); (try clear hn2); (try clear hg2); (try clear hl2); (try clear hl1); (try clear hμ1); (try clear eμ1); (try clear μ1); (try clear h66); (try clear hsz); (try clear hnt); (try clear s₁); omega) | omega)) rfl) rfl 3 (by decide) (hts _ k304) (fun _ h9 => h9) rfl dX9_pageNode_43 ?_
          refine lv_iload_n hx hb dX9_pageNode_46 rfl (lv_at hl 2 rfl) ?_
          refine lv_iload_n hx hb dX9_pageNode_47 rfl (lv_at hl 3 rfl) ?_
          refine va_calli (va_runV (As := [.int (iZ (nd)), .int (iZ (wh))]) (rest := []) ⟨hx, hb, hml, hown, hts⟩ (s_RtellNode l dC dI cI cZ cII cIII h0 H.size μ (((113 + (pg).toNat * 15) + 3)) (96) (nd) (wh) ((rowB_L (show (pg).toNat < 8 by (first | ((try clear hμ3); (try clear x); (try clear eμ3); (try clear μ3); (try clear hz9); (try clear c26_); (try clear c21_); (try clear hμ2); (try clear eμ2); (try clear μ2); (try clear hn16_); (try clear hm2); (try clear hn2); (try clear hg2); (try clear hl2); (try clear hl1); (try clear hμ1); (try clear eμ1); (try clear μ1); (try clear h66); (try clear hsz); (try clear hnt); (try clear s₁); omega) | omega)) rfl)) (by exact hg2) (by first | assumption | omega | exact CI_lc hI | exact CI_cn hI | exact (CI_n6 hI).1 | decide) (by first | assumption | omega | exact CI_lc hI | exact CI_cn hI | exact (CI_n6 hI).1 | decide)) (cwV 2 hts (gV_G k918 k919 k920 k3 k921) rfl rfl rfl (by decide +kernel) ⟨Nat.le_of_ble_eq_true rfl, Nat.le_of_ble_eq_true rfl⟩) ⟨fun a U g mk q => by obtain ⟨q0, q1, qP, qK, qM⟩ := q; exact ⟨q0, q1, qP, va_K.moved (u := U) (U := U.calling g mk a) (Vm.Alike.refl U.vm) qK, qM⟩, va_recv hK hP (ci := 4) (q0 := ((113 + (pg).toNat * 15) + 3)) rfl ((fw_get (by (first | ((try clear q); (try clear mk); (try clear g); (try clear U); (try clear hμ3); (try clear x); (try clear eμ3); (try clear μ3); (try clear hz9); (try clear c26_); (try clear c21_); (try clear hμ2); (try clear eμ2); (try clear μ2); (try clear hn16_); (try clear hm2); (try clear hn2); (try clear hg2); (try clear hl2); (try clear hl1); (try clear hμ1); (try clear eμ1); (try clear μ1); (try clear h66); (try clear hsz); (try clear hnt); (try clear s₁); omega) | omega))).trans (by rw [(sE_rowO (rowB_L (show (pg).toNat < 8 by (first | ((try clear q); (try clear mk); (try clear g); (try clear U); (try clear hμ3); (try clear x); (try clear eμ3); (try clear μ3); (try clear hz9); (try clear c26_); (try clear c21_); (try clear hμ2); (try clear eμ2); (try clear μ2); (try clear hn16_); (try clear hm2); (try clear hn2); (try clear hg2); (try clear hl2); (try clear hl1); (try clear hμ1); (try clear eμ1); (try clear μ1); (try clear h66); (try clear hsz); (try clear hnt); (try clear s₁); omega) | omega)) rfl))])), fun U hU hW => ⟨rfl, by rw [hU], by rw [hU]; exact hP, va_K.moved hW.alike hK, xM_warm hW hM⟩⟩ rfl rfl hl.1 rfl (lv_room (Nat.le_of_ble_eq_true rfl)) dX9_pageNode_48 ⟨Nat.le_of_ble_eq_true rfl, Nat.le_of_ble_eq_true rfl⟩) hS (fun q _ h => fA_le hS.1 q h) (fA_le hS.1) (fun r9 u9 t9 H1 locs ht9 hvm9 hw9 hB9 hz9 hk9 hS => ?_)
          obtain ⟨μ4, r5⟩ := u9
          obtain ⟨hP, -⟩ := hB9
          rw [ht9] at hP
          generalize H1 = H at hP hS ⊢
          obtain ⟨e9, hw9⟩ := hw9
          have e9 : r9 = iZ r5 := e9
          subst e9
          simp only at hP hw9
          have hμ4 := hw9; clear hw9
          rw [hμ4] at hP
          exact W_widen (Nat.le_of_ble_eq_true rfl) (Nat.le_of_ble_eq_true rfl) (vx_ret (W.iret (v := iZ (r5)) hx hb hr (fun t9 ht9 hW9 => ⟨⟨iZ (r5), (μ, r5), rfl, ⟨rfl, (by
                            dsimp only
                            exact ⟨hI, SZ_rf⟩)⟩, by rw [ht9]; exact hP, va_K.moved hW9.alike hK⟩, hS.F ht9⟩) hS.2.2 dX9_pageNode_51))
    · refine vx_callv (vx_runV (As := [.ref (h0 + ((113 + (pg).toNat * 15) + 3)), .int (iZ (nd))]) (rest := []) ⟨hx, hb, hml, hown, hts⟩ (x_needNode l hfl dC dI cI cZ cII cIII h0 H.size μ (((113 + (pg).toNat * 15) + 3)) (96) (nd) ((rowB_L (show (pg).toNat < 8 by (first | ((try clear hn16_); (try clear hm2); (try clear hn2); (try clear hg2); (try clear hl2); (try clear hl1); (try clear hμ1); (try clear x); (try clear eμ1); (try clear μ1); (try clear hz9); (try clear h66); (try clear hsz); (try clear hnt); (try clear s₁); omega) | omega)) rfl)) (by first | assumption | omega | exact CI_lc hI | exact CI_cn hI | exact (CI_n6 hI).1 | decide) (by first | assumption | (first | ((try clear hn16_); (try clear hg2); (try clear hl2); (try clear hl1); (try clear hμ1); (try clear x); (try clear eμ1); (try clear μ1); (try clear hz9); (try clear hn2_); (try clear h66); (try clear hlc); (try clear hsz); (try clear hnt); (try clear s₁); omega) | omega) | exact CI_lc hI | exact CI_cn hI | exact (CI_n6 hI).1 | decide) (hn16_)) (cwV 2 hts (gV_G k914 k916 ks_yX9_needNode k1 k917) rfl rfl rfl (by decide +kernel) ⟨Nat.le_of_ble_eq_true rfl, Nat.le_of_ble_eq_true rfl⟩) ⟨fun a U g mk q => by obtain ⟨q0, q1, qP, qK, qM, qE⟩ := q; exact ⟨q0, q1, qP, va_K.moved (u := U) (U := U.calling g mk a) (Vm.Alike.refl U.vm) qK, qM, xX_call qE⟩, va_recv hK hP (ci := 9) (q0 := 0) rfl ((fw_get (by decide)).trans (by rw [sE_0]; rfl)), fun U hU hW => ⟨rfl, by rw [hU], by rw [hU]; exact hP, va_K.moved hW.alike hK, xM_warm hW hM, xX_at hEx hS (fun q h => fA_le hS.1 q h) hU hW⟩⟩ rfl rfl hl.1 rfl (lv_room (Nat.le_of_ble_eq_true rfl)) dX9_pageNode_16 ⟨Nat.le_of_ble_eq_true rfl, Nat.le_of_ble_eq_true rfl⟩) hS (fun q _ h => fA_le hS.1 q h) (fA_le hS.1) (fun q _ h => fA_le hS.1 q h) (fun E9 ce9 q9 u9 t9 H1 locs ht9 hvm9 hpx9 hBX9 hz9 hk9 hS hce9 hcv9 hcl9 => ?_) (fun u9 t9 H1 locs ht9 hvm9 hw9 hB9 hz9 hk9 hS => hw9.elim)
      obtain ⟨hE9, hP9, hK9⟩ := hBX9
      exact vx_out (fun x hx9 => (hnt x hx9).elim) hlocks hce9 hcv9 hcl9 (fun t8 ht8 hW8 => ⟨u9, (by
                    show CI T u9 ∧ SZ μ u9
                    exact CZ_thr hI hpx9), ⟨(show ∀ z ∈ (["java/util/NoSuchElementException"] : List String), z ∈ (["java/util/NoSuchElementException", "java/lang/IllegalArgumentException"] : List String) by decide +kernel) E9 hE9, by rw [ht8, ← ht9]; exact hP9, va_K.moved hW8 hK⟩, hS.F ht8⟩) hS.2.2 (Nat.le_of_ble_eq_true rfl) (Nat.le_of_ble_eq_true rfl)
  · refine vx_callv (vx_runV (As := [.int (iZ (pg))]) (rest := []) ⟨hx, hb, hml, hown, hts⟩ (x_needPage l hfl dC dI cI cZ cII cIII h0 s.heap.size μ (pg) (by first | assumption | omega | exact CI_lc hI | exact CI_cn hI | exact (CI_n6 hI).1 | decide) (by first | assumption | omega | exact CI_lc hI | exact CI_cn hI | exact (CI_n6 hI).1 | decide) (hn2_)) (cwV 1 hts (gV_G k735 k737 ks_yX9_needPage k1 k738) rfl rfl rfl (by decide +kernel) ⟨Nat.le_of_ble_eq_true rfl, Nat.le_of_ble_eq_true rfl⟩) ⟨fun a U g mk q => by obtain ⟨q0, q1, qP, qK, qM, qE⟩ := q; exact ⟨q0, q1, qP, va_K.moved (u := U) (U := U.calling g mk a) (Vm.Alike.refl U.vm) qK, qM, xX_call qE⟩, va_recv hK hP (ci := 9) (q0 := 0) rfl ((fw_get (by decide)).trans (by rw [sE_0]; rfl)), fun U hU hW => ⟨rfl, by rw [hU], by rw [hU]; exact hP, va_K.moved hW.alike hK, xM_warm hW hM, xX_at hEx hS (fun q h => fA_le hS.1 q h) hU hW⟩⟩ rfl rfl hl.1 rfl (lv_room (Nat.le_of_ble_eq_true rfl)) dX9_pageNode_2 ⟨Nat.le_of_ble_eq_true rfl, Nat.le_of_ble_eq_true rfl⟩) hS (fun q _ h => fA_le hS.1 q h) (fA_le hS.1) (fun q _ h => fA_le hS.1 q h) (fun E9 ce9 q9 u9 t9 H1 locs ht9 hvm9 hpx9 hBX9 hz9 hk9 hS hce9 hcv9 hcl9 => ?_) (fun u9 t9 H1 locs ht9 hvm9 hw9 hB9 hz9 hk9 hS => hw9.elim)
    obtain ⟨hE9, hP9, hK9⟩ := hBX9
    exact vx_out (fun x hx9 => (hnt x hx9).elim) hlocks hce9 hcv9 hcl9 (fun t8 ht8 hW8 => ⟨u9, (by
                show CI T u9 ∧ SZ μ u9
                exact CZ_thr hI hpx9), ⟨(show ∀ z ∈ (["java/util/NoSuchElementException"] : List String), z ∈ (["java/util/NoSuchElementException", "java/lang/IllegalArgumentException"] : List String) by decide +kernel) E9 hE9, by rw [ht8, ← ht9]; exact hP9, va_K.moved hW8 hK⟩, hS.F ht8⟩) hS.2.2 (Nat.le_of_ble_eq_true rfl) (Nat.le_of_ble_eq_true rfl)
set_option maxHeartbeats 4000000 in
set_option maxRecDepth 100000 in
theorem q_fits (l : Launch) (hfl : l.stackTraces = false) (dC : Nat → ClassId) (dI : Nat → Nat → Nat) (cI cZ cII cIII : ClassId) (h0 sz : Nat) (μ : va_M) (pg : Int) (T : List Tk) (hI : CI T μ) (h_pg : inR pg) : vx_Met l yX9_fits (Cond.code yX9_fits cX9_fits 2 (some .boolean) :: wsG) ({ frames := 8, cells := 1, slots := 6, locals := 163 } : Room) (va_Pc [.ref h0, .int (iZ (pg))] (fun U => U.heap.size = sz ∧ va_P (dC, dI) vwCl (fw (sE cI cZ cII cIII h0) h0 233 μ) U.heap ∧ va_K (dC, dI) vwCl (sT cI cZ cII cIII) U ∧ xM U ∧ xX (fA h0 233 sz) U)) (va_Qi (fun (r9 : Int32) (u : va_M × Int) => r9 = iZ u.2 ∧ (fun (u : va_M) (r : Int) => CI T u ∧ SZ μ u) u.1 u.2) (fun u t => va_P (dC, dI) vwCl (fw (sE cI cZ cII cIII h0) h0 233 u.1) t.heap ∧ va_K (dC, dI) vwCl (sT cI cZ cII cIII) t) (fA h0 233 sz)) (vx_X (fun (u : va_M) => CI T u ∧ SZ μ u) (fun E u t => E ∈ (["java/util/NoSuchElementException"] : List String) ∧ va_P (dC, dI) vwCl (fw (sE cI cZ cII cIII h0) h0 233 u) t.heap ∧ va_K (dC, dI) vwCl (sT cI cZ cII cIII) t) (fA h0 233 sz)) 1 6 (fA h0 233 sz) := by
  refine vx_ofW (cc := cX9_fits) (maxL := 2) (ret := (some .boolean)) (by decide) rfl ?_
  intro p e s m args below meth c s₁ B hml hnt hv
  obtain ⟨rfl, hsz, hP, hK, hM, hEx⟩ := hv
  have hx := B.exec
  have hb := B.bytes
  have hr := B.returns
  have hts : ∀ w ∈ wsG, w.before _ s = true := hG_of (atoms_spec (ws := (Cond.code yX9_fits cX9_fits 2 (some .boolean) :: wsG)) B.pre)
  have hown : s.vm.findClass RX9 = some m.cls := findClass_of_methodNamed B.named
  have hlocks := B.notSynchronized
  subst hsz
  have hS : va_S (fA h0 233 s.heap.size) s.heap s.heap [] := va_S.rf
  have hl := lv_entry ([.ref h0, .int (iZ (pg))]) (n := 2) (Nat.le_of_ble_eq_true rfl)
  rw [lg_entry_eq]
  generalize (lg_sl ([.ref h0, .int (iZ (pg))]) ++ List.replicate (2 - (lg_sl ([.ref h0, .int (iZ (pg))])).length) Slot.unset).toArray = ls at hl ⊢
  have hl : lv_has ls 2 [(0, .ref h0), (1, .int (iZ (pg)))] := hl
  have hlc := CI_lc hI
  have h66 := CI_n6 hI
  refine lv_aload_n hx hb dX9_fits_0 rfl (lv_at hl 0 rfl) ?_
  refine lv_iload_n hx hb dX9_fits_1 rfl (lv_at hl 1 rfl) ?_
  by_cases hn2_ : 0 ≤ pg ∧ pg < μ 0 2
  · refine va_callv (va_runV (As := [.int (iZ (pg))]) (rest := []) ⟨hx, hb, hml, hown, hts⟩ (s_needPage l dC dI cI cZ cII cIII h0 s.heap.size μ (pg) (by first | assumption | omega | exact CI_lc hI | exact CI_cn hI | exact (CI_n6 hI).1 | decide) (by first | assumption | omega | exact CI_lc hI | exact CI_cn hI | exact (CI_n6 hI).1 | decide) (by exact hn2_)) (cwV 1 hts (gV_G k735 k737 ks_yX9_needPage k1 k738) rfl rfl rfl (by decide +kernel) ⟨Nat.le_of_ble_eq_true rfl, Nat.le_of_ble_eq_true rfl⟩) ⟨fun a U g mk q => by obtain ⟨q0, q1, qP, qK, qM⟩ := q; exact ⟨q0, q1, qP, va_K.moved (u := U) (U := U.calling g mk a) (Vm.Alike.refl U.vm) qK, qM⟩, va_recv hK hP (ci := 9) (q0 := 0) rfl ((fw_get (by decide)).trans (by rw [sE_0]; rfl)), fun U hU hW => ⟨rfl, by rw [hU], by rw [hU]; exact hP, va_K.moved hW.alike hK, xM_warm hW hM⟩⟩ rfl rfl hl.1 rfl (lv_room (Nat.le_of_ble_eq_true rfl)) dX9_fits_2 ⟨Nat.le_of_ble_eq_true rfl, Nat.le_of_ble_eq_true rfl⟩) hS (fun q _ h => fA_le hS.1 q h) (fA_le hS.1) (fun u9 t9 H1 locs ht9 hvm9 hw9 hB9 hz9 hk9 hS => ?_)
    obtain ⟨hP, -⟩ := hB9
    rw [ht9] at hP
    generalize H1 = H at hP hS ⊢
    obtain ⟨μ1, eμ1⟩ : ∃ x : va_M, x = u9 := ⟨_, rfl⟩
    rw [← eμ1] at hP hw9
    have hμ1 := hw9; clear hw9
    rw [hμ1] at hP
    refine lv_aload_n hx hb dX9_fits_5 rfl (lv_at hl 0 rfl) ?_
    refine lv_iload_n hx hb dX9_fits_6 rfl (lv_at hl 1 rfl) ?_
    refine va_callr (va_runV (As := [.int (iZ (pg))]) (rest := []) ⟨hx, hb, hml, hown, hts⟩ (s_walkOf l dC dI cI cZ cII cIII h0 H.size μ (pg) (T) (by exact hI) (by first | assumption | omega | exact CI_lc hI | exact CI_cn hI | exact (CI_n6 hI).1 | decide)) (cwV 1 hts (gV_G k535 k537 ks_yX9_walkOf k1 k538) rfl rfl rfl (by decide +kernel) ⟨Nat.le_of_ble_eq_true rfl, Nat.le_of_ble_eq_true rfl⟩) ⟨fun a U g mk q => by obtain ⟨q0, q1, qP, qK, qM⟩ := q; exact ⟨q0, q1, qP, va_K.moved (u := U) (U := U.calling g mk a) (Vm.Alike.refl U.vm) qK, qM⟩, va_recv hK hP (ci := 9) (q0 := 0) rfl ((fw_get (by decide)).trans (by rw [sE_0]; rfl)), fun U hU hW => ⟨rfl, by rw [hU], by rw [hU]; exact hP, va_K.moved hW.alike hK, xM_warm hW hM⟩⟩ rfl rfl hl.1 rfl (lv_room (Nat.le_of_ble_eq_true rfl)) dX9_fits_7 ⟨Nat.le_of_ble_eq_true rfl, Nat.le_of_ble_eq_true rfl⟩) hS (fun q _ h => fA_le hS.1 q h) (fA_le hS.1) (fun u9 ra9 t9 H1 locs ht9 hvm9 hw9 hB9 hz9 hk9 hS => ?_)
    obtain ⟨hra9, hP, -⟩ := hB9
    subst hra9
    rw [ht9] at hP
    generalize H1 = H at hP hS ⊢
    obtain ⟨μw, eμw⟩ : ∃ x : va_M, x = u9 := ⟨_, rfl⟩
    rw [← eμw] at hP hw9
    have hμw := hw9; clear hw9
    obtain ⟨c1_, f1_⟩ := hμw
    have x66 : μw 6 6 = μ 6 6 := f1_ _ _ (by unfold WQ Zc; (first | ((try clear x66); (try clear f1_); (try clear c1_); (try clear hμw); (try clear x); (try clear eμw); (try clear μw); (try clear hra9); (try clear hz9); (try clear ra9); (try clear hμ1); (try clear eμ1); (try clear μ1); (try clear hn2_); (try clear h66); (try clear hlc); (try clear hsz); (try clear hnt); (try clear s₁); omega) | omega))
    obtain ⟨wl1, wl2⟩ := CI_lf c1_ pg (by (first | ((try clear wl2); (try clear wl1); (try clear x66); (try clear f1_); (try clear c1_); (try clear hμw); (try clear x); (try clear eμw); (try clear hra9); (try clear hz9); (try clear ra9); (try clear hμ1); (try clear eμ1); (try clear μ1); (try clear h66); (try clear hlc); (try clear hsz); (try clear hnt); (try clear s₁); omega) | omega)) (by have := CI_lc hI; (first | ((try clear wl2); (try clear wl1); (try clear x66); (try clear f1_); (try clear c1_); (try clear hμw); (try clear x); (try clear eμw); (try clear hra9); (try clear hz9); (try clear ra9); (try clear hμ1); (try clear eμ1); (try clear μ1); (try clear h66); (try clear hsz); (try clear hnt); (try clear s₁); omega) | omega))
    have w66 := CI_n6 c1_
    refine va_calli (va_runV (As := []) (rest := []) ⟨hx, hb, hml, hown, hts⟩ (s_KisThrough l dC dI cI cZ cII cIII h0 H.size μw ((113 + (pg).toNat * 15)) ((pg).toNat) (rfl) ((show (pg).toNat < 8 by (first | ((try clear w66); (try clear wl2); (try clear wl1); (try clear x66); (try clear f1_); (try clear c1_); (try clear hμw); (try clear x); (try clear eμw); (try clear hra9); (try clear hz9); (try clear ra9); (try clear hμ1); (try clear eμ1); (try clear μ1); (try clear h66); (try clear hsz); (try clear hnt); (try clear s₁); omega) | omega))) (by constructor <;> (first | ((try clear w66); (try clear wl1); (try clear x66); (try clear f1_); (try clear c1_); (try clear hμw); (try clear x); (try clear eμw); (try clear hra9); (try clear hz9); (try clear ra9); (try clear hμ1); (try clear eμ1); (try clear μ1); (try clear hn2_); (try clear h66); (try clear hlc); (try clear hsz); (try clear hnt); (try clear s₁); omega) | omega))) (cwV 0 hts (gV_G k579 k580 k581 k11 k582) rfl rfl rfl (by decide +kernel) ⟨Nat.le_of_ble_eq_true rfl, Nat.le_of_ble_eq_true rfl⟩) ⟨fun a U g mk q => by obtain ⟨q0, q1, qP, qK, qM⟩ := q; exact ⟨q0, q1, qP, va_K.moved (u := U) (U := U.calling g mk a) (Vm.Alike.refl U.vm) qK, qM⟩, va_recv hK hP (ci := 7) (q0 := ((113 + (pg).toNat * 15) + 10)) rfl ((fw_get (by (first | ((try clear q); (try clear mk); (try clear g); (try clear U); (try clear w66); (try clear wl2); (try clear wl1); (try clear x66); (try clear f1_); (try clear c1_); (try clear hμw); (try clear x); (try clear eμw); (try clear hra9); (try clear hz9); (try clear ra9); (try clear hμ1); (try clear eμ1); (try clear μ1); (try clear h66); (try clear hsz); (try clear hnt); (try clear s₁); omega) | omega))).trans (by rw [(sE_walk (show (pg).toNat < 8 by (first | ((try clear q); (try clear mk); (try clear g); (try clear U); (try clear w66); (try clear wl2); (try clear wl1); (try clear x66); (try clear f1_); (try clear c1_); (try clear hμw); (try clear x); (try clear eμw); (try clear hra9); (try clear hz9); (try clear ra9); (try clear hμ1); (try clear eμ1); (try clear μ1); (try clear h66); (try clear hsz); (try clear hnt); (try clear s₁); omega) | omega)) rfl)])), fun U hU hW => ⟨rfl, by rw [hU], by rw [hU]; exact hP, va_K.moved hW.alike hK, xM_warm hW hM⟩⟩ rfl rfl hl.1 rfl (lv_room (Nat.le_of_ble_eq_true rfl)) dX9_fits_10 ⟨Nat.le_of_ble_eq_true rfl, Nat.le_of_ble_eq_true rfl⟩) hS (fun q _ h => fA_le hS.1 q h) (fA_le hS.1) (fun r9 u9 t9 H1 locs ht9 hvm9 hw9 hB9 hz9 hk9 hS => ?_)
    obtain ⟨μi, ri⟩ := u9
    obtain ⟨hP, -⟩ := hB9
    rw [ht9] at hP
    generalize H1 = H at hP hS ⊢
    obtain ⟨e9, hw9⟩ := hw9
    have e9 : r9 = iZ ri := e9
    subst e9
    simp only at hP hw9
    have hμi := hw9; clear hw9
    rw [hμi.1] at hP; have hμi := hμi.2
    have hri := hμi
    exact W_widen (Nat.le_of_ble_eq_true rfl) (Nat.le_of_ble_eq_true rfl) (vx_ret (W.zret (v := iZ (ri)) hx hb hr (by exact fz_narZ (by (first | ((try clear hμi); (try clear ri); (try clear μi); (try clear hz9); (try clear w66); (try clear wl2); (try clear wl1); (try clear x66); (try clear f1_); (try clear c1_); (try clear hμw); (try clear x); (try clear eμw); (try clear μw); (try clear hra9); (try clear ra9); (try clear hμ1); (try clear eμ1); (try clear μ1); (try clear hn2_); (try clear h66); (try clear hlc); (try clear hsz); (try clear hnt); (try clear s₁); omega) | omega))) (fun t9 ht9 hW9 => ⟨⟨iZ (ri), (μw, ri), rfl, ⟨rfl, (by
                dsimp only
                exact ⟨c1_, SZ_wq f1_⟩)⟩, by rw [ht9]; exact hP, va_K.moved hW9.alike hK⟩, hS.F ht9⟩) hS.2.2 dX9_fits_13))
  · refine vx_callv (vx_runV (As := [.int (iZ (pg))]) (rest := []) ⟨hx, hb, hml, hown, hts⟩ (x_needPage l hfl dC dI cI cZ cII cIII h0 s.heap.size μ (pg) (by first | assumption | omega | exact CI_lc hI | exact CI_cn hI | exact (CI_n6 hI).1 | decide) (by first | assumption | omega | exact CI_lc hI | exact CI_cn hI | exact (CI_n6 hI).1 | decide) (hn2_)) (cwV 1 hts (gV_G k735 k737 ks_yX9_needPage k1 k738) rfl rfl rfl (by decide +kernel) ⟨Nat.le_of_ble_eq_true rfl, Nat.le_of_ble_eq_true rfl⟩) ⟨fun a U g mk q => by obtain ⟨q0, q1, qP, qK, qM, qE⟩ := q; exact ⟨q0, q1, qP, va_K.moved (u := U) (U := U.calling g mk a) (Vm.Alike.refl U.vm) qK, qM, xX_call qE⟩, va_recv hK hP (ci := 9) (q0 := 0) rfl ((fw_get (by decide)).trans (by rw [sE_0]; rfl)), fun U hU hW => ⟨rfl, by rw [hU], by rw [hU]; exact hP, va_K.moved hW.alike hK, xM_warm hW hM, xX_at hEx hS (fun q h => fA_le hS.1 q h) hU hW⟩⟩ rfl rfl hl.1 rfl (lv_room (Nat.le_of_ble_eq_true rfl)) dX9_fits_2 ⟨Nat.le_of_ble_eq_true rfl, Nat.le_of_ble_eq_true rfl⟩) hS (fun q _ h => fA_le hS.1 q h) (fA_le hS.1) (fun q _ h => fA_le hS.1 q h) (fun E9 ce9 q9 u9 t9 H1 locs ht9 hvm9 hpx9 hBX9 hz9 hk9 hS hce9 hcv9 hcl9 => ?_) (fun u9 t9 H1 locs ht9 hvm9 hw9 hB9 hz9 hk9 hS => hw9.elim)
    obtain ⟨hE9, hP9, hK9⟩ := hBX9
    exact vx_out (fun x hx9 => (hnt x hx9).elim) hlocks hce9 hcv9 hcl9 (fun t8 ht8 hW8 => ⟨u9, (by
                show CI T u9 ∧ SZ μ u9
                exact CZ_thr hI hpx9), ⟨hE9, by rw [ht8, ← ht9]; exact hP9, va_K.moved hW8 hK⟩, hS.F ht8⟩) hS.2.2 (Nat.le_of_ble_eq_true rfl) (Nat.le_of_ble_eq_true rfl)
set_option maxHeartbeats 4000000 in
set_option maxRecDepth 100000 in
theorem q_ways (l : Launch) (hfl : l.stackTraces = false) (dC : Nat → ClassId) (dI : Nat → Nat → Nat) (cI cZ cII cIII : ClassId) (h0 sz : Nat) (μ : va_M) (pg : Int) (T : List Tk) (hI : CI T μ) (h_pg : inR pg) : vx_Met l yX9_ways (Cond.code yX9_ways cX9_ways 2 (some .int) :: wsG) ({ frames := 8, cells := 1, slots := 6, locals := 163 } : Room) (va_Pc [.ref h0, .int (iZ (pg))] (fun U => U.heap.size = sz ∧ va_P (dC, dI) vwCl (fw (sE cI cZ cII cIII h0) h0 233 μ) U.heap ∧ va_K (dC, dI) vwCl (sT cI cZ cII cIII) U ∧ xM U ∧ xX (fA h0 233 sz) U)) (va_Qi (fun (r9 : Int32) (u : va_M × Int) => r9 = iZ u.2 ∧ (fun (u : va_M) (r : Int) => CI T u ∧ SZ μ u) u.1 u.2) (fun u t => va_P (dC, dI) vwCl (fw (sE cI cZ cII cIII h0) h0 233 u.1) t.heap ∧ va_K (dC, dI) vwCl (sT cI cZ cII cIII) t) (fA h0 233 sz)) (vx_X (fun (u : va_M) => CI T u ∧ SZ μ u) (fun E u t => E ∈ (["java/util/NoSuchElementException"] : List String) ∧ va_P (dC, dI) vwCl (fw (sE cI cZ cII cIII h0) h0 233 u) t.heap ∧ va_K (dC, dI) vwCl (sT cI cZ cII cIII) t) (fA h0 233 sz)) 1 6 (fA h0 233 sz) := by
  refine vx_ofW (cc := cX9_ways) (maxL := 2) (ret := (some .int)) (by decide) rfl ?_
  intro p e s m args below meth c s₁ B hml hnt hv
  obtain ⟨rfl, hsz, hP, hK, hM, hEx⟩ := hv
  have hx := B.exec
  have hb := B.bytes
  have hr := B.returns
  have hts : ∀ w ∈ wsG, w.before _ s = true := hG_of (atoms_spec (ws := (Cond.code yX9_ways cX9_ways 2 (some .int) :: wsG)) B.pre)
  have hown : s.vm.findClass RX9 = some m.cls := findClass_of_methodNamed B.named
  have hlocks := B.notSynchronized
  subst hsz
  have hS : va_S (fA h0 233 s.heap.size) s.heap s.heap [] := va_S.rf
  have hl := lv_entry ([.ref h0, .int (iZ (pg))]) (n := 2) (Nat.le_of_ble_eq_true rfl)
  rw [lg_entry_eq]
  generalize (lg_sl ([.ref h0, .int (iZ (pg))]) ++ List.replicate (2 - (lg_sl ([.ref h0, .int (iZ (pg))])).length) Slot.unset).toArray = ls at hl ⊢
  have hl : lv_has ls 2 [(0, .ref h0), (1, .int (iZ (pg)))] := hl
  have hlc := CI_lc hI
  have h66 := CI_n6 hI
  refine lv_aload_n hx hb dX9_ways_0 rfl (lv_at hl 0 rfl) ?_
  refine lv_iload_n hx hb dX9_ways_1 rfl (lv_at hl 1 rfl) ?_
  by_cases hn2_ : 0 ≤ pg ∧ pg < μ 0 2
  · refine va_callv (va_runV (As := [.int (iZ (pg))]) (rest := []) ⟨hx, hb, hml, hown, hts⟩ (s_needPage l dC dI cI cZ cII cIII h0 s.heap.size μ (pg) (by first | assumption | omega | exact CI_lc hI | exact CI_cn hI | exact (CI_n6 hI).1 | decide) (by first | assumption | omega | exact CI_lc hI | exact CI_cn hI | exact (CI_n6 hI).1 | decide) (by exact hn2_)) (cwV 1 hts (gV_G k735 k737 ks_yX9_needPage k1 k738) rfl rfl rfl (by decide +kernel) ⟨Nat.le_of_ble_eq_true rfl, Nat.le_of_ble_eq_true rfl⟩) ⟨fun a U g mk q => by obtain ⟨q0, q1, qP, qK, qM⟩ := q; exact ⟨q0, q1, qP, va_K.moved (u := U) (U := U.calling g mk a) (Vm.Alike.refl U.vm) qK, qM⟩, va_recv hK hP (ci := 9) (q0 := 0) rfl ((fw_get (by decide)).trans (by rw [sE_0]; rfl)), fun U hU hW => ⟨rfl, by rw [hU], by rw [hU]; exact hP, va_K.moved hW.alike hK, xM_warm hW hM⟩⟩ rfl rfl hl.1 rfl (lv_room (Nat.le_of_ble_eq_true rfl)) dX9_ways_2 ⟨Nat.le_of_ble_eq_true rfl, Nat.le_of_ble_eq_true rfl⟩) hS (fun q _ h => fA_le hS.1 q h) (fA_le hS.1) (fun u9 t9 H1 locs ht9 hvm9 hw9 hB9 hz9 hk9 hS => ?_)
    obtain ⟨hP, -⟩ := hB9
    rw [ht9] at hP
    generalize H1 = H at hP hS ⊢
    obtain ⟨μ1, eμ1⟩ : ∃ x : va_M, x = u9 := ⟨_, rfl⟩
    rw [← eμ1] at hP hw9
    have hμ1 := hw9; clear hw9
    rw [hμ1] at hP
    refine lv_aload_n hx hb dX9_ways_5 rfl (lv_at hl 0 rfl) ?_
    refine lv_iload_n hx hb dX9_ways_6 rfl (lv_at hl 1 rfl) ?_
    refine va_callr (va_runV (As := [.int (iZ (pg))]) (rest := []) ⟨hx, hb, hml, hown, hts⟩ (s_walkOf l dC dI cI cZ cII cIII h0 H.size μ (pg) (T) (by exact hI) (by first | assumption | omega | exact CI_lc hI | exact CI_cn hI | exact (CI_n6 hI).1 | decide)) (cwV 1 hts (gV_G k535 k537 ks_yX9_walkOf k1 k538) rfl rfl rfl (by decide +kernel) ⟨Nat.le_of_ble_eq_true rfl, Nat.le_of_ble_eq_true rfl⟩) ⟨fun a U g mk q => by obtain ⟨q0, q1, qP, qK, qM⟩ := q; exact ⟨q0, q1, qP, va_K.moved (u := U) (U := U.calling g mk a) (Vm.Alike.refl U.vm) qK, qM⟩, va_recv hK hP (ci := 9) (q0 := 0) rfl ((fw_get (by decide)).trans (by rw [sE_0]; rfl)), fun U hU hW => ⟨rfl, by rw [hU], by rw [hU]; exact hP, va_K.moved hW.alike hK, xM_warm hW hM⟩⟩ rfl rfl hl.1 rfl (lv_room (Nat.le_of_ble_eq_true rfl)) dX9_ways_7 ⟨Nat.le_of_ble_eq_true rfl, Nat.le_of_ble_eq_true rfl⟩) hS (fun q _ h => fA_le hS.1 q h) (fA_le hS.1) (fun u9 ra9 t9 H1 locs ht9 hvm9 hw9 hB9 hz9 hk9 hS => ?_)
    obtain ⟨hra9, hP, -⟩ := hB9
    subst hra9
    rw [ht9] at hP
    generalize H1 = H at hP hS ⊢
    obtain ⟨μw, eμw⟩ : ∃ x : va_M, x = u9 := ⟨_, rfl⟩
    rw [← eμw] at hP hw9
    have hμw := hw9; clear hw9
    obtain ⟨c1_, f1_⟩ := hμw
    have x66 : μw 6 6 = μ 6 6 := f1_ _ _ (by unfold WQ Zc; (first | ((try clear x66); (try clear f1_); (try clear c1_); (try clear hμw); (try clear x); (try clear eμw); (try clear μw); (try clear hra9); (try clear hz9); (try clear ra9); (try clear hμ1); (try clear eμ1); (try clear μ1); (try clear hn2_); (try clear h66); (try clear hlc); (try clear hsz); (try clear hnt); (try clear s₁); omega) | omega))
    obtain ⟨wl1, wl2⟩ := CI_lf c1_ pg (by (first | ((try clear wl2); (try clear wl1); (try clear x66); (try clear f1_); (try clear c1_); (try clear hμw); (try clear x); (try clear eμw); (try clear hra9); (try clear hz9); (try clear ra9); (try clear hμ1); (try clear eμ1); (try clear μ1); (try clear h66); (try clear hlc); (try clear hsz); (try clear hnt); (try clear s₁); omega) | omega)) (by have := CI_lc hI; (first | ((try clear wl2); (try clear wl1); (try clear x66); (try clear f1_); (try clear c1_); (try clear hμw); (try clear x); (try clear eμw); (try clear hra9); (try clear hz9); (try clear ra9); (try clear hμ1); (try clear eμ1); (try clear μ1); (try clear h66); (try clear hsz); (try clear hnt); (try clear s₁); omega) | omega))
    have w66 := CI_n6 c1_
    refine fz_get (D := (dC, dI)) (ci := 7) (v := .int (iZ (μw ((113 + (pg).toNat * 15) + 10) 1))) (C := RX7) (T := TX7) (N := 5) hx hb hts inG7 hown hK hP (k := ((113 + (pg).toNat * 15) + 10)) (by (first | ((try clear w66); (try clear wl2); (try clear wl1); (try clear x66); (try clear f1_); (try clear c1_); (try clear hμw); (try clear x); (try clear eμw); (try clear hra9); (try clear hz9); (try clear ra9); (try clear hμ1); (try clear eμ1); (try clear μ1); (try clear h66); (try clear hsz); (try clear hnt); (try clear s₁); omega) | omega)) (F := (sWF h0 (113 + (pg).toNat * 15))) (sE_walk (show (pg).toNat < 8 by (first | ((try clear w66); (try clear wl2); (try clear wl1); (try clear x66); (try clear f1_); (try clear c1_); (try clear hμw); (try clear x); (try clear eμw); (try clear hra9); (try clear hz9); (try clear ra9); (try clear hμ1); (try clear eμ1); (try clear μ1); (try clear h66); (try clear hsz); (try clear hnt); (try clear s₁); omega) | omega)) rfl) rfl 1 (by decide) (hts _ k275) (fun _ h9 => h9) rfl dX9_ways_10 ?_
    exact W_widen (Nat.le_of_ble_eq_true rfl) (Nat.le_of_ble_eq_true rfl) (vx_ret (W.iret (v := iZ (μw ((113 + (pg).toNat * 15) + 10) 1)) hx hb hr (fun t9 ht9 hW9 => ⟨⟨iZ (μw ((113 + (pg).toNat * 15) + 10) 1), (μw, μw ((113 + (pg).toNat * 15) + 10) 1), rfl, ⟨rfl, (by
                dsimp only
                exact ⟨c1_, SZ_wq f1_⟩)⟩, by rw [ht9]; exact hP, va_K.moved hW9.alike hK⟩, hS.F ht9⟩) hS.2.2 dX9_ways_13))
  · refine vx_callv (vx_runV (As := [.int (iZ (pg))]) (rest := []) ⟨hx, hb, hml, hown, hts⟩ (x_needPage l hfl dC dI cI cZ cII cIII h0 s.heap.size μ (pg) (by first | assumption | omega | exact CI_lc hI | exact CI_cn hI | exact (CI_n6 hI).1 | decide) (by first | assumption | omega | exact CI_lc hI | exact CI_cn hI | exact (CI_n6 hI).1 | decide) (hn2_)) (cwV 1 hts (gV_G k735 k737 ks_yX9_needPage k1 k738) rfl rfl rfl (by decide +kernel) ⟨Nat.le_of_ble_eq_true rfl, Nat.le_of_ble_eq_true rfl⟩) ⟨fun a U g mk q => by obtain ⟨q0, q1, qP, qK, qM, qE⟩ := q; exact ⟨q0, q1, qP, va_K.moved (u := U) (U := U.calling g mk a) (Vm.Alike.refl U.vm) qK, qM, xX_call qE⟩, va_recv hK hP (ci := 9) (q0 := 0) rfl ((fw_get (by decide)).trans (by rw [sE_0]; rfl)), fun U hU hW => ⟨rfl, by rw [hU], by rw [hU]; exact hP, va_K.moved hW.alike hK, xM_warm hW hM, xX_at hEx hS (fun q h => fA_le hS.1 q h) hU hW⟩⟩ rfl rfl hl.1 rfl (lv_room (Nat.le_of_ble_eq_true rfl)) dX9_ways_2 ⟨Nat.le_of_ble_eq_true rfl, Nat.le_of_ble_eq_true rfl⟩) hS (fun q _ h => fA_le hS.1 q h) (fA_le hS.1) (fun q _ h => fA_le hS.1 q h) (fun E9 ce9 q9 u9 t9 H1 locs ht9 hvm9 hpx9 hBX9 hz9 hk9 hS hce9 hcv9 hcl9 => ?_) (fun u9 t9 H1 locs ht9 hvm9 hw9 hB9 hz9 hk9 hS => hw9.elim)
    obtain ⟨hE9, hP9, hK9⟩ := hBX9
    exact vx_out (fun x hx9 => (hnt x hx9).elim) hlocks hce9 hcv9 hcl9 (fun t8 ht8 hW8 => ⟨u9, (by
                show CI T u9 ∧ SZ μ u9
                exact CZ_thr hI hpx9), ⟨hE9, by rw [ht8, ← ht9]; exact hP9, va_K.moved hW8 hK⟩, hS.F ht8⟩) hS.2.2 (Nat.le_of_ble_eq_true rfl) (Nat.le_of_ble_eq_true rfl)
set_option maxHeartbeats 4000000 in
set_option maxRecDepth 100000 in
theorem q_reach (l : Launch) (hfl : l.stackTraces = false) (dC : Nat → ClassId) (dI : Nat → Nat → Nat) (cI cZ cII cIII : ClassId) (h0 sz : Nat) (μ : va_M) (pg : Int) (T : List Tk) (hI : CI T μ) (h_pg : inR pg) : vx_Met l yX9_reach (Cond.code yX9_reach cX9_reach 2 (some .int) :: wsG) ({ frames := 8, cells := 1, slots := 6, locals := 131 } : Room) (va_Pc [.ref h0, .int (iZ (pg))] (fun U => U.heap.size = sz ∧ va_P (dC, dI) vwCl (fw (sE cI cZ cII cIII h0) h0 233 μ) U.heap ∧ va_K (dC, dI) vwCl (sT cI cZ cII cIII) U ∧ xM U ∧ xX (fA h0 233 sz) U)) (va_Qi (fun (r9 : Int32) (u : va_M × Int) => r9 = iZ u.2 ∧ (fun (u : va_M) (r : Int) => CI T u ∧ SZ μ u) u.1 u.2) (fun u t => va_P (dC, dI) vwCl (fw (sE cI cZ cII cIII h0) h0 233 u.1) t.heap ∧ va_K (dC, dI) vwCl (sT cI cZ cII cIII) t) (fA h0 233 sz)) (vx_X (fun (u : va_M) => CI T u ∧ SZ μ u) (fun E u t => E ∈ (["java/util/NoSuchElementException"] : List String) ∧ va_P (dC, dI) vwCl (fw (sE cI cZ cII cIII h0) h0 233 u) t.heap ∧ va_K (dC, dI) vwCl (sT cI cZ cII cIII) t) (fA h0 233 sz)) 1 6 (fA h0 233 sz) := by
  refine vx_ofW (cc := cX9_reach) (maxL := 2) (ret := (some .int)) (by decide) rfl ?_
  intro p e s m args below meth c s₁ B hml hnt hv
  obtain ⟨rfl, hsz, hP, hK, hM, hEx⟩ := hv
  have hx := B.exec
  have hb := B.bytes
  have hr := B.returns
  have hts : ∀ w ∈ wsG, w.before _ s = true := hG_of (atoms_spec (ws := (Cond.code yX9_reach cX9_reach 2 (some .int) :: wsG)) B.pre)
  have hown : s.vm.findClass RX9 = some m.cls := findClass_of_methodNamed B.named
  have hlocks := B.notSynchronized
  subst hsz
  have hS : va_S (fA h0 233 s.heap.size) s.heap s.heap [] := va_S.rf
  have hl := lv_entry ([.ref h0, .int (iZ (pg))]) (n := 2) (Nat.le_of_ble_eq_true rfl)
  rw [lg_entry_eq]
  generalize (lg_sl ([.ref h0, .int (iZ (pg))]) ++ List.replicate (2 - (lg_sl ([.ref h0, .int (iZ (pg))])).length) Slot.unset).toArray = ls at hl ⊢
  have hl : lv_has ls 2 [(0, .ref h0), (1, .int (iZ (pg)))] := hl
  have hlc := CI_lc hI
  have h66 := CI_n6 hI
  refine lv_aload_n hx hb dX9_reach_0 rfl (lv_at hl 0 rfl) ?_
  refine lv_iload_n hx hb dX9_reach_1 rfl (lv_at hl 1 rfl) ?_
  by_cases hn2_ : 0 ≤ pg ∧ pg < μ 0 2
  · refine va_callv (va_runV (As := [.int (iZ (pg))]) (rest := []) ⟨hx, hb, hml, hown, hts⟩ (s_needPage l dC dI cI cZ cII cIII h0 s.heap.size μ (pg) (by first | assumption | omega | exact CI_lc hI | exact CI_cn hI | exact (CI_n6 hI).1 | decide) (by first | assumption | omega | exact CI_lc hI | exact CI_cn hI | exact (CI_n6 hI).1 | decide) (by exact hn2_)) (cwV 1 hts (gV_G k735 k737 ks_yX9_needPage k1 k738) rfl rfl rfl (by decide +kernel) ⟨Nat.le_of_ble_eq_true rfl, Nat.le_of_ble_eq_true rfl⟩) ⟨fun a U g mk q => by obtain ⟨q0, q1, qP, qK, qM⟩ := q; exact ⟨q0, q1, qP, va_K.moved (u := U) (U := U.calling g mk a) (Vm.Alike.refl U.vm) qK, qM⟩, va_recv hK hP (ci := 9) (q0 := 0) rfl ((fw_get (by decide)).trans (by rw [sE_0]; rfl)), fun U hU hW => ⟨rfl, by rw [hU], by rw [hU]; exact hP, va_K.moved hW.alike hK, xM_warm hW hM⟩⟩ rfl rfl hl.1 rfl (lv_room (Nat.le_of_ble_eq_true rfl)) dX9_reach_2 ⟨Nat.le_of_ble_eq_true rfl, Nat.le_of_ble_eq_true rfl⟩) hS (fun q _ h => fA_le hS.1 q h) (fA_le hS.1) (fun u9 t9 H1 locs ht9 hvm9 hw9 hB9 hz9 hk9 hS => ?_)
    obtain ⟨hP, -⟩ := hB9
    rw [ht9] at hP
    generalize H1 = H at hP hS ⊢
    obtain ⟨μ1, eμ1⟩ : ∃ x : va_M, x = u9 := ⟨_, rfl⟩
    rw [← eμ1] at hP hw9
    have hμ1 := hw9; clear hw9
    rw [hμ1] at hP
    obtain ⟨hl1, hl2⟩ := CI_lf hI pg (by (first | ((try clear hl2); (try clear hl1); (try clear hμ1); (try clear x); (try clear eμ1); (try clear μ1); (try clear hz9); (try clear h66); (try clear hlc); (try clear hsz); (try clear hnt); (try clear s₁); omega) | omega)) (by (first | ((try clear hl2); (try clear hl1); (try clear hμ1); (try clear x); (try clear eμ1); (try clear μ1); (try clear hz9); (try clear h66); (try clear hsz); (try clear hnt); (try clear s₁); omega) | omega))
    refine lv_aload_n hx hb dX9_reach_5 rfl (lv_at hl 0 rfl) ?_
    refine fz_get (D := (dC, dI)) (ci := 9) (v := .ref (h0 + 45)) (C := RX9) (T := TX9) (N := 15) hx hb hts inG9 hown hK hP (k := 0) (by decide) (F := (sF0 h0)) sE_0 rfl 10 (by decide) (hts _ k342) (fun _ h9 => h9) rfl dX9_reach_6 ?_
    refine lv_aload_n hx hb dX9_reach_9 rfl (lv_at hl 0 rfl) ?_
    refine fz_get (D := (dC, dI)) (ci := 9) (v := .ref (h0 + 6)) (C := RX9) (T := TX9) (N := 15) hx hb hts inG9 hown hK hP (k := 0) (by decide) (F := (sF0 h0)) sE_0 rfl 3 (by decide) (hts _ k335) (fun _ h9 => h9) rfl dX9_reach_10 ?_
    refine lv_aload_n hx hb dX9_reach_13 rfl (lv_at hl 0 rfl) ?_
    refine fz_get (D := (dC, dI)) (ci := 9) (v := .ref (h0 + 5)) (C := RX9) (T := TX9) (N := 15) hx hb hts inG9 hown hK hP (k := 0) (by decide) (F := (sF0 h0)) sE_0 rfl 1 (by decide) (hts _ k333) (fun _ h9 => h9) rfl dX9_reach_14 ?_
    refine lv_iload_n hx hb dX9_reach_17 rfl (lv_at hl 1 rfl) ?_
    refine fz_ald (k := 5) (n := 8) (k2 := (113 + (pg).toNat * 15)) hx hb hK hP 1 rfl (by decide) sE_5 rfl ⟨by (first | ((try clear hl2); (try clear hl1); (try clear hμ1); (try clear x); (try clear eμ1); (try clear μ1); (try clear hz9); (try clear h66); (try clear hlc); (try clear hsz); (try clear hnt); (try clear s₁); omega) | omega), by (first | ((try clear hl2); (try clear hl1); (try clear hμ1); (try clear x); (try clear eμ1); (try clear μ1); (try clear hz9); (try clear h66); (try clear hsz); (try clear hnt); (try clear s₁); omega) | omega)⟩ (by decide) (if_pos (by (first | ((try clear hl2); (try clear hl1); (try clear hμ1); (try clear x); (try clear eμ1); (try clear μ1); (try clear hz9); (try clear h66); (try clear hsz); (try clear hnt); (try clear s₁); omega) | omega))) dX9_reach_18 ?_
    refine fz_get (D := (dC, dI)) (ci := 1) (v := .ref (h0 + ((113 + (pg).toNat * 15) + 2))) (C := RX1) (T := TX1) (N := 8) hx hb hts inG1 hown hK hP (k := (113 + (pg).toNat * 15)) (by (first | ((try clear hl2); (try clear hl1); (try clear hμ1); (try clear x); (try clear eμ1); (try clear μ1); (try clear hz9); (try clear h66); (try clear hsz); (try clear hnt); (try clear s₁); omega) | omega)) (F := (sLF h0 (113 + (pg).toNat * 15))) (sE_leafO (show (pg).toNat < 8 by (first | ((try clear hl2); (try clear hl1); (try clear hμ1); (try clear x); (try clear eμ1); (try clear μ1); (try clear hz9); (try clear h66); (try clear hsz); (try clear hnt); (try clear s₁); omega) | omega)) rfl) rfl 1 (by decide) (hts _ k299) (fun _ h9 => h9) rfl dX9_reach_19 ?_
    refine lv_aload_n hx hb dX9_reach_22 rfl (lv_at hl 0 rfl) ?_
    refine fz_get (D := (dC, dI)) (ci := 9) (v := .ref (h0 + 5)) (C := RX9) (T := TX9) (N := 15) hx hb hts inG9 hown hK hP (k := 0) (by decide) (F := (sF0 h0)) sE_0 rfl 1 (by decide) (hts _ k333) (fun _ h9 => h9) rfl dX9_reach_23 ?_
    refine lv_iload_n hx hb dX9_reach_26 rfl (lv_at hl 1 rfl) ?_
    refine fz_ald (k := 5) (n := 8) (k2 := (113 + (pg).toNat * 15)) hx hb hK hP 1 rfl (by decide) sE_5 rfl ⟨by (first | ((try clear hl2); (try clear hl1); (try clear hμ1); (try clear x); (try clear eμ1); (try clear μ1); (try clear hz9); (try clear h66); (try clear hlc); (try clear hsz); (try clear hnt); (try clear s₁); omega) | omega), by (first | ((try clear hl2); (try clear hl1); (try clear hμ1); (try clear x); (try clear eμ1); (try clear μ1); (try clear hz9); (try clear h66); (try clear hsz); (try clear hnt); (try clear s₁); omega) | omega)⟩ (by decide) (if_pos (by (first | ((try clear hl2); (try clear hl1); (try clear hμ1); (try clear x); (try clear eμ1); (try clear μ1); (try clear hz9); (try clear h66); (try clear hsz); (try clear hnt); (try clear s₁); omega) | omega))) dX9_reach_27 ?_
    refine fz_get (D := (dC, dI)) (ci := 1) (v := .int (iZ (μ (113 + (pg).toNat * 15) 2))) (C := RX1) (T := TX1) (N := 8) hx hb hts inG1 hown hK hP (k := (113 + (pg).toNat * 15)) (by (first | ((try clear hl2); (try clear hl1); (try clear hμ1); (try clear x); (try clear eμ1); (try clear μ1); (try clear hz9); (try clear h66); (try clear hsz); (try clear hnt); (try clear s₁); omega) | omega)) (F := (sLF h0 (113 + (pg).toNat * 15))) (sE_leafO (show (pg).toNat < 8 by (first | ((try clear hl2); (try clear hl1); (try clear hμ1); (try clear x); (try clear eμ1); (try clear μ1); (try clear hz9); (try clear h66); (try clear hsz); (try clear hnt); (try clear s₁); omega) | omega)) rfl) rfl 2 (by decide) (hts _ k301) (fun _ h9 => h9) rfl dX9_reach_28 ?_
    refine lv_iconst (v := iZ 2) hx hb dX9_reach_31 rfl ?_
    refine va_calli (va_runV (As := [.ref (h0 + 6), .ref (h0 + ((113 + (pg).toNat * 15) + 2)), .int (iZ (μ (113 + (pg).toNat * 15) 2)), .int (iZ (2))]) (rest := []) ⟨hx, hb, hml, hown, hts⟩ (s_WgoThrough l dC dI cI cZ cII cIII h0 H.size μ (6) (1100) (((113 + (pg).toNat * 15) + 2)) (60) (μ (113 + (pg).toNat * 15) 2) (2) (rowB_6) (by exact hI.1.2.2.1) (by exact hI.1.2.2.2.2.2.1) (by (first | ((try clear hl2); (try clear hl1); (try clear hμ1); (try clear x); (try clear eμ1); (try clear μ1); (try clear hz9); (try clear h66); (try clear hsz); (try clear hnt); (try clear s₁); omega) | omega)) ((sE_leafA 2 60 (show (pg).toNat < 8 by (first | ((try clear hl2); (try clear hl1); (try clear hμ1); (try clear x); (try clear eμ1); (try clear μ1); (try clear hz9); (try clear h66); (try clear hsz); (try clear hnt); (try clear s₁); omega) | omega)) rfl (by decide))) (by
                intro j
                have := hl1.2.2.1 j
                constructor <;> (first | ((try clear hl2); (try clear hl1); (try clear hμ1); (try clear x); (try clear eμ1); (try clear μ1); (try clear hz9); (try clear hn2_); (try clear h66); (try clear hlc); (try clear hsz); (try clear hnt); (try clear s₁); omega) | omega)) (by
                have := hl1.1.1
                (first | ((try clear j); (try clear hl2); (try clear hl1); (try clear hμ1); (try clear x); (try clear eμ1); (try clear μ1); (try clear hz9); (try clear hn2_); (try clear h66); (try clear hlc); (try clear hsz); (try clear hnt); (try clear s₁); omega) | omega)) (by decide)) (cwV 4 hts (gV_G k848 k544 k545 k8 k546) rfl rfl rfl (by decide +kernel) ⟨Nat.le_of_ble_eq_true rfl, Nat.le_of_ble_eq_true rfl⟩) ⟨fun a U g mk q => by obtain ⟨q0, q1, qP, qK, qM⟩ := q; exact ⟨q0, q1, qP, va_K.moved (u := U) (U := U.calling g mk a) (Vm.Alike.refl U.vm) qK, qM⟩, va_recv hK hP (ci := 8) (q0 := 45) rfl ((fw_get (by decide)).trans (by rw [sE_45])), fun U hU hW => ⟨rfl, by rw [hU], by rw [hU]; exact hP, va_K.moved hW.alike hK, xM_warm hW hM⟩⟩ rfl rfl hl.1 rfl (lv_room (Nat.le_of_ble_eq_true rfl)) dX9_reach_32 ⟨Nat.le_of_ble_eq_true rfl, Nat.le_of_ble_eq_true rfl⟩) hS (fun q _ h => fA_le hS.1 q h) (fA_le hS.1) (fun r9 u9 t9 H1 locs ht9 hvm9 hw9 hB9 hz9 hk9 hS => ?_)
    obtain ⟨μg, rg⟩ := u9
    obtain ⟨hP, -⟩ := hB9
    rw [ht9] at hP
    generalize H1 = H at hP hS ⊢
    obtain ⟨e9, hw9⟩ := hw9
    have e9 : r9 = iZ rg := e9
    subst e9
    simp only at hP hw9
    have hμg := hw9; clear hw9
    obtain ⟨f1_, a1_, r1_, r2_⟩ := hμg
    exact W_widen (Nat.le_of_ble_eq_true rfl) (Nat.le_of_ble_eq_true rfl) (vx_ret (W.iret (v := iZ (rg)) hx hb hr (fun t9 ht9 hW9 => ⟨⟨iZ (rg), (μg, rg), rfl, ⟨rfl, (by
                dsimp only
                exact CZ_wk hI f1_ a1_)⟩, by rw [ht9]; exact hP, va_K.moved hW9.alike hK⟩, hS.F ht9⟩) hS.2.2 dX9_reach_35))
  · refine vx_callv (vx_runV (As := [.int (iZ (pg))]) (rest := []) ⟨hx, hb, hml, hown, hts⟩ (x_needPage l hfl dC dI cI cZ cII cIII h0 s.heap.size μ (pg) (by first | assumption | omega | exact CI_lc hI | exact CI_cn hI | exact (CI_n6 hI).1 | decide) (by first | assumption | omega | exact CI_lc hI | exact CI_cn hI | exact (CI_n6 hI).1 | decide) (hn2_)) (cwV 1 hts (gV_G k735 k737 ks_yX9_needPage k1 k738) rfl rfl rfl (by decide +kernel) ⟨Nat.le_of_ble_eq_true rfl, Nat.le_of_ble_eq_true rfl⟩) ⟨fun a U g mk q => by obtain ⟨q0, q1, qP, qK, qM, qE⟩ := q; exact ⟨q0, q1, qP, va_K.moved (u := U) (U := U.calling g mk a) (Vm.Alike.refl U.vm) qK, qM, xX_call qE⟩, va_recv hK hP (ci := 9) (q0 := 0) rfl ((fw_get (by decide)).trans (by rw [sE_0]; rfl)), fun U hU hW => ⟨rfl, by rw [hU], by rw [hU]; exact hP, va_K.moved hW.alike hK, xM_warm hW hM, xX_at hEx hS (fun q h => fA_le hS.1 q h) hU hW⟩⟩ rfl rfl hl.1 rfl (lv_room (Nat.le_of_ble_eq_true rfl)) dX9_reach_2 ⟨Nat.le_of_ble_eq_true rfl, Nat.le_of_ble_eq_true rfl⟩) hS (fun q _ h => fA_le hS.1 q h) (fA_le hS.1) (fun q _ h => fA_le hS.1 q h) (fun E9 ce9 q9 u9 t9 H1 locs ht9 hvm9 hpx9 hBX9 hz9 hk9 hS hce9 hcv9 hcl9 => ?_) (fun u9 t9 H1 locs ht9 hvm9 hw9 hB9 hz9 hk9 hS => hw9.elim)
    obtain ⟨hE9, hP9, hK9⟩ := hBX9
    exact vx_out (fun x hx9 => (hnt x hx9).elim) hlocks hce9 hcv9 hcl9 (fun t8 ht8 hW8 => ⟨u9, (by
                show CI T u9 ∧ SZ μ u9
                exact CZ_thr hI hpx9), ⟨hE9, by rw [ht8, ← ht9]; exact hP9, va_K.moved hW8 hK⟩, hS.F ht8⟩) hS.2.2 (Nat.le_of_ble_eq_true rfl) (Nat.le_of_ble_eq_true rfl)
set_option maxHeartbeats 4000000 in
set_option maxRecDepth 100000 in
theorem q_times (l : Launch) (hfl : l.stackTraces = false) (dC : Nat → ClassId) (dI : Nat → Nat → Nat) (cI cZ cII cIII : ClassId) (h0 sz : Nat) (μ : va_M) (pg : Int) (nd : Int) (T : List Tk) (hI : CI T μ) (h_pg : inR pg) (h_nd : inR nd) : vx_Met l yX9_times (Cond.code yX9_times cX9_times 4 (some .int) :: wsG) ({ frames := 8, cells := 1, slots := 6, locals := 163 } : Room) (va_Pc [.ref h0, .int (iZ (pg)), .int (iZ (nd))] (fun U => U.heap.size = sz ∧ va_P (dC, dI) vwCl (fw (sE cI cZ cII cIII h0) h0 233 μ) U.heap ∧ va_K (dC, dI) vwCl (sT cI cZ cII cIII) U ∧ xM U ∧ xX (fA h0 233 sz) U)) (va_Qi (fun (r9 : Int32) (u : va_M × Int) => r9 = iZ u.2 ∧ (fun (u : va_M) (r : Int) => CI T u ∧ SZ μ u) u.1 u.2) (fun u t => va_P (dC, dI) vwCl (fw (sE cI cZ cII cIII h0) h0 233 u.1) t.heap ∧ va_K (dC, dI) vwCl (sT cI cZ cII cIII) t) (fA h0 233 sz)) (vx_X (fun (u : va_M) => CI T u ∧ SZ μ u) (fun E u t => E ∈ (["java/util/NoSuchElementException"] : List String) ∧ va_P (dC, dI) vwCl (fw (sE cI cZ cII cIII h0) h0 233 u) t.heap ∧ va_K (dC, dI) vwCl (sT cI cZ cII cIII) t) (fA h0 233 sz)) 1 6 (fA h0 233 sz) := by
  refine vx_ofW (cc := cX9_times) (maxL := 4) (ret := (some .int)) (by decide) rfl ?_
  intro p e s m args below meth c s₁ B hml hnt hv
  obtain ⟨rfl, hsz, hP, hK, hM, hEx⟩ := hv
  have hx := B.exec
  have hb := B.bytes
  have hr := B.returns
  have hts : ∀ w ∈ wsG, w.before _ s = true := hG_of (atoms_spec (ws := (Cond.code yX9_times cX9_times 4 (some .int) :: wsG)) B.pre)
  have hown : s.vm.findClass RX9 = some m.cls := findClass_of_methodNamed B.named
  have hlocks := B.notSynchronized
  subst hsz
  have hS : va_S (fA h0 233 s.heap.size) s.heap s.heap [] := va_S.rf
  have hl := lv_entry ([.ref h0, .int (iZ (pg)), .int (iZ (nd))]) (n := 4) (Nat.le_of_ble_eq_true rfl)
  rw [lg_entry_eq]
  generalize (lg_sl ([.ref h0, .int (iZ (pg)), .int (iZ (nd))]) ++ List.replicate (4 - (lg_sl ([.ref h0, .int (iZ (pg)), .int (iZ (nd))])).length) Slot.unset).toArray = ls at hl ⊢
  have hl : lv_has ls 4 [(0, .ref h0), (1, .int (iZ (pg))), (2, .int (iZ (nd)))] := hl
  have hlc := CI_lc hI
  have h66 := CI_n6 hI
  refine lv_aload_n hx hb dX9_times_0 rfl (lv_at hl 0 rfl) ?_
  refine lv_iload_n hx hb dX9_times_1 rfl (lv_at hl 1 rfl) ?_
  by_cases hn2_ : 0 ≤ pg ∧ pg < μ 0 2
  · refine va_callv (va_runV (As := [.int (iZ (pg))]) (rest := []) ⟨hx, hb, hml, hown, hts⟩ (s_needPage l dC dI cI cZ cII cIII h0 s.heap.size μ (pg) (by first | assumption | omega | exact CI_lc hI | exact CI_cn hI | exact (CI_n6 hI).1 | decide) (by first | assumption | omega | exact CI_lc hI | exact CI_cn hI | exact (CI_n6 hI).1 | decide) (by exact hn2_)) (cwV 1 hts (gV_G k735 k737 ks_yX9_needPage k1 k738) rfl rfl rfl (by decide +kernel) ⟨Nat.le_of_ble_eq_true rfl, Nat.le_of_ble_eq_true rfl⟩) ⟨fun a U g mk q => by obtain ⟨q0, q1, qP, qK, qM⟩ := q; exact ⟨q0, q1, qP, va_K.moved (u := U) (U := U.calling g mk a) (Vm.Alike.refl U.vm) qK, qM⟩, va_recv hK hP (ci := 9) (q0 := 0) rfl ((fw_get (by decide)).trans (by rw [sE_0]; rfl)), fun U hU hW => ⟨rfl, by rw [hU], by rw [hU]; exact hP, va_K.moved hW.alike hK, xM_warm hW hM⟩⟩ rfl rfl hl.1 rfl (lv_room (Nat.le_of_ble_eq_true rfl)) dX9_times_2 ⟨Nat.le_of_ble_eq_true rfl, Nat.le_of_ble_eq_true rfl⟩) hS (fun q _ h => fA_le hS.1 q h) (fA_le hS.1) (fun u9 t9 H1 locs ht9 hvm9 hw9 hB9 hz9 hk9 hS => ?_)
    obtain ⟨hP, -⟩ := hB9
    rw [ht9] at hP
    generalize H1 = H at hP hS ⊢
    obtain ⟨μ1, eμ1⟩ : ∃ x : va_M, x = u9 := ⟨_, rfl⟩
    rw [← eμ1] at hP hw9
    have hμ1 := hw9; clear hw9
    rw [hμ1] at hP
    refine lv_aload_n hx hb dX9_times_5 rfl (lv_at hl 0 rfl) ?_
    refine lv_aload_n hx hb dX9_times_6 rfl (lv_at hl 0 rfl) ?_
    refine fz_get (D := (dC, dI)) (ci := 9) (v := .ref (h0 + 6)) (C := RX9) (T := TX9) (N := 15) hx hb hts inG9 hown hK hP (k := 0) (by decide) (F := (sF0 h0)) sE_0 rfl 3 (by decide) (hts _ k335) (fun _ h9 => h9) rfl dX9_times_7 ?_
    refine lv_iload_n hx hb dX9_times_10 rfl (lv_at hl 2 rfl) ?_
    by_cases hn11_ : 0 ≤ nd ∧ nd < μ 6 6
    · refine va_callv (va_runV (As := [.ref (h0 + 6), .int (iZ (nd))]) (rest := []) ⟨hx, hb, hml, hown, hts⟩ (s_needNode l dC dI cI cZ cII cIII h0 H.size μ (6) (1100) (nd) (rowB_6) (by first | assumption | omega | exact CI_lc hI | exact CI_cn hI | exact (CI_n6 hI).1 | decide) (by first | assumption | (first | ((try clear hn11_); (try clear hμ1); (try clear x); (try clear eμ1); (try clear μ1); (try clear hz9); (try clear hn2_); (try clear hlc); (try clear hsz); (try clear hnt); (try clear s₁); omega) | omega) | exact CI_lc hI | exact CI_cn hI | exact (CI_n6 hI).1 | decide) (by exact hn11_)) (cwV 2 hts (gV_G k914 k916 ks_yX9_needNode k1 k917) rfl rfl rfl (by decide +kernel) ⟨Nat.le_of_ble_eq_true rfl, Nat.le_of_ble_eq_true rfl⟩) ⟨fun a U g mk q => by obtain ⟨q0, q1, qP, qK, qM⟩ := q; exact ⟨q0, q1, qP, va_K.moved (u := U) (U := U.calling g mk a) (Vm.Alike.refl U.vm) qK, qM⟩, va_recv hK hP (ci := 9) (q0 := 0) rfl ((fw_get (by decide)).trans (by rw [sE_0]; rfl)), fun U hU hW => ⟨rfl, by rw [hU], by rw [hU]; exact hP, va_K.moved hW.alike hK, xM_warm hW hM⟩⟩ rfl rfl hl.1 rfl (lv_room (Nat.le_of_ble_eq_true rfl)) dX9_times_11 ⟨Nat.le_of_ble_eq_true rfl, Nat.le_of_ble_eq_true rfl⟩) hS (fun q _ h => fA_le hS.1 q h) (fA_le hS.1) (fun u9 t9 H1 locs ht9 hvm9 hw9 hB9 hz9 hk9 hS => ?_)
      obtain ⟨hP, -⟩ := hB9
      rw [ht9] at hP
      generalize H1 = H at hP hS ⊢
      obtain ⟨μ2, eμ2⟩ : ∃ x : va_M, x = u9 := ⟨_, rfl⟩
      rw [← eμ2] at hP hw9
      have hμ2 := hw9; clear hw9
      rw [hμ2] at hP
      refine lv_aload_n hx hb dX9_times_14 rfl (lv_at hl 0 rfl) ?_
      refine lv_iload_n hx hb dX9_times_15 rfl (lv_at hl 1 rfl) ?_
      refine va_callr (va_runV (As := [.int (iZ (pg))]) (rest := []) ⟨hx, hb, hml, hown, hts⟩ (s_walkOf l dC dI cI cZ cII cIII h0 H.size μ (pg) (T) (by exact hI) (by first | assumption | omega | exact CI_lc hI | exact CI_cn hI | exact (CI_n6 hI).1 | decide)) (cwV 1 hts (gV_G k535 k537 ks_yX9_walkOf k1 k538) rfl rfl rfl (by decide +kernel) ⟨Nat.le_of_ble_eq_true rfl, Nat.le_of_ble_eq_true rfl⟩) ⟨fun a U g mk q => by obtain ⟨q0, q1, qP, qK, qM⟩ := q; exact ⟨q0, q1, qP, va_K.moved (u := U) (U := U.calling g mk a) (Vm.Alike.refl U.vm) qK, qM⟩, va_recv hK hP (ci := 9) (q0 := 0) rfl ((fw_get (by decide)).trans (by rw [sE_0]; rfl)), fun U hU hW => ⟨rfl, by rw [hU], by rw [hU]; exact hP, va_K.moved hW.alike hK, xM_warm hW hM⟩⟩ rfl rfl hl.1 rfl (lv_room (Nat.le_of_ble_eq_true rfl)) dX9_times_16 ⟨Nat.le_of_ble_eq_true rfl, Nat.le_of_ble_eq_true rfl⟩) hS (fun q _ h => fA_le hS.1 q h) (fA_le hS.1) (fun u9 ra9 t9 H1 locs ht9 hvm9 hw9 hB9 hz9 hk9 hS => ?_)
      obtain ⟨hra9, hP, -⟩ := hB9
      subst hra9
      rw [ht9] at hP
      generalize H1 = H at hP hS ⊢
      obtain ⟨μw, eμw⟩ : ∃ x : va_M, x = u9 := ⟨_, rfl⟩
      rw [← eμw] at hP hw9
      have hμw := hw9; clear hw9
      obtain ⟨c1_, f1_⟩ := hμw
      have x66 : μw 6 6 = μ 6 6 := f1_ _ _ (by unfold WQ Zc; (first | ((try clear x66); (try clear f1_); (try clear c1_); (try clear hμw); (try clear x); (try clear eμw); (try clear μw); (try clear hra9); (try clear hz9); (try clear ra9); (try clear hμ2); (try clear eμ2); (try clear μ2); (try clear hn11_); (try clear hμ1); (try clear eμ1); (try clear μ1); (try clear hn2_); (try clear h66); (try clear hlc); (try clear hsz); (try clear hnt); (try clear s₁); omega) | omega))
      obtain ⟨wl1, wl2⟩ := CI_lf c1_ pg (by (first | ((try clear wl2); (try clear wl1); (try clear x66); (try clear f1_); (try clear c1_); (try clear hμw); (try clear x); (try clear eμw); (try clear hra9); (try clear hz9); (try clear ra9); (try clear hμ2); (try clear eμ2); (try clear μ2); (try clear hn11_); (try clear hμ1); (try clear eμ1); (try clear μ1); (try clear h66); (try clear hlc); (try clear hsz); (try clear hnt); (try clear s₁); omega) | omega)) (by have := CI_lc hI; (first | ((try clear wl2); (try clear wl1); (try clear x66); (try clear f1_); (try clear c1_); (try clear hμw); (try clear x); (try clear eμw); (try clear hra9); (try clear hz9); (try clear ra9); (try clear hμ2); (try clear eμ2); (try clear μ2); (try clear hn11_); (try clear hμ1); (try clear eμ1); (try clear μ1); (try clear h66); (try clear hsz); (try clear hnt); (try clear s₁); omega) | omega))
      have w66 := CI_n6 c1_
      refine lv_astore_n (lv' := [(3, .ref (h0 + ((113 + (pg).toNat * 15) + 10))), (0, .ref h0), (1, .int (iZ (pg))), (2, .int (iZ (nd)))]) hx hb dX9_times_19 rfl hl (by decide) rfl (fun ls hl => ?_)
      refine lv_aload_n hx hb dX9_times_20 rfl (lv_at hl 0 rfl) ?_
      refine va_calli (va_runV (As := []) (rest := []) ⟨hx, hb, hml, hown, hts⟩ (s_KisThrough l dC dI cI cZ cII cIII h0 H.size μw ((113 + (pg).toNat * 15)) ((pg).toNat) (rfl) ((show (pg).toNat < 8 by (first | ((try clear w66); (try clear wl2); (try clear wl1); (try clear x66); (try clear f1_); (try clear c1_); (try clear hμw); (try clear x); (try clear eμw); (try clear hra9); (try clear hz9); (try clear ra9); (try clear hμ2); (try clear eμ2); (try clear μ2); (try clear hn11_); (try clear hμ1); (try clear eμ1); (try clear μ1); (try clear h66); (try clear hsz); (try clear hnt); (try clear s₁); omega) | omega))) (by constructor <;> (first | ((try clear w66); (try clear wl1); (try clear x66); (try clear f1_); (try clear c1_); (try clear hμw); (try clear x); (try clear eμw); (try clear hra9); (try clear hz9); (try clear ra9); (try clear hμ2); (try clear eμ2); (try clear μ2); (try clear hn11_); (try clear hμ1); (try clear eμ1); (try clear μ1); (try clear hn2_); (try clear h66); (try clear hlc); (try clear hsz); (try clear hnt); (try clear s₁); omega) | omega))) (cwV 0 hts (gV_G k579 k580 k581 k11 k582) rfl rfl rfl (by decide +kernel) ⟨Nat.le_of_ble_eq_true rfl, Nat.le_of_ble_eq_true rfl⟩) ⟨fun a U g mk q => by obtain ⟨q0, q1, qP, qK, qM⟩ := q; exact ⟨q0, q1, qP, va_K.moved (u := U) (U := U.calling g mk a) (Vm.Alike.refl U.vm) qK, qM⟩, va_recv hK hP (ci := 7) (q0 := ((113 + (pg).toNat * 15) + 10)) rfl ((fw_get (by (first | ((try clear q); (try clear mk); (try clear g); (try clear U); (try clear w66); (try clear wl2); (try clear wl1); (try clear x66); (try clear f1_); (try clear c1_); (try clear hμw); (try clear x); (try clear eμw); (try clear hra9); (try clear hz9); (try clear ra9); (try clear hμ2); (try clear eμ2); (try clear μ2); (try clear hn11_); (try clear hμ1); (try clear eμ1); (try clear μ1); (try clear h66); (try clear hsz); (try clear hnt); (try clear s₁); omega) | omega))).trans (by rw [(sE_walk (show (pg).toNat < 8 by (first | ((try clear q); (try clear mk); (try clear g); (try clear U); (try clear w66); (try clear wl2); (try clear wl1); (try clear x66); (try clear f1_); (try clear c1_); (try clear hμw); (try clear x); (try clear eμw); (try clear hra9); (try clear hz9); (try clear ra9); (try clear hμ2); (try clear eμ2); (try clear μ2); (try clear hn11_); (try clear hμ1); (try clear eμ1); (try clear μ1); (try clear h66); (try clear hsz); (try clear hnt); (try clear s₁); omega) | omega)) rfl)])), fun U hU hW => ⟨rfl, by rw [hU], by rw [hU]; exact hP, va_K.moved hW.alike hK, xM_warm hW hM⟩⟩ rfl rfl hl.1 rfl (lv_room (Nat.le_of_ble_eq_true rfl)) dX9_times_21 ⟨Nat.le_of_ble_eq_true rfl, Nat.le_of_ble_eq_true rfl⟩) hS (fun q _ h => fA_le hS.1 q h) (fA_le hS.1) (fun r9 u9 t9 H1 locs ht9 hvm9 hw9 hB9 hz9 hk9 hS => ?_)
      obtain ⟨μi, ri⟩ := u9
      obtain ⟨hP, -⟩ := hB9
      rw [ht9] at hP
      generalize H1 = H at hP hS ⊢
      obtain ⟨e9, hw9⟩ := hw9
      have e9 : r9 = iZ ri := e9
      subst e9
      simp only at hP hw9
      have hμi := hw9; clear hw9
      rw [hμi.1] at hP; have hμi := hμi.2
      have hri := hμi
      refine fz_if_eq (tgt := 36) (by first | assumption | (constructor <;> (first | ((try clear hμi); (try clear μi); (try clear hz9); (try clear w66); (try clear wl2); (try clear wl1); (try clear x66); (try clear f1_); (try clear c1_); (try clear hμw); (try clear x); (try clear eμw); (try clear hra9); (try clear ra9); (try clear hμ2); (try clear eμ2); (try clear μ2); (try clear hn11_); (try clear hμ1); (try clear eμ1); (try clear μ1); (try clear hn2_); (try clear h66); (try clear hlc); (try clear hsz); (try clear hnt); (try clear s₁); omega) | omega)) | decide) hx hb dX9_times_24 (by decide) (fun c24_ => ?_) (fun c24_ => ?_)
      · refine lv_iconst (v := iZ (-1)) hx hb dX9_times_36 rfl ?_
        exact W_widen (Nat.le_of_ble_eq_true rfl) (Nat.le_of_ble_eq_true rfl) (vx_ret (W.iret (v := iZ ((-1))) hx hb hr (fun t9 ht9 hW9 => ⟨⟨iZ ((-1)), (μw, (-1)), rfl, ⟨rfl, (by
                        dsimp only
                        exact ⟨c1_, SZ_wq f1_⟩)⟩, by rw [ht9]; exact hP, va_K.moved hW9.alike hK⟩, hS.F ht9⟩) hS.2.2 dX9_times_37))
      · refine lv_aload_n hx hb dX9_times_27 rfl (lv_at hl 0 rfl) ?_
        refine fz_get (D := (dC, dI)) (ci := 7) (v := .ref (h0 + ((113 + (pg).toNat * 15) + 12))) (C := RX7) (T := TX7) (N := 5) hx hb hts inG7 hown hK hP (k := ((113 + (pg).toNat * 15) + 10)) (by (first | ((try clear c24_); (try clear hri); (try clear hμi); (try clear ri); (try clear μi); (try clear hz9); (try clear w66); (try clear wl2); (try clear wl1); (try clear x66); (try clear f1_); (try clear c1_); (try clear hμw); (try clear x); (try clear eμw); (try clear hra9); (try clear ra9); (try clear hμ2); (try clear eμ2); (try clear μ2); (try clear hn11_); (try clear hμ1); (try clear eμ1); (try clear μ1); (try clear h66); (try clear hsz); (try clear hnt); (try clear s₁); omega) | omega)) (F := (sWF h0 (113 + (pg).toNat * 15))) (sE_walk (show (pg).toNat < 8 by (first | ((try clear c24_); (try clear hri); (try clear hμi); (try clear ri); (try clear μi); (try clear hz9); (try clear w66); (try clear wl2); (try clear wl1); (try clear x66); (try clear f1_); (try clear c1_); (try clear hμw); (try clear x); (try clear eμw); (try clear hra9); (try clear ra9); (try clear hμ2); (try clear eμ2); (try clear μ2); (try clear hn11_); (try clear hμ1); (try clear eμ1); (try clear μ1); (try clear h66); (try clear hsz); (try clear hnt); (try clear s₁); omega) | omega)) rfl) rfl 3 (by decide) (hts _ k281) (fun _ h9 => h9) rfl dX9_times_28 ?_
        refine lv_iload_n hx hb dX9_times_31 rfl (lv_at hl 3 rfl) ?_
        refine fz_ld (k := ((113 + (pg).toNat * 15) + 12)) (n := 1100) hx hb hK hP 0 (by (first | ((try clear c24_); (try clear hri); (try clear hμi); (try clear ri); (try clear μi); (try clear hz9); (try clear w66); (try clear wl2); (try clear wl1); (try clear x66); (try clear f1_); (try clear c1_); (try clear hμw); (try clear x); (try clear eμw); (try clear hra9); (try clear ra9); (try clear hμ2); (try clear eμ2); (try clear μ2); (try clear hn11_); (try clear hμ1); (try clear eμ1); (try clear μ1); (try clear h66); (try clear hsz); (try clear hnt); (try clear s₁); omega) | omega)) (sE_leafA 12 1100 (show (pg).toNat < 8 by (first | ((try clear c24_); (try clear hri); (try clear hμi); (try clear ri); (try clear μi); (try clear hz9); (try clear w66); (try clear wl2); (try clear wl1); (try clear x66); (try clear f1_); (try clear c1_); (try clear hμw); (try clear x); (try clear eμw); (try clear hra9); (try clear ra9); (try clear hμ2); (try clear eμ2); (try clear μ2); (try clear hn11_); (try clear hμ1); (try clear eμ1); (try clear μ1); (try clear h66); (try clear hsz); (try clear hnt); (try clear s₁); omega) | omega)) rfl (by decide)) rfl ⟨by (first | ((try clear c24_); (try clear hri); (try clear hμi); (try clear ri); (try clear μi); (try clear hz9); (try clear w66); (try clear wl2); (try clear wl1); (try clear x66); (try clear f1_); (try clear c1_); (try clear hμw); (try clear x); (try clear eμw); (try clear hra9); (try clear ra9); (try clear hμ2); (try clear eμ2); (try clear μ2); (try clear hμ1); (try clear eμ1); (try clear μ1); (try clear hn2_); (try clear h66); (try clear hlc); (try clear hsz); (try clear hnt); (try clear s₁); omega) | omega), by (first | ((try clear c24_); (try clear hri); (try clear hμi); (try clear ri); (try clear μi); (try clear hz9); (try clear w66); (try clear wl2); (try clear wl1); (try clear f1_); (try clear c1_); (try clear hμw); (try clear x); (try clear eμw); (try clear hra9); (try clear ra9); (try clear hμ2); (try clear eμ2); (try clear μ2); (try clear hμ1); (try clear eμ1); (try clear μ1); (try clear hn2_); (try clear hlc); (try clear hsz); (try clear hnt); (try clear s₁); omega) | omega)⟩ (by decide) dX9_times_32 ?_
        refine lv_goto (tgt := 37) hx hb dX9_times_33 (by decide) ?_
        exact W_widen (Nat.le_of_ble_eq_true rfl) (Nat.le_of_ble_eq_true rfl) (vx_ret (W.iret (v := iZ (μw ((113 + (pg).toNat * 15) + 12) (nd).toNat)) hx hb hr (fun t9 ht9 hW9 => ⟨⟨iZ (μw ((113 + (pg).toNat * 15) + 12) (nd).toNat), (μw, μw ((113 + (pg).toNat * 15) + 12) (nd).toNat), rfl, ⟨rfl, (by
                        dsimp only
                        exact ⟨c1_, SZ_wq f1_⟩)⟩, by rw [ht9]; exact hP, va_K.moved hW9.alike hK⟩, hS.F ht9⟩) hS.2.2 dX9_times_37))
    · refine vx_callv (vx_runV (As := [.ref (h0 + 6), .int (iZ (nd))]) (rest := []) ⟨hx, hb, hml, hown, hts⟩ (x_needNode l hfl dC dI cI cZ cII cIII h0 H.size μ (6) (1100) (nd) (rowB_6) (by first | assumption | omega | exact CI_lc hI | exact CI_cn hI | exact (CI_n6 hI).1 | decide) (by first | assumption | (first | ((try clear hn11_); (try clear hμ1); (try clear x); (try clear eμ1); (try clear μ1); (try clear hz9); (try clear hn2_); (try clear hlc); (try clear hsz); (try clear hnt); (try clear s₁); omega) | omega) | exact CI_lc hI | exact CI_cn hI | exact (CI_n6 hI).1 | decide) (hn11_)) (cwV 2 hts (gV_G k914 k916 ks_yX9_needNode k1 k917) rfl rfl rfl (by decide +kernel) ⟨Nat.le_of_ble_eq_true rfl, Nat.le_of_ble_eq_true rfl⟩) ⟨fun a U g mk q => by obtain ⟨q0, q1, qP, qK, qM, qE⟩ := q; exact ⟨q0, q1, qP, va_K.moved (u := U) (U := U.calling g mk a) (Vm.Alike.refl U.vm) qK, qM, xX_call qE⟩, va_recv hK hP (ci := 9) (q0 := 0) rfl ((fw_get (by decide)).trans (by rw [sE_0]; rfl)), fun U hU hW => ⟨rfl, by rw [hU], by rw [hU]; exact hP, va_K.moved hW.alike hK, xM_warm hW hM, xX_at hEx hS (fun q h => fA_le hS.1 q h) hU hW⟩⟩ rfl rfl hl.1 rfl (lv_room (Nat.le_of_ble_eq_true rfl)) dX9_times_11 ⟨Nat.le_of_ble_eq_true rfl, Nat.le_of_ble_eq_true rfl⟩) hS (fun q _ h => fA_le hS.1 q h) (fA_le hS.1) (fun q _ h => fA_le hS.1 q h) (fun E9 ce9 q9 u9 t9 H1 locs ht9 hvm9 hpx9 hBX9 hz9 hk9 hS hce9 hcv9 hcl9 => ?_) (fun u9 t9 H1 locs ht9 hvm9 hw9 hB9 hz9 hk9 hS => hw9.elim)
      obtain ⟨hE9, hP9, hK9⟩ := hBX9
      exact vx_out (fun x hx9 => (hnt x hx9).elim) hlocks hce9 hcv9 hcl9 (fun t8 ht8 hW8 => ⟨u9, (by
                    show CI T u9 ∧ SZ μ u9
                    exact CZ_thr hI hpx9), ⟨hE9, by rw [ht8, ← ht9]; exact hP9, va_K.moved hW8 hK⟩, hS.F ht8⟩) hS.2.2 (Nat.le_of_ble_eq_true rfl) (Nat.le_of_ble_eq_true rfl)
  · refine vx_callv (vx_runV (As := [.int (iZ (pg))]) (rest := []) ⟨hx, hb, hml, hown, hts⟩ (x_needPage l hfl dC dI cI cZ cII cIII h0 s.heap.size μ (pg) (by first | assumption | omega | exact CI_lc hI | exact CI_cn hI | exact (CI_n6 hI).1 | decide) (by first | assumption | omega | exact CI_lc hI | exact CI_cn hI | exact (CI_n6 hI).1 | decide) (hn2_)) (cwV 1 hts (gV_G k735 k737 ks_yX9_needPage k1 k738) rfl rfl rfl (by decide +kernel) ⟨Nat.le_of_ble_eq_true rfl, Nat.le_of_ble_eq_true rfl⟩) ⟨fun a U g mk q => by obtain ⟨q0, q1, qP, qK, qM, qE⟩ := q; exact ⟨q0, q1, qP, va_K.moved (u := U) (U := U.calling g mk a) (Vm.Alike.refl U.vm) qK, qM, xX_call qE⟩, va_recv hK hP (ci := 9) (q0 := 0) rfl ((fw_get (by decide)).trans (by rw [sE_0]; rfl)), fun U hU hW => ⟨rfl, by rw [hU], by rw [hU]; exact hP, va_K.moved hW.alike hK, xM_warm hW hM, xX_at hEx hS (fun q h => fA_le hS.1 q h) hU hW⟩⟩ rfl rfl hl.1 rfl (lv_room (Nat.le_of_ble_eq_true rfl)) dX9_times_2 ⟨Nat.le_of_ble_eq_true rfl, Nat.le_of_ble_eq_true rfl⟩) hS (fun q _ h => fA_le hS.1 q h) (fA_le hS.1) (fun q _ h => fA_le hS.1 q h) (fun E9 ce9 q9 u9 t9 H1 locs ht9 hvm9 hpx9 hBX9 hz9 hk9 hS hce9 hcv9 hcl9 => ?_) (fun u9 t9 H1 locs ht9 hvm9 hw9 hB9 hz9 hk9 hS => hw9.elim)
    obtain ⟨hE9, hP9, hK9⟩ := hBX9
    exact vx_out (fun x hx9 => (hnt x hx9).elim) hlocks hce9 hcv9 hcl9 (fun t8 ht8 hW8 => ⟨u9, (by
                show CI T u9 ∧ SZ μ u9
                exact CZ_thr hI hpx9), ⟨hE9, by rw [ht8, ← ht9]; exact hP9, va_K.moved hW8 hK⟩, hS.F ht8⟩) hS.2.2 (Nat.le_of_ble_eq_true rfl) (Nat.le_of_ble_eq_true rfl)
set_option maxHeartbeats 4000000 in
set_option maxRecDepth 100000 in
theorem q_passes (l : Launch) (hfl : l.stackTraces = false) (dC : Nat → ClassId) (dI : Nat → Nat → Nat) (cI cZ cII cIII : ClassId) (h0 sz : Nat) (μ : va_M) (pg : Int) (nd : Int) (T : List Tk) (hI : CI T μ) (h_pg : inR pg) (h_nd : inR nd) : vx_Met l yX9_passes (Cond.code yX9_passes cX9_passes 4 (some .int) :: wsG) ({ frames := 8, cells := 1, slots := 6, locals := 163 } : Room) (va_Pc [.ref h0, .int (iZ (pg)), .int (iZ (nd))] (fun U => U.heap.size = sz ∧ va_P (dC, dI) vwCl (fw (sE cI cZ cII cIII h0) h0 233 μ) U.heap ∧ va_K (dC, dI) vwCl (sT cI cZ cII cIII) U ∧ xM U ∧ xX (fA h0 233 sz) U)) (va_Qi (fun (r9 : Int32) (u : va_M × Int) => r9 = iZ u.2 ∧ (fun (u : va_M) (r : Int) => CI T u ∧ SZ μ u) u.1 u.2) (fun u t => va_P (dC, dI) vwCl (fw (sE cI cZ cII cIII h0) h0 233 u.1) t.heap ∧ va_K (dC, dI) vwCl (sT cI cZ cII cIII) t) (fA h0 233 sz)) (vx_X (fun (u : va_M) => CI T u ∧ SZ μ u) (fun E u t => E ∈ (["java/util/NoSuchElementException"] : List String) ∧ va_P (dC, dI) vwCl (fw (sE cI cZ cII cIII h0) h0 233 u) t.heap ∧ va_K (dC, dI) vwCl (sT cI cZ cII cIII) t) (fA h0 233 sz)) 1 6 (fA h0 233 sz) := by
  refine vx_ofW (cc := cX9_passes) (maxL := 4) (ret := (some .int)) (by decide) rfl ?_
  intro p e s m args below meth c s₁ B hml hnt hv
  obtain ⟨rfl, hsz, hP, hK, hM, hEx⟩ := hv
  have hx := B.exec
  have hb := B.bytes
  have hr := B.returns
  have hts : ∀ w ∈ wsG, w.before _ s = true := hG_of (atoms_spec (ws := (Cond.code yX9_passes cX9_passes 4 (some .int) :: wsG)) B.pre)
  have hown : s.vm.findClass RX9 = some m.cls := findClass_of_methodNamed B.named
  have hlocks := B.notSynchronized
  subst hsz
  have hS : va_S (fA h0 233 s.heap.size) s.heap s.heap [] := va_S.rf
  have hl := lv_entry ([.ref h0, .int (iZ (pg)), .int (iZ (nd))]) (n := 4) (Nat.le_of_ble_eq_true rfl)
  rw [lg_entry_eq]
  generalize (lg_sl ([.ref h0, .int (iZ (pg)), .int (iZ (nd))]) ++ List.replicate (4 - (lg_sl ([.ref h0, .int (iZ (pg)), .int (iZ (nd))])).length) Slot.unset).toArray = ls at hl ⊢
  have hl : lv_has ls 4 [(0, .ref h0), (1, .int (iZ (pg))), (2, .int (iZ (nd)))] := hl
  have hlc := CI_lc hI
  have h66 := CI_n6 hI
  refine lv_aload_n hx hb dX9_passes_0 rfl (lv_at hl 0 rfl) ?_
  refine lv_iload_n hx hb dX9_passes_1 rfl (lv_at hl 1 rfl) ?_
  by_cases hn2_ : 0 ≤ pg ∧ pg < μ 0 2
  · refine va_callv (va_runV (As := [.int (iZ (pg))]) (rest := []) ⟨hx, hb, hml, hown, hts⟩ (s_needPage l dC dI cI cZ cII cIII h0 s.heap.size μ (pg) (by first | assumption | omega | exact CI_lc hI | exact CI_cn hI | exact (CI_n6 hI).1 | decide) (by first | assumption | omega | exact CI_lc hI | exact CI_cn hI | exact (CI_n6 hI).1 | decide) (by exact hn2_)) (cwV 1 hts (gV_G k735 k737 ks_yX9_needPage k1 k738) rfl rfl rfl (by decide +kernel) ⟨Nat.le_of_ble_eq_true rfl, Nat.le_of_ble_eq_true rfl⟩) ⟨fun a U g mk q => by obtain ⟨q0, q1, qP, qK, qM⟩ := q; exact ⟨q0, q1, qP, va_K.moved (u := U) (U := U.calling g mk a) (Vm.Alike.refl U.vm) qK, qM⟩, va_recv hK hP (ci := 9) (q0 := 0) rfl ((fw_get (by decide)).trans (by rw [sE_0]; rfl)), fun U hU hW => ⟨rfl, by rw [hU], by rw [hU]; exact hP, va_K.moved hW.alike hK, xM_warm hW hM⟩⟩ rfl rfl hl.1 rfl (lv_room (Nat.le_of_ble_eq_true rfl)) dX9_passes_2 ⟨Nat.le_of_ble_eq_true rfl, Nat.le_of_ble_eq_true rfl⟩) hS (fun q _ h => fA_le hS.1 q h) (fA_le hS.1) (fun u9 t9 H1 locs ht9 hvm9 hw9 hB9 hz9 hk9 hS => ?_)
    obtain ⟨hP, -⟩ := hB9
    rw [ht9] at hP
    generalize H1 = H at hP hS ⊢
    obtain ⟨μ1, eμ1⟩ : ∃ x : va_M, x = u9 := ⟨_, rfl⟩
    rw [← eμ1] at hP hw9
    have hμ1 := hw9; clear hw9
    rw [hμ1] at hP
    refine lv_aload_n hx hb dX9_passes_5 rfl (lv_at hl 0 rfl) ?_
    refine lv_aload_n hx hb dX9_passes_6 rfl (lv_at hl 0 rfl) ?_
    refine fz_get (D := (dC, dI)) (ci := 9) (v := .ref (h0 + 6)) (C := RX9) (T := TX9) (N := 15) hx hb hts inG9 hown hK hP (k := 0) (by decide) (F := (sF0 h0)) sE_0 rfl 3 (by decide) (hts _ k335) (fun _ h9 => h9) rfl dX9_passes_7 ?_
    refine lv_iload_n hx hb dX9_passes_10 rfl (lv_at hl 2 rfl) ?_
    by_cases hn11_ : 0 ≤ nd ∧ nd < μ 6 6
    · refine va_callv (va_runV (As := [.ref (h0 + 6), .int (iZ (nd))]) (rest := []) ⟨hx, hb, hml, hown, hts⟩ (s_needNode l dC dI cI cZ cII cIII h0 H.size μ (6) (1100) (nd) (rowB_6) (by first | assumption | omega | exact CI_lc hI | exact CI_cn hI | exact (CI_n6 hI).1 | decide) (by first | assumption | (first | ((try clear hn11_); (try clear hμ1); (try clear x); (try clear eμ1); (try clear μ1); (try clear hz9); (try clear hn2_); (try clear hlc); (try clear hsz); (try clear hnt); (try clear s₁); omega) | omega) | exact CI_lc hI | exact CI_cn hI | exact (CI_n6 hI).1 | decide) (by exact hn11_)) (cwV 2 hts (gV_G k914 k916 ks_yX9_needNode k1 k917) rfl rfl rfl (by decide +kernel) ⟨Nat.le_of_ble_eq_true rfl, Nat.le_of_ble_eq_true rfl⟩) ⟨fun a U g mk q => by obtain ⟨q0, q1, qP, qK, qM⟩ := q; exact ⟨q0, q1, qP, va_K.moved (u := U) (U := U.calling g mk a) (Vm.Alike.refl U.vm) qK, qM⟩, va_recv hK hP (ci := 9) (q0 := 0) rfl ((fw_get (by decide)).trans (by rw [sE_0]; rfl)), fun U hU hW => ⟨rfl, by rw [hU], by rw [hU]; exact hP, va_K.moved hW.alike hK, xM_warm hW hM⟩⟩ rfl rfl hl.1 rfl (lv_room (Nat.le_of_ble_eq_true rfl)) dX9_passes_11 ⟨Nat.le_of_ble_eq_true rfl, Nat.le_of_ble_eq_true rfl⟩) hS (fun q _ h => fA_le hS.1 q h) (fA_le hS.1) (fun u9 t9 H1 locs ht9 hvm9 hw9 hB9 hz9 hk9 hS => ?_)
      obtain ⟨hP, -⟩ := hB9
      rw [ht9] at hP
      generalize H1 = H at hP hS ⊢
      obtain ⟨μ2, eμ2⟩ : ∃ x : va_M, x = u9 := ⟨_, rfl⟩
      rw [← eμ2] at hP hw9
      have hμ2 := hw9; clear hw9
      rw [hμ2] at hP
      refine lv_aload_n hx hb dX9_passes_14 rfl (lv_at hl 0 rfl) ?_
      refine lv_iload_n hx hb dX9_passes_15 rfl (lv_at hl 1 rfl) ?_
      refine va_callr (va_runV (As := [.int (iZ (pg))]) (rest := []) ⟨hx, hb, hml, hown, hts⟩ (s_walkOf l dC dI cI cZ cII cIII h0 H.size μ (pg) (T) (by exact hI) (by first | assumption | omega | exact CI_lc hI | exact CI_cn hI | exact (CI_n6 hI).1 | decide)) (cwV 1 hts (gV_G k535 k537 ks_yX9_walkOf k1 k538) rfl rfl rfl (by decide +kernel) ⟨Nat.le_of_ble_eq_true rfl, Nat.le_of_ble_eq_true rfl⟩) ⟨fun a U g mk q => by obtain ⟨q0, q1, qP, qK, qM⟩ := q; exact ⟨q0, q1, qP, va_K.moved (u := U) (U := U.calling g mk a) (Vm.Alike.refl U.vm) qK, qM⟩, va_recv hK hP (ci := 9) (q0 := 0) rfl ((fw_get (by decide)).trans (by rw [sE_0]; rfl)), fun U hU hW => ⟨rfl, by rw [hU], by rw [hU]; exact hP, va_K.moved hW.alike hK, xM_warm hW hM⟩⟩ rfl rfl hl.1 rfl (lv_room (Nat.le_of_ble_eq_true rfl)) dX9_passes_16 ⟨Nat.le_of_ble_eq_true rfl, Nat.le_of_ble_eq_true rfl⟩) hS (fun q _ h => fA_le hS.1 q h) (fA_le hS.1) (fun u9 ra9 t9 H1 locs ht9 hvm9 hw9 hB9 hz9 hk9 hS => ?_)
      obtain ⟨hra9, hP, -⟩ := hB9
      subst hra9
      rw [ht9] at hP
      generalize H1 = H at hP hS ⊢
      obtain ⟨μw, eμw⟩ : ∃ x : va_M, x = u9 := ⟨_, rfl⟩
      rw [← eμw] at hP hw9
      have hμw := hw9; clear hw9
      obtain ⟨c1_, f1_⟩ := hμw
      have x66 : μw 6 6 = μ 6 6 := f1_ _ _ (by unfold WQ Zc; (first | ((try clear x66); (try clear f1_); (try clear c1_); (try clear hμw); (try clear x); (try clear eμw); (try clear μw); (try clear hra9); (try clear hz9); (try clear ra9); (try clear hμ2); (try clear eμ2); (try clear μ2); (try clear hn11_); (try clear hμ1); (try clear eμ1); (try clear μ1); (try clear hn2_); (try clear h66); (try clear hlc); (try clear hsz); (try clear hnt); (try clear s₁); omega) | omega))
      obtain ⟨wl1, wl2⟩ := CI_lf c1_ pg (by (first | ((try clear wl2); (try clear wl1); (try clear x66); (try clear f1_); (try clear c1_); (try clear hμw); (try clear x); (try clear eμw); (try clear hra9); (try clear hz9); (try clear ra9); (try clear hμ2); (try clear eμ2); (try clear μ2); (try clear hn11_); (try clear hμ1); (try clear eμ1); (try clear μ1); (try clear h66); (try clear hlc); (try clear hsz); (try clear hnt); (try clear s₁); omega) | omega)) (by have := CI_lc hI; (first | ((try clear wl2); (try clear wl1); (try clear x66); (try clear f1_); (try clear c1_); (try clear hμw); (try clear x); (try clear eμw); (try clear hra9); (try clear hz9); (try clear ra9); (try clear hμ2); (try clear eμ2); (try clear μ2); (try clear hn11_); (try clear hμ1); (try clear eμ1); (try clear μ1); (try clear h66); (try clear hsz); (try clear hnt); (try clear s₁); omega) | omega))
      have w66 := CI_n6 c1_
      refine lv_astore_n (lv' := [(3, .ref (h0 + ((113 + (pg).toNat * 15) + 10))), (0, .ref h0), (1, .int (iZ (pg))), (2, .int (iZ (nd)))]) hx hb dX9_passes_19 rfl hl (by decide) rfl (fun ls hl => ?_)
      refine lv_aload_n hx hb dX9_passes_20 rfl (lv_at hl 0 rfl) ?_
      refine va_calli (va_runV (As := []) (rest := []) ⟨hx, hb, hml, hown, hts⟩ (s_KisThrough l dC dI cI cZ cII cIII h0 H.size μw ((113 + (pg).toNat * 15)) ((pg).toNat) (rfl) ((show (pg).toNat < 8 by (first | ((try clear w66); (try clear wl2); (try clear wl1); (try clear x66); (try clear f1_); (try clear c1_); (try clear hμw); (try clear x); (try clear eμw); (try clear hra9); (try clear hz9); (try clear ra9); (try clear hμ2); (try clear eμ2); (try clear μ2); (try clear hn11_); (try clear hμ1); (try clear eμ1); (try clear μ1); (try clear h66); (try clear hsz); (try clear hnt); (try clear s₁); omega) | omega))) (by constructor <;> (first | ((try clear w66); (try clear wl1); (try clear x66); (try clear f1_); (try clear c1_); (try clear hμw); (try clear x); (try clear eμw); (try clear hra9); (try clear hz9); (try clear ra9); (try clear hμ2); (try clear eμ2); (try clear μ2); (try clear hn11_); (try clear hμ1); (try clear eμ1); (try clear μ1); (try clear hn2_); (try clear h66); (try clear hlc); (try clear hsz); (try clear hnt); (try clear s₁); omega) | omega))) (cwV 0 hts (gV_G k579 k580 k581 k11 k582) rfl rfl rfl (by decide +kernel) ⟨Nat.le_of_ble_eq_true rfl, Nat.le_of_ble_eq_true rfl⟩) ⟨fun a U g mk q => by obtain ⟨q0, q1, qP, qK, qM⟩ := q; exact ⟨q0, q1, qP, va_K.moved (u := U) (U := U.calling g mk a) (Vm.Alike.refl U.vm) qK, qM⟩, va_recv hK hP (ci := 7) (q0 := ((113 + (pg).toNat * 15) + 10)) rfl ((fw_get (by (first | ((try clear q); (try clear mk); (try clear g); (try clear U); (try clear w66); (try clear wl2); (try clear wl1); (try clear x66); (try clear f1_); (try clear c1_); (try clear hμw); (try clear x); (try clear eμw); (try clear hra9); (try clear hz9); (try clear ra9); (try clear hμ2); (try clear eμ2); (try clear μ2); (try clear hn11_); (try clear hμ1); (try clear eμ1); (try clear μ1); (try clear h66); (try clear hsz); (try clear hnt); (try clear s₁); omega) | omega))).trans (by rw [(sE_walk (show (pg).toNat < 8 by (first | ((try clear q); (try clear mk); (try clear g); (try clear U); (try clear w66); (try clear wl2); (try clear wl1); (try clear x66); (try clear f1_); (try clear c1_); (try clear hμw); (try clear x); (try clear eμw); (try clear hra9); (try clear hz9); (try clear ra9); (try clear hμ2); (try clear eμ2); (try clear μ2); (try clear hn11_); (try clear hμ1); (try clear eμ1); (try clear μ1); (try clear h66); (try clear hsz); (try clear hnt); (try clear s₁); omega) | omega)) rfl)])), fun U hU hW => ⟨rfl, by rw [hU], by rw [hU]; exact hP, va_K.moved hW.alike hK, xM_warm hW hM⟩⟩ rfl rfl hl.1 rfl (lv_room (Nat.le_of_ble_eq_true rfl)) dX9_passes_21 ⟨Nat.le_of_ble_eq_true rfl, Nat.le_of_ble_eq_true rfl⟩) hS (fun q _ h => fA_le hS.1 q h) (fA_le hS.1) (fun r9 u9 t9 H1 locs ht9 hvm9 hw9 hB9 hz9 hk9 hS => ?_)
      obtain ⟨μi, ri⟩ := u9
      obtain ⟨hP, -⟩ := hB9
      rw [ht9] at hP
      generalize H1 = H at hP hS ⊢
      obtain ⟨e9, hw9⟩ := hw9
      have e9 : r9 = iZ ri := e9
      subst e9
      simp only at hP hw9
      have hμi := hw9; clear hw9
      rw [hμi.1] at hP; have hμi := hμi.2
      have hri := hμi
      refine fz_if_eq (tgt := 50) (by first | assumption | (constructor <;> (first | ((try clear hμi); (try clear μi); (try clear hz9); (try clear w66); (try clear wl2); (try clear wl1); (try clear x66); (try clear f1_); (try clear c1_); (try clear hμw); (try clear x); (try clear eμw); (try clear hra9); (try clear ra9); (try clear hμ2); (try clear eμ2); (try clear μ2); (try clear hn11_); (try clear hμ1); (try clear eμ1); (try clear μ1); (try clear hn2_); (try clear h66); (try clear hlc); (try clear hsz); (try clear hnt); (try clear s₁); omega) | omega)) | decide) hx hb dX9_passes_24 (by decide) (fun c24_ => ?_) (fun c24_ => ?_)
      · refine lv_iconst (v := iZ (-1)) hx hb dX9_passes_50 rfl ?_
        exact W_widen (Nat.le_of_ble_eq_true rfl) (Nat.le_of_ble_eq_true rfl) (vx_ret (W.iret (v := iZ ((-1))) hx hb hr (fun t9 ht9 hW9 => ⟨⟨iZ ((-1)), (μw, (-1)), rfl, ⟨rfl, (by
                        dsimp only
                        exact ⟨c1_, SZ_wq f1_⟩)⟩, by rw [ht9]; exact hP, va_K.moved hW9.alike hK⟩, hS.F ht9⟩) hS.2.2 dX9_passes_51))
      · have pp := rG_p c1_.1.2.2.1 nd (by (first | ((try clear pp); (try clear c24_); (try clear hri); (try clear hμi); (try clear ri); (try clear μi); (try clear hz9); (try clear w66); (try clear wl2); (try clear wl1); (try clear x66); (try clear f1_); (try clear c1_); (try clear hμw); (try clear x); (try clear eμw); (try clear hra9); (try clear ra9); (try clear hμ2); (try clear eμ2); (try clear μ2); (try clear hμ1); (try clear eμ1); (try clear μ1); (try clear hn2_); (try clear h66); (try clear hlc); (try clear hsz); (try clear hnt); (try clear s₁); omega) | omega)) (by (first | ((try clear pp); (try clear c24_); (try clear hri); (try clear hμi); (try clear ri); (try clear μi); (try clear hz9); (try clear w66); (try clear wl2); (try clear wl1); (try clear f1_); (try clear c1_); (try clear hμw); (try clear x); (try clear eμw); (try clear hra9); (try clear ra9); (try clear hμ2); (try clear eμ2); (try clear μ2); (try clear hμ1); (try clear eμ1); (try clear μ1); (try clear hn2_); (try clear h66); (try clear hlc); (try clear hsz); (try clear hnt); (try clear s₁); omega) | omega))
        have ss := c1_.1.2.2.1.1 (μw (6 + 5) nd.toNat).toNat
        refine lv_aload_n hx hb dX9_passes_27 rfl (lv_at hl 1 rfl) ?_
        refine fz_get (D := (dC, dI)) (ci := 9) (v := .ref (h0 + 6)) (C := RX9) (T := TX9) (N := 15) hx hb hts inG9 hown hK hP (k := 0) (by decide) (F := (sF0 h0)) sE_0 rfl 3 (by decide) (hts _ k335) (fun _ h9 => h9) rfl dX9_passes_28 ?_
        refine lv_iload_n hx hb dX9_passes_31 rfl (lv_at hl 3 rfl) ?_
        refine va_calli (va_runV (As := [.int (iZ (nd))]) (rest := []) ⟨hx, hb, hml, hown, hts⟩ (s_RcodeOf l dC dI cI cZ cII cIII h0 H.size μw (6) (1100) (nd) (rowB_6) (by (first | ((try clear ss); (try clear pp); (try clear c24_); (try clear hri); (try clear hμi); (try clear ri); (try clear μi); (try clear hz9); (try clear w66); (try clear wl2); (try clear wl1); (try clear f1_); (try clear c1_); (try clear hμw); (try clear x); (try clear eμw); (try clear hra9); (try clear ra9); (try clear hμ2); (try clear eμ2); (try clear μ2); (try clear hμ1); (try clear eμ1); (try clear μ1); (try clear hn2_); (try clear hlc); (try clear hsz); (try clear hnt); (try clear s₁); omega) | omega)) (by (first | ((try clear ss); (try clear c24_); (try clear hri); (try clear hμi); (try clear ri); (try clear μi); (try clear hz9); (try clear wl2); (try clear wl1); (try clear f1_); (try clear c1_); (try clear hμw); (try clear x); (try clear eμw); (try clear hra9); (try clear ra9); (try clear hμ2); (try clear eμ2); (try clear μ2); (try clear hμ1); (try clear eμ1); (try clear μ1); (try clear hn2_); (try clear hlc); (try clear hsz); (try clear hnt); (try clear s₁); omega) | omega))) (cwV 1 hts (gV_G k983 k984 k985 k3 k986) rfl rfl rfl (by decide +kernel) ⟨Nat.le_of_ble_eq_true rfl, Nat.le_of_ble_eq_true rfl⟩) ⟨fun a U g mk q => by obtain ⟨q0, q1, qP, qK, qM⟩ := q; exact ⟨q0, q1, qP, va_K.moved (u := U) (U := U.calling g mk a) (Vm.Alike.refl U.vm) qK, qM⟩, va_recv hK hP (ci := 4) (q0 := 6) rfl ((fw_get (by decide)).trans (by rw [(sE_rowO rowB_6)])), fun U hU hW => ⟨rfl, by rw [hU], by rw [hU]; exact hP, va_K.moved hW.alike hK, xM_warm hW hM⟩⟩ rfl rfl hl.1 rfl (lv_room (Nat.le_of_ble_eq_true rfl)) dX9_passes_32 ⟨Nat.le_of_ble_eq_true rfl, Nat.le_of_ble_eq_true rfl⟩) hS (fun q _ h => fA_le hS.1 q h) (fA_le hS.1) (fun r9 u9 t9 H1 locs ht9 hvm9 hw9 hB9 hz9 hk9 hS => ?_)
        obtain ⟨μk, rk⟩ := u9
        obtain ⟨hP, -⟩ := hB9
        rw [ht9] at hP
        generalize H1 = H at hP hS ⊢
        obtain ⟨e9, hw9⟩ := hw9
        have e9 : r9 = iZ rk := e9
        subst e9
        simp only at hP hw9
        have hμk := hw9; clear hw9
        rw [hμk.1] at hP; have hμk := hμk.2
        have hrk := hμk
        refine lv_sipush (v := iZ 514) hx hb dX9_passes_35 rfl ?_
        refine fz_icmp_ne (tgt := 50) (by first | assumption | (constructor <;> (first | ((try clear hrk); (try clear hμk); (try clear hz9); (try clear pp); (try clear c24_); (try clear hri); (try clear hμi); (try clear ri); (try clear μi); (try clear w66); (try clear wl2); (try clear wl1); (try clear x66); (try clear f1_); (try clear c1_); (try clear hμw); (try clear x); (try clear eμw); (try clear hra9); (try clear ra9); (try clear hμ2); (try clear eμ2); (try clear μ2); (try clear hn11_); (try clear hμ1); (try clear eμ1); (try clear μ1); (try clear hn2_); (try clear h66); (try clear hlc); (try clear hsz); (try clear hnt); (try clear s₁); omega) | omega)) | decide) (by decide) hx hb dX9_passes_38 (by decide) (fun c38_ => ?_) (fun c38_ => ?_)
        · refine lv_iconst (v := iZ (-1)) hx hb dX9_passes_50 rfl ?_
          exact W_widen (Nat.le_of_ble_eq_true rfl) (Nat.le_of_ble_eq_true rfl) (vx_ret (W.iret (v := iZ ((-1))) hx hb hr (fun t9 ht9 hW9 => ⟨⟨iZ ((-1)), (μw, (-1)), rfl, ⟨rfl, (by
                            dsimp only
                            exact ⟨c1_, SZ_wq f1_⟩)⟩, by rw [ht9]; exact hP, va_K.moved hW9.alike hK⟩, hS.F ht9⟩) hS.2.2 dX9_passes_51))
        · refine lv_aload_n hx hb dX9_passes_41 rfl (lv_at hl 0 rfl) ?_
          refine fz_get (D := (dC, dI)) (ci := 7) (v := .ref (h0 + ((113 + (pg).toNat * 15) + 13))) (C := RX7) (T := TX7) (N := 5) hx hb hts inG7 hown hK hP (k := ((113 + (pg).toNat * 15) + 10)) (by (first | ((try clear c38_); (try clear hrk); (try clear hμk); (try clear μk); (try clear hz9); (try clear ss); (try clear pp); (try clear c24_); (try clear hri); (try clear hμi); (try clear ri); (try clear μi); (try clear w66); (try clear wl2); (try clear wl1); (try clear x66); (try clear f1_); (try clear c1_); (try clear hμw); (try clear x); (try clear eμw); (try clear hra9); (try clear ra9); (try clear hμ2); (try clear eμ2); (try clear μ2); (try clear hn11_); (try clear hμ1); (try clear eμ1); (try clear μ1); (try clear h66); (try clear hsz); (try clear hnt); (try clear s₁); omega) | omega)) (F := (sWF h0 (113 + (pg).toNat * 15))) (sE_walk (show (pg).toNat < 8 by (first | ((try clear c38_); (try clear hrk); (try clear hμk); (try clear μk); (try clear hz9); (try clear ss); (try clear pp); (try clear c24_); (try clear hri); (try clear hμi); (try clear ri); (try clear μi); (try clear w66); (try clear wl2); (try clear wl1); (try clear x66); (try clear f1_); (try clear c1_); (try clear hμw); (try clear x); (try clear eμw); (try clear hra9); (try clear ra9); (try clear hμ2); (try clear eμ2); (try clear μ2); (try clear hn11_); (try clear hμ1); (try clear eμ1); (try clear μ1); (try clear h66); (try clear hsz); (try clear hnt); (try clear s₁); omega) | omega)) rfl) rfl 4 (by decide) (hts _ k284) (fun _ h9 => h9) rfl dX9_passes_42 ?_
          refine lv_iload_n hx hb dX9_passes_45 rfl (lv_at hl 3 rfl) ?_
          refine fz_ld (k := ((113 + (pg).toNat * 15) + 13)) (n := 1100) hx hb hK hP 0 (by (first | ((try clear c38_); (try clear hrk); (try clear hμk); (try clear μk); (try clear hz9); (try clear ss); (try clear pp); (try clear c24_); (try clear hri); (try clear hμi); (try clear ri); (try clear μi); (try clear w66); (try clear wl2); (try clear wl1); (try clear x66); (try clear f1_); (try clear c1_); (try clear hμw); (try clear x); (try clear eμw); (try clear hra9); (try clear ra9); (try clear hμ2); (try clear eμ2); (try clear μ2); (try clear hn11_); (try clear hμ1); (try clear eμ1); (try clear μ1); (try clear h66); (try clear hsz); (try clear hnt); (try clear s₁); omega) | omega)) (sE_leafA 13 1100 (show (pg).toNat < 8 by (first | ((try clear c38_); (try clear hrk); (try clear hμk); (try clear μk); (try clear hz9); (try clear ss); (try clear pp); (try clear c24_); (try clear hri); (try clear hμi); (try clear ri); (try clear μi); (try clear w66); (try clear wl2); (try clear wl1); (try clear x66); (try clear f1_); (try clear c1_); (try clear hμw); (try clear x); (try clear eμw); (try clear hra9); (try clear ra9); (try clear hμ2); (try clear eμ2); (try clear μ2); (try clear hn11_); (try clear hμ1); (try clear eμ1); (try clear μ1); (try clear h66); (try clear hsz); (try clear hnt); (try clear s₁); omega) | omega)) rfl (by decide)) rfl ⟨by (first | ((try clear c38_); (try clear hrk); (try clear hμk); (try clear μk); (try clear hz9); (try clear ss); (try clear pp); (try clear c24_); (try clear hri); (try clear hμi); (try clear ri); (try clear μi); (try clear w66); (try clear wl2); (try clear wl1); (try clear x66); (try clear f1_); (try clear c1_); (try clear hμw); (try clear x); (try clear eμw); (try clear hra9); (try clear ra9); (try clear hμ2); (try clear eμ2); (try clear μ2); (try clear hμ1); (try clear eμ1); (try clear μ1); (try clear hn2_); (try clear h66); (try clear hlc); (try clear hsz); (try clear hnt); (try clear s₁); omega) | omega), by (first | ((try clear c38_); (try clear hrk); (try clear hμk); (try clear μk); (try clear hz9); (try clear ss); (try clear pp); (try clear c24_); (try clear hri); (try clear hμi); (try clear ri); (try clear μi); (try clear w66); (try clear wl2); (try clear wl1); (try clear f1_); (try clear c1_); (try clear hμw); (try clear x); (try clear eμw); (try clear hra9); (try clear ra9); (try clear hμ2); (try clear eμ2); (try clear μ2); (try clear hμ1); (try clear eμ1); (try clear μ1); (try clear hn2_); (try clear hlc); (try clear hsz); (try clear hnt); (try clear s₁); omega) | omega)⟩ (by decide) dX9_passes_46 ?_
          refine lv_goto (tgt := 51) hx hb dX9_passes_47 (by decide) ?_
          exact W_widen (Nat.le_of_ble_eq_true rfl) (Nat.le_of_ble_eq_true rfl) (vx_ret (W.iret (v := iZ (μw ((113 + (pg).toNat * 15) + 13) (nd).toNat)) hx hb hr (fun t9 ht9 hW9 => ⟨⟨iZ (μw ((113 + (pg).toNat * 15) + 13) (nd).toNat), (μw, μw ((113 + (pg).toNat * 15) + 13) (nd).toNat), rfl, ⟨rfl, (by
                            dsimp only
                            exact ⟨c1_, SZ_wq f1_⟩)⟩, by rw [ht9]; exact hP, va_K.moved hW9.alike hK⟩, hS.F ht9⟩) hS.2.2 dX9_passes_51))
    · refine vx_callv (vx_runV (As := [.ref (h0 + 6), .int (iZ (nd))]) (rest := []) ⟨hx, hb, hml, hown, hts⟩ (x_needNode l hfl dC dI cI cZ cII cIII h0 H.size μ (6) (1100) (nd) (rowB_6) (by first | assumption | omega | exact CI_lc hI | exact CI_cn hI | exact (CI_n6 hI).1 | decide) (by first | assumption | (first | ((try clear hn11_); (try clear hμ1); (try clear x); (try clear eμ1); (try clear μ1); (try clear hz9); (try clear hn2_); (try clear hlc); (try clear hsz); (try clear hnt); (try clear s₁); omega) | omega) | exact CI_lc hI | exact CI_cn hI | exact (CI_n6 hI).1 | decide) (hn11_)) (cwV 2 hts (gV_G k914 k916 ks_yX9_needNode k1 k917) rfl rfl rfl (by decide +kernel) ⟨Nat.le_of_ble_eq_true rfl, Nat.le_of_ble_eq_true rfl⟩) ⟨fun a U g mk q => by obtain ⟨q0, q1, qP, qK, qM, qE⟩ := q; exact ⟨q0, q1, qP, va_K.moved (u := U) (U := U.calling g mk a) (Vm.Alike.refl U.vm) qK, qM, xX_call qE⟩, va_recv hK hP (ci := 9) (q0 := 0) rfl ((fw_get (by decide)).trans (by rw [sE_0]; rfl)), fun U hU hW => ⟨rfl, by rw [hU], by rw [hU]; exact hP, va_K.moved hW.alike hK, xM_warm hW hM, xX_at hEx hS (fun q h => fA_le hS.1 q h) hU hW⟩⟩ rfl rfl hl.1 rfl (lv_room (Nat.le_of_ble_eq_true rfl)) dX9_passes_11 ⟨Nat.le_of_ble_eq_true rfl, Nat.le_of_ble_eq_true rfl⟩) hS (fun q _ h => fA_le hS.1 q h) (fA_le hS.1) (fun q _ h => fA_le hS.1 q h) (fun E9 ce9 q9 u9 t9 H1 locs ht9 hvm9 hpx9 hBX9 hz9 hk9 hS hce9 hcv9 hcl9 => ?_) (fun u9 t9 H1 locs ht9 hvm9 hw9 hB9 hz9 hk9 hS => hw9.elim)
      obtain ⟨hE9, hP9, hK9⟩ := hBX9
      exact vx_out (fun x hx9 => (hnt x hx9).elim) hlocks hce9 hcv9 hcl9 (fun t8 ht8 hW8 => ⟨u9, (by
                    show CI T u9 ∧ SZ μ u9
                    exact CZ_thr hI hpx9), ⟨hE9, by rw [ht8, ← ht9]; exact hP9, va_K.moved hW8 hK⟩, hS.F ht8⟩) hS.2.2 (Nat.le_of_ble_eq_true rfl) (Nat.le_of_ble_eq_true rfl)
  · refine vx_callv (vx_runV (As := [.int (iZ (pg))]) (rest := []) ⟨hx, hb, hml, hown, hts⟩ (x_needPage l hfl dC dI cI cZ cII cIII h0 s.heap.size μ (pg) (by first | assumption | omega | exact CI_lc hI | exact CI_cn hI | exact (CI_n6 hI).1 | decide) (by first | assumption | omega | exact CI_lc hI | exact CI_cn hI | exact (CI_n6 hI).1 | decide) (hn2_)) (cwV 1 hts (gV_G k735 k737 ks_yX9_needPage k1 k738) rfl rfl rfl (by decide +kernel) ⟨Nat.le_of_ble_eq_true rfl, Nat.le_of_ble_eq_true rfl⟩) ⟨fun a U g mk q => by obtain ⟨q0, q1, qP, qK, qM, qE⟩ := q; exact ⟨q0, q1, qP, va_K.moved (u := U) (U := U.calling g mk a) (Vm.Alike.refl U.vm) qK, qM, xX_call qE⟩, va_recv hK hP (ci := 9) (q0 := 0) rfl ((fw_get (by decide)).trans (by rw [sE_0]; rfl)), fun U hU hW => ⟨rfl, by rw [hU], by rw [hU]; exact hP, va_K.moved hW.alike hK, xM_warm hW hM, xX_at hEx hS (fun q h => fA_le hS.1 q h) hU hW⟩⟩ rfl rfl hl.1 rfl (lv_room (Nat.le_of_ble_eq_true rfl)) dX9_passes_2 ⟨Nat.le_of_ble_eq_true rfl, Nat.le_of_ble_eq_true rfl⟩) hS (fun q _ h => fA_le hS.1 q h) (fA_le hS.1) (fun q _ h => fA_le hS.1 q h) (fun E9 ce9 q9 u9 t9 H1 locs ht9 hvm9 hpx9 hBX9 hz9 hk9 hS hce9 hcv9 hcl9 => ?_) (fun u9 t9 H1 locs ht9 hvm9 hw9 hB9 hz9 hk9 hS => hw9.elim)
    obtain ⟨hE9, hP9, hK9⟩ := hBX9
    exact vx_out (fun x hx9 => (hnt x hx9).elim) hlocks hce9 hcv9 hcl9 (fun t8 ht8 hW8 => ⟨u9, (by
                show CI T u9 ∧ SZ μ u9
                exact CZ_thr hI hpx9), ⟨hE9, by rw [ht8, ← ht9]; exact hP9, va_K.moved hW8 hK⟩, hS.F ht8⟩) hS.2.2 (Nat.le_of_ble_eq_true rfl) (Nat.le_of_ble_eq_true rfl)
set_option maxHeartbeats 4000000 in
set_option maxRecDepth 100000 in
theorem q_taker (l : Launch) (hfl : l.stackTraces = false) (dC : Nat → ClassId) (dI : Nat → Nat → Nat) (cI cZ cII cIII : ClassId) (h0 sz : Nat) (μ : va_M) (pg : Int) (kn : Int) (T : List Tk) (hI : CI T μ) (h_pg : inR pg) (h_kn : inR kn) : vx_Met l yX9_taker (Cond.code yX9_taker cX9_taker 4 (some .int) :: wsG) ({ frames := 9, cells := 1, slots := 6, locals := 163 } : Room) (va_Pc [.ref h0, .int (iZ (pg)), .int (iZ (kn))] (fun U => U.heap.size = sz ∧ va_P (dC, dI) vwCl (fw (sE cI cZ cII cIII h0) h0 233 μ) U.heap ∧ va_K (dC, dI) vwCl (sT cI cZ cII cIII) U ∧ xM U ∧ xX (fA h0 233 sz) U)) (va_Qi (fun (r9 : Int32) (u : va_M × Int) => r9 = iZ u.2 ∧ (fun (u : va_M) (r : Int) => CI T u ∧ SZ μ u) u.1 u.2) (fun u t => va_P (dC, dI) vwCl (fw (sE cI cZ cII cIII h0) h0 233 u.1) t.heap ∧ va_K (dC, dI) vwCl (sT cI cZ cII cIII) t) (fA h0 233 sz)) (vx_X (fun (u : va_M) => CI T u ∧ SZ μ u) (fun E u t => E ∈ (["java/util/NoSuchElementException"] : List String) ∧ va_P (dC, dI) vwCl (fw (sE cI cZ cII cIII h0) h0 233 u) t.heap ∧ va_K (dC, dI) vwCl (sT cI cZ cII cIII) t) (fA h0 233 sz)) 1 6 (fA h0 233 sz) := by
  refine vx_ofW (cc := cX9_taker) (maxL := 4) (ret := (some .int)) (by decide) rfl ?_
  intro p e s m args below meth c s₁ B hml hnt hv
  obtain ⟨rfl, hsz, hP, hK, hM, hEx⟩ := hv
  have hx := B.exec
  have hb := B.bytes
  have hr := B.returns
  have hts : ∀ w ∈ wsG, w.before _ s = true := hG_of (atoms_spec (ws := (Cond.code yX9_taker cX9_taker 4 (some .int) :: wsG)) B.pre)
  have hown : s.vm.findClass RX9 = some m.cls := findClass_of_methodNamed B.named
  have hlocks := B.notSynchronized
  subst hsz
  have hS : va_S (fA h0 233 s.heap.size) s.heap s.heap [] := va_S.rf
  have hl := lv_entry ([.ref h0, .int (iZ (pg)), .int (iZ (kn))]) (n := 4) (Nat.le_of_ble_eq_true rfl)
  rw [lg_entry_eq]
  generalize (lg_sl ([.ref h0, .int (iZ (pg)), .int (iZ (kn))]) ++ List.replicate (4 - (lg_sl ([.ref h0, .int (iZ (pg)), .int (iZ (kn))])).length) Slot.unset).toArray = ls at hl ⊢
  have hl : lv_has ls 4 [(0, .ref h0), (1, .int (iZ (pg))), (2, .int (iZ (kn)))] := hl
  have hlc := CI_lc hI
  have h66 := CI_n6 hI
  refine lv_aload_n hx hb dX9_taker_0 rfl (lv_at hl 0 rfl) ?_
  refine lv_iload_n hx hb dX9_taker_1 rfl (lv_at hl 1 rfl) ?_
  refine lv_iload_n hx hb dX9_taker_2 rfl (lv_at hl 2 rfl) ?_
  by_cases hn3_ : (0 ≤ pg ∧ pg < μ 0 2) ∧ 0 ≤ kn ∧ kn < μ (113 + (pg).toNat * 15) 2
  · refine va_callv (va_runV (As := [.int (iZ (pg)), .int (iZ (kn))]) (rest := []) ⟨hx, hb, hml, hown, hts⟩ (s_needPlace l dC dI cI cZ cII cIII h0 s.heap.size μ (pg) (kn) (by first | assumption | omega | exact CI_lc hI | exact CI_cn hI | exact (CI_n6 hI).1 | decide) (by first | assumption | omega | exact CI_lc hI | exact CI_cn hI | exact (CI_n6 hI).1 | decide) (by first | assumption | omega | exact CI_lc hI | exact CI_cn hI | exact (CI_n6 hI).1 | decide) (by first | assumption | omega | exact CI_lc hI | exact CI_cn hI | exact (CI_n6 hI).1 | decide) (by exact hn3_)) (cwV 2 hts (gV_G k878 k880 ks_yX9_needPlace k1 k881) rfl rfl rfl (by decide +kernel) ⟨Nat.le_of_ble_eq_true rfl, Nat.le_of_ble_eq_true rfl⟩) ⟨fun a U g mk q => by obtain ⟨q0, q1, qP, qK, qM⟩ := q; exact ⟨q0, q1, qP, va_K.moved (u := U) (U := U.calling g mk a) (Vm.Alike.refl U.vm) qK, qM⟩, va_recv hK hP (ci := 9) (q0 := 0) rfl ((fw_get (by decide)).trans (by rw [sE_0]; rfl)), fun U hU hW => ⟨rfl, by rw [hU], by rw [hU]; exact hP, va_K.moved hW.alike hK, xM_warm hW hM⟩⟩ rfl rfl hl.1 rfl (lv_room (Nat.le_of_ble_eq_true rfl)) dX9_taker_3 ⟨Nat.le_of_ble_eq_true rfl, Nat.le_of_ble_eq_true rfl⟩) hS (fun q _ h => fA_le hS.1 q h) (fA_le hS.1) (fun u9 t9 H1 locs ht9 hvm9 hw9 hB9 hz9 hk9 hS => ?_)
    obtain ⟨hP, -⟩ := hB9
    rw [ht9] at hP
    generalize H1 = H at hP hS ⊢
    obtain ⟨μ1, eμ1⟩ : ∃ x : va_M, x = u9 := ⟨_, rfl⟩
    rw [← eμ1] at hP hw9
    have hμ1 := hw9; clear hw9
    rw [hμ1] at hP
    obtain ⟨hl1, hl2⟩ := CI_lf hI pg (by (first | ((try clear hl2); (try clear hl1); (try clear hμ1); (try clear x); (try clear eμ1); (try clear μ1); (try clear hz9); (try clear h66); (try clear hlc); (try clear hsz); (try clear hnt); (try clear s₁); omega) | omega)) (by (first | ((try clear hl2); (try clear hl1); (try clear hμ1); (try clear x); (try clear eμ1); (try clear μ1); (try clear hz9); (try clear h66); (try clear hsz); (try clear hnt); (try clear s₁); omega) | omega))
    have hn9 := hl1.1.1
    refine lv_aload_n hx hb dX9_taker_6 rfl (lv_at hl 0 rfl) ?_
    refine lv_iload_n hx hb dX9_taker_7 rfl (lv_at hl 1 rfl) ?_
    refine va_callr (va_runV (As := [.int (iZ (pg))]) (rest := []) ⟨hx, hb, hml, hown, hts⟩ (s_walkOf l dC dI cI cZ cII cIII h0 H.size μ (pg) (T) (by exact hI) (by first | assumption | (first | ((try clear hn9); (try clear hl2); (try clear hl1); (try clear hμ1); (try clear x); (try clear eμ1); (try clear μ1); (try clear hz9); (try clear h66); (try clear hlc); (try clear hsz); (try clear hnt); (try clear s₁); omega) | omega) | exact CI_lc hI | exact CI_cn hI | exact (CI_n6 hI).1 | decide)) (cwV 1 hts (gV_G k535 k537 ks_yX9_walkOf k1 k538) rfl rfl rfl (by decide +kernel) ⟨Nat.le_of_ble_eq_true rfl, Nat.le_of_ble_eq_true rfl⟩) ⟨fun a U g mk q => by obtain ⟨q0, q1, qP, qK, qM⟩ := q; exact ⟨q0, q1, qP, va_K.moved (u := U) (U := U.calling g mk a) (Vm.Alike.refl U.vm) qK, qM⟩, va_recv hK hP (ci := 9) (q0 := 0) rfl ((fw_get (by decide)).trans (by rw [sE_0]; rfl)), fun U hU hW => ⟨rfl, by rw [hU], by rw [hU]; exact hP, va_K.moved hW.alike hK, xM_warm hW hM⟩⟩ rfl rfl hl.1 rfl (lv_room (Nat.le_of_ble_eq_true rfl)) dX9_taker_8 ⟨Nat.le_of_ble_eq_true rfl, Nat.le_of_ble_eq_true rfl⟩) hS (fun q _ h => fA_le hS.1 q h) (fA_le hS.1) (fun u9 ra9 t9 H1 locs ht9 hvm9 hw9 hB9 hz9 hk9 hS => ?_)
    obtain ⟨hra9, hP, -⟩ := hB9
    subst hra9
    rw [ht9] at hP
    generalize H1 = H at hP hS ⊢
    obtain ⟨μw, eμw⟩ : ∃ x : va_M, x = u9 := ⟨_, rfl⟩
    rw [← eμw] at hP hw9
    have hμw := hw9; clear hw9
    obtain ⟨c1_, f1_⟩ := hμw
    have x66 : μw 6 6 = μ 6 6 := f1_ _ _ (by unfold WQ Zc; (first | ((try clear x66); (try clear f1_); (try clear c1_); (try clear hμw); (try clear x); (try clear eμw); (try clear μw); (try clear hra9); (try clear hz9); (try clear ra9); (try clear hn9); (try clear hl2); (try clear hl1); (try clear hμ1); (try clear eμ1); (try clear μ1); (try clear hn3_); (try clear h66); (try clear hlc); (try clear hsz); (try clear hnt); (try clear s₁); omega) | omega))
    obtain ⟨wl1, wl2⟩ := CI_lf c1_ pg (by (first | ((try clear wl2); (try clear wl1); (try clear x66); (try clear f1_); (try clear c1_); (try clear hμw); (try clear x); (try clear eμw); (try clear hra9); (try clear hz9); (try clear ra9); (try clear hn9); (try clear hl2); (try clear hl1); (try clear hμ1); (try clear eμ1); (try clear μ1); (try clear h66); (try clear hlc); (try clear hsz); (try clear hnt); (try clear s₁); omega) | omega)) (by have := CI_lc hI; (first | ((try clear wl2); (try clear wl1); (try clear x66); (try clear f1_); (try clear c1_); (try clear hμw); (try clear x); (try clear eμw); (try clear hra9); (try clear hz9); (try clear ra9); (try clear hn9); (try clear hl2); (try clear hl1); (try clear hμ1); (try clear eμ1); (try clear μ1); (try clear h66); (try clear hsz); (try clear hnt); (try clear s₁); omega) | omega))
    have w66 := CI_n6 c1_
    refine lv_astore_n (lv' := [(3, .ref (h0 + ((113 + (pg).toNat * 15) + 10))), (0, .ref h0), (1, .int (iZ (pg))), (2, .int (iZ (kn)))]) hx hb dX9_taker_11 rfl hl (by decide) rfl (fun ls hl => ?_)
    refine lv_aload_n hx hb dX9_taker_12 rfl (lv_at hl 0 rfl) ?_
    refine va_calli (va_runV (As := []) (rest := []) ⟨hx, hb, hml, hown, hts⟩ (s_KisThrough l dC dI cI cZ cII cIII h0 H.size μw ((113 + (pg).toNat * 15)) ((pg).toNat) (rfl) ((show (pg).toNat < 8 by (first | ((try clear w66); (try clear wl2); (try clear wl1); (try clear x66); (try clear f1_); (try clear c1_); (try clear hμw); (try clear x); (try clear eμw); (try clear hra9); (try clear hz9); (try clear ra9); (try clear hn9); (try clear hl2); (try clear hl1); (try clear hμ1); (try clear eμ1); (try clear μ1); (try clear h66); (try clear hsz); (try clear hnt); (try clear s₁); omega) | omega))) (by constructor <;> (first | ((try clear w66); (try clear wl1); (try clear x66); (try clear f1_); (try clear c1_); (try clear hμw); (try clear x); (try clear eμw); (try clear hra9); (try clear hz9); (try clear ra9); (try clear hn9); (try clear hl2); (try clear hl1); (try clear hμ1); (try clear eμ1); (try clear μ1); (try clear hn3_); (try clear h66); (try clear hlc); (try clear hsz); (try clear hnt); (try clear s₁); omega) | omega))) (cwV 0 hts (gV_G k579 k580 k581 k11 k582) rfl rfl rfl (by decide +kernel) ⟨Nat.le_of_ble_eq_true rfl, Nat.le_of_ble_eq_true rfl⟩) ⟨fun a U g mk q => by obtain ⟨q0, q1, qP, qK, qM⟩ := q; exact ⟨q0, q1, qP, va_K.moved (u := U) (U := U.calling g mk a) (Vm.Alike.refl U.vm) qK, qM⟩, va_recv hK hP (ci := 7) (q0 := ((113 + (pg).toNat * 15) + 10)) rfl ((fw_get (by (first | ((try clear q); (try clear mk); (try clear g); (try clear U); (try clear w66); (try clear wl2); (try clear wl1); (try clear x66); (try clear f1_); (try clear c1_); (try clear hμw); (try clear x); (try clear eμw); (try clear hra9); (try clear hz9); (try clear ra9); (try clear hn9); (try clear hl2); (try clear hl1); (try clear hμ1); (try clear eμ1); (try clear μ1); (try clear h66); (try clear hsz); (try clear hnt); (try clear s₁); omega) | omega))).trans (by rw [(sE_walk (show (pg).toNat < 8 by (first | ((try clear q); (try clear mk); (try clear g); (try clear U); (try clear w66); (try clear wl2); (try clear wl1); (try clear x66); (try clear f1_); (try clear c1_); (try clear hμw); (try clear x); (try clear eμw); (try clear hra9); (try clear hz9); (try clear ra9); (try clear hn9); (try clear hl2); (try clear hl1); (try clear hμ1); (try clear eμ1); (try clear μ1); (try clear h66); (try clear hsz); (try clear hnt); (try clear s₁); omega) | omega)) rfl)])), fun U hU hW => ⟨rfl, by rw [hU], by rw [hU]; exact hP, va_K.moved hW.alike hK, xM_warm hW hM⟩⟩ rfl rfl hl.1 rfl (lv_room (Nat.le_of_ble_eq_true rfl)) dX9_taker_13 ⟨Nat.le_of_ble_eq_true rfl, Nat.le_of_ble_eq_true rfl⟩) hS (fun q _ h => fA_le hS.1 q h) (fA_le hS.1) (fun r9 u9 t9 H1 locs ht9 hvm9 hw9 hB9 hz9 hk9 hS => ?_)
    obtain ⟨μi, ri⟩ := u9
    obtain ⟨hP, -⟩ := hB9
    rw [ht9] at hP
    generalize H1 = H at hP hS ⊢
    obtain ⟨e9, hw9⟩ := hw9
    have e9 : r9 = iZ ri := e9
    subst e9
    simp only at hP hw9
    have hμi := hw9; clear hw9
    rw [hμi.1] at hP; have hμi := hμi.2
    have hri := hμi
    refine fz_if_eq (tgt := 28) (by first | assumption | (constructor <;> (first | ((try clear hμi); (try clear μi); (try clear hz9); (try clear w66); (try clear wl2); (try clear wl1); (try clear x66); (try clear f1_); (try clear c1_); (try clear hμw); (try clear x); (try clear eμw); (try clear hra9); (try clear ra9); (try clear hn9); (try clear hl2); (try clear hl1); (try clear hμ1); (try clear eμ1); (try clear μ1); (try clear hn3_); (try clear h66); (try clear hlc); (try clear hsz); (try clear hnt); (try clear s₁); omega) | omega)) | decide) hx hb dX9_taker_16 (by decide) (fun c16_ => ?_) (fun c16_ => ?_)
    · refine lv_iconst (v := iZ (-1)) hx hb dX9_taker_28 rfl ?_
      exact W_widen (Nat.le_of_ble_eq_true rfl) (Nat.le_of_ble_eq_true rfl) (vx_ret (W.iret (v := iZ ((-1))) hx hb hr (fun t9 ht9 hW9 => ⟨⟨iZ ((-1)), (μw, (-1)), rfl, ⟨rfl, (by
                    dsimp only
                    exact ⟨c1_, SZ_wq f1_⟩)⟩, by rw [ht9]; exact hP, va_K.moved hW9.alike hK⟩, hS.F ht9⟩) hS.2.2 dX9_taker_29))
    · refine lv_aload_n hx hb dX9_taker_19 rfl (lv_at hl 0 rfl) ?_
      refine fz_get (D := (dC, dI)) (ci := 7) (v := .ref (h0 + ((113 + (pg).toNat * 15) + 11))) (C := RX7) (T := TX7) (N := 5) hx hb hts inG7 hown hK hP (k := ((113 + (pg).toNat * 15) + 10)) (by (first | ((try clear c16_); (try clear hri); (try clear hμi); (try clear ri); (try clear μi); (try clear hz9); (try clear w66); (try clear wl2); (try clear wl1); (try clear x66); (try clear f1_); (try clear c1_); (try clear hμw); (try clear x); (try clear eμw); (try clear hra9); (try clear ra9); (try clear hn9); (try clear hl2); (try clear hl1); (try clear hμ1); (try clear eμ1); (try clear μ1); (try clear h66); (try clear hsz); (try clear hnt); (try clear s₁); omega) | omega)) (F := (sWF h0 (113 + (pg).toNat * 15))) (sE_walk (show (pg).toNat < 8 by (first | ((try clear c16_); (try clear hri); (try clear hμi); (try clear ri); (try clear μi); (try clear hz9); (try clear w66); (try clear wl2); (try clear wl1); (try clear x66); (try clear f1_); (try clear c1_); (try clear hμw); (try clear x); (try clear eμw); (try clear hra9); (try clear ra9); (try clear hn9); (try clear hl2); (try clear hl1); (try clear hμ1); (try clear eμ1); (try clear μ1); (try clear h66); (try clear hsz); (try clear hnt); (try clear s₁); omega) | omega)) rfl) rfl 2 (by decide) (hts _ k278) (fun _ h9 => h9) rfl dX9_taker_20 ?_
      refine lv_iload_n hx hb dX9_taker_23 rfl (lv_at hl 3 rfl) ?_
      refine fz_ld (k := ((113 + (pg).toNat * 15) + 11)) (n := 60) hx hb hK hP 0 (by (first | ((try clear c16_); (try clear hri); (try clear hμi); (try clear ri); (try clear μi); (try clear hz9); (try clear w66); (try clear wl2); (try clear wl1); (try clear x66); (try clear f1_); (try clear c1_); (try clear hμw); (try clear x); (try clear eμw); (try clear hra9); (try clear ra9); (try clear hn9); (try clear hl2); (try clear hl1); (try clear hμ1); (try clear eμ1); (try clear μ1); (try clear h66); (try clear hsz); (try clear hnt); (try clear s₁); omega) | omega)) (sE_leafA 11 60 (show (pg).toNat < 8 by (first | ((try clear c16_); (try clear hri); (try clear hμi); (try clear ri); (try clear μi); (try clear hz9); (try clear w66); (try clear wl2); (try clear wl1); (try clear x66); (try clear f1_); (try clear c1_); (try clear hμw); (try clear x); (try clear eμw); (try clear hra9); (try clear ra9); (try clear hn9); (try clear hl2); (try clear hl1); (try clear hμ1); (try clear eμ1); (try clear μ1); (try clear h66); (try clear hsz); (try clear hnt); (try clear s₁); omega) | omega)) rfl (by decide)) rfl ⟨by (first | ((try clear c16_); (try clear hri); (try clear hμi); (try clear ri); (try clear μi); (try clear hz9); (try clear w66); (try clear wl2); (try clear wl1); (try clear x66); (try clear f1_); (try clear c1_); (try clear hμw); (try clear x); (try clear eμw); (try clear hra9); (try clear ra9); (try clear hn9); (try clear hl2); (try clear hl1); (try clear hμ1); (try clear eμ1); (try clear μ1); (try clear h66); (try clear hlc); (try clear hsz); (try clear hnt); (try clear s₁); omega) | omega), by (first | ((try clear c16_); (try clear hri); (try clear hμi); (try clear ri); (try clear μi); (try clear hz9); (try clear w66); (try clear wl2); (try clear wl1); (try clear x66); (try clear f1_); (try clear c1_); (try clear hμw); (try clear x); (try clear eμw); (try clear hra9); (try clear ra9); (try clear hl2); (try clear hl1); (try clear hμ1); (try clear eμ1); (try clear μ1); (try clear h66); (try clear hlc); (try clear hsz); (try clear hnt); (try clear s₁); omega) | omega)⟩ (by decide) dX9_taker_24 ?_
      refine lv_goto (tgt := 29) hx hb dX9_taker_25 (by decide) ?_
      exact W_widen (Nat.le_of_ble_eq_true rfl) (Nat.le_of_ble_eq_true rfl) (vx_ret (W.iret (v := iZ (μw ((113 + (pg).toNat * 15) + 11) (kn).toNat)) hx hb hr (fun t9 ht9 hW9 => ⟨⟨iZ (μw ((113 + (pg).toNat * 15) + 11) (kn).toNat), (μw, μw ((113 + (pg).toNat * 15) + 11) (kn).toNat), rfl, ⟨rfl, (by
                    dsimp only
                    exact ⟨c1_, SZ_wq f1_⟩)⟩, by rw [ht9]; exact hP, va_K.moved hW9.alike hK⟩, hS.F ht9⟩) hS.2.2 dX9_taker_29))
  · refine vx_callv (vx_runV (As := [.int (iZ (pg)), .int (iZ (kn))]) (rest := []) ⟨hx, hb, hml, hown, hts⟩ (x_needPlace l hfl dC dI cI cZ cII cIII h0 s.heap.size μ (pg) (kn) (by first | assumption | omega | exact CI_lc hI | exact CI_cn hI | exact (CI_n6 hI).1 | decide) (by first | assumption | omega | exact CI_lc hI | exact CI_cn hI | exact (CI_n6 hI).1 | decide) (by first | assumption | omega | exact CI_lc hI | exact CI_cn hI | exact (CI_n6 hI).1 | decide) (by first | assumption | omega | exact CI_lc hI | exact CI_cn hI | exact (CI_n6 hI).1 | decide) (hn3_)) (cwV 2 hts (gV_G k878 k880 ks_yX9_needPlace k1 k881) rfl rfl rfl (by decide +kernel) ⟨Nat.le_of_ble_eq_true rfl, Nat.le_of_ble_eq_true rfl⟩) ⟨fun a U g mk q => by obtain ⟨q0, q1, qP, qK, qM, qE⟩ := q; exact ⟨q0, q1, qP, va_K.moved (u := U) (U := U.calling g mk a) (Vm.Alike.refl U.vm) qK, qM, xX_call qE⟩, va_recv hK hP (ci := 9) (q0 := 0) rfl ((fw_get (by decide)).trans (by rw [sE_0]; rfl)), fun U hU hW => ⟨rfl, by rw [hU], by rw [hU]; exact hP, va_K.moved hW.alike hK, xM_warm hW hM, xX_at hEx hS (fun q h => fA_le hS.1 q h) hU hW⟩⟩ rfl rfl hl.1 rfl (lv_room (Nat.le_of_ble_eq_true rfl)) dX9_taker_3 ⟨Nat.le_of_ble_eq_true rfl, Nat.le_of_ble_eq_true rfl⟩) hS (fun q _ h => fA_le hS.1 q h) (fA_le hS.1) (fun q _ h => fA_le hS.1 q h) (fun E9 ce9 q9 u9 t9 H1 locs ht9 hvm9 hpx9 hBX9 hz9 hk9 hS hce9 hcv9 hcl9 => ?_) (fun u9 t9 H1 locs ht9 hvm9 hw9 hB9 hz9 hk9 hS => hw9.elim)
    obtain ⟨hE9, hP9, hK9⟩ := hBX9
    exact vx_out (fun x hx9 => (hnt x hx9).elim) hlocks hce9 hcv9 hcl9 (fun t8 ht8 hW8 => ⟨u9, (by
                show CI T u9 ∧ SZ μ u9
                exact CZ_thr hI hpx9), ⟨hE9, by rw [ht8, ← ht9]; exact hP9, va_K.moved hW8 hK⟩, hS.F ht8⟩) hS.2.2 (Nat.le_of_ble_eq_true rfl) (Nat.le_of_ble_eq_true rfl)
set_option maxHeartbeats 4000000 in
set_option maxRecDepth 100000 in
theorem q_shortest (l : Launch) (dC : Nat → ClassId) (dI : Nat → Nat → Nat) (cI cZ cII cIII : ClassId) (h0 sz : Nat) (μ : va_M) (T : List Tk) (hI : CI T μ) : Met l yX9_shortest (Cond.code yX9_shortest cX9_shortest 1 (some .int) :: wsG) ({ frames := 3, cells := 0, slots := 0, locals := 61 } : Room) (va_Pc [.ref h0] (fun U => U.heap.size = sz ∧ va_P (dC, dI) vwCl (fw (sE cI cZ cII cIII h0) h0 233 μ) U.heap ∧ va_K (dC, dI) vwCl (sT cI cZ cII cIII) U ∧ xM U)) (va_Qi (fun (r9 : Int32) (u : va_M × Int) => r9 = iZ u.2 ∧ (fun (u : va_M) (r : Int) => CI T u ∧ SZ μ u) u.1 u.2) (fun u t => va_P (dC, dI) vwCl (fw (sE cI cZ cII cIII h0) h0 233 u.1) t.heap ∧ va_K (dC, dI) vwCl (sT cI cZ cII cIII) t) (fA h0 233 sz)) 0 0 (fA h0 233 sz) := by
  refine Met.ofW (cc := cX9_shortest) (maxL := 1) (ret := (some .int)) (by decide) rfl ?_
  intro p e s m args below meth c s₁ B hml hv
  obtain ⟨rfl, hsz, hP, hK, hM⟩ := hv
  have hx := B.exec
  have hb := B.bytes
  have hr := B.returns
  have hts : ∀ w ∈ wsG, w.before _ s = true := hG_of (atoms_spec (ws := (Cond.code yX9_shortest cX9_shortest 1 (some .int) :: wsG)) B.pre)
  have hown : s.vm.findClass RX9 = some m.cls := findClass_of_methodNamed B.named
  have hlocks := B.notSynchronized
  subst hsz
  have hS : va_S (fA h0 233 s.heap.size) s.heap s.heap [] := va_S.rf
  have hl := lv_entry ([.ref h0]) (n := 1) (Nat.le_of_ble_eq_true rfl)
  rw [lg_entry_eq]
  generalize (lg_sl ([.ref h0]) ++ List.replicate (1 - (lg_sl ([.ref h0])).length) Slot.unset).toArray = ls at hl ⊢
  have hl : lv_has ls 1 [(0, .ref h0)] := hl
  have hlc := CI_lc hI
  have h66 := CI_n6 hI
  refine lv_aload_n hx hb dX9_shortest_0 rfl (lv_at hl 0 rfl) ?_
  refine fz_get (D := (dC, dI)) (ci := 9) (v := .ref (h0 + 6)) (C := RX9) (T := TX9) (N := 15) hx hb hts inG9 hown hK hP (k := 0) (by decide) (F := (sF0 h0)) sE_0 rfl 3 (by decide) (hts _ k335) (fun _ h9 => h9) rfl dX9_shortest_1 ?_
  refine lv_iconst (v := iZ 1) hx hb dX9_shortest_4 rfl ?_
  refine lv_iconst (v := iZ 0) hx hb dX9_shortest_5 rfl ?_
  refine lv_iconst (v := iZ 1) hx hb dX9_shortest_6 rfl ?_
  refine va_calli (va_runV (As := [.int (iZ (1)), .int (iZ (0)), .int (iZ (1))]) (rest := []) ⟨hx, hb, hml, hown, hts⟩ (s_RcountLeaves l dC dI cI cZ cII cIII h0 s.heap.size μ (6) (1100) (1) (0) (1) (rowB_6) (by exact hI.1.2.2.1) (by decide)) (cwV 3 hts (gV_G k527 k528 k529 k3 k530) rfl rfl rfl (by decide +kernel) ⟨Nat.le_of_ble_eq_true rfl, Nat.le_of_ble_eq_true rfl⟩) ⟨fun a U g mk q => by obtain ⟨q0, q1, qP, qK, qM⟩ := q; exact ⟨q0, q1, qP, va_K.moved (u := U) (U := U.calling g mk a) (Vm.Alike.refl U.vm) qK, qM⟩, va_recv hK hP (ci := 4) (q0 := 6) rfl ((fw_get (by decide)).trans (by rw [(sE_rowO rowB_6)])), fun U hU hW => ⟨rfl, by rw [hU], by rw [hU]; exact hP, va_K.moved hW.alike hK, xM_warm hW hM⟩⟩ rfl rfl hl.1 rfl (lv_room (Nat.le_of_ble_eq_true rfl)) dX9_shortest_7 ⟨Nat.le_of_ble_eq_true rfl, Nat.le_of_ble_eq_true rfl⟩) hS (fun q _ h => fA_le hS.1 q h) (fA_le hS.1) (fun r9 u9 t9 H1 locs ht9 hvm9 hw9 hB9 hz9 hk9 hS => ?_)
  obtain ⟨μ1, r2⟩ := u9
  obtain ⟨hP, -⟩ := hB9
  rw [ht9] at hP
  generalize H1 = H at hP hS ⊢
  obtain ⟨e9, hw9⟩ := hw9
  have e9 : r9 = iZ r2 := e9
  subst e9
  simp only at hP hw9
  have hμ1 := hw9; clear hw9
  rw [hμ1] at hP
  exact W.iret (v := iZ (r2)) hx hb hr (fun t9 ht9 hW9 => ⟨⟨iZ (r2), (μ, r2), rfl, ⟨rfl, (by
            dsimp only
            exact ⟨hI, SZ_rf⟩)⟩, by rw [ht9]; exact hP, va_K.moved hW9.alike hK⟩, hS.F ht9⟩) hS.2.2 dX9_shortest_10
set_option maxHeartbeats 4000000 in
set_option maxRecDepth 100000 in
theorem q_firm (l : Launch) (hfl : l.stackTraces = false) (dC : Nat → ClassId) (dI : Nat → Nat → Nat) (cI cZ cII cIII : ClassId) (h0 sz : Nat) (μ : va_M) (wh : Int) (T : List Tk) (hI : CI T μ) (h_wh : inR wh) : vx_Met l yX9_firm (Cond.code yX9_firm cX9_firm 2 (some .int) :: wsG) ({ frames := 7, cells := 1, slots := 6, locals := 110 } : Room) (va_Pc [.ref h0, .int (iZ (wh))] (fun U => U.heap.size = sz ∧ va_P (dC, dI) vwCl (fw (sE cI cZ cII cIII h0) h0 233 μ) U.heap ∧ va_K (dC, dI) vwCl (sT cI cZ cII cIII) U ∧ xM U ∧ xX (fA h0 233 sz) U)) (va_Qi (fun (r9 : Int32) (u : va_M × Int) => r9 = iZ u.2 ∧ (fun (u : va_M) (r : Int) => CI T u ∧ SZ μ u) u.1 u.2) (fun u t => va_P (dC, dI) vwCl (fw (sE cI cZ cII cIII h0) h0 233 u.1) t.heap ∧ va_K (dC, dI) vwCl (sT cI cZ cII cIII) t) (fA h0 233 sz)) (vx_X (fun (u : va_M) => CI T u ∧ SZ μ u) (fun E u t => E ∈ (["java/lang/IllegalArgumentException"] : List String) ∧ va_P (dC, dI) vwCl (fw (sE cI cZ cII cIII h0) h0 233 u) t.heap ∧ va_K (dC, dI) vwCl (sT cI cZ cII cIII) t) (fA h0 233 sz)) 1 6 (fA h0 233 sz) := by
  refine vx_ofW (cc := cX9_firm) (maxL := 2) (ret := (some .int)) (by decide) rfl ?_
  intro p e s m args below meth c s₁ B hml hnt hv
  obtain ⟨rfl, hsz, hP, hK, hM, hEx⟩ := hv
  have hx := B.exec
  have hb := B.bytes
  have hr := B.returns
  have hts : ∀ w ∈ wsG, w.before _ s = true := hG_of (atoms_spec (ws := (Cond.code yX9_firm cX9_firm 2 (some .int) :: wsG)) B.pre)
  have hown : s.vm.findClass RX9 = some m.cls := findClass_of_methodNamed B.named
  have hlocks := B.notSynchronized
  subst hsz
  have hS : va_S (fA h0 233 s.heap.size) s.heap s.heap [] := va_S.rf
  have hl := lv_entry ([.ref h0, .int (iZ (wh))]) (n := 2) (Nat.le_of_ble_eq_true rfl)
  rw [lg_entry_eq]
  generalize (lg_sl ([.ref h0, .int (iZ (wh))]) ++ List.replicate (2 - (lg_sl ([.ref h0, .int (iZ (wh))])).length) Slot.unset).toArray = ls at hl ⊢
  have hl : lv_has ls 2 [(0, .ref h0), (1, .int (iZ (wh)))] := hl
  have hlc := CI_lc hI
  have h66 := CI_n6 hI
  refine lv_aload_n hx hb dX9_firm_0 rfl (lv_at hl 0 rfl) ?_
  refine lv_iload_n hx hb dX9_firm_1 rfl (lv_at hl 1 rfl) ?_
  refine fz_if_lt (tgt := 14) (by first | assumption | (constructor <;> omega) | decide) hx hb dX9_firm_2 (by decide) (fun c2_ => ?_) (fun c2_ => ?_)
  · refine lv_iconst (v := iZ 0) hx hb dX9_firm_14 rfl ?_
    refine vx_callv (vx_runV (As := [.int (iZ (0))]) (rest := []) ⟨hx, hb, hml, hown, hts⟩ (x_needArgument l hfl dC dI cI cZ cII cIII h0 s.heap.size μ  ) (cwV 1 hts (gV_G k596 k598 ks_yX9_needArgument k1 k599) rfl rfl rfl (by decide +kernel) ⟨Nat.le_of_ble_eq_true rfl, Nat.le_of_ble_eq_true rfl⟩) ⟨fun a U g mk q => by obtain ⟨q0, q1, qP, qK, qM, qE⟩ := q; exact ⟨q0, q1, qP, va_K.moved (u := U) (U := U.calling g mk a) (Vm.Alike.refl U.vm) qK, qM, xX_call qE⟩, va_recv hK hP (ci := 9) (q0 := 0) rfl ((fw_get (by decide)).trans (by rw [sE_0]; rfl)), fun U hU hW => ⟨rfl, by rw [hU], by rw [hU]; exact hP, va_K.moved hW.alike hK, xM_warm hW hM, xX_at hEx hS (fun q h => fA_le hS.1 q h) hU hW⟩⟩ rfl rfl hl.1 rfl (lv_room (Nat.le_of_ble_eq_true rfl)) dX9_firm_15 ⟨Nat.le_of_ble_eq_true rfl, Nat.le_of_ble_eq_true rfl⟩) hS (fun q _ h => fA_le hS.1 q h) (fA_le hS.1) (fun q _ h => fA_le hS.1 q h) (fun E9 ce9 q9 u9 t9 H1 locs ht9 hvm9 hpx9 hBX9 hz9 hk9 hS hce9 hcv9 hcl9 => ?_) (fun u9 t9 H1 locs ht9 hvm9 hw9 hB9 hz9 hk9 hS => hw9.elim)
    obtain ⟨hE9, hP9, hK9⟩ := hBX9
    exact vx_out (fun x hx9 => (hnt x hx9).elim) hlocks hce9 hcv9 hcl9 (fun t8 ht8 hW8 => ⟨u9, (by
                show CI T u9 ∧ SZ μ u9
                exact CZ_thr hI hpx9), ⟨hE9, by rw [ht8, ← ht9]; exact hP9, va_K.moved hW8 hK⟩, hS.F ht8⟩) hS.2.2 (Nat.le_of_ble_eq_true rfl) (Nat.le_of_ble_eq_true rfl)
  · refine lv_iload_n hx hb dX9_firm_5 rfl (lv_at hl 1 rfl) ?_
    refine lv_iconst (v := iZ 2) hx hb dX9_firm_6 rfl ?_
    refine fz_icmp_gt (tgt := 14) (by first | assumption | (constructor <;> omega) | decide) (by decide) hx hb dX9_firm_7 (by decide) (fun c7_ => ?_) (fun c7_ => ?_)
    · refine lv_iconst (v := iZ 0) hx hb dX9_firm_14 rfl ?_
      refine vx_callv (vx_runV (As := [.int (iZ (0))]) (rest := []) ⟨hx, hb, hml, hown, hts⟩ (x_needArgument l hfl dC dI cI cZ cII cIII h0 s.heap.size μ  ) (cwV 1 hts (gV_G k596 k598 ks_yX9_needArgument k1 k599) rfl rfl rfl (by decide +kernel) ⟨Nat.le_of_ble_eq_true rfl, Nat.le_of_ble_eq_true rfl⟩) ⟨fun a U g mk q => by obtain ⟨q0, q1, qP, qK, qM, qE⟩ := q; exact ⟨q0, q1, qP, va_K.moved (u := U) (U := U.calling g mk a) (Vm.Alike.refl U.vm) qK, qM, xX_call qE⟩, va_recv hK hP (ci := 9) (q0 := 0) rfl ((fw_get (by decide)).trans (by rw [sE_0]; rfl)), fun U hU hW => ⟨rfl, by rw [hU], by rw [hU]; exact hP, va_K.moved hW.alike hK, xM_warm hW hM, xX_at hEx hS (fun q h => fA_le hS.1 q h) hU hW⟩⟩ rfl rfl hl.1 rfl (lv_room (Nat.le_of_ble_eq_true rfl)) dX9_firm_15 ⟨Nat.le_of_ble_eq_true rfl, Nat.le_of_ble_eq_true rfl⟩) hS (fun q _ h => fA_le hS.1 q h) (fA_le hS.1) (fun q _ h => fA_le hS.1 q h) (fun E9 ce9 q9 u9 t9 H1 locs ht9 hvm9 hpx9 hBX9 hz9 hk9 hS hce9 hcv9 hcl9 => ?_) (fun u9 t9 H1 locs ht9 hvm9 hw9 hB9 hz9 hk9 hS => hw9.elim)
      obtain ⟨hE9, hP9, hK9⟩ := hBX9
      exact vx_out (fun x hx9 => (hnt x hx9).elim) hlocks hce9 hcv9 hcl9 (fun t8 ht8 hW8 => ⟨u9, (by
                    show CI T u9 ∧ SZ μ u9
                    exact CZ_thr hI hpx9), ⟨hE9, by rw [ht8, ← ht9]; exact hP9, va_K.moved hW8 hK⟩, hS.F ht8⟩) hS.2.2 (Nat.le_of_ble_eq_true rfl) (Nat.le_of_ble_eq_true rfl)
    · refine lv_iconst (v := iZ 1) hx hb dX9_firm_10 rfl ?_
      refine lv_goto (tgt := 15) hx hb dX9_firm_11 (by decide) ?_
      refine va_callv (va_runV (As := [.int (iZ (1))]) (rest := []) ⟨hx, hb, hml, hown, hts⟩ (s_needArgument l dC dI cI cZ cII cIII h0 s.heap.size μ  ) (cwV 1 hts (gV_G k596 k598 ks_yX9_needArgument k1 k599) rfl rfl rfl (by decide +kernel) ⟨Nat.le_of_ble_eq_true rfl, Nat.le_of_ble_eq_true rfl⟩) ⟨fun a U g mk q => by obtain ⟨q0, q1, qP, qK, qM⟩ := q; exact ⟨q0, q1, qP, va_K.moved (u := U) (U := U.calling g mk a) (Vm.Alike.refl U.vm) qK, qM⟩, va_recv hK hP (ci := 9) (q0 := 0) rfl ((fw_get (by decide)).trans (by rw [sE_0]; rfl)), fun U hU hW => ⟨rfl, by rw [hU], by rw [hU]; exact hP, va_K.moved hW.alike hK, xM_warm hW hM⟩⟩ rfl rfl hl.1 rfl (lv_room (Nat.le_of_ble_eq_true rfl)) dX9_firm_15 ⟨Nat.le_of_ble_eq_true rfl, Nat.le_of_ble_eq_true rfl⟩) hS (fun q _ h => fA_le hS.1 q h) (fA_le hS.1) (fun u9 t9 H1 locs ht9 hvm9 hw9 hB9 hz9 hk9 hS => ?_)
      obtain ⟨hP, -⟩ := hB9
      rw [ht9] at hP
      generalize H1 = H at hP hS ⊢
      obtain ⟨μ1, eμ1⟩ : ∃ x : va_M, x = u9 := ⟨_, rfl⟩
      rw [← eμ1] at hP hw9
      have hμ1 := hw9; clear hw9
      rw [hμ1] at hP
      refine lv_aload_n hx hb dX9_firm_18 rfl (lv_at hl 0 rfl) ?_
      refine fz_get (D := (dC, dI)) (ci := 9) (v := .ref (h0 + 6)) (C := RX9) (T := TX9) (N := 15) hx hb hts inG9 hown hK hP (k := 0) (by decide) (F := (sF0 h0)) sE_0 rfl 3 (by decide) (hts _ k335) (fun _ h9 => h9) rfl dX9_firm_19 ?_
      refine lv_iload_n hx hb dX9_firm_22 rfl (lv_at hl 1 rfl) ?_
      refine lv_iconst (v := iZ 1) hx hb dX9_firm_23 rfl ?_
      refine fz_icmp_eq (tgt := 31) (by first | assumption | (constructor <;> omega) | decide) (by decide) hx hb dX9_firm_24 (by decide) (fun c24_ => ?_) (fun c24_ => ?_)
      · refine lv_iconst (v := iZ 0) hx hb dX9_firm_31 rfl ?_
        refine lv_iload_n hx hb dX9_firm_32 rfl (lv_at hl 1 rfl) ?_
        refine fz_if_eq (tgt := 40) (by first | assumption | (constructor <;> omega) | decide) hx hb dX9_firm_33 (by decide) (fun c33_ => ?_) (fun c33_ => ?_)
        · refine lv_iconst (v := iZ 0) hx hb dX9_firm_40 rfl ?_
          refine lv_iconst (v := iZ 0) hx hb dX9_firm_41 rfl ?_
          refine va_calli (va_runV (As := [.int (iZ (0)), .int (iZ (0)), .int (iZ (0))]) (rest := []) ⟨hx, hb, hml, hown, hts⟩ (s_RcountLeaves l dC dI cI cZ cII cIII h0 H.size μ (6) (1100) (0) (0) (0) (rowB_6) (by exact hI.1.2.2.1) (by decide)) (cwV 3 hts (gV_G k527 k528 k529 k3 k530) rfl rfl rfl (by decide +kernel) ⟨Nat.le_of_ble_eq_true rfl, Nat.le_of_ble_eq_true rfl⟩) ⟨fun a U g mk q => by obtain ⟨q0, q1, qP, qK, qM⟩ := q; exact ⟨q0, q1, qP, va_K.moved (u := U) (U := U.calling g mk a) (Vm.Alike.refl U.vm) qK, qM⟩, va_recv hK hP (ci := 4) (q0 := 6) rfl ((fw_get (by decide)).trans (by rw [(sE_rowO rowB_6)])), fun U hU hW => ⟨rfl, by rw [hU], by rw [hU]; exact hP, va_K.moved hW.alike hK, xM_warm hW hM⟩⟩ rfl rfl hl.1 rfl (lv_room (Nat.le_of_ble_eq_true rfl)) dX9_firm_42 ⟨Nat.le_of_ble_eq_true rfl, Nat.le_of_ble_eq_true rfl⟩) hS (fun q _ h => fA_le hS.1 q h) (fA_le hS.1) (fun r9 u9 t9 H1 locs ht9 hvm9 hw9 hB9 hz9 hk9 hS => ?_)
          obtain ⟨μ2, r3⟩ := u9
          obtain ⟨hP, -⟩ := hB9
          rw [ht9] at hP
          generalize H1 = H at hP hS ⊢
          obtain ⟨e9, hw9⟩ := hw9
          have e9 : r9 = iZ r3 := e9
          subst e9
          simp only at hP hw9
          have hμ2 := hw9; clear hw9
          rw [hμ2] at hP
          exact W_widen (Nat.le_of_ble_eq_true rfl) (Nat.le_of_ble_eq_true rfl) (vx_ret (W.iret (v := iZ (r3)) hx hb hr (fun t9 ht9 hW9 => ⟨⟨iZ (r3), (μ, r3), rfl, ⟨rfl, (by
                            dsimp only
                            exact ⟨hI, SZ_rf⟩)⟩, by rw [ht9]; exact hP, va_K.moved hW9.alike hK⟩, hS.F ht9⟩) hS.2.2 dX9_firm_45))
        · refine lv_iconst (v := iZ 1) hx hb dX9_firm_36 rfl ?_
          refine lv_goto (tgt := 41) hx hb dX9_firm_37 (by decide) ?_
          refine lv_iconst (v := iZ 0) hx hb dX9_firm_41 rfl ?_
          refine va_calli (va_runV (As := [.int (iZ (0)), .int (iZ (1)), .int (iZ (0))]) (rest := []) ⟨hx, hb, hml, hown, hts⟩ (s_RcountLeaves l dC dI cI cZ cII cIII h0 H.size μ (6) (1100) (0) (1) (0) (rowB_6) (by exact hI.1.2.2.1) (by decide)) (cwV 3 hts (gV_G k527 k528 k529 k3 k530) rfl rfl rfl (by decide +kernel) ⟨Nat.le_of_ble_eq_true rfl, Nat.le_of_ble_eq_true rfl⟩) ⟨fun a U g mk q => by obtain ⟨q0, q1, qP, qK, qM⟩ := q; exact ⟨q0, q1, qP, va_K.moved (u := U) (U := U.calling g mk a) (Vm.Alike.refl U.vm) qK, qM⟩, va_recv hK hP (ci := 4) (q0 := 6) rfl ((fw_get (by decide)).trans (by rw [(sE_rowO rowB_6)])), fun U hU hW => ⟨rfl, by rw [hU], by rw [hU]; exact hP, va_K.moved hW.alike hK, xM_warm hW hM⟩⟩ rfl rfl hl.1 rfl (lv_room (Nat.le_of_ble_eq_true rfl)) dX9_firm_42 ⟨Nat.le_of_ble_eq_true rfl, Nat.le_of_ble_eq_true rfl⟩) hS (fun q _ h => fA_le hS.1 q h) (fA_le hS.1) (fun r9 u9 t9 H1 locs ht9 hvm9 hw9 hB9 hz9 hk9 hS => ?_)
          obtain ⟨μ4, r5⟩ := u9
          obtain ⟨hP, -⟩ := hB9
          rw [ht9] at hP
          generalize H1 = H at hP hS ⊢
          obtain ⟨e9, hw9⟩ := hw9
          have e9 : r9 = iZ r5 := e9
          subst e9
          simp only at hP hw9
          have hμ4 := hw9; clear hw9
          rw [hμ4] at hP
          exact W_widen (Nat.le_of_ble_eq_true rfl) (Nat.le_of_ble_eq_true rfl) (vx_ret (W.iret (v := iZ (r5)) hx hb hr (fun t9 ht9 hW9 => ⟨⟨iZ (r5), (μ, r5), rfl, ⟨rfl, (by
                            dsimp only
                            exact ⟨hI, SZ_rf⟩)⟩, by rw [ht9]; exact hP, va_K.moved hW9.alike hK⟩, hS.F ht9⟩) hS.2.2 dX9_firm_45))
      · refine lv_iconst (v := iZ 1) hx hb dX9_firm_27 rfl ?_
        refine lv_goto (tgt := 32) hx hb dX9_firm_28 (by decide) ?_
        refine lv_iload_n hx hb dX9_firm_32 rfl (lv_at hl 1 rfl) ?_
        refine fz_if_eq (tgt := 40) (by first | assumption | (constructor <;> omega) | decide) hx hb dX9_firm_33 (by decide) (fun c33_ => ?_) (fun c33_ => ?_)
        · refine lv_iconst (v := iZ 0) hx hb dX9_firm_40 rfl ?_
          refine lv_iconst (v := iZ 0) hx hb dX9_firm_41 rfl ?_
          refine va_calli (va_runV (As := [.int (iZ (1)), .int (iZ (0)), .int (iZ (0))]) (rest := []) ⟨hx, hb, hml, hown, hts⟩ (s_RcountLeaves l dC dI cI cZ cII cIII h0 H.size μ (6) (1100) (1) (0) (0) (rowB_6) (by exact hI.1.2.2.1) (by decide)) (cwV 3 hts (gV_G k527 k528 k529 k3 k530) rfl rfl rfl (by decide +kernel) ⟨Nat.le_of_ble_eq_true rfl, Nat.le_of_ble_eq_true rfl⟩) ⟨fun a U g mk q => by obtain ⟨q0, q1, qP, qK, qM⟩ := q; exact ⟨q0, q1, qP, va_K.moved (u := U) (U := U.calling g mk a) (Vm.Alike.refl U.vm) qK, qM⟩, va_recv hK hP (ci := 4) (q0 := 6) rfl ((fw_get (by decide)).trans (by rw [(sE_rowO rowB_6)])), fun U hU hW => ⟨rfl, by rw [hU], by rw [hU]; exact hP, va_K.moved hW.alike hK, xM_warm hW hM⟩⟩ rfl rfl hl.1 rfl (lv_room (Nat.le_of_ble_eq_true rfl)) dX9_firm_42 ⟨Nat.le_of_ble_eq_true rfl, Nat.le_of_ble_eq_true rfl⟩) hS (fun q _ h => fA_le hS.1 q h) (fA_le hS.1) (fun r9 u9 t9 H1 locs ht9 hvm9 hw9 hB9 hz9 hk9 hS => ?_)
          obtain ⟨μ6, r7⟩ := u9
          obtain ⟨hP, -⟩ := hB9
          rw [ht9] at hP
          generalize H1 = H at hP hS ⊢
          obtain ⟨e9, hw9⟩ := hw9
          have e9 : r9 = iZ r7 := e9
          subst e9
          simp only at hP hw9
          have hμ6 := hw9; clear hw9
          rw [hμ6] at hP
          exact W_widen (Nat.le_of_ble_eq_true rfl) (Nat.le_of_ble_eq_true rfl) (vx_ret (W.iret (v := iZ (r7)) hx hb hr (fun t9 ht9 hW9 => ⟨⟨iZ (r7), (μ, r7), rfl, ⟨rfl, (by
                            dsimp only
                            exact ⟨hI, SZ_rf⟩)⟩, by rw [ht9]; exact hP, va_K.moved hW9.alike hK⟩, hS.F ht9⟩) hS.2.2 dX9_firm_45))
        · refine lv_iconst (v := iZ 1) hx hb dX9_firm_36 rfl ?_
          refine lv_goto (tgt := 41) hx hb dX9_firm_37 (by decide) ?_
          refine lv_iconst (v := iZ 0) hx hb dX9_firm_41 rfl ?_
          refine va_calli (va_runV (As := [.int (iZ (1)), .int (iZ (1)), .int (iZ (0))]) (rest := []) ⟨hx, hb, hml, hown, hts⟩ (s_RcountLeaves l dC dI cI cZ cII cIII h0 H.size μ (6) (1100) (1) (1) (0) (rowB_6) (by exact hI.1.2.2.1) (by decide)) (cwV 3 hts (gV_G k527 k528 k529 k3 k530) rfl rfl rfl (by decide +kernel) ⟨Nat.le_of_ble_eq_true rfl, Nat.le_of_ble_eq_true rfl⟩) ⟨fun a U g mk q => by obtain ⟨q0, q1, qP, qK, qM⟩ := q; exact ⟨q0, q1, qP, va_K.moved (u := U) (U := U.calling g mk a) (Vm.Alike.refl U.vm) qK, qM⟩, va_recv hK hP (ci := 4) (q0 := 6) rfl ((fw_get (by decide)).trans (by rw [(sE_rowO rowB_6)])), fun U hU hW => ⟨rfl, by rw [hU], by rw [hU]; exact hP, va_K.moved hW.alike hK, xM_warm hW hM⟩⟩ rfl rfl hl.1 rfl (lv_room (Nat.le_of_ble_eq_true rfl)) dX9_firm_42 ⟨Nat.le_of_ble_eq_true rfl, Nat.le_of_ble_eq_true rfl⟩) hS (fun q _ h => fA_le hS.1 q h) (fA_le hS.1) (fun r9 u9 t9 H1 locs ht9 hvm9 hw9 hB9 hz9 hk9 hS => ?_)
          obtain ⟨μ8, r10⟩ := u9
          obtain ⟨hP, -⟩ := hB9
          rw [ht9] at hP
          generalize H1 = H at hP hS ⊢
          obtain ⟨e9, hw9⟩ := hw9
          have e9 : r9 = iZ r10 := e9
          subst e9
          simp only at hP hw9
          have hμ8 := hw9; clear hw9
          rw [hμ8] at hP
          exact W_widen (Nat.le_of_ble_eq_true rfl) (Nat.le_of_ble_eq_true rfl) (vx_ret (W.iret (v := iZ (r10)) hx hb hr (fun t9 ht9 hW9 => ⟨⟨iZ (r10), (μ, r10), rfl, ⟨rfl, (by
                            dsimp only
                            exact ⟨hI, SZ_rf⟩)⟩, by rw [ht9]; exact hP, va_K.moved hW9.alike hK⟩, hS.F ht9⟩) hS.2.2 dX9_firm_45))
set_option maxHeartbeats 4000000 in
set_option maxRecDepth 100000 in
theorem q_step (l : Launch) (hfl : l.stackTraces = false) (dC : Nat → ClassId) (dI : Nat → Nat → Nat) (cI cZ cII cIII : ClassId) (h0 sz : Nat) (μ : va_M) (pg : Int) (kn : Int) (wh : Int) (T : List Tk) (hI : CI T μ) (h_pg : inR pg) (h_kn : inR kn) (h_wh : inR wh) : vx_Met l yX9_step (Cond.code yX9_step cX9_step 4 (some .int) :: wsG) ({ frames := 8, cells := 1, slots := 6, locals := 131 } : Room) (va_Pc [.ref h0, .int (iZ (pg)), .int (iZ (kn)), .int (iZ (wh))] (fun U => U.heap.size = sz ∧ va_P (dC, dI) vwCl (fw (sE cI cZ cII cIII h0) h0 233 μ) U.heap ∧ va_K (dC, dI) vwCl (sT cI cZ cII cIII) U ∧ xM U ∧ xX (fA h0 233 sz) U)) (va_Qi (fun (r9 : Int32) (u : va_M × Int) => r9 = iZ u.2 ∧ (fun (u : va_M) (r : Int) => CI T u ∧ SZ μ u) u.1 u.2) (fun u t => va_P (dC, dI) vwCl (fw (sE cI cZ cII cIII h0) h0 233 u.1) t.heap ∧ va_K (dC, dI) vwCl (sT cI cZ cII cIII) t) (fA h0 233 sz)) (vx_X (fun (u : va_M) => CI T u ∧ SZ μ u) (fun E u t => E ∈ (["java/util/NoSuchElementException", "java/lang/IllegalArgumentException"] : List String) ∧ va_P (dC, dI) vwCl (fw (sE cI cZ cII cIII h0) h0 233 u) t.heap ∧ va_K (dC, dI) vwCl (sT cI cZ cII cIII) t) (fA h0 233 sz)) 1 6 (fA h0 233 sz) := by
  refine vx_ofW (cc := cX9_step) (maxL := 4) (ret := (some .int)) (by decide) rfl ?_
  intro p e s m args below meth c s₁ B hml hnt hv
  obtain ⟨rfl, hsz, hP, hK, hM, hEx⟩ := hv
  have hx := B.exec
  have hb := B.bytes
  have hr := B.returns
  have hts : ∀ w ∈ wsG, w.before _ s = true := hG_of (atoms_spec (ws := (Cond.code yX9_step cX9_step 4 (some .int) :: wsG)) B.pre)
  have hown : s.vm.findClass RX9 = some m.cls := findClass_of_methodNamed B.named
  have hlocks := B.notSynchronized
  subst hsz
  have hS : va_S (fA h0 233 s.heap.size) s.heap s.heap [] := va_S.rf
  have hl := lv_entry ([.ref h0, .int (iZ (pg)), .int (iZ (kn)), .int (iZ (wh))]) (n := 4) (Nat.le_of_ble_eq_true rfl)
  rw [lg_entry_eq]
  generalize (lg_sl ([.ref h0, .int (iZ (pg)), .int (iZ (kn)), .int (iZ (wh))]) ++ List.replicate (4 - (lg_sl ([.ref h0, .int (iZ (pg)), .int (iZ (kn)), .int (iZ (wh))])).length) Slot.unset).toArray = ls at hl ⊢
  have hl : lv_has ls 4 [(0, .ref h0), (1, .int (iZ (pg))), (2, .int (iZ (kn))), (3, .int (iZ (wh)))] := hl
  have hlc := CI_lc hI
  have h66 := CI_n6 hI
  refine lv_aload_n hx hb dX9_step_0 rfl (lv_at hl 0 rfl) ?_
  refine lv_iload_n hx hb dX9_step_1 rfl (lv_at hl 1 rfl) ?_
  by_cases hn2_ : 0 ≤ pg ∧ pg < μ 0 2
  · refine va_callv (va_runV (As := [.int (iZ (pg))]) (rest := []) ⟨hx, hb, hml, hown, hts⟩ (s_needPage l dC dI cI cZ cII cIII h0 s.heap.size μ (pg) (by first | assumption | omega | exact CI_lc hI | exact CI_cn hI | exact (CI_n6 hI).1 | decide) (by first | assumption | omega | exact CI_lc hI | exact CI_cn hI | exact (CI_n6 hI).1 | decide) (by exact hn2_)) (cwV 1 hts (gV_G k735 k737 ks_yX9_needPage k1 k738) rfl rfl rfl (by decide +kernel) ⟨Nat.le_of_ble_eq_true rfl, Nat.le_of_ble_eq_true rfl⟩) ⟨fun a U g mk q => by obtain ⟨q0, q1, qP, qK, qM⟩ := q; exact ⟨q0, q1, qP, va_K.moved (u := U) (U := U.calling g mk a) (Vm.Alike.refl U.vm) qK, qM⟩, va_recv hK hP (ci := 9) (q0 := 0) rfl ((fw_get (by decide)).trans (by rw [sE_0]; rfl)), fun U hU hW => ⟨rfl, by rw [hU], by rw [hU]; exact hP, va_K.moved hW.alike hK, xM_warm hW hM⟩⟩ rfl rfl hl.1 rfl (lv_room (Nat.le_of_ble_eq_true rfl)) dX9_step_2 ⟨Nat.le_of_ble_eq_true rfl, Nat.le_of_ble_eq_true rfl⟩) hS (fun q _ h => fA_le hS.1 q h) (fA_le hS.1) (fun u9 t9 H1 locs ht9 hvm9 hw9 hB9 hz9 hk9 hS => ?_)
    obtain ⟨hP, -⟩ := hB9
    rw [ht9] at hP
    generalize H1 = H at hP hS ⊢
    obtain ⟨μ1, eμ1⟩ : ∃ x : va_M, x = u9 := ⟨_, rfl⟩
    rw [← eμ1] at hP hw9
    have hμ1 := hw9; clear hw9
    rw [hμ1] at hP
    refine lv_aload_n hx hb dX9_step_5 rfl (lv_at hl 0 rfl) ?_
    refine lv_iload_n hx hb dX9_step_6 rfl (lv_at hl 3 rfl) ?_
    refine fz_if_lt (tgt := 19) (by first | assumption | (constructor <;> omega) | decide) hx hb dX9_step_7 (by decide) (fun c7_ => ?_) (fun c7_ => ?_)
    · refine lv_iconst (v := iZ 0) hx hb dX9_step_19 rfl ?_
      refine vx_callv (vx_runV (As := [.int (iZ (0))]) (rest := []) ⟨hx, hb, hml, hown, hts⟩ (x_needArgument l hfl dC dI cI cZ cII cIII h0 H.size μ  ) (cwV 1 hts (gV_G k596 k598 ks_yX9_needArgument k1 k599) rfl rfl rfl (by decide +kernel) ⟨Nat.le_of_ble_eq_true rfl, Nat.le_of_ble_eq_true rfl⟩) ⟨fun a U g mk q => by obtain ⟨q0, q1, qP, qK, qM, qE⟩ := q; exact ⟨q0, q1, qP, va_K.moved (u := U) (U := U.calling g mk a) (Vm.Alike.refl U.vm) qK, qM, xX_call qE⟩, va_recv hK hP (ci := 9) (q0 := 0) rfl ((fw_get (by decide)).trans (by rw [sE_0]; rfl)), fun U hU hW => ⟨rfl, by rw [hU], by rw [hU]; exact hP, va_K.moved hW.alike hK, xM_warm hW hM, xX_at hEx hS (fun q h => fA_le hS.1 q h) hU hW⟩⟩ rfl rfl hl.1 rfl (lv_room (Nat.le_of_ble_eq_true rfl)) dX9_step_20 ⟨Nat.le_of_ble_eq_true rfl, Nat.le_of_ble_eq_true rfl⟩) hS (fun q _ h => fA_le hS.1 q h) (fA_le hS.1) (fun q _ h => fA_le hS.1 q h) (fun E9 ce9 q9 u9 t9 H1 locs ht9 hvm9 hpx9 hBX9 hz9 hk9 hS hce9 hcv9 hcl9 => ?_) (fun u9 t9 H1 locs ht9 hvm9 hw9 hB9 hz9 hk9 hS => hw9.elim)
      obtain ⟨hE9, hP9, hK9⟩ := hBX9
      exact vx_out (fun x hx9 => (hnt x hx9).elim) hlocks hce9 hcv9 hcl9 (fun t8 ht8 hW8 => ⟨u9, (by
                    show CI T u9 ∧ SZ μ u9
                    exact CZ_thr hI hpx9), ⟨(show ∀ z ∈ (["java/lang/IllegalArgumentException"] : List String), z ∈ (["java/util/NoSuchElementException", "java/lang/IllegalArgumentException"] : List String) by decide +kernel) E9 hE9, by rw [ht8, ← ht9]; exact hP9, va_K.moved hW8 hK⟩, hS.F ht8⟩) hS.2.2 (Nat.le_of_ble_eq_true rfl) (Nat.le_of_ble_eq_true rfl)
    · refine lv_iload_n hx hb dX9_step_10 rfl (lv_at hl 3 rfl) ?_
      refine lv_iconst (v := iZ 2) hx hb dX9_step_11 rfl ?_
      refine fz_icmp_gt (tgt := 19) (by first | assumption | (constructor <;> omega) | decide) (by decide) hx hb dX9_step_12 (by decide) (fun c12_ => ?_) (fun c12_ => ?_)
      · refine lv_iconst (v := iZ 0) hx hb dX9_step_19 rfl ?_
        refine vx_callv (vx_runV (As := [.int (iZ (0))]) (rest := []) ⟨hx, hb, hml, hown, hts⟩ (x_needArgument l hfl dC dI cI cZ cII cIII h0 H.size μ  ) (cwV 1 hts (gV_G k596 k598 ks_yX9_needArgument k1 k599) rfl rfl rfl (by decide +kernel) ⟨Nat.le_of_ble_eq_true rfl, Nat.le_of_ble_eq_true rfl⟩) ⟨fun a U g mk q => by obtain ⟨q0, q1, qP, qK, qM, qE⟩ := q; exact ⟨q0, q1, qP, va_K.moved (u := U) (U := U.calling g mk a) (Vm.Alike.refl U.vm) qK, qM, xX_call qE⟩, va_recv hK hP (ci := 9) (q0 := 0) rfl ((fw_get (by decide)).trans (by rw [sE_0]; rfl)), fun U hU hW => ⟨rfl, by rw [hU], by rw [hU]; exact hP, va_K.moved hW.alike hK, xM_warm hW hM, xX_at hEx hS (fun q h => fA_le hS.1 q h) hU hW⟩⟩ rfl rfl hl.1 rfl (lv_room (Nat.le_of_ble_eq_true rfl)) dX9_step_20 ⟨Nat.le_of_ble_eq_true rfl, Nat.le_of_ble_eq_true rfl⟩) hS (fun q _ h => fA_le hS.1 q h) (fA_le hS.1) (fun q _ h => fA_le hS.1 q h) (fun E9 ce9 q9 u9 t9 H1 locs ht9 hvm9 hpx9 hBX9 hz9 hk9 hS hce9 hcv9 hcl9 => ?_) (fun u9 t9 H1 locs ht9 hvm9 hw9 hB9 hz9 hk9 hS => hw9.elim)
        obtain ⟨hE9, hP9, hK9⟩ := hBX9
        exact vx_out (fun x hx9 => (hnt x hx9).elim) hlocks hce9 hcv9 hcl9 (fun t8 ht8 hW8 => ⟨u9, (by
                        show CI T u9 ∧ SZ μ u9
                        exact CZ_thr hI hpx9), ⟨(show ∀ z ∈ (["java/lang/IllegalArgumentException"] : List String), z ∈ (["java/util/NoSuchElementException", "java/lang/IllegalArgumentException"] : List String) by decide +kernel) E9 hE9, by rw [ht8, ← ht9]; exact hP9, va_K.moved hW8 hK⟩, hS.F ht8⟩) hS.2.2 (Nat.le_of_ble_eq_true rfl) (Nat.le_of_ble_eq_true rfl)
      · refine lv_iconst (v := iZ 1) hx hb dX9_step_15 rfl ?_
        refine lv_goto (tgt := 20) hx hb dX9_step_16 (by decide) ?_
        refine va_callv (va_runV (As := [.int (iZ (1))]) (rest := []) ⟨hx, hb, hml, hown, hts⟩ (s_needArgument l dC dI cI cZ cII cIII h0 H.size μ  ) (cwV 1 hts (gV_G k596 k598 ks_yX9_needArgument k1 k599) rfl rfl rfl (by decide +kernel) ⟨Nat.le_of_ble_eq_true rfl, Nat.le_of_ble_eq_true rfl⟩) ⟨fun a U g mk q => by obtain ⟨q0, q1, qP, qK, qM⟩ := q; exact ⟨q0, q1, qP, va_K.moved (u := U) (U := U.calling g mk a) (Vm.Alike.refl U.vm) qK, qM⟩, va_recv hK hP (ci := 9) (q0 := 0) rfl ((fw_get (by decide)).trans (by rw [sE_0]; rfl)), fun U hU hW => ⟨rfl, by rw [hU], by rw [hU]; exact hP, va_K.moved hW.alike hK, xM_warm hW hM⟩⟩ rfl rfl hl.1 rfl (lv_room (Nat.le_of_ble_eq_true rfl)) dX9_step_20 ⟨Nat.le_of_ble_eq_true rfl, Nat.le_of_ble_eq_true rfl⟩) hS (fun q _ h => fA_le hS.1 q h) (fA_le hS.1) (fun u9 t9 H1 locs ht9 hvm9 hw9 hB9 hz9 hk9 hS => ?_)
        obtain ⟨hP, -⟩ := hB9
        rw [ht9] at hP
        generalize H1 = H at hP hS ⊢
        obtain ⟨μ2, eμ2⟩ : ∃ x : va_M, x = u9 := ⟨_, rfl⟩
        rw [← eμ2] at hP hw9
        have hμ2 := hw9; clear hw9
        rw [hμ2] at hP
        obtain ⟨hl1, hl2⟩ := CI_lf hI pg (by (first | ((try clear hl2); (try clear hl1); (try clear hμ2); (try clear x); (try clear eμ2); (try clear μ2); (try clear hz9); (try clear c12_); (try clear c7_); (try clear hμ1); (try clear eμ1); (try clear μ1); (try clear h66); (try clear hlc); (try clear hsz); (try clear hnt); (try clear s₁); omega) | omega)) (by (first | ((try clear hl2); (try clear hl1); (try clear hμ2); (try clear x); (try clear eμ2); (try clear μ2); (try clear hz9); (try clear c12_); (try clear c7_); (try clear hμ1); (try clear eμ1); (try clear μ1); (try clear h66); (try clear hsz); (try clear hnt); (try clear s₁); omega) | omega))
        have hn9 := hl1.1.2
        refine lv_iload_n hx hb dX9_step_23 rfl (lv_at hl 2 rfl) ?_
        refine fz_if_lt (tgt := 58) (by first | assumption | (constructor <;> omega) | decide) hx hb dX9_step_24 (by decide) (fun c24_ => ?_) (fun c24_ => ?_)
        · refine lv_iconst (v := iZ (-1)) hx hb dX9_step_58 rfl ?_
          exact W_widen (Nat.le_of_ble_eq_true rfl) (Nat.le_of_ble_eq_true rfl) (vx_ret (W.iret (v := iZ ((-1))) hx hb hr (fun t9 ht9 hW9 => ⟨⟨iZ ((-1)), (μ, (-1)), rfl, ⟨rfl, (by
                            dsimp only
                            exact ⟨hI, SZ_rf⟩)⟩, by rw [ht9]; exact hP, va_K.moved hW9.alike hK⟩, hS.F ht9⟩) hS.2.2 dX9_step_59))
        · refine lv_iload_n hx hb dX9_step_27 rfl (lv_at hl 2 rfl) ?_
          refine lv_aload_n hx hb dX9_step_28 rfl (lv_at hl 0 rfl) ?_
          refine fz_get (D := (dC, dI)) (ci := 9) (v := .ref (h0 + 5)) (C := RX9) (T := TX9) (N := 15) hx hb hts inG9 hown hK hP (k := 0) (by decide) (F := (sF0 h0)) sE_0 rfl 1 (by decide) (hts _ k333) (fun _ h9 => h9) rfl dX9_step_29 ?_
          refine lv_iload_n hx hb dX9_step_32 rfl (lv_at hl 1 rfl) ?_
          refine fz_ald (k := 5) (n := 8) (k2 := (113 + (pg).toNat * 15)) hx hb hK hP 1 rfl (by decide) sE_5 rfl ⟨by (first | ((try clear c24_); (try clear hn9); (try clear hl2); (try clear hl1); (try clear hμ2); (try clear x); (try clear eμ2); (try clear μ2); (try clear hz9); (try clear c12_); (try clear c7_); (try clear hμ1); (try clear eμ1); (try clear μ1); (try clear h66); (try clear hlc); (try clear hsz); (try clear hnt); (try clear s₁); omega) | omega), by (first | ((try clear c24_); (try clear hn9); (try clear hl2); (try clear hl1); (try clear hμ2); (try clear x); (try clear eμ2); (try clear μ2); (try clear hz9); (try clear c12_); (try clear c7_); (try clear hμ1); (try clear eμ1); (try clear μ1); (try clear h66); (try clear hsz); (try clear hnt); (try clear s₁); omega) | omega)⟩ (by decide) (if_pos (by (first | ((try clear c24_); (try clear hn9); (try clear hl2); (try clear hl1); (try clear hμ2); (try clear x); (try clear eμ2); (try clear μ2); (try clear hz9); (try clear c12_); (try clear c7_); (try clear hμ1); (try clear eμ1); (try clear μ1); (try clear h66); (try clear hsz); (try clear hnt); (try clear s₁); omega) | omega))) dX9_step_33 ?_
          refine fz_get (D := (dC, dI)) (ci := 1) (v := .int (iZ (μ (113 + (pg).toNat * 15) 5))) (C := RX1) (T := TX1) (N := 8) hx hb hts inG1 hown hK hP (k := (113 + (pg).toNat * 15)) (by (first | ((try clear c24_); (try clear hn9); (try clear hl2); (try clear hl1); (try clear hμ2); (try clear x); (try clear eμ2); (try clear μ2); (try clear hz9); (try clear c12_); (try clear c7_); (try clear hμ1); (try clear eμ1); (try clear μ1); (try clear h66); (try clear hsz); (try clear hnt); (try clear s₁); omega) | omega)) (F := (sLF h0 (113 + (pg).toNat * 15))) (sE_leafO (show (pg).toNat < 8 by (first | ((try clear c24_); (try clear hn9); (try clear hl2); (try clear hl1); (try clear hμ2); (try clear x); (try clear eμ2); (try clear μ2); (try clear hz9); (try clear c12_); (try clear c7_); (try clear hμ1); (try clear eμ1); (try clear μ1); (try clear h66); (try clear hsz); (try clear hnt); (try clear s₁); omega) | omega)) rfl) rfl 5 (by decide) (hts _ k308) (fun _ h9 => h9) rfl dX9_step_34 ?_
          refine fz_icmp_ge (tgt := 58) (by first | assumption | (constructor <;> omega) | decide) (by first | assumption | (constructor <;> (first | ((try clear c24_); (try clear hl2); (try clear hl1); (try clear hμ2); (try clear x); (try clear eμ2); (try clear μ2); (try clear hz9); (try clear c12_); (try clear c7_); (try clear hμ1); (try clear eμ1); (try clear μ1); (try clear hn2_); (try clear h66); (try clear hlc); (try clear hsz); (try clear hnt); (try clear s₁); omega) | omega)) | decide) hx hb dX9_step_37 (by decide) (fun c37_ => ?_) (fun c37_ => ?_)
          · refine lv_iconst (v := iZ (-1)) hx hb dX9_step_58 rfl ?_
            exact W_widen (Nat.le_of_ble_eq_true rfl) (Nat.le_of_ble_eq_true rfl) (vx_ret (W.iret (v := iZ ((-1))) hx hb hr (fun t9 ht9 hW9 => ⟨⟨iZ ((-1)), (μ, (-1)), rfl, ⟨rfl, (by
                                dsimp only
                                exact ⟨hI, SZ_rf⟩)⟩, by rw [ht9]; exact hP, va_K.moved hW9.alike hK⟩, hS.F ht9⟩) hS.2.2 dX9_step_59))
          · refine lv_aload_n hx hb dX9_step_40 rfl (lv_at hl 0 rfl) ?_
            refine fz_get (D := (dC, dI)) (ci := 9) (v := .ref (h0 + 5)) (C := RX9) (T := TX9) (N := 15) hx hb hts inG9 hown hK hP (k := 0) (by decide) (F := (sF0 h0)) sE_0 rfl 1 (by decide) (hts _ k333) (fun _ h9 => h9) rfl dX9_step_41 ?_
            refine lv_iload_n hx hb dX9_step_44 rfl (lv_at hl 1 rfl) ?_
            refine fz_ald (k := 5) (n := 8) (k2 := (113 + (pg).toNat * 15)) hx hb hK hP 1 rfl (by decide) sE_5 rfl ⟨by (first | ((try clear c37_); (try clear c24_); (try clear hn9); (try clear hl2); (try clear hl1); (try clear hμ2); (try clear x); (try clear eμ2); (try clear μ2); (try clear hz9); (try clear c12_); (try clear c7_); (try clear hμ1); (try clear eμ1); (try clear μ1); (try clear h66); (try clear hlc); (try clear hsz); (try clear hnt); (try clear s₁); omega) | omega), by (first | ((try clear c37_); (try clear c24_); (try clear hn9); (try clear hl2); (try clear hl1); (try clear hμ2); (try clear x); (try clear eμ2); (try clear μ2); (try clear hz9); (try clear c12_); (try clear c7_); (try clear hμ1); (try clear eμ1); (try clear μ1); (try clear h66); (try clear hsz); (try clear hnt); (try clear s₁); omega) | omega)⟩ (by decide) (if_pos (by (first | ((try clear c37_); (try clear c24_); (try clear hn9); (try clear hl2); (try clear hl1); (try clear hμ2); (try clear x); (try clear eμ2); (try clear μ2); (try clear hz9); (try clear c12_); (try clear c7_); (try clear hμ1); (try clear eμ1); (try clear μ1); (try clear h66); (try clear hsz); (try clear hnt); (try clear s₁); omega) | omega))) dX9_step_45 ?_
            refine fz_get (D := (dC, dI)) (ci := 1) (v := .ref (h0 + ((113 + (pg).toNat * 15) + 9))) (C := RX1) (T := TX1) (N := 8) hx hb hts inG1 hown hK hP (k := (113 + (pg).toNat * 15)) (by (first | ((try clear c37_); (try clear c24_); (try clear hn9); (try clear hl2); (try clear hl1); (try clear hμ2); (try clear x); (try clear eμ2); (try clear μ2); (try clear hz9); (try clear c12_); (try clear c7_); (try clear hμ1); (try clear eμ1); (try clear μ1); (try clear h66); (try clear hsz); (try clear hnt); (try clear s₁); omega) | omega)) (F := (sLF h0 (113 + (pg).toNat * 15))) (sE_leafO (show (pg).toNat < 8 by (first | ((try clear c37_); (try clear c24_); (try clear hn9); (try clear hl2); (try clear hl1); (try clear hμ2); (try clear x); (try clear eμ2); (try clear μ2); (try clear hz9); (try clear c12_); (try clear c7_); (try clear hμ1); (try clear eμ1); (try clear μ1); (try clear h66); (try clear hsz); (try clear hnt); (try clear s₁); omega) | omega)) rfl) rfl 4 (by decide) (hts _ k306) (fun _ h9 => h9) rfl dX9_step_46 ?_
            refine lv_iload_n hx hb dX9_step_49 rfl (lv_at hl 2 rfl) ?_
            refine lv_iconst (v := iZ 3) hx hb dX9_step_50 rfl ?_
            refine lv_imul hx hb dX9_step_51 ?_
            refine lv_topi (fun x9 ex9 => ?_)
            obtain rfl : x9 = iZ (kn * 3) := ex9.trans (iZ_mul _ _)
            refine lv_iload_n hx hb dX9_step_52 rfl (lv_at hl 3 rfl) ?_
            refine lv_iadd hx hb dX9_step_53 ?_
            refine lv_topi (fun x9 ex9 => ?_)
            obtain rfl : x9 = iZ ((kn * 3) + wh) := ex9.trans (iZ_add _ _)
            refine fz_ld (k := ((113 + (pg).toNat * 15) + 9)) (n := 180) hx hb hK hP 0 (by (first | ((try clear ex9); (try clear c37_); (try clear c24_); (try clear hn9); (try clear hl2); (try clear hl1); (try clear hμ2); (try clear x); (try clear eμ2); (try clear μ2); (try clear hz9); (try clear c12_); (try clear c7_); (try clear hμ1); (try clear eμ1); (try clear μ1); (try clear h66); (try clear hsz); (try clear hnt); (try clear s₁); omega) | omega)) (sE_leafA 9 180 (show (pg).toNat < 8 by (first | ((try clear ex9); (try clear c37_); (try clear c24_); (try clear hn9); (try clear hl2); (try clear hl1); (try clear hμ2); (try clear x); (try clear eμ2); (try clear μ2); (try clear hz9); (try clear c12_); (try clear c7_); (try clear hμ1); (try clear eμ1); (try clear μ1); (try clear h66); (try clear hsz); (try clear hnt); (try clear s₁); omega) | omega)) rfl (by decide)) rfl ⟨by (first | ((try clear ex9); (try clear c37_); (try clear hn9); (try clear hl2); (try clear hl1); (try clear hμ2); (try clear x); (try clear eμ2); (try clear μ2); (try clear hz9); (try clear hμ1); (try clear eμ1); (try clear μ1); (try clear hn2_); (try clear h66); (try clear hlc); (try clear hsz); (try clear hnt); (try clear s₁); omega) | omega), by (first | ((try clear ex9); (try clear c24_); (try clear hl2); (try clear hl1); (try clear hμ2); (try clear x); (try clear eμ2); (try clear μ2); (try clear hz9); (try clear hμ1); (try clear eμ1); (try clear μ1); (try clear hn2_); (try clear h66); (try clear hlc); (try clear hsz); (try clear hnt); (try clear s₁); omega) | omega)⟩ (by decide) dX9_step_54 ?_
            refine lv_goto (tgt := 59) hx hb dX9_step_55 (by decide) ?_
            exact W_widen (Nat.le_of_ble_eq_true rfl) (Nat.le_of_ble_eq_true rfl) (vx_ret (W.iret (v := iZ (μ ((113 + (pg).toNat * 15) + 9) ((kn * 3) + wh).toNat)) hx hb hr (fun t9 ht9 hW9 => ⟨⟨iZ (μ ((113 + (pg).toNat * 15) + 9) ((kn * 3) + wh).toNat), (μ, μ ((113 + (pg).toNat * 15) + 9) ((kn * 3) + wh).toNat), rfl, ⟨rfl, (by
                                dsimp only
                                exact ⟨hI, SZ_rf⟩)⟩, by rw [ht9]; exact hP, va_K.moved hW9.alike hK⟩, hS.F ht9⟩) hS.2.2 dX9_step_59))
  · refine vx_callv (vx_runV (As := [.int (iZ (pg))]) (rest := []) ⟨hx, hb, hml, hown, hts⟩ (x_needPage l hfl dC dI cI cZ cII cIII h0 s.heap.size μ (pg) (by first | assumption | omega | exact CI_lc hI | exact CI_cn hI | exact (CI_n6 hI).1 | decide) (by first | assumption | omega | exact CI_lc hI | exact CI_cn hI | exact (CI_n6 hI).1 | decide) (hn2_)) (cwV 1 hts (gV_G k735 k737 ks_yX9_needPage k1 k738) rfl rfl rfl (by decide +kernel) ⟨Nat.le_of_ble_eq_true rfl, Nat.le_of_ble_eq_true rfl⟩) ⟨fun a U g mk q => by obtain ⟨q0, q1, qP, qK, qM, qE⟩ := q; exact ⟨q0, q1, qP, va_K.moved (u := U) (U := U.calling g mk a) (Vm.Alike.refl U.vm) qK, qM, xX_call qE⟩, va_recv hK hP (ci := 9) (q0 := 0) rfl ((fw_get (by decide)).trans (by rw [sE_0]; rfl)), fun U hU hW => ⟨rfl, by rw [hU], by rw [hU]; exact hP, va_K.moved hW.alike hK, xM_warm hW hM, xX_at hEx hS (fun q h => fA_le hS.1 q h) hU hW⟩⟩ rfl rfl hl.1 rfl (lv_room (Nat.le_of_ble_eq_true rfl)) dX9_step_2 ⟨Nat.le_of_ble_eq_true rfl, Nat.le_of_ble_eq_true rfl⟩) hS (fun q _ h => fA_le hS.1 q h) (fA_le hS.1) (fun q _ h => fA_le hS.1 q h) (fun E9 ce9 q9 u9 t9 H1 locs ht9 hvm9 hpx9 hBX9 hz9 hk9 hS hce9 hcv9 hcl9 => ?_) (fun u9 t9 H1 locs ht9 hvm9 hw9 hB9 hz9 hk9 hS => hw9.elim)
    obtain ⟨hE9, hP9, hK9⟩ := hBX9
    exact vx_out (fun x hx9 => (hnt x hx9).elim) hlocks hce9 hcv9 hcl9 (fun t8 ht8 hW8 => ⟨u9, (by
                show CI T u9 ∧ SZ μ u9
                exact CZ_thr hI hpx9), ⟨(show ∀ z ∈ (["java/util/NoSuchElementException"] : List String), z ∈ (["java/util/NoSuchElementException", "java/lang/IllegalArgumentException"] : List String) by decide +kernel) E9 hE9, by rw [ht8, ← ht9]; exact hP9, va_K.moved hW8 hK⟩, hS.F ht8⟩) hS.2.2 (Nat.le_of_ble_eq_true rfl) (Nat.le_of_ble_eq_true rfl)
set_option maxHeartbeats 4000000 in
set_option maxRecDepth 100000 in
theorem q_status (l : Launch) (dC : Nat → ClassId) (dI : Nat → Nat → Nat) (cI cZ cII cIII : ClassId) (h0 sz : Nat) (μ : va_M) (wh : Int) (T : List Tk) (hI : CI T μ) (h_wh : inR wh) : Met l yX9_status (Cond.code yX9_status cX9_status 2 (some .int) :: wsG) ({ frames := 1, cells := 0, slots := 0, locals := 14 } : Room) (va_Pc [.ref h0, .int (iZ (wh))] (fun U => U.heap.size = sz ∧ va_P (dC, dI) vwCl (fw (sE cI cZ cII cIII h0) h0 233 μ) U.heap ∧ va_K (dC, dI) vwCl (sT cI cZ cII cIII) U ∧ xM U)) (va_Qi (fun (r9 : Int32) (u : va_M × Int) => r9 = iZ u.2 ∧ (fun (u : va_M) (r : Int) => CI T u ∧ SZ μ u) u.1 u.2) (fun u t => va_P (dC, dI) vwCl (fw (sE cI cZ cII cIII h0) h0 233 u.1) t.heap ∧ va_K (dC, dI) vwCl (sT cI cZ cII cIII) t) (fA h0 233 sz)) 0 0 (fA h0 233 sz) := by
  refine Met.ofW (cc := cX9_status) (maxL := 2) (ret := (some .int)) (by decide) rfl ?_
  intro p e s m args below meth c s₁ B hml hv
  obtain ⟨rfl, hsz, hP, hK, hM⟩ := hv
  have hx := B.exec
  have hb := B.bytes
  have hr := B.returns
  have hts : ∀ w ∈ wsG, w.before _ s = true := hG_of (atoms_spec (ws := (Cond.code yX9_status cX9_status 2 (some .int) :: wsG)) B.pre)
  have hown : s.vm.findClass RX9 = some m.cls := findClass_of_methodNamed B.named
  have hlocks := B.notSynchronized
  subst hsz
  have hS : va_S (fA h0 233 s.heap.size) s.heap s.heap [] := va_S.rf
  have hl := lv_entry ([.ref h0, .int (iZ (wh))]) (n := 2) (Nat.le_of_ble_eq_true rfl)
  rw [lg_entry_eq]
  generalize (lg_sl ([.ref h0, .int (iZ (wh))]) ++ List.replicate (2 - (lg_sl ([.ref h0, .int (iZ (wh))])).length) Slot.unset).toArray = ls at hl ⊢
  have hl : lv_has ls 2 [(0, .ref h0), (1, .int (iZ (wh)))] := hl
  have hlc := CI_lc hI
  have h66 := CI_n6 hI
  refine lv_iload_n hx hb dX9_status_0 rfl (lv_at hl 1 rfl) ?_
  refine fz_if_lt (tgt := 22) (by first | assumption | (constructor <;> omega) | decide) hx hb dX9_status_1 (by decide) (fun c1_ => ?_) (fun c1_ => ?_)
  · refine lv_iconst (v := iZ (-1)) hx hb dX9_status_22 rfl ?_
    exact W.iret (v := iZ ((-1))) hx hb hr (fun t9 ht9 hW9 => ⟨⟨iZ ((-1)), (μ, (-1)), rfl, ⟨rfl, (by
                dsimp only
                exact ⟨hI, SZ_rf⟩)⟩, by rw [ht9]; exact hP, va_K.moved hW9.alike hK⟩, hS.F ht9⟩) hS.2.2 dX9_status_23
  · refine lv_iload_n hx hb dX9_status_4 rfl (lv_at hl 1 rfl) ?_
    refine lv_aload_n hx hb dX9_status_5 rfl (lv_at hl 0 rfl) ?_
    refine fz_get (D := (dC, dI)) (ci := 9) (v := .ref (h0 + 112)) (C := RX9) (T := TX9) (N := 15) hx hb hts inG9 hown hK hP (k := 0) (by decide) (F := (sF0 h0)) sE_0 rfl 14 (by decide) (hts _ k346) (fun _ h9 => h9) rfl dX9_status_6 ?_
    refine fz_len (k := 112) (n := 3) hx hb hK hP 0 (by decide) sE_112 rfl dX9_status_9 ?_
    refine fz_icmp_ge (tgt := 22) (by first | assumption | (constructor <;> omega) | decide) (by decide) hx hb dX9_status_10 (by decide) (fun c10_ => ?_) (fun c10_ => ?_)
    · refine lv_iconst (v := iZ (-1)) hx hb dX9_status_22 rfl ?_
      exact W.iret (v := iZ ((-1))) hx hb hr (fun t9 ht9 hW9 => ⟨⟨iZ ((-1)), (μ, (-1)), rfl, ⟨rfl, (by
                    dsimp only
                    exact ⟨hI, SZ_rf⟩)⟩, by rw [ht9]; exact hP, va_K.moved hW9.alike hK⟩, hS.F ht9⟩) hS.2.2 dX9_status_23
    · refine lv_aload_n hx hb dX9_status_13 rfl (lv_at hl 0 rfl) ?_
      refine fz_get (D := (dC, dI)) (ci := 9) (v := .ref (h0 + 112)) (C := RX9) (T := TX9) (N := 15) hx hb hts inG9 hown hK hP (k := 0) (by decide) (F := (sF0 h0)) sE_0 rfl 14 (by decide) (hts _ k346) (fun _ h9 => h9) rfl dX9_status_14 ?_
      refine lv_iload_n hx hb dX9_status_17 rfl (lv_at hl 1 rfl) ?_
      refine fz_ld (k := 112) (n := 3) hx hb hK hP 0 (by decide) sE_112 rfl ⟨by (first | ((try clear c10_); (try clear h66); (try clear hlc); (try clear hsz); (try clear s₁); omega) | omega), by (first | ((try clear c1_); (try clear h66); (try clear hlc); (try clear hsz); (try clear s₁); omega) | omega)⟩ (by decide) dX9_status_18 ?_
      refine lv_goto (tgt := 23) hx hb dX9_status_19 (by decide) ?_
      exact W.iret (v := iZ (μ 112 (wh).toNat)) hx hb hr (fun t9 ht9 hW9 => ⟨⟨iZ (μ 112 (wh).toNat), (μ, μ 112 (wh).toNat), rfl, ⟨rfl, (by
                    dsimp only
                    exact ⟨hI, SZ_rf⟩)⟩, by rw [ht9]; exact hP, va_K.moved hW9.alike hK⟩, hS.F ht9⟩) hS.2.2 dX9_status_23
set_option maxHeartbeats 4000000 in
set_option maxRecDepth 100000 in
theorem q_similar (l : Launch) (hfl : l.stackTraces = false) (dC : Nat → ClassId) (dI : Nat → Nat → Nat) (cI cZ cII cIII : ClassId) (h0 sz : Nat) (μ : va_M) (pg : Int) (ot : Int) (T : List Tk) (hI : CI T μ) (h_pg : inR pg) (h_ot : inR ot) : vx_Met l yX9_similar (Cond.code yX9_similar cX9_similar 5 (some .boolean) :: wsG) ({ frames := 8, cells := 1, slots := 6, locals := 131 } : Room) (va_Pc [.ref h0, .int (iZ (pg)), .int (iZ (ot))] (fun U => U.heap.size = sz ∧ va_P (dC, dI) vwCl (fw (sE cI cZ cII cIII h0) h0 233 μ) U.heap ∧ va_K (dC, dI) vwCl (sT cI cZ cII cIII) U ∧ xM U ∧ xX (fA h0 233 sz) U)) (va_Qi (fun (r9 : Int32) (u : va_M × Int) => r9 = iZ u.2 ∧ (fun (u : va_M) (r : Int) => CI T u ∧ SZ μ u) u.1 u.2) (fun u t => va_P (dC, dI) vwCl (fw (sE cI cZ cII cIII h0) h0 233 u.1) t.heap ∧ va_K (dC, dI) vwCl (sT cI cZ cII cIII) t) (fA h0 233 sz)) (vx_X (fun (u : va_M) => CI T u ∧ SZ μ u) (fun E u t => E ∈ (["java/util/NoSuchElementException"] : List String) ∧ va_P (dC, dI) vwCl (fw (sE cI cZ cII cIII h0) h0 233 u) t.heap ∧ va_K (dC, dI) vwCl (sT cI cZ cII cIII) t) (fA h0 233 sz)) 1 6 (fA h0 233 sz) := by
  refine vx_ofW (cc := cX9_similar) (maxL := 5) (ret := (some .boolean)) (by decide) rfl ?_
  intro p e s m args below meth c s₁ B hml hnt hv
  obtain ⟨rfl, hsz, hP, hK, hM, hEx⟩ := hv
  have hx := B.exec
  have hb := B.bytes
  have hr := B.returns
  have hts : ∀ w ∈ wsG, w.before _ s = true := hG_of (atoms_spec (ws := (Cond.code yX9_similar cX9_similar 5 (some .boolean) :: wsG)) B.pre)
  have hown : s.vm.findClass RX9 = some m.cls := findClass_of_methodNamed B.named
  have hlocks := B.notSynchronized
  subst hsz
  have hS : va_S (fA h0 233 s.heap.size) s.heap s.heap [] := va_S.rf
  have hl := lv_entry ([.ref h0, .int (iZ (pg)), .int (iZ (ot))]) (n := 5) (Nat.le_of_ble_eq_true rfl)
  rw [lg_entry_eq]
  generalize (lg_sl ([.ref h0, .int (iZ (pg)), .int (iZ (ot))]) ++ List.replicate (5 - (lg_sl ([.ref h0, .int (iZ (pg)), .int (iZ (ot))])).length) Slot.unset).toArray = ls at hl ⊢
  have hl : lv_has ls 5 [(0, .ref h0), (1, .int (iZ (pg))), (2, .int (iZ (ot)))] := hl
  have hlc := CI_lc hI
  have h66 := CI_n6 hI
  refine lv_aload_n hx hb dX9_similar_0 rfl (lv_at hl 0 rfl) ?_
  refine lv_iload_n hx hb dX9_similar_1 rfl (lv_at hl 1 rfl) ?_
  by_cases hn2_ : 0 ≤ pg ∧ pg < μ 0 2
  · refine va_callv (va_runV (As := [.int (iZ (pg))]) (rest := []) ⟨hx, hb, hml, hown, hts⟩ (s_needPage l dC dI cI cZ cII cIII h0 s.heap.size μ (pg) (by first | assumption | omega | exact CI_lc hI | exact CI_cn hI | exact (CI_n6 hI).1 | decide) (by first | assumption | omega | exact CI_lc hI | exact CI_cn hI | exact (CI_n6 hI).1 | decide) (by exact hn2_)) (cwV 1 hts (gV_G k735 k737 ks_yX9_needPage k1 k738) rfl rfl rfl (by decide +kernel) ⟨Nat.le_of_ble_eq_true rfl, Nat.le_of_ble_eq_true rfl⟩) ⟨fun a U g mk q => by obtain ⟨q0, q1, qP, qK, qM⟩ := q; exact ⟨q0, q1, qP, va_K.moved (u := U) (U := U.calling g mk a) (Vm.Alike.refl U.vm) qK, qM⟩, va_recv hK hP (ci := 9) (q0 := 0) rfl ((fw_get (by decide)).trans (by rw [sE_0]; rfl)), fun U hU hW => ⟨rfl, by rw [hU], by rw [hU]; exact hP, va_K.moved hW.alike hK, xM_warm hW hM⟩⟩ rfl rfl hl.1 rfl (lv_room (Nat.le_of_ble_eq_true rfl)) dX9_similar_2 ⟨Nat.le_of_ble_eq_true rfl, Nat.le_of_ble_eq_true rfl⟩) hS (fun q _ h => fA_le hS.1 q h) (fA_le hS.1) (fun u9 t9 H1 locs ht9 hvm9 hw9 hB9 hz9 hk9 hS => ?_)
    obtain ⟨hP, -⟩ := hB9
    rw [ht9] at hP
    generalize H1 = H at hP hS ⊢
    obtain ⟨μ1, eμ1⟩ : ∃ x : va_M, x = u9 := ⟨_, rfl⟩
    rw [← eμ1] at hP hw9
    have hμ1 := hw9; clear hw9
    rw [hμ1] at hP
    refine lv_aload_n hx hb dX9_similar_5 rfl (lv_at hl 0 rfl) ?_
    refine lv_iload_n hx hb dX9_similar_6 rfl (lv_at hl 2 rfl) ?_
    by_cases hn7_ : 0 ≤ ot ∧ ot < μ 0 2
    · refine va_callv (va_runV (As := [.int (iZ (ot))]) (rest := []) ⟨hx, hb, hml, hown, hts⟩ (s_needPage l dC dI cI cZ cII cIII h0 H.size μ (ot) (by first | assumption | omega | exact CI_lc hI | exact CI_cn hI | exact (CI_n6 hI).1 | decide) (by first | assumption | omega | exact CI_lc hI | exact CI_cn hI | exact (CI_n6 hI).1 | decide) (by exact hn7_)) (cwV 1 hts (gV_G k735 k737 ks_yX9_needPage k1 k738) rfl rfl rfl (by decide +kernel) ⟨Nat.le_of_ble_eq_true rfl, Nat.le_of_ble_eq_true rfl⟩) ⟨fun a U g mk q => by obtain ⟨q0, q1, qP, qK, qM⟩ := q; exact ⟨q0, q1, qP, va_K.moved (u := U) (U := U.calling g mk a) (Vm.Alike.refl U.vm) qK, qM⟩, va_recv hK hP (ci := 9) (q0 := 0) rfl ((fw_get (by decide)).trans (by rw [sE_0]; rfl)), fun U hU hW => ⟨rfl, by rw [hU], by rw [hU]; exact hP, va_K.moved hW.alike hK, xM_warm hW hM⟩⟩ rfl rfl hl.1 rfl (lv_room (Nat.le_of_ble_eq_true rfl)) dX9_similar_7 ⟨Nat.le_of_ble_eq_true rfl, Nat.le_of_ble_eq_true rfl⟩) hS (fun q _ h => fA_le hS.1 q h) (fA_le hS.1) (fun u9 t9 H1 locs ht9 hvm9 hw9 hB9 hz9 hk9 hS => ?_)
      obtain ⟨hP, -⟩ := hB9
      rw [ht9] at hP
      generalize H1 = H at hP hS ⊢
      obtain ⟨μ2, eμ2⟩ : ∃ x : va_M, x = u9 := ⟨_, rfl⟩
      rw [← eμ2] at hP hw9
      have hμ2 := hw9; clear hw9
      rw [hμ2] at hP
      obtain ⟨hl1, hl2⟩ := CI_lf hI pg (by (first | ((try clear hl2); (try clear hl1); (try clear hμ2); (try clear x); (try clear eμ2); (try clear μ2); (try clear hz9); (try clear hn7_); (try clear hμ1); (try clear eμ1); (try clear μ1); (try clear h66); (try clear hlc); (try clear hsz); (try clear hnt); (try clear s₁); omega) | omega)) (by (first | ((try clear hl2); (try clear hl1); (try clear hμ2); (try clear x); (try clear eμ2); (try clear μ2); (try clear hz9); (try clear hn7_); (try clear hμ1); (try clear eμ1); (try clear μ1); (try clear h66); (try clear hsz); (try clear hnt); (try clear s₁); omega) | omega))
      obtain ⟨hm1, hm2⟩ := CI_lf hI ot (by (first | ((try clear hm2); (try clear hm1); (try clear hl2); (try clear hl1); (try clear hμ2); (try clear x); (try clear eμ2); (try clear μ2); (try clear hz9); (try clear hμ1); (try clear eμ1); (try clear μ1); (try clear hn2_); (try clear h66); (try clear hlc); (try clear hsz); (try clear hnt); (try clear s₁); omega) | omega)) (by (first | ((try clear hm2); (try clear hm1); (try clear hl2); (try clear hl1); (try clear hμ2); (try clear x); (try clear eμ2); (try clear μ2); (try clear hz9); (try clear hμ1); (try clear eμ1); (try clear μ1); (try clear h66); (try clear hsz); (try clear hnt); (try clear s₁); omega) | omega))
      have hg1 := hl1.2.2.2
      have hg2 := hm1.2.2.2
      have la := rG_len hg1
      have lb := rG_len hg2
      refine lv_aload_n hx hb dX9_similar_10 rfl (lv_at hl 0 rfl) ?_
      refine fz_get (D := (dC, dI)) (ci := 9) (v := .ref (h0 + 5)) (C := RX9) (T := TX9) (N := 15) hx hb hts inG9 hown hK hP (k := 0) (by decide) (F := (sF0 h0)) sE_0 rfl 1 (by decide) (hts _ k333) (fun _ h9 => h9) rfl dX9_similar_11 ?_
      refine lv_iload_n hx hb dX9_similar_14 rfl (lv_at hl 1 rfl) ?_
      refine fz_ald (k := 5) (n := 8) (k2 := (113 + (pg).toNat * 15)) hx hb hK hP 1 rfl (by decide) sE_5 rfl ⟨by (first | ((try clear lb); (try clear la); (try clear hg2); (try clear hg1); (try clear hm2); (try clear hm1); (try clear hl2); (try clear hl1); (try clear hμ2); (try clear x); (try clear eμ2); (try clear μ2); (try clear hz9); (try clear hn7_); (try clear hμ1); (try clear eμ1); (try clear μ1); (try clear h66); (try clear hlc); (try clear hsz); (try clear hnt); (try clear s₁); omega) | omega), by (first | ((try clear lb); (try clear la); (try clear hg2); (try clear hg1); (try clear hm2); (try clear hm1); (try clear hl2); (try clear hl1); (try clear hμ2); (try clear x); (try clear eμ2); (try clear μ2); (try clear hz9); (try clear hn7_); (try clear hμ1); (try clear eμ1); (try clear μ1); (try clear h66); (try clear hsz); (try clear hnt); (try clear s₁); omega) | omega)⟩ (by decide) (if_pos (by (first | ((try clear lb); (try clear la); (try clear hg2); (try clear hg1); (try clear hm2); (try clear hm1); (try clear hl2); (try clear hl1); (try clear hμ2); (try clear x); (try clear eμ2); (try clear μ2); (try clear hz9); (try clear hμ1); (try clear eμ1); (try clear μ1); (try clear h66); (try clear hsz); (try clear hnt); (try clear s₁); omega) | omega))) dX9_similar_15 ?_
      refine fz_get (D := (dC, dI)) (ci := 1) (v := .ref (h0 + ((113 + (pg).toNat * 15) + 3))) (C := RX1) (T := TX1) (N := 8) hx hb hts inG1 hown hK hP (k := (113 + (pg).toNat * 15)) (by (first | ((try clear lb); (try clear la); (try clear hg2); (try clear hg1); (try clear hm2); (try clear hm1); (try clear hl2); (try clear hl1); (try clear hμ2); (try clear x); (try clear eμ2); (try clear μ2); (try clear hz9); (try clear hμ1); (try clear eμ1); (try clear μ1); (try clear h66); (try clear hsz); (try clear hnt); (try clear s₁); omega) | omega)) (F := (sLF h0 (113 + (pg).toNat * 15))) (sE_leafO (show (pg).toNat < 8 by (first | ((try clear lb); (try clear la); (try clear hg2); (try clear hg1); (try clear hm2); (try clear hm1); (try clear hl2); (try clear hl1); (try clear hμ2); (try clear x); (try clear eμ2); (try clear μ2); (try clear hz9); (try clear hμ1); (try clear eμ1); (try clear μ1); (try clear h66); (try clear hsz); (try clear hnt); (try clear s₁); omega) | omega)) rfl) rfl 3 (by decide) (hts _ k304) (fun _ h9 => h9) rfl dX9_similar_16 ?_
      refine lv_astore_n (lv' := [(3, .ref (h0 + ((113 + (pg).toNat * 15) + 3))), (0, .ref h0), (1, .int (iZ (pg))), (2, .int (iZ (ot)))]) hx hb dX9_similar_19 rfl hl (by decide) rfl (fun ls hl => ?_)
      refine lv_aload_n hx hb dX9_similar_20 rfl (lv_at hl 1 rfl) ?_
      refine fz_get (D := (dC, dI)) (ci := 9) (v := .ref (h0 + 5)) (C := RX9) (T := TX9) (N := 15) hx hb hts inG9 hown hK hP (k := 0) (by decide) (F := (sF0 h0)) sE_0 rfl 1 (by decide) (hts _ k333) (fun _ h9 => h9) rfl dX9_similar_21 ?_
      refine lv_iload_n hx hb dX9_similar_24 rfl (lv_at hl 3 rfl) ?_
      refine fz_ald (k := 5) (n := 8) (k2 := (113 + (ot).toNat * 15)) hx hb hK hP 1 rfl (by decide) sE_5 rfl ⟨by (first | ((try clear lb); (try clear la); (try clear hg2); (try clear hg1); (try clear hm2); (try clear hm1); (try clear hl2); (try clear hl1); (try clear hμ2); (try clear x); (try clear eμ2); (try clear μ2); (try clear hz9); (try clear hμ1); (try clear eμ1); (try clear μ1); (try clear hn2_); (try clear h66); (try clear hlc); (try clear hsz); (try clear hnt); (try clear s₁); omega) | omega), by (first | ((try clear lb); (try clear la); (try clear hg2); (try clear hg1); (try clear hm2); (try clear hm1); (try clear hl2); (try clear hl1); (try clear hμ2); (try clear x); (try clear eμ2); (try clear μ2); (try clear hz9); (try clear hμ1); (try clear eμ1); (try clear μ1); (try clear h66); (try clear hsz); (try clear hnt); (try clear s₁); omega) | omega)⟩ (by decide) (if_pos (by (first | ((try clear lb); (try clear la); (try clear hg2); (try clear hg1); (try clear hm2); (try clear hm1); (try clear hl2); (try clear hl1); (try clear hμ2); (try clear x); (try clear eμ2); (try clear μ2); (try clear hz9); (try clear hμ1); (try clear eμ1); (try clear μ1); (try clear h66); (try clear hsz); (try clear hnt); (try clear s₁); omega) | omega))) dX9_similar_25 ?_
      refine fz_get (D := (dC, dI)) (ci := 1) (v := .ref (h0 + ((113 + (ot).toNat * 15) + 3))) (C := RX1) (T := TX1) (N := 8) hx hb hts inG1 hown hK hP (k := (113 + (ot).toNat * 15)) (by (first | ((try clear lb); (try clear la); (try clear hg2); (try clear hg1); (try clear hm2); (try clear hm1); (try clear hl2); (try clear hl1); (try clear hμ2); (try clear x); (try clear eμ2); (try clear μ2); (try clear hz9); (try clear hμ1); (try clear eμ1); (try clear μ1); (try clear h66); (try clear hsz); (try clear hnt); (try clear s₁); omega) | omega)) (F := (sLF h0 (113 + (ot).toNat * 15))) (sE_leafO (show (ot).toNat < 8 by (first | ((try clear lb); (try clear la); (try clear hg2); (try clear hg1); (try clear hm2); (try clear hm1); (try clear hl2); (try clear hl1); (try clear hμ2); (try clear x); (try clear eμ2); (try clear μ2); (try clear hz9); (try clear hμ1); (try clear eμ1); (try clear μ1); (try clear h66); (try clear hsz); (try clear hnt); (try clear s₁); omega) | omega)) rfl) rfl 3 (by decide) (hts _ k304) (fun _ h9 => h9) rfl dX9_similar_26 ?_
      refine lv_astore (lv' := [(4, .ref (h0 + ((113 + (ot).toNat * 15) + 3))), (3, .ref (h0 + ((113 + (pg).toNat * 15) + 3))), (0, .ref h0), (1, .int (iZ (pg))), (2, .int (iZ (ot)))]) hx hb dX9_similar_29 hl (by decide) rfl (fun ls hl => ?_)
      refine lv_aload_n hx hb dX9_similar_31 rfl (lv_at hl 1 rfl) ?_
      refine fz_get (D := (dC, dI)) (ci := 4) (v := .int (iZ (μ ((113 + (pg).toNat * 15) + 3) 5))) (C := RX4) (T := TX4) (N := 8) hx hb hts inG4 hown hK hP (k := ((113 + (pg).toNat * 15) + 3)) (by (first | ((try clear lb); (try clear la); (try clear hg2); (try clear hg1); (try clear hm2); (try clear hm1); (try clear hl2); (try clear hl1); (try clear hμ2); (try clear x); (try clear eμ2); (try clear μ2); (try clear hz9); (try clear hμ1); (try clear eμ1); (try clear μ1); (try clear h66); (try clear hsz); (try clear hnt); (try clear s₁); omega) | omega)) (F := (sRF h0 ((113 + (pg).toNat * 15) + 3))) (sE_rowO (rowB_L (show (pg).toNat < 8 by (first | ((try clear lb); (try clear la); (try clear hg2); (try clear hg1); (try clear hm2); (try clear hm1); (try clear hl2); (try clear hl1); (try clear hμ2); (try clear x); (try clear eμ2); (try clear μ2); (try clear hz9); (try clear hμ1); (try clear eμ1); (try clear μ1); (try clear h66); (try clear hsz); (try clear hnt); (try clear s₁); omega) | omega)) rfl)) rfl 5 (by decide) (hts _ k99) (fun _ h9 => h9) rfl dX9_similar_32 ?_
      refine lv_aload hx hb dX9_similar_35 (lv_at hl 0 rfl) ?_
      refine fz_get (D := (dC, dI)) (ci := 4) (v := .int (iZ (μ ((113 + (ot).toNat * 15) + 3) 5))) (C := RX4) (T := TX4) (N := 8) hx hb hts inG4 hown hK hP (k := ((113 + (ot).toNat * 15) + 3)) (by (first | ((try clear lb); (try clear la); (try clear hg2); (try clear hg1); (try clear hm2); (try clear hm1); (try clear hl2); (try clear hl1); (try clear hμ2); (try clear x); (try clear eμ2); (try clear μ2); (try clear hz9); (try clear hμ1); (try clear eμ1); (try clear μ1); (try clear h66); (try clear hsz); (try clear hnt); (try clear s₁); omega) | omega)) (F := (sRF h0 ((113 + (ot).toNat * 15) + 3))) (sE_rowO (rowB_L (show (ot).toNat < 8 by (first | ((try clear lb); (try clear la); (try clear hg2); (try clear hg1); (try clear hm2); (try clear hm1); (try clear hl2); (try clear hl1); (try clear hμ2); (try clear x); (try clear eμ2); (try clear μ2); (try clear hz9); (try clear hμ1); (try clear eμ1); (try clear μ1); (try clear h66); (try clear hsz); (try clear hnt); (try clear s₁); omega) | omega)) rfl)) rfl 5 (by decide) (hts _ k99) (fun _ h9 => h9) rfl dX9_similar_37 ?_
      refine fz_icmp_ne (tgt := 62) (by first | assumption | (constructor <;> (first | ((try clear lb); (try clear hg2); (try clear hg1); (try clear hm2); (try clear hm1); (try clear hl2); (try clear hl1); (try clear hμ2); (try clear x); (try clear eμ2); (try clear μ2); (try clear hz9); (try clear hn7_); (try clear hμ1); (try clear eμ1); (try clear μ1); (try clear hn2_); (try clear h66); (try clear hlc); (try clear hsz); (try clear hnt); (try clear s₁); omega) | omega)) | decide) (by first | assumption | (constructor <;> (first | ((try clear la); (try clear hg2); (try clear hg1); (try clear hm2); (try clear hm1); (try clear hl2); (try clear hl1); (try clear hμ2); (try clear x); (try clear eμ2); (try clear μ2); (try clear hz9); (try clear hn7_); (try clear hμ1); (try clear eμ1); (try clear μ1); (try clear hn2_); (try clear h66); (try clear hlc); (try clear hsz); (try clear hnt); (try clear s₁); omega) | omega)) | decide) hx hb dX9_similar_40 (by decide) (fun c40_ => ?_) (fun c40_ => ?_)
      · refine lv_iconst (v := iZ 0) hx hb dX9_similar_62 rfl ?_
        exact W_widen (Nat.le_of_ble_eq_true rfl) (Nat.le_of_ble_eq_true rfl) (vx_ret (W.zret (v := iZ (0)) hx hb hr (by decide +kernel) (fun t9 ht9 hW9 => ⟨⟨iZ (0), (μ, 0), rfl, ⟨rfl, (by
                        dsimp only
                        exact ⟨hI, SZ_rf⟩)⟩, by rw [ht9]; exact hP, va_K.moved hW9.alike hK⟩, hS.F ht9⟩) hS.2.2 dX9_similar_63))
      · refine lv_aload_n hx hb dX9_similar_43 rfl (lv_at hl 1 rfl) ?_
        refine lv_iconst (v := iZ 0) hx hb dX9_similar_44 rfl ?_
        refine lv_aload hx hb dX9_similar_45 (lv_at hl 0 rfl) ?_
        refine lv_iconst (v := iZ 0) hx hb dX9_similar_47 rfl ?_
        refine lv_aload_n hx hb dX9_similar_48 rfl (lv_at hl 1 rfl) ?_
        refine fz_get (D := (dC, dI)) (ci := 4) (v := .int (iZ (μ ((113 + (pg).toNat * 15) + 3) 5))) (C := RX4) (T := TX4) (N := 8) hx hb hts inG4 hown hK hP (k := ((113 + (pg).toNat * 15) + 3)) (by (first | ((try clear c40_); (try clear lb); (try clear la); (try clear hg2); (try clear hg1); (try clear hm2); (try clear hm1); (try clear hl2); (try clear hl1); (try clear hμ2); (try clear x); (try clear eμ2); (try clear μ2); (try clear hz9); (try clear hμ1); (try clear eμ1); (try clear μ1); (try clear h66); (try clear hsz); (try clear hnt); (try clear s₁); omega) | omega)) (F := (sRF h0 ((113 + (pg).toNat * 15) + 3))) (sE_rowO (rowB_L (show (pg).toNat < 8 by (first | ((try clear c40_); (try clear lb); (try clear la); (try clear hg2); (try clear hg1); (try clear hm2); (try clear hm1); (try clear hl2); (try clear hl1); (try clear hμ2); (try clear x); (try clear eμ2); (try clear μ2); (try clear hz9); (try clear hμ1); (try clear eμ1); (try clear μ1); (try clear h66); (try clear hsz); (try clear hnt); (try clear s₁); omega) | omega)) rfl)) rfl 5 (by decide) (hts _ k99) (fun _ h9 => h9) rfl dX9_similar_49 ?_
        refine va_calli (va_runV (As := [.int (iZ (0)), .ref (h0 + ((113 + (ot).toNat * 15) + 3)), .int (iZ (0)), .int (iZ (μ ((113 + (pg).toNat * 15) + 3) 5))]) (rest := []) ⟨hx, hb, hml, hown, hts⟩ (s_Rmatches l dC dI cI cZ cII cIII h0 H.size μ (((113 + (pg).toNat * 15) + 3)) (96) (((113 + (ot).toNat * 15) + 3)) (96) (0) (0) (μ ((113 + (pg).toNat * 15) + 3) 5) ((rowB_L (show (pg).toNat < 8 by (first | ((try clear c40_); (try clear lb); (try clear la); (try clear hg2); (try clear hg1); (try clear hm2); (try clear hm1); (try clear hl2); (try clear hl1); (try clear hμ2); (try clear x); (try clear eμ2); (try clear μ2); (try clear hz9); (try clear hμ1); (try clear eμ1); (try clear μ1); (try clear h66); (try clear hsz); (try clear hnt); (try clear s₁); omega) | omega)) rfl)) ((rowB_L (show (ot).toNat < 8 by (first | ((try clear c40_); (try clear lb); (try clear la); (try clear hg2); (try clear hg1); (try clear hm2); (try clear hm1); (try clear hl2); (try clear hl1); (try clear hμ2); (try clear x); (try clear eμ2); (try clear μ2); (try clear hz9); (try clear hμ1); (try clear eμ1); (try clear μ1); (try clear h66); (try clear hsz); (try clear hnt); (try clear s₁); omega) | omega)) rfl)) (by exact hg1.1) (by exact hg2.1) (by first | assumption | omega | exact CI_lc hI | exact CI_cn hI | exact (CI_n6 hI).1 | decide) (by first | assumption | omega | exact CI_lc hI | exact CI_cn hI | exact (CI_n6 hI).1 | decide) (by first | assumption | (first | ((try clear c40_); (try clear lb); (try clear la); (try clear hg2); (try clear hg1); (try clear hm2); (try clear hm1); (try clear hl2); (try clear hl1); (try clear hμ2); (try clear x); (try clear eμ2); (try clear μ2); (try clear hz9); (try clear hn7_); (try clear hμ1); (try clear eμ1); (try clear μ1); (try clear hn2_); (try clear h66); (try clear hlc); (try clear hsz); (try clear hnt); (try clear s₁); omega) | omega) | exact CI_lc hI | exact CI_cn hI | exact (CI_n6 hI).1 | decide) (by first | assumption | (first | ((try clear c40_); (try clear lb); (try clear la); (try clear hg2); (try clear hg1); (try clear hm2); (try clear hm1); (try clear hl2); (try clear hl1); (try clear hμ2); (try clear x); (try clear eμ2); (try clear μ2); (try clear hz9); (try clear hn7_); (try clear hμ1); (try clear eμ1); (try clear μ1); (try clear hn2_); (try clear h66); (try clear hlc); (try clear hsz); (try clear hnt); (try clear s₁); omega) | omega) | exact CI_lc hI | exact CI_cn hI | exact (CI_n6 hI).1 | decide) (by first | assumption | (first | ((try clear la); (try clear hg2); (try clear hg1); (try clear hm2); (try clear hm1); (try clear hl2); (try clear hl1); (try clear hμ2); (try clear x); (try clear eμ2); (try clear μ2); (try clear hz9); (try clear hn7_); (try clear hμ1); (try clear eμ1); (try clear μ1); (try clear hn2_); (try clear h66); (try clear hlc); (try clear hsz); (try clear hnt); (try clear s₁); omega) | omega) | exact CI_lc hI | exact CI_cn hI | exact (CI_n6 hI).1 | decide) (by first | assumption | (first | ((try clear la); (try clear hg2); (try clear hg1); (try clear hm2); (try clear hm1); (try clear hl2); (try clear hl1); (try clear hμ2); (try clear x); (try clear eμ2); (try clear μ2); (try clear hz9); (try clear hn7_); (try clear hμ1); (try clear eμ1); (try clear μ1); (try clear hn2_); (try clear h66); (try clear hlc); (try clear hsz); (try clear hnt); (try clear s₁); omega) | omega) | exact CI_lc hI | exact CI_cn hI | exact (CI_n6 hI).1 | decide)) (cwV 4 hts (gV_G k1100 k442 k443 k3 k444) rfl rfl rfl (by decide +kernel) ⟨Nat.le_of_ble_eq_true rfl, Nat.le_of_ble_eq_true rfl⟩) ⟨fun a U g mk q => by obtain ⟨q0, q1, qP, qK, qM⟩ := q; exact ⟨q0, q1, qP, va_K.moved (u := U) (U := U.calling g mk a) (Vm.Alike.refl U.vm) qK, qM⟩, va_recv hK hP (ci := 4) (q0 := ((113 + (pg).toNat * 15) + 3)) rfl ((fw_get (by (first | ((try clear q); (try clear mk); (try clear g); (try clear U); (try clear c40_); (try clear lb); (try clear la); (try clear hg2); (try clear hg1); (try clear hm2); (try clear hm1); (try clear hl2); (try clear hl1); (try clear hμ2); (try clear x); (try clear eμ2); (try clear μ2); (try clear hz9); (try clear hμ1); (try clear eμ1); (try clear μ1); (try clear h66); (try clear hsz); (try clear hnt); (try clear s₁); omega) | omega))).trans (by rw [(sE_rowO (rowB_L (show (pg).toNat < 8 by (first | ((try clear q); (try clear mk); (try clear g); (try clear U); (try clear c40_); (try clear lb); (try clear la); (try clear hg2); (try clear hg1); (try clear hm2); (try clear hm1); (try clear hl2); (try clear hl1); (try clear hμ2); (try clear x); (try clear eμ2); (try clear μ2); (try clear hz9); (try clear hμ1); (try clear eμ1); (try clear μ1); (try clear h66); (try clear hsz); (try clear hnt); (try clear s₁); omega) | omega)) rfl))])), fun U hU hW => ⟨rfl, by rw [hU], by rw [hU]; exact hP, va_K.moved hW.alike hK, xM_warm hW hM⟩⟩ rfl rfl hl.1 rfl (lv_room (Nat.le_of_ble_eq_true rfl)) dX9_similar_52 ⟨Nat.le_of_ble_eq_true rfl, Nat.le_of_ble_eq_true rfl⟩) hS (fun q _ h => fA_le hS.1 q h) (fA_le hS.1) (fun r9 u9 t9 H1 locs ht9 hvm9 hw9 hB9 hz9 hk9 hS => ?_)
        obtain ⟨μq, rq⟩ := u9
        obtain ⟨hP, -⟩ := hB9
        rw [ht9] at hP
        generalize H1 = H at hP hS ⊢
        obtain ⟨e9, hw9⟩ := hw9
        have e9 : r9 = iZ rq := e9
        subst e9
        simp only at hP hw9
        have hμq := hw9; clear hw9
        rw [hμq.1] at hP; have hμq := hμq.2
        have hrq := hμq
        have hr01 : rq = 0 ∨ rq = 1 := hrq.elim (fun h => Or.inr h.1) (fun h => Or.inl h.1)
        refine fz_if_eq (tgt := 62) (by first | assumption | (constructor <;> (first | ((try clear hrq); (try clear hμq); (try clear μq); (try clear hz9); (try clear c40_); (try clear lb); (try clear la); (try clear hg2); (try clear hg1); (try clear hm2); (try clear hm1); (try clear hl2); (try clear hl1); (try clear hμ2); (try clear x); (try clear eμ2); (try clear μ2); (try clear hn7_); (try clear hμ1); (try clear eμ1); (try clear μ1); (try clear hn2_); (try clear h66); (try clear hlc); (try clear hsz); (try clear hnt); (try clear s₁); omega) | omega)) | decide) hx hb dX9_similar_55 (by decide) (fun c55_ => ?_) (fun c55_ => ?_)
        · refine lv_iconst (v := iZ 0) hx hb dX9_similar_62 rfl ?_
          exact W_widen (Nat.le_of_ble_eq_true rfl) (Nat.le_of_ble_eq_true rfl) (vx_ret (W.zret (v := iZ (0)) hx hb hr (by decide +kernel) (fun t9 ht9 hW9 => ⟨⟨iZ (0), (μ, 0), rfl, ⟨rfl, (by
                            dsimp only
                            exact ⟨hI, SZ_rf⟩)⟩, by rw [ht9]; exact hP, va_K.moved hW9.alike hK⟩, hS.F ht9⟩) hS.2.2 dX9_similar_63))
        · refine lv_iconst (v := iZ 1) hx hb dX9_similar_58 rfl ?_
          refine lv_goto (tgt := 63) hx hb dX9_similar_59 (by decide) ?_
          exact W_widen (Nat.le_of_ble_eq_true rfl) (Nat.le_of_ble_eq_true rfl) (vx_ret (W.zret (v := iZ (1)) hx hb hr (by decide +kernel) (fun t9 ht9 hW9 => ⟨⟨iZ (1), (μ, 1), rfl, ⟨rfl, (by
                            dsimp only
                            exact ⟨hI, SZ_rf⟩)⟩, by rw [ht9]; exact hP, va_K.moved hW9.alike hK⟩, hS.F ht9⟩) hS.2.2 dX9_similar_63))
    · refine vx_callv (vx_runV (As := [.int (iZ (ot))]) (rest := []) ⟨hx, hb, hml, hown, hts⟩ (x_needPage l hfl dC dI cI cZ cII cIII h0 H.size μ (ot) (by first | assumption | omega | exact CI_lc hI | exact CI_cn hI | exact (CI_n6 hI).1 | decide) (by first | assumption | omega | exact CI_lc hI | exact CI_cn hI | exact (CI_n6 hI).1 | decide) (hn7_)) (cwV 1 hts (gV_G k735 k737 ks_yX9_needPage k1 k738) rfl rfl rfl (by decide +kernel) ⟨Nat.le_of_ble_eq_true rfl, Nat.le_of_ble_eq_true rfl⟩) ⟨fun a U g mk q => by obtain ⟨q0, q1, qP, qK, qM, qE⟩ := q; exact ⟨q0, q1, qP, va_K.moved (u := U) (U := U.calling g mk a) (Vm.Alike.refl U.vm) qK, qM, xX_call qE⟩, va_recv hK hP (ci := 9) (q0 := 0) rfl ((fw_get (by decide)).trans (by rw [sE_0]; rfl)), fun U hU hW => ⟨rfl, by rw [hU], by rw [hU]; exact hP, va_K.moved hW.alike hK, xM_warm hW hM, xX_at hEx hS (fun q h => fA_le hS.1 q h) hU hW⟩⟩ rfl rfl hl.1 rfl (lv_room (Nat.le_of_ble_eq_true rfl)) dX9_similar_7 ⟨Nat.le_of_ble_eq_true rfl, Nat.le_of_ble_eq_true rfl⟩) hS (fun q _ h => fA_le hS.1 q h) (fA_le hS.1) (fun q _ h => fA_le hS.1 q h) (fun E9 ce9 q9 u9 t9 H1 locs ht9 hvm9 hpx9 hBX9 hz9 hk9 hS hce9 hcv9 hcl9 => ?_) (fun u9 t9 H1 locs ht9 hvm9 hw9 hB9 hz9 hk9 hS => hw9.elim)
      obtain ⟨hE9, hP9, hK9⟩ := hBX9
      exact vx_out (fun x hx9 => (hnt x hx9).elim) hlocks hce9 hcv9 hcl9 (fun t8 ht8 hW8 => ⟨u9, (by
                    show CI T u9 ∧ SZ μ u9
                    exact CZ_thr hI hpx9), ⟨hE9, by rw [ht8, ← ht9]; exact hP9, va_K.moved hW8 hK⟩, hS.F ht8⟩) hS.2.2 (Nat.le_of_ble_eq_true rfl) (Nat.le_of_ble_eq_true rfl)
  · refine vx_callv (vx_runV (As := [.int (iZ (pg))]) (rest := []) ⟨hx, hb, hml, hown, hts⟩ (x_needPage l hfl dC dI cI cZ cII cIII h0 s.heap.size μ (pg) (by first | assumption | omega | exact CI_lc hI | exact CI_cn hI | exact (CI_n6 hI).1 | decide) (by first | assumption | omega | exact CI_lc hI | exact CI_cn hI | exact (CI_n6 hI).1 | decide) (hn2_)) (cwV 1 hts (gV_G k735 k737 ks_yX9_needPage k1 k738) rfl rfl rfl (by decide +kernel) ⟨Nat.le_of_ble_eq_true rfl, Nat.le_of_ble_eq_true rfl⟩) ⟨fun a U g mk q => by obtain ⟨q0, q1, qP, qK, qM, qE⟩ := q; exact ⟨q0, q1, qP, va_K.moved (u := U) (U := U.calling g mk a) (Vm.Alike.refl U.vm) qK, qM, xX_call qE⟩, va_recv hK hP (ci := 9) (q0 := 0) rfl ((fw_get (by decide)).trans (by rw [sE_0]; rfl)), fun U hU hW => ⟨rfl, by rw [hU], by rw [hU]; exact hP, va_K.moved hW.alike hK, xM_warm hW hM, xX_at hEx hS (fun q h => fA_le hS.1 q h) hU hW⟩⟩ rfl rfl hl.1 rfl (lv_room (Nat.le_of_ble_eq_true rfl)) dX9_similar_2 ⟨Nat.le_of_ble_eq_true rfl, Nat.le_of_ble_eq_true rfl⟩) hS (fun q _ h => fA_le hS.1 q h) (fA_le hS.1) (fun q _ h => fA_le hS.1 q h) (fun E9 ce9 q9 u9 t9 H1 locs ht9 hvm9 hpx9 hBX9 hz9 hk9 hS hce9 hcv9 hcl9 => ?_) (fun u9 t9 H1 locs ht9 hvm9 hw9 hB9 hz9 hk9 hS => hw9.elim)
    obtain ⟨hE9, hP9, hK9⟩ := hBX9
    exact vx_out (fun x hx9 => (hnt x hx9).elim) hlocks hce9 hcv9 hcl9 (fun t8 ht8 hW8 => ⟨u9, (by
                show CI T u9 ∧ SZ μ u9
                exact CZ_thr hI hpx9), ⟨hE9, by rw [ht8, ← ht9]; exact hP9, va_K.moved hW8 hK⟩, hS.F ht8⟩) hS.2.2 (Nat.le_of_ble_eq_true rfl) (Nat.le_of_ble_eq_true rfl)
set_option maxHeartbeats 4000000 in
set_option maxRecDepth 100000 in
theorem q_alike (l : Launch) (hfl : l.stackTraces = false) (dC : Nat → ClassId) (dI : Nat → Nat → Nat) (cI cZ cII cIII : ClassId) (h0 sz : Nat) (μ : va_M) (nd : Int) (ne : Int) (T : List Tk) (hI : CI T μ) (h_nd : inR nd) (h_ne : inR ne) : vx_Met l yX9_alike (Cond.code yX9_alike cX9_alike 6 (some .boolean) :: wsG) ({ frames := 8, cells := 1, slots := 6, locals := 132 } : Room) (va_Pc [.ref h0, .int (iZ (nd)), .int (iZ (ne))] (fun U => U.heap.size = sz ∧ va_P (dC, dI) vwCl (fw (sE cI cZ cII cIII h0) h0 233 μ) U.heap ∧ va_K (dC, dI) vwCl (sT cI cZ cII cIII) U ∧ xM U ∧ xX (fA h0 233 sz) U)) (va_Qi (fun (r9 : Int32) (u : va_M × Int) => r9 = iZ u.2 ∧ (fun (u : va_M) (r : Int) => CI T u ∧ SZ μ u) u.1 u.2) (fun u t => va_P (dC, dI) vwCl (fw (sE cI cZ cII cIII h0) h0 233 u.1) t.heap ∧ va_K (dC, dI) vwCl (sT cI cZ cII cIII) t) (fA h0 233 sz)) (vx_X (fun (u : va_M) => CI T u ∧ SZ μ u) (fun E u t => E ∈ (["java/util/NoSuchElementException"] : List String) ∧ va_P (dC, dI) vwCl (fw (sE cI cZ cII cIII h0) h0 233 u) t.heap ∧ va_K (dC, dI) vwCl (sT cI cZ cII cIII) t) (fA h0 233 sz)) 1 6 (fA h0 233 sz) := by
  refine vx_ofW (cc := cX9_alike) (maxL := 6) (ret := (some .boolean)) (by decide) rfl ?_
  intro p e s m args below meth c s₁ B hml hnt hv
  obtain ⟨rfl, hsz, hP, hK, hM, hEx⟩ := hv
  have hx := B.exec
  have hb := B.bytes
  have hr := B.returns
  have hts : ∀ w ∈ wsG, w.before _ s = true := hG_of (atoms_spec (ws := (Cond.code yX9_alike cX9_alike 6 (some .boolean) :: wsG)) B.pre)
  have hown : s.vm.findClass RX9 = some m.cls := findClass_of_methodNamed B.named
  have hlocks := B.notSynchronized
  subst hsz
  have hS : va_S (fA h0 233 s.heap.size) s.heap s.heap [] := va_S.rf
  have hl := lv_entry ([.ref h0, .int (iZ (nd)), .int (iZ (ne))]) (n := 6) (Nat.le_of_ble_eq_true rfl)
  rw [lg_entry_eq]
  generalize (lg_sl ([.ref h0, .int (iZ (nd)), .int (iZ (ne))]) ++ List.replicate (6 - (lg_sl ([.ref h0, .int (iZ (nd)), .int (iZ (ne))])).length) Slot.unset).toArray = ls at hl ⊢
  have hl : lv_has ls 6 [(0, .ref h0), (1, .int (iZ (nd))), (2, .int (iZ (ne)))] := hl
  have hlc := CI_lc hI
  have h66 := CI_n6 hI
  refine lv_aload_n hx hb dX9_alike_0 rfl (lv_at hl 0 rfl) ?_
  refine lv_aload_n hx hb dX9_alike_1 rfl (lv_at hl 0 rfl) ?_
  refine fz_get (D := (dC, dI)) (ci := 9) (v := .ref (h0 + 6)) (C := RX9) (T := TX9) (N := 15) hx hb hts inG9 hown hK hP (k := 0) (by decide) (F := (sF0 h0)) sE_0 rfl 3 (by decide) (hts _ k335) (fun _ h9 => h9) rfl dX9_alike_2 ?_
  refine lv_iload_n hx hb dX9_alike_5 rfl (lv_at hl 1 rfl) ?_
  by_cases hn6_ : 0 ≤ nd ∧ nd < μ 6 6
  · refine va_callv (va_runV (As := [.ref (h0 + 6), .int (iZ (nd))]) (rest := []) ⟨hx, hb, hml, hown, hts⟩ (s_needNode l dC dI cI cZ cII cIII h0 s.heap.size μ (6) (1100) (nd) (rowB_6) (by first | assumption | omega | exact CI_lc hI | exact CI_cn hI | exact (CI_n6 hI).1 | decide) (by first | assumption | (first | ((try clear hn6_); (try clear hlc); (try clear hsz); (try clear hnt); (try clear s₁); omega) | omega) | exact CI_lc hI | exact CI_cn hI | exact (CI_n6 hI).1 | decide) (by exact hn6_)) (cwV 2 hts (gV_G k914 k916 ks_yX9_needNode k1 k917) rfl rfl rfl (by decide +kernel) ⟨Nat.le_of_ble_eq_true rfl, Nat.le_of_ble_eq_true rfl⟩) ⟨fun a U g mk q => by obtain ⟨q0, q1, qP, qK, qM⟩ := q; exact ⟨q0, q1, qP, va_K.moved (u := U) (U := U.calling g mk a) (Vm.Alike.refl U.vm) qK, qM⟩, va_recv hK hP (ci := 9) (q0 := 0) rfl ((fw_get (by decide)).trans (by rw [sE_0]; rfl)), fun U hU hW => ⟨rfl, by rw [hU], by rw [hU]; exact hP, va_K.moved hW.alike hK, xM_warm hW hM⟩⟩ rfl rfl hl.1 rfl (lv_room (Nat.le_of_ble_eq_true rfl)) dX9_alike_6 ⟨Nat.le_of_ble_eq_true rfl, Nat.le_of_ble_eq_true rfl⟩) hS (fun q _ h => fA_le hS.1 q h) (fA_le hS.1) (fun u9 t9 H1 locs ht9 hvm9 hw9 hB9 hz9 hk9 hS => ?_)
    obtain ⟨hP, -⟩ := hB9
    rw [ht9] at hP
    generalize H1 = H at hP hS ⊢
    obtain ⟨μ1, eμ1⟩ : ∃ x : va_M, x = u9 := ⟨_, rfl⟩
    rw [← eμ1] at hP hw9
    have hμ1 := hw9; clear hw9
    rw [hμ1] at hP
    refine lv_aload_n hx hb dX9_alike_9 rfl (lv_at hl 0 rfl) ?_
    refine lv_aload_n hx hb dX9_alike_10 rfl (lv_at hl 0 rfl) ?_
    refine fz_get (D := (dC, dI)) (ci := 9) (v := .ref (h0 + 6)) (C := RX9) (T := TX9) (N := 15) hx hb hts inG9 hown hK hP (k := 0) (by decide) (F := (sF0 h0)) sE_0 rfl 3 (by decide) (hts _ k335) (fun _ h9 => h9) rfl dX9_alike_11 ?_
    refine lv_iload_n hx hb dX9_alike_14 rfl (lv_at hl 2 rfl) ?_
    by_cases hn15_ : 0 ≤ ne ∧ ne < μ 6 6
    · refine va_callv (va_runV (As := [.ref (h0 + 6), .int (iZ (ne))]) (rest := []) ⟨hx, hb, hml, hown, hts⟩ (s_needNode l dC dI cI cZ cII cIII h0 H.size μ (6) (1100) (ne) (rowB_6) (by first | assumption | omega | exact CI_lc hI | exact CI_cn hI | exact (CI_n6 hI).1 | decide) (by first | assumption | (first | ((try clear hn15_); (try clear hμ1); (try clear x); (try clear eμ1); (try clear μ1); (try clear hz9); (try clear hn6_); (try clear hlc); (try clear hsz); (try clear hnt); (try clear s₁); omega) | omega) | exact CI_lc hI | exact CI_cn hI | exact (CI_n6 hI).1 | decide) (by exact hn15_)) (cwV 2 hts (gV_G k914 k916 ks_yX9_needNode k1 k917) rfl rfl rfl (by decide +kernel) ⟨Nat.le_of_ble_eq_true rfl, Nat.le_of_ble_eq_true rfl⟩) ⟨fun a U g mk q => by obtain ⟨q0, q1, qP, qK, qM⟩ := q; exact ⟨q0, q1, qP, va_K.moved (u := U) (U := U.calling g mk a) (Vm.Alike.refl U.vm) qK, qM⟩, va_recv hK hP (ci := 9) (q0 := 0) rfl ((fw_get (by decide)).trans (by rw [sE_0]; rfl)), fun U hU hW => ⟨rfl, by rw [hU], by rw [hU]; exact hP, va_K.moved hW.alike hK, xM_warm hW hM⟩⟩ rfl rfl hl.1 rfl (lv_room (Nat.le_of_ble_eq_true rfl)) dX9_alike_15 ⟨Nat.le_of_ble_eq_true rfl, Nat.le_of_ble_eq_true rfl⟩) hS (fun q _ h => fA_le hS.1 q h) (fA_le hS.1) (fun u9 t9 H1 locs ht9 hvm9 hw9 hB9 hz9 hk9 hS => ?_)
      obtain ⟨hP, -⟩ := hB9
      rw [ht9] at hP
      generalize H1 = H at hP hS ⊢
      obtain ⟨μ2, eμ2⟩ : ∃ x : va_M, x = u9 := ⟨_, rfl⟩
      rw [← eμ2] at hP hw9
      have hμ2 := hw9; clear hw9
      rw [hμ2] at hP
      have p1 : 0 ≤ μ 11 nd.toNat ∧ μ 11 nd.toNat < μ 6 5 := rG_p hI.1.2.2.1 nd (by (first | ((try clear p1); (try clear hμ2); (try clear x); (try clear eμ2); (try clear μ2); (try clear hz9); (try clear hn15_); (try clear hμ1); (try clear eμ1); (try clear μ1); (try clear h66); (try clear hlc); (try clear hsz); (try clear hnt); (try clear s₁); omega) | omega)) (by (first | ((try clear p1); (try clear hμ2); (try clear x); (try clear eμ2); (try clear μ2); (try clear hz9); (try clear hn15_); (try clear hμ1); (try clear eμ1); (try clear μ1); (try clear h66); (try clear hlc); (try clear hsz); (try clear hnt); (try clear s₁); omega) | omega))
      have p2 : 0 ≤ μ 11 ne.toNat ∧ μ 11 ne.toNat < μ 6 5 := rG_p hI.1.2.2.1 ne (by (first | ((try clear p2); (try clear p1); (try clear hμ2); (try clear x); (try clear eμ2); (try clear μ2); (try clear hz9); (try clear hμ1); (try clear eμ1); (try clear μ1); (try clear hn6_); (try clear h66); (try clear hlc); (try clear hsz); (try clear hnt); (try clear s₁); omega) | omega)) (by (first | ((try clear p2); (try clear p1); (try clear hμ2); (try clear x); (try clear eμ2); (try clear μ2); (try clear hz9); (try clear hμ1); (try clear eμ1); (try clear μ1); (try clear hn6_); (try clear h66); (try clear hlc); (try clear hsz); (try clear hnt); (try clear s₁); omega) | omega))
      have q1 : 0 ≤ μ (6 + 2) (μ 11 nd.toNat).toNat ∧ μ (6 + 2) (μ 11 nd.toNat).toNat < μ 6 5 := rG_m hI.1.2.2.1 (μ 11 nd.toNat) p1.1 p1.2
      have q2 : 0 ≤ μ (6 + 2) (μ 11 ne.toNat).toNat ∧ μ (6 + 2) (μ 11 ne.toNat).toNat < μ 6 5 := rG_m hI.1.2.2.1 (μ 11 ne.toNat) p2.1 p2.2
      refine lv_aload_n hx hb dX9_alike_18 rfl (lv_at hl 0 rfl) ?_
      refine fz_get (D := (dC, dI)) (ci := 9) (v := .ref (h0 + 6)) (C := RX9) (T := TX9) (N := 15) hx hb hts inG9 hown hK hP (k := 0) (by decide) (F := (sF0 h0)) sE_0 rfl 3 (by decide) (hts _ k335) (fun _ h9 => h9) rfl dX9_alike_19 ?_
      refine fz_get (D := (dC, dI)) (ci := 4) (v := .ref (h0 + 11)) (C := RX4) (T := TX4) (N := 8) hx hb hts inG4 hown hK hP (k := 6) (by decide) (F := (sRF h0 6)) (sE_rowO rowB_6) rfl 4 (by decide) (hts _ k91) (fun _ h9 => h9) rfl dX9_alike_22 ?_
      refine lv_iload_n hx hb dX9_alike_25 rfl (lv_at hl 1 rfl) ?_
      refine fz_ld (k := 11) (n := 1100) hx hb hK hP 0 (by decide) (sE_rowA (r := 5) rowB_6 (by decide)) rfl ⟨by (first | ((try clear q2); (try clear p2); (try clear p1); (try clear hμ2); (try clear x); (try clear eμ2); (try clear μ2); (try clear hz9); (try clear hn15_); (try clear hμ1); (try clear eμ1); (try clear μ1); (try clear h66); (try clear hlc); (try clear hsz); (try clear hnt); (try clear s₁); omega) | omega), by (first | ((try clear q2); (try clear p2); (try clear p1); (try clear hμ2); (try clear x); (try clear eμ2); (try clear μ2); (try clear hz9); (try clear hn15_); (try clear hμ1); (try clear eμ1); (try clear μ1); (try clear hlc); (try clear hsz); (try clear hnt); (try clear s₁); omega) | omega)⟩ (by decide) dX9_alike_26 ?_
      refine lv_istore_n (lv' := [(3, .int (iZ (μ 11 (nd).toNat))), (0, .ref h0), (1, .int (iZ (nd))), (2, .int (iZ (ne)))]) hx hb dX9_alike_27 rfl hl (by decide) rfl (fun ls hl => ?_)
      refine lv_aload_n hx hb dX9_alike_28 rfl (lv_at hl 1 rfl) ?_
      refine fz_get (D := (dC, dI)) (ci := 9) (v := .ref (h0 + 6)) (C := RX9) (T := TX9) (N := 15) hx hb hts inG9 hown hK hP (k := 0) (by decide) (F := (sF0 h0)) sE_0 rfl 3 (by decide) (hts _ k335) (fun _ h9 => h9) rfl dX9_alike_29 ?_
      refine fz_get (D := (dC, dI)) (ci := 4) (v := .ref (h0 + 11)) (C := RX4) (T := TX4) (N := 8) hx hb hts inG4 hown hK hP (k := 6) (by decide) (F := (sRF h0 6)) (sE_rowO rowB_6) rfl 4 (by decide) (hts _ k91) (fun _ h9 => h9) rfl dX9_alike_32 ?_
      refine lv_iload_n hx hb dX9_alike_35 rfl (lv_at hl 3 rfl) ?_
      refine fz_ld (k := 11) (n := 1100) hx hb hK hP 0 (by decide) (sE_rowA (r := 5) rowB_6 (by decide)) rfl ⟨by (first | ((try clear q2); (try clear p2); (try clear p1); (try clear hμ2); (try clear x); (try clear eμ2); (try clear μ2); (try clear hz9); (try clear hμ1); (try clear eμ1); (try clear μ1); (try clear hn6_); (try clear h66); (try clear hlc); (try clear hsz); (try clear hnt); (try clear s₁); omega) | omega), by (first | ((try clear q2); (try clear p2); (try clear p1); (try clear hμ2); (try clear x); (try clear eμ2); (try clear μ2); (try clear hz9); (try clear hμ1); (try clear eμ1); (try clear μ1); (try clear hlc); (try clear hsz); (try clear hnt); (try clear s₁); omega) | omega)⟩ (by decide) dX9_alike_36 ?_
      refine lv_istore (lv' := [(4, .int (iZ (μ 11 (ne).toNat))), (3, .int (iZ (μ 11 (nd).toNat))), (0, .ref h0), (1, .int (iZ (nd))), (2, .int (iZ (ne)))]) hx hb dX9_alike_37 hl (by decide) rfl (fun ls hl => ?_)
      refine lv_aload_n hx hb dX9_alike_39 rfl (lv_at hl 2 rfl) ?_
      refine fz_get (D := (dC, dI)) (ci := 9) (v := .ref (h0 + 6)) (C := RX9) (T := TX9) (N := 15) hx hb hts inG9 hown hK hP (k := 0) (by decide) (F := (sF0 h0)) sE_0 rfl 3 (by decide) (hts _ k335) (fun _ h9 => h9) rfl dX9_alike_40 ?_
      refine lv_iload_n hx hb dX9_alike_43 rfl (lv_at hl 1 rfl) ?_
      refine va_calli (va_runV (As := [.int (iZ (μ 11 (nd).toNat))]) (rest := []) ⟨hx, hb, hml, hown, hts⟩ (s_Rafter l dC dI cI cZ cII cIII h0 H.size μ (6) (1100) (μ 11 (nd).toNat) (rowB_6) (by (first | ((try clear q2); (try clear p2); (try clear hμ2); (try clear x); (try clear eμ2); (try clear μ2); (try clear hz9); (try clear hn15_); (try clear hμ1); (try clear eμ1); (try clear μ1); (try clear hlc); (try clear hsz); (try clear hnt); (try clear s₁); omega) | omega)) (by constructor <;> (first | ((try clear q2); (try clear p2); (try clear p1); (try clear hμ2); (try clear x); (try clear eμ2); (try clear μ2); (try clear hz9); (try clear hn15_); (try clear hμ1); (try clear eμ1); (try clear μ1); (try clear hlc); (try clear hsz); (try clear hnt); (try clear s₁); omega) | omega))) (cwV 1 hts (gV_G k1099 k438 k439 k3 k440) rfl rfl rfl (by decide +kernel) ⟨Nat.le_of_ble_eq_true rfl, Nat.le_of_ble_eq_true rfl⟩) ⟨fun a U g mk q => by obtain ⟨q0, q1, qP, qK, qM⟩ := q; exact ⟨q0, q1, qP, va_K.moved (u := U) (U := U.calling g mk a) (Vm.Alike.refl U.vm) qK, qM⟩, va_recv hK hP (ci := 4) (q0 := 6) rfl ((fw_get (by decide)).trans (by rw [(sE_rowO rowB_6)])), fun U hU hW => ⟨rfl, by rw [hU], by rw [hU]; exact hP, va_K.moved hW.alike hK, xM_warm hW hM⟩⟩ rfl rfl hl.1 rfl (lv_room (Nat.le_of_ble_eq_true rfl)) dX9_alike_44 ⟨Nat.le_of_ble_eq_true rfl, Nat.le_of_ble_eq_true rfl⟩) hS (fun q _ h => fA_le hS.1 q h) (fA_le hS.1) (fun r9 u9 t9 H1 locs ht9 hvm9 hw9 hB9 hz9 hk9 hS => ?_)
      obtain ⟨μa, ra⟩ := u9
      obtain ⟨hP, -⟩ := hB9
      rw [ht9] at hP
      generalize H1 = H at hP hS ⊢
      obtain ⟨e9, hw9⟩ := hw9
      have e9 : r9 = iZ ra := e9
      subst e9
      simp only at hP hw9
      have hμa := hw9; clear hw9
      rw [hμa.1] at hP; have hμa := hμa.2
      have hra := hμa
      refine lv_iload_n hx hb dX9_alike_47 rfl (lv_at hl 1 rfl) ?_
      refine lv_isub hx hb dX9_alike_48 ?_
      refine lv_topi (fun x9 ex9 => ?_)
      obtain rfl : x9 = iZ (ra - (μ 11 (nd).toNat)) := ex9.trans (iZ_sub _ _)
      refine lv_istore (lv' := [(5, .int (iZ (ra - (μ 11 (nd).toNat)))), (4, .int (iZ (μ 11 (ne).toNat))), (3, .int (iZ (μ 11 (nd).toNat))), (0, .ref h0), (1, .int (iZ (nd))), (2, .int (iZ (ne)))]) hx hb dX9_alike_49 hl (by decide) rfl (fun ls hl => ?_)
      refine lv_iload hx hb dX9_alike_51 (lv_at hl 0 rfl) ?_
      refine lv_aload_n hx hb dX9_alike_53 rfl (lv_at hl 3 rfl) ?_
      refine fz_get (D := (dC, dI)) (ci := 9) (v := .ref (h0 + 6)) (C := RX9) (T := TX9) (N := 15) hx hb hts inG9 hown hK hP (k := 0) (by decide) (F := (sF0 h0)) sE_0 rfl 3 (by decide) (hts _ k335) (fun _ h9 => h9) rfl dX9_alike_54 ?_
      refine lv_iload hx hb dX9_alike_57 (lv_at hl 1 rfl) ?_
      refine va_calli (va_runV (As := [.int (iZ (μ 11 (ne).toNat))]) (rest := [.int (iZ (ra - (μ 11 (nd).toNat)))]) ⟨hx, hb, hml, hown, hts⟩ (s_Rafter l dC dI cI cZ cII cIII h0 H.size μ (6) (1100) (μ 11 (ne).toNat) (rowB_6) (by (first | ((try clear ex9); (try clear hra); (try clear hμa); (try clear μa); (try clear hz9); (try clear q2); (try clear p1); (try clear hμ2); (try clear x); (try clear eμ2); (try clear μ2); (try clear hn15_); (try clear hμ1); (try clear eμ1); (try clear μ1); (try clear hlc); (try clear hsz); (try clear hnt); (try clear s₁); omega) | omega)) (by constructor <;> (first | ((try clear ex9); (try clear hra); (try clear hμa); (try clear μa); (try clear hz9); (try clear p2); (try clear p1); (try clear hμ2); (try clear x); (try clear eμ2); (try clear μ2); (try clear hn15_); (try clear hμ1); (try clear eμ1); (try clear μ1); (try clear hlc); (try clear hsz); (try clear hnt); (try clear s₁); omega) | omega))) (cwV 1 hts (gV_G k1099 k438 k439 k3 k440) rfl rfl rfl (by decide +kernel) ⟨Nat.le_of_ble_eq_true rfl, Nat.le_of_ble_eq_true rfl⟩) ⟨fun a U g mk q => by obtain ⟨q0, q1, qP, qK, qM⟩ := q; exact ⟨q0, q1, qP, va_K.moved (u := U) (U := U.calling g mk a) (Vm.Alike.refl U.vm) qK, qM⟩, va_recv hK hP (ci := 4) (q0 := 6) rfl ((fw_get (by decide)).trans (by rw [(sE_rowO rowB_6)])), fun U hU hW => ⟨rfl, by rw [hU], by rw [hU]; exact hP, va_K.moved hW.alike hK, xM_warm hW hM⟩⟩ rfl rfl hl.1 rfl (lv_room (Nat.le_of_ble_eq_true rfl)) dX9_alike_59 ⟨Nat.le_of_ble_eq_true rfl, Nat.le_of_ble_eq_true rfl⟩) hS (fun q _ h => fA_le hS.1 q h) (fA_le hS.1) (fun r9 u9 t9 H1 locs ht9 hvm9 hw9 hB9 hz9 hk9 hS => ?_)
      obtain ⟨μb, rb⟩ := u9
      obtain ⟨hP, -⟩ := hB9
      rw [ht9] at hP
      generalize H1 = H at hP hS ⊢
      obtain ⟨e9, hw9⟩ := hw9
      have e9 : r9 = iZ rb := e9
      subst e9
      simp only at hP hw9
      have hμb := hw9; clear hw9
      rw [hμb.1] at hP; have hμb := hμb.2
      have hrb := hμb
      refine lv_iload hx hb dX9_alike_62 (lv_at hl 1 rfl) ?_
      refine lv_isub hx hb dX9_alike_64 ?_
      refine lv_topi (fun x9 ex9 => ?_)
      obtain rfl : x9 = iZ (rb - (μ 11 (ne).toNat)) := ex9.trans (iZ_sub _ _)
      refine fz_icmp_ne (tgt := 91) (by first | assumption | (constructor <;> (first | ((try clear ex9); (try clear hrb); (try clear hμb); (try clear μb); (try clear hz9); (try clear hra); (try clear hμa); (try clear q2); (try clear p2); (try clear hμ2); (try clear x); (try clear eμ2); (try clear μ2); (try clear hn15_); (try clear hμ1); (try clear eμ1); (try clear μ1); (try clear hlc); (try clear hsz); (try clear hnt); (try clear s₁); omega) | omega)) | decide) (by first | assumption | (constructor <;> (first | ((try clear ex9); (try clear hrb); (try clear hμb); (try clear hz9); (try clear hra); (try clear hμa); (try clear μa); (try clear p1); (try clear hμ2); (try clear x); (try clear eμ2); (try clear μ2); (try clear hn15_); (try clear hμ1); (try clear eμ1); (try clear μ1); (try clear hlc); (try clear hsz); (try clear hnt); (try clear s₁); omega) | omega)) | decide) hx hb dX9_alike_65 (by decide) (fun c65_ => ?_) (fun c65_ => ?_)
      · refine lv_iconst (v := iZ 0) hx hb dX9_alike_91 rfl ?_
        exact W_widen (Nat.le_of_ble_eq_true rfl) (Nat.le_of_ble_eq_true rfl) (vx_ret (W.zret (v := iZ (0)) hx hb hr (by decide +kernel) (fun t9 ht9 hW9 => ⟨⟨iZ (0), (μ, 0), rfl, ⟨rfl, (by
                        dsimp only
                        exact ⟨hI, SZ_rf⟩)⟩, by rw [ht9]; exact hP, va_K.moved hW9.alike hK⟩, hS.F ht9⟩) hS.2.2 dX9_alike_92))
      · refine lv_aload_n hx hb dX9_alike_68 rfl (lv_at hl 3 rfl) ?_
        refine fz_get (D := (dC, dI)) (ci := 9) (v := .ref (h0 + 6)) (C := RX9) (T := TX9) (N := 15) hx hb hts inG9 hown hK hP (k := 0) (by decide) (F := (sF0 h0)) sE_0 rfl 3 (by decide) (hts _ k335) (fun _ h9 => h9) rfl dX9_alike_69 ?_
        refine lv_iload_n hx hb dX9_alike_72 rfl (lv_at hl 2 rfl) ?_
        refine lv_aload_n hx hb dX9_alike_73 rfl (lv_at hl 3 rfl) ?_
        refine fz_get (D := (dC, dI)) (ci := 9) (v := .ref (h0 + 6)) (C := RX9) (T := TX9) (N := 15) hx hb hts inG9 hown hK hP (k := 0) (by decide) (F := (sF0 h0)) sE_0 rfl 3 (by decide) (hts _ k335) (fun _ h9 => h9) rfl dX9_alike_74 ?_
        refine lv_iload hx hb dX9_alike_77 (lv_at hl 1 rfl) ?_
        refine lv_iload hx hb dX9_alike_79 (lv_at hl 0 rfl) ?_
        refine va_calli (va_runV (As := [.int (iZ (μ 11 (nd).toNat)), .ref (h0 + 6), .int (iZ (μ 11 (ne).toNat)), .int (iZ (ra - (μ 11 (nd).toNat)))]) (rest := []) ⟨hx, hb, hml, hown, hts⟩ (s_Rmatches l dC dI cI cZ cII cIII h0 H.size μ (6) (1100) (6) (1100) (μ 11 (nd).toNat) (μ 11 (ne).toNat) (ra - (μ 11 (nd).toNat)) (rowB_6) (rowB_6) (by exact hI.1.2.2.1.1) (by exact hI.1.2.2.1.1) (by exact (rG_len hI.1.2.2.1)) (by exact (rG_len hI.1.2.2.1)) (by first | assumption | (first | ((try clear ex9); (try clear hrb); (try clear hμb); (try clear μb); (try clear hz9); (try clear hra); (try clear hμa); (try clear μa); (try clear q2); (try clear p2); (try clear hμ2); (try clear x); (try clear eμ2); (try clear μ2); (try clear hn15_); (try clear hμ1); (try clear eμ1); (try clear μ1); (try clear hlc); (try clear hsz); (try clear hnt); (try clear s₁); omega) | omega) | exact CI_lc hI | exact CI_cn hI | exact (CI_n6 hI).1 | decide) (by first | assumption | (first | ((try clear c65_); (try clear ex9); (try clear hrb); (try clear hμb); (try clear μb); (try clear hz9); (try clear hra); (try clear hμa); (try clear μa); (try clear q2); (try clear p1); (try clear hμ2); (try clear x); (try clear eμ2); (try clear μ2); (try clear hn15_); (try clear hμ1); (try clear eμ1); (try clear μ1); (try clear hlc); (try clear hsz); (try clear hnt); (try clear s₁); omega) | omega) | exact CI_lc hI | exact CI_cn hI | exact (CI_n6 hI).1 | decide) (by first | assumption | (first | ((try clear ex9); (try clear hrb); (try clear hμb); (try clear μb); (try clear hz9); (try clear hra); (try clear hμa); (try clear q2); (try clear p2); (try clear hμ2); (try clear x); (try clear eμ2); (try clear μ2); (try clear hn15_); (try clear hμ1); (try clear eμ1); (try clear μ1); (try clear hlc); (try clear hsz); (try clear hnt); (try clear s₁); omega) | omega) | exact CI_lc hI | exact CI_cn hI | exact (CI_n6 hI).1 | decide) (by first | assumption | (first | ((try clear ex9); (try clear hrb); (try clear hμb); (try clear μb); (try clear hz9); (try clear hra); (try clear hμa); (try clear q2); (try clear p2); (try clear hμ2); (try clear x); (try clear eμ2); (try clear μ2); (try clear hn15_); (try clear hμ1); (try clear eμ1); (try clear μ1); (try clear hlc); (try clear hsz); (try clear hnt); (try clear s₁); omega) | omega) | exact CI_lc hI | exact CI_cn hI | exact (CI_n6 hI).1 | decide)) (cwV 4 hts (gV_G k1100 k442 k443 k3 k444) rfl rfl rfl (by decide +kernel) ⟨Nat.le_of_ble_eq_true rfl, Nat.le_of_ble_eq_true rfl⟩) ⟨fun a U g mk q => by obtain ⟨q0, q1, qP, qK, qM⟩ := q; exact ⟨q0, q1, qP, va_K.moved (u := U) (U := U.calling g mk a) (Vm.Alike.refl U.vm) qK, qM⟩, va_recv hK hP (ci := 4) (q0 := 6) rfl ((fw_get (by decide)).trans (by rw [(sE_rowO rowB_6)])), fun U hU hW => ⟨rfl, by rw [hU], by rw [hU]; exact hP, va_K.moved hW.alike hK, xM_warm hW hM⟩⟩ rfl rfl hl.1 rfl (lv_room (Nat.le_of_ble_eq_true rfl)) dX9_alike_81 ⟨Nat.le_of_ble_eq_true rfl, Nat.le_of_ble_eq_true rfl⟩) hS (fun q _ h => fA_le hS.1 q h) (fA_le hS.1) (fun r9 u9 t9 H1 locs ht9 hvm9 hw9 hB9 hz9 hk9 hS => ?_)
        obtain ⟨μq, rq⟩ := u9
        obtain ⟨hP, -⟩ := hB9
        rw [ht9] at hP
        generalize H1 = H at hP hS ⊢
        obtain ⟨e9, hw9⟩ := hw9
        have e9 : r9 = iZ rq := e9
        subst e9
        simp only at hP hw9
        have hμq := hw9; clear hw9
        rw [hμq.1] at hP; have hμq := hμq.2
        have hrq := hμq
        have hr01 : rq = 0 ∨ rq = 1 := hrq.elim (fun h => Or.inr h.1) (fun h => Or.inl h.1)
        refine fz_if_eq (tgt := 91) (by first | assumption | (constructor <;> (first | ((try clear hrq); (try clear hμq); (try clear μq); (try clear hz9); (try clear c65_); (try clear ex9); (try clear hrb); (try clear hμb); (try clear μb); (try clear hra); (try clear hμa); (try clear μa); (try clear q2); (try clear p2); (try clear p1); (try clear hμ2); (try clear x); (try clear eμ2); (try clear μ2); (try clear hn15_); (try clear hμ1); (try clear eμ1); (try clear μ1); (try clear hn6_); (try clear h66); (try clear hlc); (try clear hsz); (try clear hnt); (try clear s₁); omega) | omega)) | decide) hx hb dX9_alike_84 (by decide) (fun c84_ => ?_) (fun c84_ => ?_)
        · refine lv_iconst (v := iZ 0) hx hb dX9_alike_91 rfl ?_
          exact W_widen (Nat.le_of_ble_eq_true rfl) (Nat.le_of_ble_eq_true rfl) (vx_ret (W.zret (v := iZ (0)) hx hb hr (by decide +kernel) (fun t9 ht9 hW9 => ⟨⟨iZ (0), (μ, 0), rfl, ⟨rfl, (by
                            dsimp only
                            exact ⟨hI, SZ_rf⟩)⟩, by rw [ht9]; exact hP, va_K.moved hW9.alike hK⟩, hS.F ht9⟩) hS.2.2 dX9_alike_92))
        · refine lv_iconst (v := iZ 1) hx hb dX9_alike_87 rfl ?_
          refine lv_goto (tgt := 92) hx hb dX9_alike_88 (by decide) ?_
          exact W_widen (Nat.le_of_ble_eq_true rfl) (Nat.le_of_ble_eq_true rfl) (vx_ret (W.zret (v := iZ (1)) hx hb hr (by decide +kernel) (fun t9 ht9 hW9 => ⟨⟨iZ (1), (μ, 1), rfl, ⟨rfl, (by
                            dsimp only
                            exact ⟨hI, SZ_rf⟩)⟩, by rw [ht9]; exact hP, va_K.moved hW9.alike hK⟩, hS.F ht9⟩) hS.2.2 dX9_alike_92))
    · refine vx_callv (vx_runV (As := [.ref (h0 + 6), .int (iZ (ne))]) (rest := []) ⟨hx, hb, hml, hown, hts⟩ (x_needNode l hfl dC dI cI cZ cII cIII h0 H.size μ (6) (1100) (ne) (rowB_6) (by first | assumption | omega | exact CI_lc hI | exact CI_cn hI | exact (CI_n6 hI).1 | decide) (by first | assumption | (first | ((try clear hn15_); (try clear hμ1); (try clear x); (try clear eμ1); (try clear μ1); (try clear hz9); (try clear hn6_); (try clear hlc); (try clear hsz); (try clear hnt); (try clear s₁); omega) | omega) | exact CI_lc hI | exact CI_cn hI | exact (CI_n6 hI).1 | decide) (hn15_)) (cwV 2 hts (gV_G k914 k916 ks_yX9_needNode k1 k917) rfl rfl rfl (by decide +kernel) ⟨Nat.le_of_ble_eq_true rfl, Nat.le_of_ble_eq_true rfl⟩) ⟨fun a U g mk q => by obtain ⟨q0, q1, qP, qK, qM, qE⟩ := q; exact ⟨q0, q1, qP, va_K.moved (u := U) (U := U.calling g mk a) (Vm.Alike.refl U.vm) qK, qM, xX_call qE⟩, va_recv hK hP (ci := 9) (q0 := 0) rfl ((fw_get (by decide)).trans (by rw [sE_0]; rfl)), fun U hU hW => ⟨rfl, by rw [hU], by rw [hU]; exact hP, va_K.moved hW.alike hK, xM_warm hW hM, xX_at hEx hS (fun q h => fA_le hS.1 q h) hU hW⟩⟩ rfl rfl hl.1 rfl (lv_room (Nat.le_of_ble_eq_true rfl)) dX9_alike_15 ⟨Nat.le_of_ble_eq_true rfl, Nat.le_of_ble_eq_true rfl⟩) hS (fun q _ h => fA_le hS.1 q h) (fA_le hS.1) (fun q _ h => fA_le hS.1 q h) (fun E9 ce9 q9 u9 t9 H1 locs ht9 hvm9 hpx9 hBX9 hz9 hk9 hS hce9 hcv9 hcl9 => ?_) (fun u9 t9 H1 locs ht9 hvm9 hw9 hB9 hz9 hk9 hS => hw9.elim)
      obtain ⟨hE9, hP9, hK9⟩ := hBX9
      exact vx_out (fun x hx9 => (hnt x hx9).elim) hlocks hce9 hcv9 hcl9 (fun t8 ht8 hW8 => ⟨u9, (by
                    show CI T u9 ∧ SZ μ u9
                    exact CZ_thr hI hpx9), ⟨hE9, by rw [ht8, ← ht9]; exact hP9, va_K.moved hW8 hK⟩, hS.F ht8⟩) hS.2.2 (Nat.le_of_ble_eq_true rfl) (Nat.le_of_ble_eq_true rfl)
  · refine vx_callv (vx_runV (As := [.ref (h0 + 6), .int (iZ (nd))]) (rest := []) ⟨hx, hb, hml, hown, hts⟩ (x_needNode l hfl dC dI cI cZ cII cIII h0 s.heap.size μ (6) (1100) (nd) (rowB_6) (by first | assumption | omega | exact CI_lc hI | exact CI_cn hI | exact (CI_n6 hI).1 | decide) (by first | assumption | (first | ((try clear hn6_); (try clear hlc); (try clear hsz); (try clear hnt); (try clear s₁); omega) | omega) | exact CI_lc hI | exact CI_cn hI | exact (CI_n6 hI).1 | decide) (hn6_)) (cwV 2 hts (gV_G k914 k916 ks_yX9_needNode k1 k917) rfl rfl rfl (by decide +kernel) ⟨Nat.le_of_ble_eq_true rfl, Nat.le_of_ble_eq_true rfl⟩) ⟨fun a U g mk q => by obtain ⟨q0, q1, qP, qK, qM, qE⟩ := q; exact ⟨q0, q1, qP, va_K.moved (u := U) (U := U.calling g mk a) (Vm.Alike.refl U.vm) qK, qM, xX_call qE⟩, va_recv hK hP (ci := 9) (q0 := 0) rfl ((fw_get (by decide)).trans (by rw [sE_0]; rfl)), fun U hU hW => ⟨rfl, by rw [hU], by rw [hU]; exact hP, va_K.moved hW.alike hK, xM_warm hW hM, xX_at hEx hS (fun q h => fA_le hS.1 q h) hU hW⟩⟩ rfl rfl hl.1 rfl (lv_room (Nat.le_of_ble_eq_true rfl)) dX9_alike_6 ⟨Nat.le_of_ble_eq_true rfl, Nat.le_of_ble_eq_true rfl⟩) hS (fun q _ h => fA_le hS.1 q h) (fA_le hS.1) (fun q _ h => fA_le hS.1 q h) (fun E9 ce9 q9 u9 t9 H1 locs ht9 hvm9 hpx9 hBX9 hz9 hk9 hS hce9 hcv9 hcl9 => ?_) (fun u9 t9 H1 locs ht9 hvm9 hw9 hB9 hz9 hk9 hS => hw9.elim)
    obtain ⟨hE9, hP9, hK9⟩ := hBX9
    exact vx_out (fun x hx9 => (hnt x hx9).elim) hlocks hce9 hcv9 hcl9 (fun t8 ht8 hW8 => ⟨u9, (by
                show CI T u9 ∧ SZ μ u9
                exact CZ_thr hI hpx9), ⟨hE9, by rw [ht8, ← ht9]; exact hP9, va_K.moved hW8 hK⟩, hS.F ht8⟩) hS.2.2 (Nat.le_of_ble_eq_true rfl) (Nat.le_of_ble_eq_true rfl)


/-! public methods: page, and those that go through tokens: the pages stay -/
set_option maxHeartbeats 4000000 in
set_option maxRecDepth 100000 in
theorem q_tokenOf (l : Launch) (hfl : l.stackTraces = false) (dC : Nat → ClassId) (dI : Nat → Nat → Nat) (cI cZ cII cIII : ClassId) (h0 sz : Nat) (μ : va_M) (tk : Int) (wh : Int) (T : List Tk) (hI : CI T μ) (h_tk : inR tk) (h_wh : inR wh) : vx_Met l yX9_tokenOf (Cond.code yX9_tokenOf cX9_tokenOf 3 (some .int) :: wsG) ({ frames := 7, cells := 1, slots := 6, locals := 110 } : Room) (va_Pc [.ref h0, .int (iZ (tk)), .int (iZ (wh))] (fun U => U.heap.size = sz ∧ va_P (dC, dI) vwCl (fw (sE cI cZ cII cIII h0) h0 233 μ) U.heap ∧ va_K (dC, dI) vwCl (sT cI cZ cII cIII) U ∧ xM U ∧ xX (fA h0 233 sz) U)) (va_Qi (fun (r9 : Int32) (u : va_M × Int) => r9 = iZ u.2 ∧ (fun (u : va_M) (r : Int) => CI T u ∧ SZ μ u) u.1 u.2) (fun u t => va_P (dC, dI) vwCl (fw (sE cI cZ cII cIII h0) h0 233 u.1) t.heap ∧ va_K (dC, dI) vwCl (sT cI cZ cII cIII) t) (fA h0 233 sz)) (vx_X (fun (u : va_M) => CI T u ∧ SZ μ u) (fun E u t => E ∈ (["java/util/NoSuchElementException", "java/lang/IllegalArgumentException"] : List String) ∧ va_P (dC, dI) vwCl (fw (sE cI cZ cII cIII h0) h0 233 u) t.heap ∧ va_K (dC, dI) vwCl (sT cI cZ cII cIII) t) (fA h0 233 sz)) 1 6 (fA h0 233 sz) := by
  refine vx_ofW (cc := cX9_tokenOf) (maxL := 3) (ret := (some .int)) (by decide) rfl ?_
  intro p e s m args below meth c s₁ B hml hnt hv
  obtain ⟨rfl, hsz, hP, hK, hM, hEx⟩ := hv
  have hx := B.exec
  have hb := B.bytes
  have hr := B.returns
  have hts : ∀ w ∈ wsG, w.before _ s = true := hG_of (atoms_spec (ws := (Cond.code yX9_tokenOf cX9_tokenOf 3 (some .int) :: wsG)) B.pre)
  have hown : s.vm.findClass RX9 = some m.cls := findClass_of_methodNamed B.named
  have hlocks := B.notSynchronized
  subst hsz
  have hS : va_S (fA h0 233 s.heap.size) s.heap s.heap [] := va_S.rf
  have hl := lv_entry ([.ref h0, .int (iZ (tk)), .int (iZ (wh))]) (n := 3) (Nat.le_of_ble_eq_true rfl)
  rw [lg_entry_eq]
  generalize (lg_sl ([.ref h0, .int (iZ (tk)), .int (iZ (wh))]) ++ List.replicate (3 - (lg_sl ([.ref h0, .int (iZ (tk)), .int (iZ (wh))])).length) Slot.unset).toArray = ls at hl ⊢
  have hl : lv_has ls 3 [(0, .ref h0), (1, .int (iZ (tk))), (2, .int (iZ (wh)))] := hl
  have ht13 := hI.1.1.1.1
  have hlc := CI_lc hI
  have h66 := CI_n6 hI
  refine lv_aload_n hx hb dX9_tokenOf_0 rfl (lv_at hl 0 rfl) ?_
  refine lv_iload_n hx hb dX9_tokenOf_1 rfl (lv_at hl 1 rfl) ?_
  refine fz_if_lt (tgt := 20) (by first | assumption | (constructor <;> omega) | decide) hx hb dX9_tokenOf_2 (by decide) (fun c2_ => ?_) (fun c2_ => ?_)
  · refine lv_iconst (v := iZ 0) hx hb dX9_tokenOf_20 rfl ?_
    refine vx_callv (vx_runV (As := [.int (iZ (0))]) (rest := []) ⟨hx, hb, hml, hown, hts⟩ (x_needElement l hfl dC dI cI cZ cII cIII h0 s.heap.size μ  ) (cwV 1 hts (gV_G k739 k741 ks_yX9_needElement k1 k742) rfl rfl rfl (by decide +kernel) ⟨Nat.le_of_ble_eq_true rfl, Nat.le_of_ble_eq_true rfl⟩) ⟨fun a U g mk q => by obtain ⟨q0, q1, qP, qK, qM, qE⟩ := q; exact ⟨q0, q1, qP, va_K.moved (u := U) (U := U.calling g mk a) (Vm.Alike.refl U.vm) qK, qM, xX_call qE⟩, va_recv hK hP (ci := 9) (q0 := 0) rfl ((fw_get (by decide)).trans (by rw [sE_0]; rfl)), fun U hU hW => ⟨rfl, by rw [hU], by rw [hU]; exact hP, va_K.moved hW.alike hK, xM_warm hW hM, xX_at hEx hS (fun q h => fA_le hS.1 q h) hU hW⟩⟩ rfl rfl hl.1 rfl (lv_room (Nat.le_of_ble_eq_true rfl)) dX9_tokenOf_21 ⟨Nat.le_of_ble_eq_true rfl, Nat.le_of_ble_eq_true rfl⟩) hS (fun q _ h => fA_le hS.1 q h) (fA_le hS.1) (fun q _ h => fA_le hS.1 q h) (fun E9 ce9 q9 u9 t9 H1 locs ht9 hvm9 hpx9 hBX9 hz9 hk9 hS hce9 hcv9 hcl9 => ?_) (fun u9 t9 H1 locs ht9 hvm9 hw9 hB9 hz9 hk9 hS => hw9.elim)
    obtain ⟨hE9, hP9, hK9⟩ := hBX9
    exact vx_out (fun x hx9 => (hnt x hx9).elim) hlocks hce9 hcv9 hcl9 (fun t8 ht8 hW8 => ⟨u9, (by
                show CI T u9 ∧ SZ μ u9
                exact CZ_thr hI hpx9), ⟨(show ∀ z ∈ (["java/util/NoSuchElementException"] : List String), z ∈ (["java/util/NoSuchElementException", "java/lang/IllegalArgumentException"] : List String) by decide +kernel) E9 hE9, by rw [ht8, ← ht9]; exact hP9, va_K.moved hW8 hK⟩, hS.F ht8⟩) hS.2.2 (Nat.le_of_ble_eq_true rfl) (Nat.le_of_ble_eq_true rfl)
  · refine lv_iload_n hx hb dX9_tokenOf_5 rfl (lv_at hl 1 rfl) ?_
    refine lv_aload_n hx hb dX9_tokenOf_6 rfl (lv_at hl 0 rfl) ?_
    refine fz_get (D := (dC, dI)) (ci := 9) (v := .ref (h0 + 1)) (C := RX9) (T := TX9) (N := 15) hx hb hts inG9 hown hK hP (k := 0) (by decide) (F := (sF0 h0)) sE_0 rfl 0 (by decide) (hts _ k332) (fun _ h9 => h9) rfl dX9_tokenOf_7 ?_
    refine fz_get (D := (dC, dI)) (ci := 5) (v := .int (iZ (μ 1 3))) (C := RX5) (T := TX5) (N := 8) hx hb hts inG5 hown hK hP (k := 1) (by decide) (F := (sF1 h0)) sE_1 rfl 3 (by decide) (hts _ k40) (fun _ h9 => h9) rfl dX9_tokenOf_10 ?_
    refine fz_icmp_ge (tgt := 20) (by first | assumption | (constructor <;> omega) | decide) (by first | assumption | (constructor <;> (first | ((try clear c2_); (try clear h66); (try clear hlc); (try clear hsz); (try clear hnt); (try clear s₁); omega) | omega)) | decide) hx hb dX9_tokenOf_13 (by decide) (fun c13_ => ?_) (fun c13_ => ?_)
    · refine lv_iconst (v := iZ 0) hx hb dX9_tokenOf_20 rfl ?_
      refine vx_callv (vx_runV (As := [.int (iZ (0))]) (rest := []) ⟨hx, hb, hml, hown, hts⟩ (x_needElement l hfl dC dI cI cZ cII cIII h0 s.heap.size μ  ) (cwV 1 hts (gV_G k739 k741 ks_yX9_needElement k1 k742) rfl rfl rfl (by decide +kernel) ⟨Nat.le_of_ble_eq_true rfl, Nat.le_of_ble_eq_true rfl⟩) ⟨fun a U g mk q => by obtain ⟨q0, q1, qP, qK, qM, qE⟩ := q; exact ⟨q0, q1, qP, va_K.moved (u := U) (U := U.calling g mk a) (Vm.Alike.refl U.vm) qK, qM, xX_call qE⟩, va_recv hK hP (ci := 9) (q0 := 0) rfl ((fw_get (by decide)).trans (by rw [sE_0]; rfl)), fun U hU hW => ⟨rfl, by rw [hU], by rw [hU]; exact hP, va_K.moved hW.alike hK, xM_warm hW hM, xX_at hEx hS (fun q h => fA_le hS.1 q h) hU hW⟩⟩ rfl rfl hl.1 rfl (lv_room (Nat.le_of_ble_eq_true rfl)) dX9_tokenOf_21 ⟨Nat.le_of_ble_eq_true rfl, Nat.le_of_ble_eq_true rfl⟩) hS (fun q _ h => fA_le hS.1 q h) (fA_le hS.1) (fun q _ h => fA_le hS.1 q h) (fun E9 ce9 q9 u9 t9 H1 locs ht9 hvm9 hpx9 hBX9 hz9 hk9 hS hce9 hcv9 hcl9 => ?_) (fun u9 t9 H1 locs ht9 hvm9 hw9 hB9 hz9 hk9 hS => hw9.elim)
      obtain ⟨hE9, hP9, hK9⟩ := hBX9
      exact vx_out (fun x hx9 => (hnt x hx9).elim) hlocks hce9 hcv9 hcl9 (fun t8 ht8 hW8 => ⟨u9, (by
                    show CI T u9 ∧ SZ μ u9
                    exact CZ_thr hI hpx9), ⟨(show ∀ z ∈ (["java/util/NoSuchElementException"] : List String), z ∈ (["java/util/NoSuchElementException", "java/lang/IllegalArgumentException"] : List String) by decide +kernel) E9 hE9, by rw [ht8, ← ht9]; exact hP9, va_K.moved hW8 hK⟩, hS.F ht8⟩) hS.2.2 (Nat.le_of_ble_eq_true rfl) (Nat.le_of_ble_eq_true rfl)
    · refine lv_iconst (v := iZ 1) hx hb dX9_tokenOf_16 rfl ?_
      refine lv_goto (tgt := 21) hx hb dX9_tokenOf_17 (by decide) ?_
      refine va_callv (va_runV (As := [.int (iZ (1))]) (rest := []) ⟨hx, hb, hml, hown, hts⟩ (s_needElement l dC dI cI cZ cII cIII h0 s.heap.size μ  ) (cwV 1 hts (gV_G k739 k741 ks_yX9_needElement k1 k742) rfl rfl rfl (by decide +kernel) ⟨Nat.le_of_ble_eq_true rfl, Nat.le_of_ble_eq_true rfl⟩) ⟨fun a U g mk q => by obtain ⟨q0, q1, qP, qK, qM⟩ := q; exact ⟨q0, q1, qP, va_K.moved (u := U) (U := U.calling g mk a) (Vm.Alike.refl U.vm) qK, qM⟩, va_recv hK hP (ci := 9) (q0 := 0) rfl ((fw_get (by decide)).trans (by rw [sE_0]; rfl)), fun U hU hW => ⟨rfl, by rw [hU], by rw [hU]; exact hP, va_K.moved hW.alike hK, xM_warm hW hM⟩⟩ rfl rfl hl.1 rfl (lv_room (Nat.le_of_ble_eq_true rfl)) dX9_tokenOf_21 ⟨Nat.le_of_ble_eq_true rfl, Nat.le_of_ble_eq_true rfl⟩) hS (fun q _ h => fA_le hS.1 q h) (fA_le hS.1) (fun u9 t9 H1 locs ht9 hvm9 hw9 hB9 hz9 hk9 hS => ?_)
      obtain ⟨hP, -⟩ := hB9
      rw [ht9] at hP
      generalize H1 = H at hP hS ⊢
      obtain ⟨μ1, eμ1⟩ : ∃ x : va_M, x = u9 := ⟨_, rfl⟩
      rw [← eμ1] at hP hw9
      have hμ1 := hw9; clear hw9
      rw [hμ1] at hP
      refine lv_aload_n hx hb dX9_tokenOf_24 rfl (lv_at hl 0 rfl) ?_
      refine lv_iload_n hx hb dX9_tokenOf_25 rfl (lv_at hl 2 rfl) ?_
      refine fz_if_lt (tgt := 39) (by first | assumption | (constructor <;> omega) | decide) hx hb dX9_tokenOf_26 (by decide) (fun c26_ => ?_) (fun c26_ => ?_)
      · refine lv_iconst (v := iZ 0) hx hb dX9_tokenOf_39 rfl ?_
        refine vx_callv (vx_runV (As := [.int (iZ (0))]) (rest := []) ⟨hx, hb, hml, hown, hts⟩ (x_needArgument l hfl dC dI cI cZ cII cIII h0 H.size μ  ) (cwV 1 hts (gV_G k596 k598 ks_yX9_needArgument k1 k599) rfl rfl rfl (by decide +kernel) ⟨Nat.le_of_ble_eq_true rfl, Nat.le_of_ble_eq_true rfl⟩) ⟨fun a U g mk q => by obtain ⟨q0, q1, qP, qK, qM, qE⟩ := q; exact ⟨q0, q1, qP, va_K.moved (u := U) (U := U.calling g mk a) (Vm.Alike.refl U.vm) qK, qM, xX_call qE⟩, va_recv hK hP (ci := 9) (q0 := 0) rfl ((fw_get (by decide)).trans (by rw [sE_0]; rfl)), fun U hU hW => ⟨rfl, by rw [hU], by rw [hU]; exact hP, va_K.moved hW.alike hK, xM_warm hW hM, xX_at hEx hS (fun q h => fA_le hS.1 q h) hU hW⟩⟩ rfl rfl hl.1 rfl (lv_room (Nat.le_of_ble_eq_true rfl)) dX9_tokenOf_40 ⟨Nat.le_of_ble_eq_true rfl, Nat.le_of_ble_eq_true rfl⟩) hS (fun q _ h => fA_le hS.1 q h) (fA_le hS.1) (fun q _ h => fA_le hS.1 q h) (fun E9 ce9 q9 u9 t9 H1 locs ht9 hvm9 hpx9 hBX9 hz9 hk9 hS hce9 hcv9 hcl9 => ?_) (fun u9 t9 H1 locs ht9 hvm9 hw9 hB9 hz9 hk9 hS => hw9.elim)
        obtain ⟨hE9, hP9, hK9⟩ := hBX9
        exact vx_out (fun x hx9 => (hnt x hx9).elim) hlocks hce9 hcv9 hcl9 (fun t8 ht8 hW8 => ⟨u9, (by
                        show CI T u9 ∧ SZ μ u9
                        exact CZ_thr hI hpx9), ⟨(show ∀ z ∈ (["java/lang/IllegalArgumentException"] : List String), z ∈ (["java/util/NoSuchElementException", "java/lang/IllegalArgumentException"] : List String) by decide +kernel) E9 hE9, by rw [ht8, ← ht9]; exact hP9, va_K.moved hW8 hK⟩, hS.F ht8⟩) hS.2.2 (Nat.le_of_ble_eq_true rfl) (Nat.le_of_ble_eq_true rfl)
      · refine lv_iload_n hx hb dX9_tokenOf_29 rfl (lv_at hl 2 rfl) ?_
        refine lv_bipush (v := iZ 8) hx hb dX9_tokenOf_30 rfl ?_
        refine fz_icmp_gt (tgt := 39) (by first | assumption | (constructor <;> omega) | decide) (by decide) hx hb dX9_tokenOf_32 (by decide) (fun c32_ => ?_) (fun c32_ => ?_)
        · refine lv_iconst (v := iZ 0) hx hb dX9_tokenOf_39 rfl ?_
          refine vx_callv (vx_runV (As := [.int (iZ (0))]) (rest := []) ⟨hx, hb, hml, hown, hts⟩ (x_needArgument l hfl dC dI cI cZ cII cIII h0 H.size μ  ) (cwV 1 hts (gV_G k596 k598 ks_yX9_needArgument k1 k599) rfl rfl rfl (by decide +kernel) ⟨Nat.le_of_ble_eq_true rfl, Nat.le_of_ble_eq_true rfl⟩) ⟨fun a U g mk q => by obtain ⟨q0, q1, qP, qK, qM, qE⟩ := q; exact ⟨q0, q1, qP, va_K.moved (u := U) (U := U.calling g mk a) (Vm.Alike.refl U.vm) qK, qM, xX_call qE⟩, va_recv hK hP (ci := 9) (q0 := 0) rfl ((fw_get (by decide)).trans (by rw [sE_0]; rfl)), fun U hU hW => ⟨rfl, by rw [hU], by rw [hU]; exact hP, va_K.moved hW.alike hK, xM_warm hW hM, xX_at hEx hS (fun q h => fA_le hS.1 q h) hU hW⟩⟩ rfl rfl hl.1 rfl (lv_room (Nat.le_of_ble_eq_true rfl)) dX9_tokenOf_40 ⟨Nat.le_of_ble_eq_true rfl, Nat.le_of_ble_eq_true rfl⟩) hS (fun q _ h => fA_le hS.1 q h) (fA_le hS.1) (fun q _ h => fA_le hS.1 q h) (fun E9 ce9 q9 u9 t9 H1 locs ht9 hvm9 hpx9 hBX9 hz9 hk9 hS hce9 hcv9 hcl9 => ?_) (fun u9 t9 H1 locs ht9 hvm9 hw9 hB9 hz9 hk9 hS => hw9.elim)
          obtain ⟨hE9, hP9, hK9⟩ := hBX9
          exact vx_out (fun x hx9 => (hnt x hx9).elim) hlocks hce9 hcv9 hcl9 (fun t8 ht8 hW8 => ⟨u9, (by
                            show CI T u9 ∧ SZ μ u9
                            exact CZ_thr hI hpx9), ⟨(show ∀ z ∈ (["java/lang/IllegalArgumentException"] : List String), z ∈ (["java/util/NoSuchElementException", "java/lang/IllegalArgumentException"] : List String) by decide +kernel) E9 hE9, by rw [ht8, ← ht9]; exact hP9, va_K.moved hW8 hK⟩, hS.F ht8⟩) hS.2.2 (Nat.le_of_ble_eq_true rfl) (Nat.le_of_ble_eq_true rfl)
        · refine lv_iconst (v := iZ 1) hx hb dX9_tokenOf_35 rfl ?_
          refine lv_goto (tgt := 40) hx hb dX9_tokenOf_36 (by decide) ?_
          refine va_callv (va_runV (As := [.int (iZ (1))]) (rest := []) ⟨hx, hb, hml, hown, hts⟩ (s_needArgument l dC dI cI cZ cII cIII h0 H.size μ  ) (cwV 1 hts (gV_G k596 k598 ks_yX9_needArgument k1 k599) rfl rfl rfl (by decide +kernel) ⟨Nat.le_of_ble_eq_true rfl, Nat.le_of_ble_eq_true rfl⟩) ⟨fun a U g mk q => by obtain ⟨q0, q1, qP, qK, qM⟩ := q; exact ⟨q0, q1, qP, va_K.moved (u := U) (U := U.calling g mk a) (Vm.Alike.refl U.vm) qK, qM⟩, va_recv hK hP (ci := 9) (q0 := 0) rfl ((fw_get (by decide)).trans (by rw [sE_0]; rfl)), fun U hU hW => ⟨rfl, by rw [hU], by rw [hU]; exact hP, va_K.moved hW.alike hK, xM_warm hW hM⟩⟩ rfl rfl hl.1 rfl (lv_room (Nat.le_of_ble_eq_true rfl)) dX9_tokenOf_40 ⟨Nat.le_of_ble_eq_true rfl, Nat.le_of_ble_eq_true rfl⟩) hS (fun q _ h => fA_le hS.1 q h) (fA_le hS.1) (fun u9 t9 H1 locs ht9 hvm9 hw9 hB9 hz9 hk9 hS => ?_)
          obtain ⟨hP, -⟩ := hB9
          rw [ht9] at hP
          generalize H1 = H at hP hS ⊢
          obtain ⟨μ2, eμ2⟩ : ∃ x : va_M, x = u9 := ⟨_, rfl⟩
          rw [← eμ2] at hP hw9
          have hμ2 := hw9; clear hw9
          rw [hμ2] at hP
          have kb := key_b hI tk (by (first | ((try clear kb); (try clear hμ2); (try clear x); (try clear eμ2); (try clear μ2); (try clear hz9); (try clear c32_); (try clear c26_); (try clear hμ1); (try clear eμ1); (try clear μ1); (try clear c13_); (try clear h66); (try clear hlc); (try clear ht13); (try clear hsz); (try clear hnt); (try clear s₁); omega) | omega)) (by (first | ((try clear kb); (try clear hμ2); (try clear x); (try clear eμ2); (try clear μ2); (try clear hz9); (try clear c32_); (try clear c26_); (try clear hμ1); (try clear eμ1); (try clear μ1); (try clear c2_); (try clear h66); (try clear hlc); (try clear ht13); (try clear hsz); (try clear hnt); (try clear s₁); omega) | omega))
          refine lv_iload_n hx hb dX9_tokenOf_43 rfl (lv_at hl 2 rfl) ?_
          by_cases hc44_0 : wh = 0
          · refine lv_lookup (tgt := 80) (off := 36) hx hb dX9_tokenOf_44 (by decide) (by rw [iZ_toInt (by first | assumption | (constructor <;> omega) | decide), hc44_0]; decide) (by decide) ?_
            refine lv_aload_n hx hb dX9_tokenOf_80 rfl (lv_at hl 0 rfl) ?_
            refine fz_get (D := (dC, dI)) (ci := 9) (v := .ref (h0 + 1)) (C := RX9) (T := TX9) (N := 15) hx hb hts inG9 hown hK hP (k := 0) (by decide) (F := (sF0 h0)) sE_0 rfl 0 (by decide) (hts _ k332) (fun _ h9 => h9) rfl dX9_tokenOf_81 ?_
            refine lv_iload_n hx hb dX9_tokenOf_84 rfl (lv_at hl 1 rfl) ?_
            refine va_calli (va_runV (As := [.int (iZ (tk))]) (rest := []) ⟨hx, hb, hml, hown, hts⟩ (s_XsortOf l dC dI cI cZ cII cIII h0 H.size μ (tk) (by first | assumption | (first | ((try clear hc44_0); (try clear hμ2); (try clear x); (try clear eμ2); (try clear μ2); (try clear hz9); (try clear c32_); (try clear c26_); (try clear hμ1); (try clear eμ1); (try clear μ1); (try clear c13_); (try clear h66); (try clear hlc); (try clear ht13); (try clear hsz); (try clear hnt); (try clear s₁); omega) | omega) | exact CI_lc hI | exact CI_cn hI | exact (CI_n6 hI).1 | decide) (by (first | ((try clear hc44_0); (try clear hμ2); (try clear x); (try clear eμ2); (try clear μ2); (try clear hz9); (try clear c32_); (try clear c26_); (try clear hμ1); (try clear eμ1); (try clear μ1); (try clear c13_); (try clear c2_); (try clear h66); (try clear hlc); (try clear ht13); (try clear hsz); (try clear hnt); (try clear s₁); omega) | omega))) (cwV 1 hts (gV_G k889 k717 k718 k2 k719) rfl rfl rfl (by decide +kernel) ⟨Nat.le_of_ble_eq_true rfl, Nat.le_of_ble_eq_true rfl⟩) ⟨fun a U g mk q => by obtain ⟨q0, q1, qP, qK, qM⟩ := q; exact ⟨q0, q1, qP, va_K.moved (u := U) (U := U.calling g mk a) (Vm.Alike.refl U.vm) qK, qM⟩, va_recv hK hP (ci := 5) (q0 := 1) rfl ((fw_get (by decide)).trans (by rw [sE_1])), fun U hU hW => ⟨rfl, by rw [hU], by rw [hU]; exact hP, va_K.moved hW.alike hK, xM_warm hW hM⟩⟩ rfl rfl hl.1 rfl (lv_room (Nat.le_of_ble_eq_true rfl)) dX9_tokenOf_85 ⟨Nat.le_of_ble_eq_true rfl, Nat.le_of_ble_eq_true rfl⟩) hS (fun q _ h => fA_le hS.1 q h) (fA_le hS.1) (fun r9 u9 t9 H1 locs ht9 hvm9 hw9 hB9 hz9 hk9 hS => ?_)
            obtain ⟨μ3, r4⟩ := u9
            obtain ⟨hP, -⟩ := hB9
            rw [ht9] at hP
            generalize H1 = H at hP hS ⊢
            obtain ⟨e9, hw9⟩ := hw9
            have e9 : r9 = iZ r4 := e9
            subst e9
            simp only at hP hw9
            have hμ3 := hw9; clear hw9
            rw [hμ3.1] at hP; have hμ3 := hμ3.2
            exact W_widen (Nat.le_of_ble_eq_true rfl) (Nat.le_of_ble_eq_true rfl) (vx_ret (W.iret (v := iZ (r4)) hx hb hr (fun t9 ht9 hW9 => ⟨⟨iZ (r4), (μ, r4), rfl, ⟨rfl, (by
                                dsimp only
                                exact ⟨hI, SZ_rf⟩)⟩, by rw [ht9]; exact hP, va_K.moved hW9.alike hK⟩, hS.F ht9⟩) hS.2.2 dX9_tokenOf_88))
          · skip
            by_cases hc44_1 : wh = 1
            · refine lv_lookup (tgt := 89) (off := 45) hx hb dX9_tokenOf_44 (by decide) (by rw [iZ_toInt (by first | assumption | (constructor <;> omega) | decide), hc44_1]; decide) (by decide) ?_
              refine lv_aload_n hx hb dX9_tokenOf_89 rfl (lv_at hl 0 rfl) ?_
              refine fz_get (D := (dC, dI)) (ci := 9) (v := .ref (h0 + 1)) (C := RX9) (T := TX9) (N := 15) hx hb hts inG9 hown hK hP (k := 0) (by decide) (F := (sF0 h0)) sE_0 rfl 0 (by decide) (hts _ k332) (fun _ h9 => h9) rfl dX9_tokenOf_90 ?_
              refine lv_iload_n hx hb dX9_tokenOf_93 rfl (lv_at hl 1 rfl) ?_
              refine va_calli (va_runV (As := [.int (iZ (tk))]) (rest := []) ⟨hx, hb, hml, hown, hts⟩ (s_XlettersOf l dC dI cI cZ cII cIII h0 H.size μ (tk) (by first | assumption | (first | ((try clear hc44_1); (try clear hc44_0); (try clear hμ2); (try clear x); (try clear eμ2); (try clear μ2); (try clear hz9); (try clear c32_); (try clear c26_); (try clear hμ1); (try clear eμ1); (try clear μ1); (try clear c13_); (try clear h66); (try clear hlc); (try clear ht13); (try clear hsz); (try clear hnt); (try clear s₁); omega) | omega) | exact CI_lc hI | exact CI_cn hI | exact (CI_n6 hI).1 | decide) (by (first | ((try clear hc44_1); (try clear hc44_0); (try clear hμ2); (try clear x); (try clear eμ2); (try clear μ2); (try clear hz9); (try clear c32_); (try clear c26_); (try clear hμ1); (try clear eμ1); (try clear μ1); (try clear c13_); (try clear c2_); (try clear h66); (try clear hlc); (try clear ht13); (try clear hsz); (try clear hnt); (try clear s₁); omega) | omega))) (cwV 1 hts (gV_G k890 k891 k892 k2 k893) rfl rfl rfl (by decide +kernel) ⟨Nat.le_of_ble_eq_true rfl, Nat.le_of_ble_eq_true rfl⟩) ⟨fun a U g mk q => by obtain ⟨q0, q1, qP, qK, qM⟩ := q; exact ⟨q0, q1, qP, va_K.moved (u := U) (U := U.calling g mk a) (Vm.Alike.refl U.vm) qK, qM⟩, va_recv hK hP (ci := 5) (q0 := 1) rfl ((fw_get (by decide)).trans (by rw [sE_1])), fun U hU hW => ⟨rfl, by rw [hU], by rw [hU]; exact hP, va_K.moved hW.alike hK, xM_warm hW hM⟩⟩ rfl rfl hl.1 rfl (lv_room (Nat.le_of_ble_eq_true rfl)) dX9_tokenOf_94 ⟨Nat.le_of_ble_eq_true rfl, Nat.le_of_ble_eq_true rfl⟩) hS (fun q _ h => fA_le hS.1 q h) (fA_le hS.1) (fun r9 u9 t9 H1 locs ht9 hvm9 hw9 hB9 hz9 hk9 hS => ?_)
              obtain ⟨μ5, r6⟩ := u9
              obtain ⟨hP, -⟩ := hB9
              rw [ht9] at hP
              generalize H1 = H at hP hS ⊢
              obtain ⟨e9, hw9⟩ := hw9
              have e9 : r9 = iZ r6 := e9
              subst e9
              simp only at hP hw9
              have hμ5 := hw9; clear hw9
              rw [hμ5.1] at hP; have hμ5 := hμ5.2
              exact W_widen (Nat.le_of_ble_eq_true rfl) (Nat.le_of_ble_eq_true rfl) (vx_ret (W.iret (v := iZ (r6)) hx hb hr (fun t9 ht9 hW9 => ⟨⟨iZ (r6), (μ, r6), rfl, ⟨rfl, (by
                                    dsimp only
                                    exact ⟨hI, SZ_rf⟩)⟩, by rw [ht9]; exact hP, va_K.moved hW9.alike hK⟩, hS.F ht9⟩) hS.2.2 dX9_tokenOf_97))
            · skip
              by_cases hc44_8 : wh = 8
              · refine lv_lookup (tgt := 98) (off := 54) hx hb dX9_tokenOf_44 (by decide) (by rw [iZ_toInt (by first | assumption | (constructor <;> omega) | decide), hc44_8]; decide) (by decide) ?_
                refine lv_aload_n hx hb dX9_tokenOf_98 rfl (lv_at hl 0 rfl) ?_
                refine lv_iload_n hx hb dX9_tokenOf_99 rfl (lv_at hl 1 rfl) ?_
                refine va_calli (va_runV (As := [.int (iZ (tk))]) (rest := []) ⟨hx, hb, hml, hown, hts⟩ (s_pagesWith l dC dI cI cZ cII cIII h0 H.size μ (T) (tk) (by exact hI) (by first | assumption | omega | exact CI_lc hI | exact CI_cn hI | exact (CI_n6 hI).1 | decide)) (cwV 1 hts (gV_G k894 k896 ks_yX9_pagesWith k1 k897) rfl rfl rfl (by decide +kernel) ⟨Nat.le_of_ble_eq_true rfl, Nat.le_of_ble_eq_true rfl⟩) ⟨fun a U g mk q => by obtain ⟨q0, q1, qP, qK, qM⟩ := q; exact ⟨q0, q1, qP, va_K.moved (u := U) (U := U.calling g mk a) (Vm.Alike.refl U.vm) qK, qM⟩, va_recv hK hP (ci := 9) (q0 := 0) rfl ((fw_get (by decide)).trans (by rw [sE_0]; rfl)), fun U hU hW => ⟨rfl, by rw [hU], by rw [hU]; exact hP, va_K.moved hW.alike hK, xM_warm hW hM⟩⟩ rfl rfl hl.1 rfl (lv_room (Nat.le_of_ble_eq_true rfl)) dX9_tokenOf_100 ⟨Nat.le_of_ble_eq_true rfl, Nat.le_of_ble_eq_true rfl⟩) hS (fun q _ h => fA_le hS.1 q h) (fA_le hS.1) (fun r9 u9 t9 H1 locs ht9 hvm9 hw9 hB9 hz9 hk9 hS => ?_)
                obtain ⟨μ7, r8⟩ := u9
                obtain ⟨hP, -⟩ := hB9
                rw [ht9] at hP
                generalize H1 = H at hP hS ⊢
                obtain ⟨e9, hw9⟩ := hw9
                have e9 : r9 = iZ r8 := e9
                subst e9
                simp only at hP hw9
                have hμ7 := hw9; clear hw9
                rw [hμ7] at hP
                exact W_widen (Nat.le_of_ble_eq_true rfl) (Nat.le_of_ble_eq_true rfl) (vx_ret (W.iret (v := iZ (r8)) hx hb hr (fun t9 ht9 hW9 => ⟨⟨iZ (r8), (μ, r8), rfl, ⟨rfl, (by
                                        dsimp only
                                        exact ⟨hI, SZ_rf⟩)⟩, by rw [ht9]; exact hP, va_K.moved hW9.alike hK⟩, hS.F ht9⟩) hS.2.2 dX9_tokenOf_103))
              · skip
                refine lv_lookup (tgt := 104) (off := 60) hx hb dX9_tokenOf_44 (by decide) (by rw [iZ_toInt (by first | assumption | (constructor <;> omega) | decide)]; show (if (0 : Int) = wh then 36 else (if (1 : Int) = wh then 45 else (if (8 : Int) = wh then 54 else 60))) = _; rw [if_neg (by (first | ((try clear kb); (try clear hμ2); (try clear x); (try clear eμ2); (try clear μ2); (try clear hz9); (try clear c32_); (try clear c26_); (try clear hμ1); (try clear eμ1); (try clear μ1); (try clear c13_); (try clear c2_); (try clear h66); (try clear hlc); (try clear ht13); (try clear hsz); (try clear hnt); (try clear s₁); omega) | omega)), if_neg (by (first | ((try clear hc44_0); (try clear kb); (try clear hμ2); (try clear x); (try clear eμ2); (try clear μ2); (try clear hz9); (try clear c32_); (try clear c26_); (try clear hμ1); (try clear eμ1); (try clear μ1); (try clear c13_); (try clear c2_); (try clear h66); (try clear hlc); (try clear ht13); (try clear hsz); (try clear hnt); (try clear s₁); omega) | omega)), if_neg (by (first | ((try clear hc44_1); (try clear hc44_0); (try clear kb); (try clear hμ2); (try clear x); (try clear eμ2); (try clear μ2); (try clear hz9); (try clear c32_); (try clear c26_); (try clear hμ1); (try clear eμ1); (try clear μ1); (try clear c13_); (try clear c2_); (try clear h66); (try clear hlc); (try clear ht13); (try clear hsz); (try clear hnt); (try clear s₁); omega) | omega))]) (by decide) ?_
                refine lv_aload_n hx hb dX9_tokenOf_104 rfl (lv_at hl 0 rfl) ?_
                refine fz_get (D := (dC, dI)) (ci := 9) (v := .ref (h0 + 1)) (C := RX9) (T := TX9) (N := 15) hx hb hts inG9 hown hK hP (k := 0) (by decide) (F := (sF0 h0)) sE_0 rfl 0 (by decide) (hts _ k332) (fun _ h9 => h9) rfl dX9_tokenOf_105 ?_
                refine lv_iload_n hx hb dX9_tokenOf_108 rfl (lv_at hl 1 rfl) ?_
                refine lv_iload_n hx hb dX9_tokenOf_109 rfl (lv_at hl 2 rfl) ?_
                refine lv_iconst (v := iZ 2) hx hb dX9_tokenOf_110 rfl ?_
                refine lv_isub hx hb dX9_tokenOf_111 ?_
                refine lv_topi (fun x9 ex9 => ?_)
                obtain rfl : x9 = iZ (wh - 2) := ex9.trans (iZ_sub _ _)
                refine va_calli (va_runV (As := [.int (iZ (tk)), .int (iZ (wh - 2))]) (rest := []) ⟨hx, hb, hml, hown, hts⟩ (s_XletterOf l dC dI cI cZ cII cIII h0 H.size μ (tk) (wh - 2) (by first | assumption | (first | ((try clear ex9); (try clear hc44_8); (try clear hc44_1); (try clear hc44_0); (try clear hμ2); (try clear x); (try clear eμ2); (try clear μ2); (try clear hz9); (try clear c32_); (try clear c26_); (try clear hμ1); (try clear eμ1); (try clear μ1); (try clear c13_); (try clear h66); (try clear hlc); (try clear ht13); (try clear hsz); (try clear hnt); (try clear s₁); omega) | omega) | exact CI_lc hI | exact CI_cn hI | exact (CI_n6 hI).1 | decide) (by (first | ((try clear ex9); (try clear hc44_8); (try clear hc44_1); (try clear hc44_0); (try clear hμ2); (try clear x); (try clear eμ2); (try clear μ2); (try clear hz9); (try clear c32_); (try clear c26_); (try clear hμ1); (try clear eμ1); (try clear μ1); (try clear c13_); (try clear c2_); (try clear h66); (try clear hlc); (try clear ht13); (try clear hsz); (try clear hnt); (try clear s₁); omega) | omega)) (by first | assumption | (first | ((try clear ex9); (try clear kb); (try clear hμ2); (try clear x); (try clear eμ2); (try clear μ2); (try clear hz9); (try clear hμ1); (try clear eμ1); (try clear μ1); (try clear c13_); (try clear c2_); (try clear h66); (try clear hlc); (try clear ht13); (try clear hsz); (try clear hnt); (try clear s₁); omega) | omega) | exact CI_lc hI | exact CI_cn hI | exact (CI_n6 hI).1 | decide)) (cwV 2 hts (gV_G k902 k903 k904 k2 k905) rfl rfl rfl (by decide +kernel) ⟨Nat.le_of_ble_eq_true rfl, Nat.le_of_ble_eq_true rfl⟩) ⟨fun a U g mk q => by obtain ⟨q0, q1, qP, qK, qM⟩ := q; exact ⟨q0, q1, qP, va_K.moved (u := U) (U := U.calling g mk a) (Vm.Alike.refl U.vm) qK, qM⟩, va_recv hK hP (ci := 5) (q0 := 1) rfl ((fw_get (by decide)).trans (by rw [sE_1])), fun U hU hW => ⟨rfl, by rw [hU], by rw [hU]; exact hP, va_K.moved hW.alike hK, xM_warm hW hM⟩⟩ rfl rfl hl.1 rfl (lv_room (Nat.le_of_ble_eq_true rfl)) dX9_tokenOf_112 ⟨Nat.le_of_ble_eq_true rfl, Nat.le_of_ble_eq_true rfl⟩) hS (fun q _ h => fA_le hS.1 q h) (fA_le hS.1) (fun r9 u9 t9 H1 locs ht9 hvm9 hw9 hB9 hz9 hk9 hS => ?_)
                obtain ⟨μ10, r11⟩ := u9
                obtain ⟨hP, -⟩ := hB9
                rw [ht9] at hP
                generalize H1 = H at hP hS ⊢
                obtain ⟨e9, hw9⟩ := hw9
                have e9 : r9 = iZ r11 := e9
                subst e9
                simp only at hP hw9
                have hμ10 := hw9; clear hw9
                rw [hμ10] at hP
                exact W_widen (Nat.le_of_ble_eq_true rfl) (Nat.le_of_ble_eq_true rfl) (vx_ret (W.iret (v := iZ (r11)) hx hb hr (fun t9 ht9 hW9 => ⟨⟨iZ (r11), (μ, r11), rfl, ⟨rfl, (by
                                        dsimp only
                                        exact ⟨hI, SZ_rf⟩)⟩, by rw [ht9]; exact hP, va_K.moved hW9.alike hK⟩, hS.F ht9⟩) hS.2.2 dX9_tokenOf_115))
set_option maxHeartbeats 4000000 in
set_option maxRecDepth 100000 in
theorem LX9_value_51z {p : Program} {l : Launch} {e : Env} {R : Room} {s : State} {m : MethodId} {args : Array Value} {below : List Frame} {meth : Method} {c : Code} {cells slots : Nat} {Q : State → Prop} {dC : Nat → ClassId} {dI : Nat → Nat → Nat} {h0 : Nat} {cI cZ cII cIII : ClassId} (hx : p.tables.exec = Jvm.exec) (hb : c.code = cX9_value) (hml : c.maxLocals = 7) (hown : s.vm.findClass RX9 = some m.cls) (hts : ∀ w ∈ wsG, w.before args s = true) (hK : va_K (dC, dI) vwCl (sT cI cZ cII cIII) s) (hM : xM s) (hRf : 8 ≤ R.frames) (hRl : 163 ≤ R.locals) (hRc : cells ≤ R.cells) (hRs : slots ≤ R.slots) (μ0 : va_M) (T : List Tk) (pg : Int) (nd : Int) (kn : Int) (hI : CI T μ0) (hpg : 0 ≤ pg ∧ pg < 8) (hnr : inR nd) (hkr : inR kn) (hexit83 : ∀ (i : Int) (be : Int) (μ : va_M) (H : Heap) (locs : List Loc) (ls : Array Slot), (μ = μ0) → (0 ≤ i ∧ i < 60) → va_P (dC, dI) vwCl (fw (sE cI cZ cII cIII h0) h0 233 μ) H → va_S (fA h0 233 s.heap.size) s.heap H locs → lv_has ls 7 [(6, .int (iZ (i))), (1, .int (iZ (pg))), (0, .ref h0)] → W p l e R s m args below meth c H locs cells slots Q (F0 m 83 ls [])) (hexit105 : ∀ (i : Int) (be : Int) (μ : va_M) (H : Heap) (locs : List Loc) (ls : Array Slot), (μ = μ0) → va_P (dC, dI) vwCl (fw (sE cI cZ cII cIII h0) h0 233 μ) H → va_S (fA h0 233 s.heap.size) s.heap H locs → lv_has ls 7 [] → W p l e R s m args below meth c H locs cells slots Q (F0 m 105 ls [])) :
    ∀ (n9 : Nat) (i : Int) (be : Int) (μ : va_M) (H : Heap) (locs : List Loc) (ls : Array Slot), (μ = μ0) → (0 ≤ i ∧ i ≤ 60 ∧ 0 ≤ be ∧ be ≤ i) → (61 - i).toNat < n9 → va_P (dC, dI) vwCl (fw (sE cI cZ cII cIII h0) h0 233 μ) H → va_S (fA h0 233 s.heap.size) s.heap H locs → lv_has ls 7 [(6, .int (iZ (i))), (5, .int (iZ (be))), (4, .ref (h0 + ((113 + (pg).toNat * 15) + 10))), (3, .int (iZ (kn))), (2, .int (iZ (nd))), (1, .int (iZ (pg))), (0, .ref h0)] → W p l e R s m args below meth c H locs cells slots Q (F0 m 51 ls []) := by
  intro n9
  induction n9 with
  | zero => intro i be μ H locs ls hm9_ hi hm9 hP hS hl; exact absurd hm9 (Nat.not_lt_zero _)
  | succ n9 ih =>
    intro i be μ H locs ls hm9_ hi hm9 hP hS hl
    subst hm9_
    obtain ⟨hl1, hl2⟩ := CI_lf hI pg (by (first | ((try clear hl2); (try clear hl1); (try clear hm9); (try clear hi); (try clear hm9_); (try clear hexit105); (try clear hexit83); (try clear hRs); (try clear hRc); (try clear hRl); (try clear hRf); omega) | omega)) (by (first | ((try clear hl2); (try clear hl1); (try clear hm9); (try clear hi); (try clear hm9_); (try clear hexit105); (try clear hexit83); (try clear hRs); (try clear hRc); (try clear hRl); (try clear hRf); omega) | omega))
    have hn9 := hl1.1.1
    have ht := hI.2 (113 + (pg).toNat * 15 + 11) i.toNat (by unfold Zc; (first | ((try clear ht); (try clear hn9); (try clear hl2); (try clear hl1); (try clear hm9); (try clear hi); (try clear hm9_); (try clear hexit105); (try clear hexit83); (try clear hpg); (try clear hRs); (try clear hRc); (try clear hRl); (try clear hRf); omega) | omega)) (by (first | ((try clear ht); (try clear hn9); (try clear hl2); (try clear hl1); (try clear hm9); (try clear hi); (try clear hm9_); (try clear hexit105); (try clear hexit83); (try clear hpg); (try clear hRs); (try clear hRc); (try clear hRl); (try clear hRf); omega) | omega))
    refine lv_iload hx hb dX9_value_51 (lv_at hl 0 rfl) ?_
    refine lv_aload_n hx hb dX9_value_53 rfl (lv_at hl 6 rfl) ?_
    refine fz_get (D := (dC, dI)) (ci := 9) (v := .ref (h0 + 5)) (C := RX9) (T := TX9) (N := 15) hx hb hts inG9 hown hK hP (k := 0) (by decide) (F := (sF0 h0)) sE_0 rfl 1 (by decide) (hts _ k333) (fun _ h9 => h9) rfl dX9_value_54 ?_
    refine lv_iload_n hx hb dX9_value_57 rfl (lv_at hl 5 rfl) ?_
    refine fz_ald (k := 5) (n := 8) (k2 := (113 + (pg).toNat * 15)) hx hb hK hP 1 rfl (by decide) sE_5 rfl ⟨by (first | ((try clear ht); (try clear hn9); (try clear hl2); (try clear hl1); (try clear hm9); (try clear hi); (try clear hm9_); (try clear hexit105); (try clear hexit83); (try clear hRs); (try clear hRc); (try clear hRl); (try clear hRf); omega) | omega), by (first | ((try clear ht); (try clear hn9); (try clear hl2); (try clear hl1); (try clear hm9); (try clear hi); (try clear hm9_); (try clear hexit105); (try clear hexit83); (try clear hRs); (try clear hRc); (try clear hRl); (try clear hRf); omega) | omega)⟩ (by decide) (if_pos (by (first | ((try clear ht); (try clear hn9); (try clear hl2); (try clear hl1); (try clear hm9); (try clear hi); (try clear hm9_); (try clear hexit105); (try clear hexit83); (try clear hRs); (try clear hRc); (try clear hRl); (try clear hRf); omega) | omega))) dX9_value_58 ?_
    refine fz_get (D := (dC, dI)) (ci := 1) (v := .int (iZ (μ (113 + (pg).toNat * 15) 2))) (C := RX1) (T := TX1) (N := 8) hx hb hts inG1 hown hK hP (k := (113 + (pg).toNat * 15)) (by (first | ((try clear ht); (try clear hn9); (try clear hl2); (try clear hl1); (try clear hm9); (try clear hi); (try clear hm9_); (try clear hexit105); (try clear hexit83); (try clear hRs); (try clear hRc); (try clear hRl); (try clear hRf); omega) | omega)) (F := (sLF h0 (113 + (pg).toNat * 15))) (sE_leafO (show (pg).toNat < 8 by (first | ((try clear ht); (try clear hn9); (try clear hl2); (try clear hl1); (try clear hm9); (try clear hi); (try clear hm9_); (try clear hexit105); (try clear hexit83); (try clear hRs); (try clear hRc); (try clear hRl); (try clear hRf); omega) | omega)) rfl) rfl 2 (by decide) (hts _ k301) (fun _ h9 => h9) rfl dX9_value_59 ?_
    refine fz_icmp_ge (tgt := 105) (by first | assumption | (constructor <;> (first | ((try clear ht); (try clear hn9); (try clear hl2); (try clear hl1); (try clear hm9); (try clear hm9_); (try clear hexit105); (try clear hexit83); (try clear hpg); (try clear hRs); (try clear hRc); (try clear hRl); (try clear hRf); omega) | omega)) | decide) (by first | assumption | (constructor <;> (first | ((try clear ht); (try clear hl2); (try clear hl1); (try clear hm9); (try clear hi); (try clear hm9_); (try clear hexit105); (try clear hexit83); (try clear hpg); (try clear hRs); (try clear hRc); (try clear hRl); (try clear hRf); omega) | omega)) | decide) hx hb dX9_value_62 (by decide) (fun c62_ => ?_) (fun c62_ => ?_)
    · exact hexit105 (i) (be) μ H locs ls (by rfl) hP hS (lv_sub hl [] rfl)
    · refine lv_aload hx hb dX9_value_65 (lv_at hl 2 rfl) ?_
      refine fz_get (D := (dC, dI)) (ci := 7) (v := .ref (h0 + ((113 + (pg).toNat * 15) + 11))) (C := RX7) (T := TX7) (N := 5) hx hb hts inG7 hown hK hP (k := ((113 + (pg).toNat * 15) + 10)) (by (first | ((try clear c62_); (try clear ht); (try clear hn9); (try clear hl2); (try clear hl1); (try clear hm9); (try clear hi); (try clear hm9_); (try clear hexit105); (try clear hexit83); (try clear hRs); (try clear hRc); (try clear hRl); (try clear hRf); omega) | omega)) (F := (sWF h0 (113 + (pg).toNat * 15))) (sE_walk (show (pg).toNat < 8 by (first | ((try clear c62_); (try clear ht); (try clear hn9); (try clear hl2); (try clear hl1); (try clear hm9); (try clear hi); (try clear hm9_); (try clear hexit105); (try clear hexit83); (try clear hRs); (try clear hRc); (try clear hRl); (try clear hRf); omega) | omega)) rfl) rfl 2 (by decide) (hts _ k278) (fun _ h9 => h9) rfl dX9_value_67 ?_
      refine lv_iload hx hb dX9_value_70 (lv_at hl 0 rfl) ?_
      refine fz_ld (k := ((113 + (pg).toNat * 15) + 11)) (n := 60) hx hb hK hP 0 (by (first | ((try clear c62_); (try clear ht); (try clear hn9); (try clear hl2); (try clear hl1); (try clear hm9); (try clear hi); (try clear hm9_); (try clear hexit105); (try clear hexit83); (try clear hRs); (try clear hRc); (try clear hRl); (try clear hRf); omega) | omega)) (sE_leafA 11 60 (show (pg).toNat < 8 by (first | ((try clear c62_); (try clear ht); (try clear hn9); (try clear hl2); (try clear hl1); (try clear hm9); (try clear hi); (try clear hm9_); (try clear hexit105); (try clear hexit83); (try clear hRs); (try clear hRc); (try clear hRl); (try clear hRf); omega) | omega)) rfl (by decide)) rfl ⟨by (first | ((try clear c62_); (try clear ht); (try clear hn9); (try clear hl2); (try clear hl1); (try clear hm9); (try clear hm9_); (try clear hexit105); (try clear hexit83); (try clear hpg); (try clear hRs); (try clear hRc); (try clear hRl); (try clear hRf); omega) | omega), by (first | ((try clear ht); (try clear hl2); (try clear hl1); (try clear hm9); (try clear hm9_); (try clear hexit105); (try clear hexit83); (try clear hpg); (try clear hRs); (try clear hRc); (try clear hRl); (try clear hRf); omega) | omega)⟩ (by decide) dX9_value_72 ?_
      refine lv_iload_n hx hb dX9_value_73 rfl (lv_at hl 4 rfl) ?_
      refine fz_icmp_ne (tgt := 99) (by first | assumption | (constructor <;> omega) | decide) (by first | assumption | (constructor <;> omega) | decide) hx hb dX9_value_74 (by decide) (fun c74_ => ?_) (fun c74_ => ?_)
      · refine lv_iinc (v := iZ (i + 1)) (lv' := [(6, .int (iZ (i + 1))), (5, .int (iZ (be))), (4, .ref (h0 + ((113 + (pg).toNat * 15) + 10))), (3, .int (iZ (kn))), (2, .int (iZ (nd))), (1, .int (iZ (pg))), (0, .ref h0)]) hx hb dX9_value_99 hl (k := 0) rfl (iZ_add _ _) (by decide) rfl (fun ls hl => ?_)
        refine lv_goto (tgt := 51) hx hb dX9_value_102 (by decide) ?_
        exact ih (i + 1) (be) μ H locs ls (by rfl) (by (first | ((try clear c74_); (try clear ht); (try clear hl2); (try clear hl1); (try clear hm9); (try clear hm9_); (try clear hexit105); (try clear hexit83); (try clear hpg); (try clear hRs); (try clear hRc); (try clear hRl); (try clear hRf); omega) | omega)) (by (first | ((try clear ht); (try clear hl2); (try clear hl1); (try clear hm9_); (try clear hexit105); (try clear hexit83); (try clear hpg); (try clear hRs); (try clear hRc); (try clear hRl); (try clear hRf); omega) | omega)) hP hS (lv_sub hl [0, 1, 2, 3, 4, 5, 6] rfl)
      · refine lv_iload hx hb dX9_value_77 (lv_at hl 1 rfl) ?_
        refine lv_iload_n hx hb dX9_value_79 rfl (lv_at hl 3 rfl) ?_
        refine fz_icmp_ne (tgt := 96) (by first | assumption | (constructor <;> (first | ((try clear c74_); (try clear ht); (try clear hl2); (try clear hl1); (try clear hm9); (try clear hm9_); (try clear hexit105); (try clear hexit83); (try clear hpg); (try clear hRs); (try clear hRc); (try clear hRl); (try clear hRf); omega) | omega)) | decide) (by first | assumption | (constructor <;> omega) | decide) hx hb dX9_value_80 (by decide) (fun c80_ => ?_) (fun c80_ => ?_)
        · refine lv_iinc (v := iZ (be + 1)) (lv' := [(5, .int (iZ (be + 1))), (6, .int (iZ (i))), (4, .ref (h0 + ((113 + (pg).toNat * 15) + 10))), (3, .int (iZ (kn))), (2, .int (iZ (nd))), (1, .int (iZ (pg))), (0, .ref h0)]) hx hb dX9_value_96 hl (k := 1) rfl (iZ_add _ _) (by decide) rfl (fun ls hl => ?_)
          refine lv_iinc (v := iZ (i + 1)) (lv' := [(6, .int (iZ (i + 1))), (5, .int (iZ (be + 1))), (4, .ref (h0 + ((113 + (pg).toNat * 15) + 10))), (3, .int (iZ (kn))), (2, .int (iZ (nd))), (1, .int (iZ (pg))), (0, .ref h0)]) hx hb dX9_value_99 hl (k := 1) rfl (iZ_add _ _) (by decide) rfl (fun ls hl => ?_)
          refine lv_goto (tgt := 51) hx hb dX9_value_102 (by decide) ?_
          exact ih (i + 1) (be + 1) μ H locs ls (by rfl) (by (first | ((try clear c80_); (try clear c74_); (try clear ht); (try clear hl2); (try clear hl1); (try clear hm9); (try clear hm9_); (try clear hexit105); (try clear hexit83); (try clear hpg); (try clear hRs); (try clear hRc); (try clear hRl); (try clear hRf); omega) | omega)) (by (first | ((try clear c74_); (try clear ht); (try clear hl2); (try clear hl1); (try clear hm9_); (try clear hexit105); (try clear hexit83); (try clear hpg); (try clear hRs); (try clear hRc); (try clear hRl); (try clear hRf); omega) | omega)) hP hS (lv_sub hl [0, 1, 2, 3, 4, 5, 6] rfl)
        · exact hexit83 (i) (be) μ H locs ls (by rfl) (by (first | ((try clear c80_); (try clear c74_); (try clear ht); (try clear hl2); (try clear hl1); (try clear hm9); (try clear hm9_); (try clear hexit105); (try clear hexit83); (try clear hpg); (try clear hRs); (try clear hRc); (try clear hRl); (try clear hRf); omega) | omega)) hP hS (lv_sub hl [0, 5, 6] rfl)
set_option maxHeartbeats 4000000 in
set_option maxRecDepth 100000 in
theorem q_value (l : Launch) (hfl : l.stackTraces = false) (dC : Nat → ClassId) (dI : Nat → Nat → Nat) (cI cZ cII cIII : ClassId) (h0 sz : Nat) (μ : va_M) (pg : Int) (nd : Int) (kn : Int) (T : List Tk) (hI : CI T μ) (h_pg : inR pg) (h_nd : inR nd) (h_kn : inR kn) : vx_Met l yX9_value (Cond.code yX9_value cX9_value 7 (some .int) :: wsG) ({ frames := 8, cells := 1, slots := 6, locals := 163 } : Room) (va_Pc [.ref h0, .int (iZ (pg)), .int (iZ (nd)), .int (iZ (kn))] (fun U => U.heap.size = sz ∧ va_P (dC, dI) vwCl (fw (sE cI cZ cII cIII h0) h0 233 μ) U.heap ∧ va_K (dC, dI) vwCl (sT cI cZ cII cIII) U ∧ xM U ∧ xX (fA h0 233 sz) U)) (va_Qi (fun (r9 : Int32) (u : va_M × Int) => r9 = iZ u.2 ∧ (fun (u : va_M) (r : Int) => CI T u ∧ SZ μ u) u.1 u.2) (fun u t => va_P (dC, dI) vwCl (fw (sE cI cZ cII cIII h0) h0 233 u.1) t.heap ∧ va_K (dC, dI) vwCl (sT cI cZ cII cIII) t) (fA h0 233 sz)) (vx_X (fun (u : va_M) => CI T u ∧ SZ μ u) (fun E u t => E ∈ (["java/util/NoSuchElementException"] : List String) ∧ va_P (dC, dI) vwCl (fw (sE cI cZ cII cIII h0) h0 233 u) t.heap ∧ va_K (dC, dI) vwCl (sT cI cZ cII cIII) t) (fA h0 233 sz)) 1 6 (fA h0 233 sz) := by
  refine vx_ofW (cc := cX9_value) (maxL := 7) (ret := (some .int)) (by decide) rfl ?_
  intro p e s m args below meth c s₁ B hml hnt hv
  obtain ⟨rfl, hsz, hP, hK, hM, hEx⟩ := hv
  have hx := B.exec
  have hb := B.bytes
  have hr := B.returns
  have hts : ∀ w ∈ wsG, w.before _ s = true := hG_of (atoms_spec (ws := (Cond.code yX9_value cX9_value 7 (some .int) :: wsG)) B.pre)
  have hown : s.vm.findClass RX9 = some m.cls := findClass_of_methodNamed B.named
  have hlocks := B.notSynchronized
  subst hsz
  have hS : va_S (fA h0 233 s.heap.size) s.heap s.heap [] := va_S.rf
  have hl := lv_entry ([.ref h0, .int (iZ (pg)), .int (iZ (nd)), .int (iZ (kn))]) (n := 7) (Nat.le_of_ble_eq_true rfl)
  rw [lg_entry_eq]
  generalize (lg_sl ([.ref h0, .int (iZ (pg)), .int (iZ (nd)), .int (iZ (kn))]) ++ List.replicate (7 - (lg_sl ([.ref h0, .int (iZ (pg)), .int (iZ (nd)), .int (iZ (kn))])).length) Slot.unset).toArray = ls at hl ⊢
  have hl : lv_has ls 7 [(0, .ref h0), (1, .int (iZ (pg))), (2, .int (iZ (nd))), (3, .int (iZ (kn)))] := hl
  have hlc := CI_lc hI
  have h66 := CI_n6 hI
  refine lv_aload_n hx hb dX9_value_0 rfl (lv_at hl 0 rfl) ?_
  refine lv_iload_n hx hb dX9_value_1 rfl (lv_at hl 1 rfl) ?_
  by_cases hn2_ : 0 ≤ pg ∧ pg < μ 0 2
  · refine va_callv (va_runV (As := [.int (iZ (pg))]) (rest := []) ⟨hx, hb, hml, hown, hts⟩ (s_needPage l dC dI cI cZ cII cIII h0 s.heap.size μ (pg) (by first | assumption | omega | exact CI_lc hI | exact CI_cn hI | exact (CI_n6 hI).1 | decide) (by first | assumption | omega | exact CI_lc hI | exact CI_cn hI | exact (CI_n6 hI).1 | decide) (by exact hn2_)) (cwV 1 hts (gV_G k735 k737 ks_yX9_needPage k1 k738) rfl rfl rfl (by decide +kernel) ⟨Nat.le_of_ble_eq_true rfl, Nat.le_of_ble_eq_true rfl⟩) ⟨fun a U g mk q => by obtain ⟨q0, q1, qP, qK, qM⟩ := q; exact ⟨q0, q1, qP, va_K.moved (u := U) (U := U.calling g mk a) (Vm.Alike.refl U.vm) qK, qM⟩, va_recv hK hP (ci := 9) (q0 := 0) rfl ((fw_get (by decide)).trans (by rw [sE_0]; rfl)), fun U hU hW => ⟨rfl, by rw [hU], by rw [hU]; exact hP, va_K.moved hW.alike hK, xM_warm hW hM⟩⟩ rfl rfl hl.1 rfl (lv_room (Nat.le_of_ble_eq_true rfl)) dX9_value_2 ⟨Nat.le_of_ble_eq_true rfl, Nat.le_of_ble_eq_true rfl⟩) hS (fun q _ h => fA_le hS.1 q h) (fA_le hS.1) (fun u9 t9 H1 locs ht9 hvm9 hw9 hB9 hz9 hk9 hS => ?_)
    obtain ⟨hP, -⟩ := hB9
    rw [ht9] at hP
    generalize H1 = H at hP hS ⊢
    obtain ⟨μ1, eμ1⟩ : ∃ x : va_M, x = u9 := ⟨_, rfl⟩
    rw [← eμ1] at hP hw9
    have hμ1 := hw9; clear hw9
    rw [hμ1] at hP
    refine lv_aload_n hx hb dX9_value_5 rfl (lv_at hl 0 rfl) ?_
    refine lv_aload_n hx hb dX9_value_6 rfl (lv_at hl 0 rfl) ?_
    refine fz_get (D := (dC, dI)) (ci := 9) (v := .ref (h0 + 6)) (C := RX9) (T := TX9) (N := 15) hx hb hts inG9 hown hK hP (k := 0) (by decide) (F := (sF0 h0)) sE_0 rfl 3 (by decide) (hts _ k335) (fun _ h9 => h9) rfl dX9_value_7 ?_
    refine lv_iload_n hx hb dX9_value_10 rfl (lv_at hl 2 rfl) ?_
    by_cases hn11_ : 0 ≤ nd ∧ nd < μ 6 6
    · refine va_callv (va_runV (As := [.ref (h0 + 6), .int (iZ (nd))]) (rest := []) ⟨hx, hb, hml, hown, hts⟩ (s_needNode l dC dI cI cZ cII cIII h0 H.size μ (6) (1100) (nd) (rowB_6) (by first | assumption | omega | exact CI_lc hI | exact CI_cn hI | exact (CI_n6 hI).1 | decide) (by first | assumption | (first | ((try clear hn11_); (try clear hμ1); (try clear x); (try clear eμ1); (try clear μ1); (try clear hz9); (try clear hn2_); (try clear hlc); (try clear hsz); (try clear hnt); (try clear s₁); omega) | omega) | exact CI_lc hI | exact CI_cn hI | exact (CI_n6 hI).1 | decide) (by exact hn11_)) (cwV 2 hts (gV_G k914 k916 ks_yX9_needNode k1 k917) rfl rfl rfl (by decide +kernel) ⟨Nat.le_of_ble_eq_true rfl, Nat.le_of_ble_eq_true rfl⟩) ⟨fun a U g mk q => by obtain ⟨q0, q1, qP, qK, qM⟩ := q; exact ⟨q0, q1, qP, va_K.moved (u := U) (U := U.calling g mk a) (Vm.Alike.refl U.vm) qK, qM⟩, va_recv hK hP (ci := 9) (q0 := 0) rfl ((fw_get (by decide)).trans (by rw [sE_0]; rfl)), fun U hU hW => ⟨rfl, by rw [hU], by rw [hU]; exact hP, va_K.moved hW.alike hK, xM_warm hW hM⟩⟩ rfl rfl hl.1 rfl (lv_room (Nat.le_of_ble_eq_true rfl)) dX9_value_11 ⟨Nat.le_of_ble_eq_true rfl, Nat.le_of_ble_eq_true rfl⟩) hS (fun q _ h => fA_le hS.1 q h) (fA_le hS.1) (fun u9 t9 H1 locs ht9 hvm9 hw9 hB9 hz9 hk9 hS => ?_)
      obtain ⟨hP, -⟩ := hB9
      rw [ht9] at hP
      generalize H1 = H at hP hS ⊢
      obtain ⟨μ2, eμ2⟩ : ∃ x : va_M, x = u9 := ⟨_, rfl⟩
      rw [← eμ2] at hP hw9
      have hμ2 := hw9; clear hw9
      rw [hμ2] at hP
      refine lv_aload_n hx hb dX9_value_14 rfl (lv_at hl 0 rfl) ?_
      refine lv_iload_n hx hb dX9_value_15 rfl (lv_at hl 1 rfl) ?_
      refine va_callr (va_runV (As := [.int (iZ (pg))]) (rest := []) ⟨hx, hb, hml, hown, hts⟩ (s_walkOf l dC dI cI cZ cII cIII h0 H.size μ (pg) (T) (by exact hI) (by first | assumption | omega | exact CI_lc hI | exact CI_cn hI | exact (CI_n6 hI).1 | decide)) (cwV 1 hts (gV_G k535 k537 ks_yX9_walkOf k1 k538) rfl rfl rfl (by decide +kernel) ⟨Nat.le_of_ble_eq_true rfl, Nat.le_of_ble_eq_true rfl⟩) ⟨fun a U g mk q => by obtain ⟨q0, q1, qP, qK, qM⟩ := q; exact ⟨q0, q1, qP, va_K.moved (u := U) (U := U.calling g mk a) (Vm.Alike.refl U.vm) qK, qM⟩, va_recv hK hP (ci := 9) (q0 := 0) rfl ((fw_get (by decide)).trans (by rw [sE_0]; rfl)), fun U hU hW => ⟨rfl, by rw [hU], by rw [hU]; exact hP, va_K.moved hW.alike hK, xM_warm hW hM⟩⟩ rfl rfl hl.1 rfl (lv_room (Nat.le_of_ble_eq_true rfl)) dX9_value_16 ⟨Nat.le_of_ble_eq_true rfl, Nat.le_of_ble_eq_true rfl⟩) hS (fun q _ h => fA_le hS.1 q h) (fA_le hS.1) (fun u9 ra9 t9 H1 locs ht9 hvm9 hw9 hB9 hz9 hk9 hS => ?_)
      obtain ⟨hra9, hP, -⟩ := hB9
      subst hra9
      rw [ht9] at hP
      generalize H1 = H at hP hS ⊢
      obtain ⟨μw, eμw⟩ : ∃ x : va_M, x = u9 := ⟨_, rfl⟩
      rw [← eμw] at hP hw9
      have hμw := hw9; clear hw9
      obtain ⟨c1_, f1_⟩ := hμw
      have x66 : μw 6 6 = μ 6 6 := f1_ _ _ (by unfold WQ Zc; (first | ((try clear x66); (try clear f1_); (try clear c1_); (try clear hμw); (try clear x); (try clear eμw); (try clear μw); (try clear hra9); (try clear hz9); (try clear ra9); (try clear hμ2); (try clear eμ2); (try clear μ2); (try clear hn11_); (try clear hμ1); (try clear eμ1); (try clear μ1); (try clear hn2_); (try clear h66); (try clear hlc); (try clear hsz); (try clear hnt); (try clear s₁); omega) | omega))
      obtain ⟨wl1, wl2⟩ := CI_lf c1_ pg (by (first | ((try clear wl2); (try clear wl1); (try clear x66); (try clear f1_); (try clear c1_); (try clear hμw); (try clear x); (try clear eμw); (try clear hra9); (try clear hz9); (try clear ra9); (try clear hμ2); (try clear eμ2); (try clear μ2); (try clear hn11_); (try clear hμ1); (try clear eμ1); (try clear μ1); (try clear h66); (try clear hlc); (try clear hsz); (try clear hnt); (try clear s₁); omega) | omega)) (by have := CI_lc hI; (first | ((try clear wl2); (try clear wl1); (try clear x66); (try clear f1_); (try clear c1_); (try clear hμw); (try clear x); (try clear eμw); (try clear hra9); (try clear hz9); (try clear ra9); (try clear hμ2); (try clear eμ2); (try clear μ2); (try clear hn11_); (try clear hμ1); (try clear eμ1); (try clear μ1); (try clear h66); (try clear hsz); (try clear hnt); (try clear s₁); omega) | omega))
      have w66 := CI_n6 c1_
      refine lv_astore (lv' := [(4, .ref (h0 + ((113 + (pg).toNat * 15) + 10))), (0, .ref h0), (1, .int (iZ (pg))), (2, .int (iZ (nd))), (3, .int (iZ (kn)))]) hx hb dX9_value_19 hl (by decide) rfl (fun ls hl => ?_)
      refine lv_aload hx hb dX9_value_21 (lv_at hl 0 rfl) ?_
      refine va_calli (va_runV (As := []) (rest := []) ⟨hx, hb, hml, hown, hts⟩ (s_KisThrough l dC dI cI cZ cII cIII h0 H.size μw ((113 + (pg).toNat * 15)) ((pg).toNat) (rfl) ((show (pg).toNat < 8 by (first | ((try clear w66); (try clear wl2); (try clear wl1); (try clear x66); (try clear f1_); (try clear c1_); (try clear hμw); (try clear x); (try clear eμw); (try clear hra9); (try clear hz9); (try clear ra9); (try clear hμ2); (try clear eμ2); (try clear μ2); (try clear hn11_); (try clear hμ1); (try clear eμ1); (try clear μ1); (try clear h66); (try clear hsz); (try clear hnt); (try clear s₁); omega) | omega))) (by constructor <;> (first | ((try clear w66); (try clear wl1); (try clear x66); (try clear f1_); (try clear c1_); (try clear hμw); (try clear x); (try clear eμw); (try clear hra9); (try clear hz9); (try clear ra9); (try clear hμ2); (try clear eμ2); (try clear μ2); (try clear hn11_); (try clear hμ1); (try clear eμ1); (try clear μ1); (try clear hn2_); (try clear h66); (try clear hlc); (try clear hsz); (try clear hnt); (try clear s₁); omega) | omega))) (cwV 0 hts (gV_G k579 k580 k581 k11 k582) rfl rfl rfl (by decide +kernel) ⟨Nat.le_of_ble_eq_true rfl, Nat.le_of_ble_eq_true rfl⟩) ⟨fun a U g mk q => by obtain ⟨q0, q1, qP, qK, qM⟩ := q; exact ⟨q0, q1, qP, va_K.moved (u := U) (U := U.calling g mk a) (Vm.Alike.refl U.vm) qK, qM⟩, va_recv hK hP (ci := 7) (q0 := ((113 + (pg).toNat * 15) + 10)) rfl ((fw_get (by (first | ((try clear q); (try clear mk); (try clear g); (try clear U); (try clear w66); (try clear wl2); (try clear wl1); (try clear x66); (try clear f1_); (try clear c1_); (try clear hμw); (try clear x); (try clear eμw); (try clear hra9); (try clear hz9); (try clear ra9); (try clear hμ2); (try clear eμ2); (try clear μ2); (try clear hn11_); (try clear hμ1); (try clear eμ1); (try clear μ1); (try clear h66); (try clear hsz); (try clear hnt); (try clear s₁); omega) | omega))).trans (by rw [(sE_walk (show (pg).toNat < 8 by (first | ((try clear q); (try clear mk); (try clear g); (try clear U); (try clear w66); (try clear wl2); (try clear wl1); (try clear x66); (try clear f1_); (try clear c1_); (try clear hμw); (try clear x); (try clear eμw); (try clear hra9); (try clear hz9); (try clear ra9); (try clear hμ2); (try clear eμ2); (try clear μ2); (try clear hn11_); (try clear hμ1); (try clear eμ1); (try clear μ1); (try clear h66); (try clear hsz); (try clear hnt); (try clear s₁); omega) | omega)) rfl)])), fun U hU hW => ⟨rfl, by rw [hU], by rw [hU]; exact hP, va_K.moved hW.alike hK, xM_warm hW hM⟩⟩ rfl rfl hl.1 rfl (lv_room (Nat.le_of_ble_eq_true rfl)) dX9_value_23 ⟨Nat.le_of_ble_eq_true rfl, Nat.le_of_ble_eq_true rfl⟩) hS (fun q _ h => fA_le hS.1 q h) (fA_le hS.1) (fun r9 u9 t9 H1 locs ht9 hvm9 hw9 hB9 hz9 hk9 hS => ?_)
      obtain ⟨μi, ri⟩ := u9
      obtain ⟨hP, -⟩ := hB9
      rw [ht9] at hP
      generalize H1 = H at hP hS ⊢
      obtain ⟨e9, hw9⟩ := hw9
      have e9 : r9 = iZ ri := e9
      subst e9
      simp only at hP hw9
      have hμi := hw9; clear hw9
      rw [hμi.1] at hP; have hμi := hμi.2
      have hri := hμi
      refine fz_if_eq (tgt := 43) (by first | assumption | (constructor <;> (first | ((try clear hμi); (try clear μi); (try clear hz9); (try clear w66); (try clear wl2); (try clear wl1); (try clear x66); (try clear f1_); (try clear c1_); (try clear hμw); (try clear x); (try clear eμw); (try clear hra9); (try clear ra9); (try clear hμ2); (try clear eμ2); (try clear μ2); (try clear hn11_); (try clear hμ1); (try clear eμ1); (try clear μ1); (try clear hn2_); (try clear h66); (try clear hlc); (try clear hsz); (try clear hnt); (try clear s₁); omega) | omega)) | decide) hx hb dX9_value_26 (by decide) (fun c26_ => ?_) (fun c26_ => ?_)
      · refine lv_iconst (v := iZ (-1)) hx hb dX9_value_43 rfl ?_
        exact W_widen (Nat.le_of_ble_eq_true rfl) (Nat.le_of_ble_eq_true rfl) (vx_ret (W.iret (v := iZ ((-1))) hx hb hr (fun t9 ht9 hW9 => ⟨⟨iZ ((-1)), (μw, (-1)), rfl, ⟨rfl, (by
                        dsimp only
                        exact ⟨c1_, SZ_wq f1_⟩)⟩, by rw [ht9]; exact hP, va_K.moved hW9.alike hK⟩, hS.F ht9⟩) hS.2.2 dX9_value_44))
      · have pp := rG_p c1_.1.2.2.1 nd (by (first | ((try clear pp); (try clear c26_); (try clear hri); (try clear hμi); (try clear ri); (try clear μi); (try clear hz9); (try clear w66); (try clear wl2); (try clear wl1); (try clear x66); (try clear f1_); (try clear c1_); (try clear hμw); (try clear x); (try clear eμw); (try clear hra9); (try clear ra9); (try clear hμ2); (try clear eμ2); (try clear μ2); (try clear hμ1); (try clear eμ1); (try clear μ1); (try clear hn2_); (try clear h66); (try clear hlc); (try clear hsz); (try clear hnt); (try clear s₁); omega) | omega)) (by (first | ((try clear pp); (try clear c26_); (try clear hri); (try clear hμi); (try clear ri); (try clear μi); (try clear hz9); (try clear w66); (try clear wl2); (try clear wl1); (try clear f1_); (try clear c1_); (try clear hμw); (try clear x); (try clear eμw); (try clear hra9); (try clear ra9); (try clear hμ2); (try clear eμ2); (try clear μ2); (try clear hμ1); (try clear eμ1); (try clear μ1); (try clear hn2_); (try clear h66); (try clear hlc); (try clear hsz); (try clear hnt); (try clear s₁); omega) | omega))
        have ss := c1_.1.2.2.1.1 (μw (6 + 5) nd.toNat).toNat
        refine lv_aload_n hx hb dX9_value_29 rfl (lv_at hl 1 rfl) ?_
        refine fz_get (D := (dC, dI)) (ci := 9) (v := .ref (h0 + 6)) (C := RX9) (T := TX9) (N := 15) hx hb hts inG9 hown hK hP (k := 0) (by decide) (F := (sF0 h0)) sE_0 rfl 3 (by decide) (hts _ k335) (fun _ h9 => h9) rfl dX9_value_30 ?_
        refine lv_iload_n hx hb dX9_value_33 rfl (lv_at hl 3 rfl) ?_
        refine va_calli (va_runV (As := [.int (iZ (nd))]) (rest := []) ⟨hx, hb, hml, hown, hts⟩ (s_RcodeOf l dC dI cI cZ cII cIII h0 H.size μw (6) (1100) (nd) (rowB_6) (by (first | ((try clear ss); (try clear pp); (try clear c26_); (try clear hri); (try clear hμi); (try clear ri); (try clear μi); (try clear hz9); (try clear w66); (try clear wl2); (try clear wl1); (try clear f1_); (try clear c1_); (try clear hμw); (try clear x); (try clear eμw); (try clear hra9); (try clear ra9); (try clear hμ2); (try clear eμ2); (try clear μ2); (try clear hμ1); (try clear eμ1); (try clear μ1); (try clear hn2_); (try clear hlc); (try clear hsz); (try clear hnt); (try clear s₁); omega) | omega)) (by (first | ((try clear ss); (try clear c26_); (try clear hri); (try clear hμi); (try clear ri); (try clear μi); (try clear hz9); (try clear wl2); (try clear wl1); (try clear f1_); (try clear c1_); (try clear hμw); (try clear x); (try clear eμw); (try clear hra9); (try clear ra9); (try clear hμ2); (try clear eμ2); (try clear μ2); (try clear hμ1); (try clear eμ1); (try clear μ1); (try clear hn2_); (try clear hlc); (try clear hsz); (try clear hnt); (try clear s₁); omega) | omega))) (cwV 1 hts (gV_G k983 k984 k985 k3 k986) rfl rfl rfl (by decide +kernel) ⟨Nat.le_of_ble_eq_true rfl, Nat.le_of_ble_eq_true rfl⟩) ⟨fun a U g mk q => by obtain ⟨q0, q1, qP, qK, qM⟩ := q; exact ⟨q0, q1, qP, va_K.moved (u := U) (U := U.calling g mk a) (Vm.Alike.refl U.vm) qK, qM⟩, va_recv hK hP (ci := 4) (q0 := 6) rfl ((fw_get (by decide)).trans (by rw [(sE_rowO rowB_6)])), fun U hU hW => ⟨rfl, by rw [hU], by rw [hU]; exact hP, va_K.moved hW.alike hK, xM_warm hW hM⟩⟩ rfl rfl hl.1 rfl (lv_room (Nat.le_of_ble_eq_true rfl)) dX9_value_34 ⟨Nat.le_of_ble_eq_true rfl, Nat.le_of_ble_eq_true rfl⟩) hS (fun q _ h => fA_le hS.1 q h) (fA_le hS.1) (fun r9 u9 t9 H1 locs ht9 hvm9 hw9 hB9 hz9 hk9 hS => ?_)
        obtain ⟨μk, rk⟩ := u9
        obtain ⟨hP, -⟩ := hB9
        rw [ht9] at hP
        generalize H1 = H at hP hS ⊢
        obtain ⟨e9, hw9⟩ := hw9
        have e9 : r9 = iZ rk := e9
        subst e9
        simp only at hP hw9
        have hμk := hw9; clear hw9
        rw [hμk.1] at hP; have hμk := hμk.2
        have hrk := hμk
        refine lv_sipush (v := iZ 512) hx hb dX9_value_37 rfl ?_
        refine fz_icmp_eq (tgt := 45) (by first | assumption | (constructor <;> (first | ((try clear hrk); (try clear hμk); (try clear hz9); (try clear pp); (try clear c26_); (try clear hri); (try clear hμi); (try clear ri); (try clear μi); (try clear w66); (try clear wl2); (try clear wl1); (try clear x66); (try clear f1_); (try clear c1_); (try clear hμw); (try clear x); (try clear eμw); (try clear hra9); (try clear ra9); (try clear hμ2); (try clear eμ2); (try clear μ2); (try clear hn11_); (try clear hμ1); (try clear eμ1); (try clear μ1); (try clear hn2_); (try clear h66); (try clear hlc); (try clear hsz); (try clear hnt); (try clear s₁); omega) | omega)) | decide) (by decide) hx hb dX9_value_40 (by decide) (fun c40_ => ?_) (fun c40_ => ?_)
        · refine lv_iconst (v := iZ 0) hx hb dX9_value_45 rfl ?_
          refine lv_istore (lv' := [(5, .int (iZ (0))), (4, .ref (h0 + ((113 + (pg).toNat * 15) + 10))), (0, .ref h0), (1, .int (iZ (pg))), (2, .int (iZ (nd))), (3, .int (iZ (kn)))]) hx hb dX9_value_46 hl (by decide) rfl (fun ls hl => ?_)
          refine lv_iconst (v := iZ 0) hx hb dX9_value_48 rfl ?_
          refine lv_istore (lv' := [(6, .int (iZ (0))), (5, .int (iZ (0))), (4, .ref (h0 + ((113 + (pg).toNat * 15) + 10))), (0, .ref h0), (1, .int (iZ (pg))), (2, .int (iZ (nd))), (3, .int (iZ (kn)))]) hx hb dX9_value_49 hl (by decide) rfl (fun ls hl => ?_)
          refine LX9_value_51z hx hb hml hown hts hK hM (Nat.le_of_ble_eq_true rfl) (Nat.le_of_ble_eq_true rfl) (Nat.le_of_ble_eq_true rfl) (Nat.le_of_ble_eq_true rfl) (μw) (T) (pg) (nd) (kn) (by exact c1_) (by (first | ((try clear c40_); (try clear hrk); (try clear hμk); (try clear μk); (try clear hz9); (try clear ss); (try clear pp); (try clear c26_); (try clear hri); (try clear hμi); (try clear ri); (try clear μi); (try clear w66); (try clear wl2); (try clear wl1); (try clear x66); (try clear f1_); (try clear c1_); (try clear hμw); (try clear x); (try clear eμw); (try clear hra9); (try clear ra9); (try clear hμ2); (try clear eμ2); (try clear μ2); (try clear hn11_); (try clear hμ1); (try clear eμ1); (try clear μ1); (try clear h66); (try clear hsz); (try clear hnt); (try clear s₁); omega) | omega)) (by assumption) (by assumption) ?_ ?_ _ (0) (0) μw H locs ls (by rfl) (by decide) (Nat.lt_succ_self _) hP hS (lv_sub hl [0, 1, 2, 6, 5, 4, 3] rfl)
          · intro i_3 be_3 μ3_ H locs ls q1_3 q2_3 hP hS hl
            have hl : lv_has ls 7 [(6, .int (iZ (i_3))), (1, .int (iZ (pg))), (0, .ref h0)] := hl
            have e_m := q1_3
            have Q2 := q2_3
            refine lv_aload_n hx hb dX9_value_83 rfl (lv_at hl 2 rfl) ?_
            refine fz_get (D := (dC, dI)) (ci := 9) (v := .ref (h0 + 5)) (C := RX9) (T := TX9) (N := 15) hx hb hts inG9 hown hK hP (k := 0) (by decide) (F := (sF0 h0)) sE_0 rfl 1 (by decide) (hts _ k333) (fun _ h9 => h9) rfl dX9_value_84 ?_
            refine lv_iload_n hx hb dX9_value_87 rfl (lv_at hl 1 rfl) ?_
            refine fz_ald (k := 5) (n := 8) (k2 := (113 + (pg).toNat * 15)) hx hb hK hP 1 rfl (by decide) sE_5 rfl ⟨by (first | ((try clear Q2); (try clear e_m); (try clear q2_3); (try clear q1_3); (try clear μ3_); (try clear be_3); (try clear c40_); (try clear hrk); (try clear hμk); (try clear μk); (try clear hz9); (try clear ss); (try clear pp); (try clear c26_); (try clear hri); (try clear hμi); (try clear ri); (try clear μi); (try clear w66); (try clear wl2); (try clear wl1); (try clear x66); (try clear f1_); (try clear c1_); (try clear hμw); (try clear x); (try clear eμw); (try clear hra9); (try clear ra9); (try clear hμ2); (try clear eμ2); (try clear μ2); (try clear hn11_); (try clear hμ1); (try clear eμ1); (try clear μ1); (try clear h66); (try clear hlc); (try clear hsz); (try clear hnt); (try clear s₁); omega) | omega), by (first | ((try clear Q2); (try clear e_m); (try clear q2_3); (try clear q1_3); (try clear μ3_); (try clear be_3); (try clear c40_); (try clear hrk); (try clear hμk); (try clear μk); (try clear hz9); (try clear ss); (try clear pp); (try clear c26_); (try clear hri); (try clear hμi); (try clear ri); (try clear μi); (try clear w66); (try clear wl2); (try clear wl1); (try clear x66); (try clear f1_); (try clear c1_); (try clear hμw); (try clear x); (try clear eμw); (try clear hra9); (try clear ra9); (try clear hμ2); (try clear eμ2); (try clear μ2); (try clear hn11_); (try clear hμ1); (try clear eμ1); (try clear μ1); (try clear h66); (try clear hsz); (try clear hnt); (try clear s₁); omega) | omega)⟩ (by decide) (if_pos (by (first | ((try clear Q2); (try clear e_m); (try clear q2_3); (try clear q1_3); (try clear μ3_); (try clear be_3); (try clear c40_); (try clear hrk); (try clear hμk); (try clear μk); (try clear hz9); (try clear ss); (try clear pp); (try clear c26_); (try clear hri); (try clear hμi); (try clear ri); (try clear μi); (try clear w66); (try clear wl2); (try clear wl1); (try clear x66); (try clear f1_); (try clear c1_); (try clear hμw); (try clear x); (try clear eμw); (try clear hra9); (try clear ra9); (try clear hμ2); (try clear eμ2); (try clear μ2); (try clear hn11_); (try clear hμ1); (try clear eμ1); (try clear μ1); (try clear h66); (try clear hsz); (try clear hnt); (try clear s₁); omega) | omega))) dX9_value_88 ?_
            refine fz_get (D := (dC, dI)) (ci := 1) (v := .ref (h0 + ((113 + (pg).toNat * 15) + 1))) (C := RX1) (T := TX1) (N := 8) hx hb hts inG1 hown hK hP (k := (113 + (pg).toNat * 15)) (by (first | ((try clear Q2); (try clear e_m); (try clear q2_3); (try clear q1_3); (try clear μ3_); (try clear be_3); (try clear c40_); (try clear hrk); (try clear hμk); (try clear μk); (try clear hz9); (try clear ss); (try clear pp); (try clear c26_); (try clear hri); (try clear hμi); (try clear ri); (try clear μi); (try clear w66); (try clear wl2); (try clear wl1); (try clear x66); (try clear f1_); (try clear c1_); (try clear hμw); (try clear x); (try clear eμw); (try clear hra9); (try clear ra9); (try clear hμ2); (try clear eμ2); (try clear μ2); (try clear hn11_); (try clear hμ1); (try clear eμ1); (try clear μ1); (try clear h66); (try clear hsz); (try clear hnt); (try clear s₁); omega) | omega)) (F := (sLF h0 (113 + (pg).toNat * 15))) (sE_leafO (show (pg).toNat < 8 by (first | ((try clear Q2); (try clear e_m); (try clear q2_3); (try clear q1_3); (try clear μ3_); (try clear be_3); (try clear c40_); (try clear hrk); (try clear hμk); (try clear μk); (try clear hz9); (try clear ss); (try clear pp); (try clear c26_); (try clear hri); (try clear hμi); (try clear ri); (try clear μi); (try clear w66); (try clear wl2); (try clear wl1); (try clear x66); (try clear f1_); (try clear c1_); (try clear hμw); (try clear x); (try clear eμw); (try clear hra9); (try clear ra9); (try clear hμ2); (try clear eμ2); (try clear μ2); (try clear hn11_); (try clear hμ1); (try clear eμ1); (try clear μ1); (try clear h66); (try clear hsz); (try clear hnt); (try clear s₁); omega) | omega)) rfl) rfl 0 (by decide) (hts _ k297) (fun _ h9 => h9) rfl dX9_value_89 ?_
            refine lv_iload hx hb dX9_value_92 (lv_at hl 0 rfl) ?_
            refine fz_ld (k := ((113 + (pg).toNat * 15) + 1)) (n := 60) hx hb hK hP 0 (by (first | ((try clear Q2); (try clear e_m); (try clear q2_3); (try clear q1_3); (try clear μ3_); (try clear be_3); (try clear c40_); (try clear hrk); (try clear hμk); (try clear μk); (try clear hz9); (try clear ss); (try clear pp); (try clear c26_); (try clear hri); (try clear hμi); (try clear ri); (try clear μi); (try clear w66); (try clear wl2); (try clear wl1); (try clear x66); (try clear f1_); (try clear c1_); (try clear hμw); (try clear x); (try clear eμw); (try clear hra9); (try clear ra9); (try clear hμ2); (try clear eμ2); (try clear μ2); (try clear hn11_); (try clear hμ1); (try clear eμ1); (try clear μ1); (try clear h66); (try clear hsz); (try clear hnt); (try clear s₁); omega) | omega)) (sE_leafA 1 60 (show (pg).toNat < 8 by (first | ((try clear Q2); (try clear e_m); (try clear q2_3); (try clear q1_3); (try clear μ3_); (try clear be_3); (try clear c40_); (try clear hrk); (try clear hμk); (try clear μk); (try clear hz9); (try clear ss); (try clear pp); (try clear c26_); (try clear hri); (try clear hμi); (try clear ri); (try clear μi); (try clear w66); (try clear wl2); (try clear wl1); (try clear x66); (try clear f1_); (try clear c1_); (try clear hμw); (try clear x); (try clear eμw); (try clear hra9); (try clear ra9); (try clear hμ2); (try clear eμ2); (try clear μ2); (try clear hn11_); (try clear hμ1); (try clear eμ1); (try clear μ1); (try clear h66); (try clear hsz); (try clear hnt); (try clear s₁); omega) | omega)) rfl (by decide)) rfl ⟨by (first | ((try clear Q2); (try clear e_m); (try clear q1_3); (try clear μ3_); (try clear be_3); (try clear c40_); (try clear hrk); (try clear hμk); (try clear μk); (try clear hz9); (try clear ss); (try clear pp); (try clear c26_); (try clear hri); (try clear hμi); (try clear ri); (try clear μi); (try clear w66); (try clear wl2); (try clear wl1); (try clear x66); (try clear f1_); (try clear c1_); (try clear hμw); (try clear x); (try clear eμw); (try clear hra9); (try clear ra9); (try clear hμ2); (try clear eμ2); (try clear μ2); (try clear hn11_); (try clear hμ1); (try clear eμ1); (try clear μ1); (try clear hn2_); (try clear h66); (try clear hlc); (try clear hsz); (try clear hnt); (try clear s₁); omega) | omega), by (first | ((try clear Q2); (try clear e_m); (try clear q1_3); (try clear μ3_); (try clear be_3); (try clear c40_); (try clear hrk); (try clear hμk); (try clear μk); (try clear hz9); (try clear ss); (try clear pp); (try clear c26_); (try clear hri); (try clear hμi); (try clear ri); (try clear μi); (try clear w66); (try clear wl2); (try clear wl1); (try clear x66); (try clear f1_); (try clear c1_); (try clear hμw); (try clear x); (try clear eμw); (try clear hra9); (try clear ra9); (try clear hμ2); (try clear eμ2); (try clear μ2); (try clear hn11_); (try clear hμ1); (try clear eμ1); (try clear μ1); (try clear hn2_); (try clear h66); (try clear hlc); (try clear hsz); (try clear hnt); (try clear s₁); omega) | omega)⟩ (by decide) dX9_value_94 ?_
            exact W_widen (Nat.le_of_ble_eq_true rfl) (Nat.le_of_ble_eq_true rfl) (vx_ret (W.iret (v := iZ (μ3_ ((113 + (pg).toNat * 15) + 1) (i_3).toNat)) hx hb hr (fun t9 ht9 hW9 => ⟨⟨iZ (μ3_ ((113 + (pg).toNat * 15) + 1) (i_3).toNat), (μ3_, μ3_ ((113 + (pg).toNat * 15) + 1) (i_3).toNat), rfl, ⟨rfl, (by
                                dsimp only
                                rw [e_m]; exact ⟨c1_, SZ_wq f1_⟩)⟩, by rw [ht9]; exact hP, va_K.moved hW9.alike hK⟩, hS.F ht9⟩) hS.2.2 dX9_value_95))
          · intro i_4 be_4 μ4_ H locs ls q3_4 hP hS hl
            have hl : lv_has ls 7 [] := hl
            have e_m := q3_4
            refine lv_iconst (v := iZ (-1)) hx hb dX9_value_105 rfl ?_
            exact W_widen (Nat.le_of_ble_eq_true rfl) (Nat.le_of_ble_eq_true rfl) (vx_ret (W.iret (v := iZ ((-1))) hx hb hr (fun t9 ht9 hW9 => ⟨⟨iZ ((-1)), (μ4_, (-1)), rfl, ⟨rfl, (by
                                dsimp only
                                rw [e_m]; exact ⟨c1_, SZ_wq f1_⟩)⟩, by rw [ht9]; exact hP, va_K.moved hW9.alike hK⟩, hS.F ht9⟩) hS.2.2 dX9_value_106))
        · refine lv_iconst (v := iZ (-1)) hx hb dX9_value_43 rfl ?_
          exact W_widen (Nat.le_of_ble_eq_true rfl) (Nat.le_of_ble_eq_true rfl) (vx_ret (W.iret (v := iZ ((-1))) hx hb hr (fun t9 ht9 hW9 => ⟨⟨iZ ((-1)), (μw, (-1)), rfl, ⟨rfl, (by
                            dsimp only
                            exact ⟨c1_, SZ_wq f1_⟩)⟩, by rw [ht9]; exact hP, va_K.moved hW9.alike hK⟩, hS.F ht9⟩) hS.2.2 dX9_value_44))
    · refine vx_callv (vx_runV (As := [.ref (h0 + 6), .int (iZ (nd))]) (rest := []) ⟨hx, hb, hml, hown, hts⟩ (x_needNode l hfl dC dI cI cZ cII cIII h0 H.size μ (6) (1100) (nd) (rowB_6) (by first | assumption | omega | exact CI_lc hI | exact CI_cn hI | exact (CI_n6 hI).1 | decide) (by first | assumption | (first | ((try clear hn11_); (try clear hμ1); (try clear x); (try clear eμ1); (try clear μ1); (try clear hz9); (try clear hn2_); (try clear hlc); (try clear hsz); (try clear hnt); (try clear s₁); omega) | omega) | exact CI_lc hI | exact CI_cn hI | exact (CI_n6 hI).1 | decide) (hn11_)) (cwV 2 hts (gV_G k914 k916 ks_yX9_needNode k1 k917) rfl rfl rfl (by decide +kernel) ⟨Nat.le_of_ble_eq_true rfl, Nat.le_of_ble_eq_true rfl⟩) ⟨fun a U g mk q => by obtain ⟨q0, q1, qP, qK, qM, qE⟩ := q; exact ⟨q0, q1, qP, va_K.moved (u := U) (U := U.calling g mk a) (Vm.Alike.refl U.vm) qK, qM, xX_call qE⟩, va_recv hK hP (ci := 9) (q0 := 0) rfl ((fw_get (by decide)).trans (by rw [sE_0]; rfl)), fun U hU hW => ⟨rfl, by rw [hU], by rw [hU]; exact hP, va_K.moved hW.alike hK, xM_warm hW hM, xX_at hEx hS (fun q h => fA_le hS.1 q h) hU hW⟩⟩ rfl rfl hl.1 rfl (lv_room (Nat.le_of_ble_eq_true rfl)) dX9_value_11 ⟨Nat.le_of_ble_eq_true rfl, Nat.le_of_ble_eq_true rfl⟩) hS (fun q _ h => fA_le hS.1 q h) (fA_le hS.1) (fun q _ h => fA_le hS.1 q h) (fun E9 ce9 q9 u9 t9 H1 locs ht9 hvm9 hpx9 hBX9 hz9 hk9 hS hce9 hcv9 hcl9 => ?_) (fun u9 t9 H1 locs ht9 hvm9 hw9 hB9 hz9 hk9 hS => hw9.elim)
      obtain ⟨hE9, hP9, hK9⟩ := hBX9
      exact vx_out (fun x hx9 => (hnt x hx9).elim) hlocks hce9 hcv9 hcl9 (fun t8 ht8 hW8 => ⟨u9, (by
                    show CI T u9 ∧ SZ μ u9
                    exact CZ_thr hI hpx9), ⟨hE9, by rw [ht8, ← ht9]; exact hP9, va_K.moved hW8 hK⟩, hS.F ht8⟩) hS.2.2 (Nat.le_of_ble_eq_true rfl) (Nat.le_of_ble_eq_true rfl)
  · refine vx_callv (vx_runV (As := [.int (iZ (pg))]) (rest := []) ⟨hx, hb, hml, hown, hts⟩ (x_needPage l hfl dC dI cI cZ cII cIII h0 s.heap.size μ (pg) (by first | assumption | omega | exact CI_lc hI | exact CI_cn hI | exact (CI_n6 hI).1 | decide) (by first | assumption | omega | exact CI_lc hI | exact CI_cn hI | exact (CI_n6 hI).1 | decide) (hn2_)) (cwV 1 hts (gV_G k735 k737 ks_yX9_needPage k1 k738) rfl rfl rfl (by decide +kernel) ⟨Nat.le_of_ble_eq_true rfl, Nat.le_of_ble_eq_true rfl⟩) ⟨fun a U g mk q => by obtain ⟨q0, q1, qP, qK, qM, qE⟩ := q; exact ⟨q0, q1, qP, va_K.moved (u := U) (U := U.calling g mk a) (Vm.Alike.refl U.vm) qK, qM, xX_call qE⟩, va_recv hK hP (ci := 9) (q0 := 0) rfl ((fw_get (by decide)).trans (by rw [sE_0]; rfl)), fun U hU hW => ⟨rfl, by rw [hU], by rw [hU]; exact hP, va_K.moved hW.alike hK, xM_warm hW hM, xX_at hEx hS (fun q h => fA_le hS.1 q h) hU hW⟩⟩ rfl rfl hl.1 rfl (lv_room (Nat.le_of_ble_eq_true rfl)) dX9_value_2 ⟨Nat.le_of_ble_eq_true rfl, Nat.le_of_ble_eq_true rfl⟩) hS (fun q _ h => fA_le hS.1 q h) (fA_le hS.1) (fun q _ h => fA_le hS.1 q h) (fun E9 ce9 q9 u9 t9 H1 locs ht9 hvm9 hpx9 hBX9 hz9 hk9 hS hce9 hcv9 hcl9 => ?_) (fun u9 t9 H1 locs ht9 hvm9 hw9 hB9 hz9 hk9 hS => hw9.elim)
    obtain ⟨hE9, hP9, hK9⟩ := hBX9
    exact vx_out (fun x hx9 => (hnt x hx9).elim) hlocks hce9 hcv9 hcl9 (fun t8 ht8 hW8 => ⟨u9, (by
                show CI T u9 ∧ SZ μ u9
                exact CZ_thr hI hpx9), ⟨hE9, by rw [ht8, ← ht9]; exact hP9, va_K.moved hW8 hK⟩, hS.F ht8⟩) hS.2.2 (Nat.le_of_ble_eq_true rfl) (Nat.le_of_ble_eq_true rfl)
set_option maxHeartbeats 4000000 in
set_option maxRecDepth 100000 in
theorem LX9_unlike_37z {p : Program} {l : Launch} {e : Env} {R : Room} {s : State} {m : MethodId} {args : Array Value} {below : List Frame} {meth : Method} {c : Code} {cells slots : Nat} {Q : State → Prop} {dC : Nat → ClassId} {dI : Nat → Nat → Nat} {h0 : Nat} {cI cZ cII cIII : ClassId} (hx : p.tables.exec = Jvm.exec) (hb : c.code = cX9_unlike) (hml : c.maxLocals = 4) (hown : s.vm.findClass RX9 = some m.cls) (hts : ∀ w ∈ wsG, w.before args s = true) (hK : va_K (dC, dI) vwCl (sT cI cZ cII cIII) s) (hM : xM s) (hRf : 8 ≤ R.frames) (hRl : 189 ≤ R.locals) (hRc : cells ≤ R.cells) (hRs : slots ≤ R.slots) (μ0 : va_M) (T : List Tk) (nd : Int) (hI : CI T μ0) (hnr : inR nd) (hexit60 : ∀ (i : Int) (wo : Int) (μ : va_M) (H : Heap) (locs : List Loc) (ls : Array Slot), (CI T μ) → (fr WQ μ0 μ) → va_P (dC, dI) vwCl (fw (sE cI cZ cII cIII h0) h0 233 μ) H → va_S (fA h0 233 s.heap.size) s.heap H locs → lv_has ls 4 [(2, .int (iZ (wo)))] → W p l e R s m args below meth c H locs cells slots Q (F0 m 60 ls [])) :
    ∀ (n9 : Nat) (i : Int) (wo : Int) (μ : va_M) (H : Heap) (locs : List Loc) (ls : Array Slot), (0 ≤ i ∧ i ≤ μ0 0 2) → (CI T μ) → (fr WQ μ0 μ) → (9 - i).toNat < n9 → va_P (dC, dI) vwCl (fw (sE cI cZ cII cIII h0) h0 233 μ) H → va_S (fA h0 233 s.heap.size) s.heap H locs → lv_has ls 4 [(3, .int (iZ (i))), (2, .int (iZ (wo))), (1, .int (iZ (nd))), (0, .ref h0)] → W p l e R s m args below meth c H locs cells slots Q (F0 m 37 ls []) := by
  intro n9
  induction n9 with
  | zero => intro i wo μ H locs ls hi hc9 hf hm9 hP hS hl; exact absurd hm9 (Nat.not_lt_zero _)
  | succ n9 ih =>
    intro i wo μ H locs ls hi hc9 hf hm9 hP hS hl
    have hlc := CI_lc hI
    have x2 : μ 0 2 = μ0 0 2 := hf _ _ (by unfold WQ Zc; (first | ((try clear x2); (try clear hlc); (try clear hm9); (try clear hf); (try clear hc9); (try clear hi); (try clear hexit60); (try clear hRs); (try clear hRc); (try clear hRl); (try clear hRf); omega) | omega))
    refine lv_iload_n hx hb dX9_unlike_37 rfl (lv_at hl 0 rfl) ?_
    refine lv_aload_n hx hb dX9_unlike_38 rfl (lv_at hl 3 rfl) ?_
    refine fz_get (D := (dC, dI)) (ci := 9) (v := .int (iZ (μ 0 2))) (C := RX9) (T := TX9) (N := 15) hx hb hts inG9 hown hK hP (k := 0) (by decide) (F := (sF0 h0)) sE_0 rfl 2 (by decide) (hts _ k334) (fun _ h9 => h9) rfl dX9_unlike_39 ?_
    refine fz_icmp_ge (tgt := 60) (by first | assumption | (constructor <;> (first | ((try clear hm9); (try clear hf); (try clear hc9); (try clear hexit60); (try clear hRs); (try clear hRc); (try clear hRl); (try clear hRf); omega) | omega)) | decide) (by first | assumption | (constructor <;> (first | ((try clear hm9); (try clear hf); (try clear hc9); (try clear hi); (try clear hexit60); (try clear hRs); (try clear hRc); (try clear hRl); (try clear hRf); omega) | omega)) | decide) hx hb dX9_unlike_42 (by decide) (fun c42_ => ?_) (fun c42_ => ?_)
    · exact hexit60 (i) (wo) μ H locs ls (by exact hc9) (by exact hf) hP hS (lv_sub hl [1] rfl)
    · refine lv_iload_n hx hb dX9_unlike_45 rfl (lv_at hl 1 rfl) ?_
      refine lv_aload_n hx hb dX9_unlike_46 rfl (lv_at hl 3 rfl) ?_
      refine lv_iload_n hx hb dX9_unlike_47 rfl (lv_at hl 0 rfl) ?_
      refine lv_iload_n hx hb dX9_unlike_48 rfl (lv_at hl 2 rfl) ?_
      refine va_calli (va_runV (As := [.int (iZ (i)), .int (iZ (nd))]) (rest := [.int (iZ (wo))]) ⟨hx, hb, hml, hown, hts⟩ (s_seeWords l dC dI cI cZ cII cIII h0 H.size μ (i) (nd) (T) (by exact hc9) (by first | assumption | (first | ((try clear x2); (try clear hlc); (try clear hm9); (try clear hf); (try clear hc9); (try clear hexit60); (try clear hRs); (try clear hRc); (try clear hRl); (try clear hRf); omega) | omega) | exact CI_lc hI | exact CI_cn hI | exact (CI_n6 hI).1 | decide) (by first | assumption | omega | exact CI_lc hI | exact CI_cn hI | exact (CI_n6 hI).1 | decide)) (cwV 2 hts (gV_G k1008 k1010 ks_yX9_seeWords k1 k1011) rfl rfl rfl (by decide +kernel) ⟨by show 7 + 1 ≤ _; (first | ((try clear c42_); (try clear x2); (try clear hlc); (try clear hm9); (try clear hf); (try clear hc9); (try clear hi); (try clear hexit60); (try clear hRs); (try clear hRc); (try clear hRl); omega) | omega), by show 8 + (7 + 11) + (163) ≤ _; (first | ((try clear c42_); (try clear x2); (try clear hlc); (try clear hm9); (try clear hf); (try clear hc9); (try clear hi); (try clear hexit60); (try clear hRs); (try clear hRc); (try clear hRf); omega) | omega)⟩) ⟨fun a U g mk q => by obtain ⟨q0, q1, qP, qK, qM⟩ := q; exact ⟨q0, q1, qP, va_K.moved (u := U) (U := U.calling g mk a) (Vm.Alike.refl U.vm) qK, qM⟩, va_recv hK hP (ci := 9) (q0 := 0) rfl ((fw_get (by decide)).trans (by rw [sE_0]; rfl)), fun U hU hW => ⟨rfl, by rw [hU], by rw [hU]; exact hP, va_K.moved hW.alike hK, xM_warm hW hM⟩⟩ rfl rfl hl.1 rfl (lv_room (Nat.le_of_ble_eq_true rfl)) dX9_unlike_49 ⟨hRc, hRs⟩) hS (fun q _ h => fA_le hS.1 q h) (fA_le hS.1) (fun r9 u9 t9 H1 locs ht9 hvm9 hw9 hB9 hz9 hk9 hS => ?_)
      obtain ⟨μw, rw9⟩ := u9
      obtain ⟨hP, -⟩ := hB9
      rw [ht9] at hP
      generalize H1 = H at hP hS ⊢
      obtain ⟨e9, hw9⟩ := hw9
      have e9 : r9 = iZ rw9 := e9
      subst e9
      simp only at hP hw9
      have hμw := hw9; clear hw9
      obtain ⟨c1_, f1_⟩ := hμw
      refine lv_iadd hx hb dX9_unlike_52 ?_
      refine lv_topi (fun x9 ex9 => ?_)
      obtain rfl : x9 = iZ (wo + rw9) := ex9.trans (iZ_add _ _)
      refine lv_istore_n (lv' := [(2, .int (iZ (wo + rw9))), (3, .int (iZ (i))), (1, .int (iZ (nd))), (0, .ref h0)]) hx hb dX9_unlike_53 rfl hl (by decide) rfl (fun ls hl => ?_)
      refine lv_iinc (v := iZ (i + 1)) (lv' := [(3, .int (iZ (i + 1))), (2, .int (iZ (wo + rw9))), (1, .int (iZ (nd))), (0, .ref h0)]) hx hb dX9_unlike_54 hl (k := 1) rfl (iZ_add _ _) (by decide) rfl (fun ls hl => ?_)
      refine lv_goto (tgt := 37) hx hb dX9_unlike_57 (by decide) ?_
      exact ih (i + 1) (wo + rw9) μw H locs ls (by (first | ((try clear ex9); (try clear f1_); (try clear c1_); (try clear hμw); (try clear rw9); (try clear μw); (try clear hz9); (try clear hlc); (try clear hm9); (try clear hf); (try clear hc9); (try clear hexit60); (try clear hRs); (try clear hRc); (try clear hRl); (try clear hRf); omega) | omega)) (by exact c1_) (by exact fr_trans hf f1_) (by (first | ((try clear ex9); (try clear f1_); (try clear c1_); (try clear hμw); (try clear rw9); (try clear μw); (try clear hz9); (try clear hf); (try clear hc9); (try clear hexit60); (try clear hRs); (try clear hRc); (try clear hRl); (try clear hRf); omega) | omega)) hP hS (lv_sub hl [0, 1, 2, 3] rfl)
set_option maxHeartbeats 4000000 in
set_option maxRecDepth 100000 in
theorem q_unlike (l : Launch) (hfl : l.stackTraces = false) (dC : Nat → ClassId) (dI : Nat → Nat → Nat) (cI cZ cII cIII : ClassId) (h0 sz : Nat) (μ : va_M) (nd : Int) (T : List Tk) (hI : CI T μ) (h_nd : inR nd) : vx_Met l yX9_unlike (Cond.code yX9_unlike cX9_unlike 4 (some .int) :: wsG) ({ frames := 8, cells := 1, slots := 6, locals := 189 } : Room) (va_Pc [.ref h0, .int (iZ (nd))] (fun U => U.heap.size = sz ∧ va_P (dC, dI) vwCl (fw (sE cI cZ cII cIII h0) h0 233 μ) U.heap ∧ va_K (dC, dI) vwCl (sT cI cZ cII cIII) U ∧ xM U ∧ xX (fA h0 233 sz) U)) (va_Qi (fun (r9 : Int32) (u : va_M × Int) => r9 = iZ u.2 ∧ (fun (u : va_M) (r : Int) => CI T u ∧ SZ μ u) u.1 u.2) (fun u t => va_P (dC, dI) vwCl (fw (sE cI cZ cII cIII h0) h0 233 u.1) t.heap ∧ va_K (dC, dI) vwCl (sT cI cZ cII cIII) t) (fA h0 233 sz)) (vx_X (fun (u : va_M) => CI T u ∧ SZ μ u) (fun E u t => E ∈ (["java/util/NoSuchElementException"] : List String) ∧ va_P (dC, dI) vwCl (fw (sE cI cZ cII cIII h0) h0 233 u) t.heap ∧ va_K (dC, dI) vwCl (sT cI cZ cII cIII) t) (fA h0 233 sz)) 1 6 (fA h0 233 sz) := by
  refine vx_ofW (cc := cX9_unlike) (maxL := 4) (ret := (some .int)) (by decide) rfl ?_
  intro p e s m args below meth c s₁ B hml hnt hv
  obtain ⟨rfl, hsz, hP, hK, hM, hEx⟩ := hv
  have hx := B.exec
  have hb := B.bytes
  have hr := B.returns
  have hts : ∀ w ∈ wsG, w.before _ s = true := hG_of (atoms_spec (ws := (Cond.code yX9_unlike cX9_unlike 4 (some .int) :: wsG)) B.pre)
  have hown : s.vm.findClass RX9 = some m.cls := findClass_of_methodNamed B.named
  have hlocks := B.notSynchronized
  subst hsz
  have hS : va_S (fA h0 233 s.heap.size) s.heap s.heap [] := va_S.rf
  have hl := lv_entry ([.ref h0, .int (iZ (nd))]) (n := 4) (Nat.le_of_ble_eq_true rfl)
  rw [lg_entry_eq]
  generalize (lg_sl ([.ref h0, .int (iZ (nd))]) ++ List.replicate (4 - (lg_sl ([.ref h0, .int (iZ (nd))])).length) Slot.unset).toArray = ls at hl ⊢
  have hl : lv_has ls 4 [(0, .ref h0), (1, .int (iZ (nd)))] := hl
  have hlc := CI_lc hI
  have h66 := CI_n6 hI
  refine lv_aload_n hx hb dX9_unlike_0 rfl (lv_at hl 0 rfl) ?_
  refine lv_aload_n hx hb dX9_unlike_1 rfl (lv_at hl 0 rfl) ?_
  refine fz_get (D := (dC, dI)) (ci := 9) (v := .ref (h0 + 6)) (C := RX9) (T := TX9) (N := 15) hx hb hts inG9 hown hK hP (k := 0) (by decide) (F := (sF0 h0)) sE_0 rfl 3 (by decide) (hts _ k335) (fun _ h9 => h9) rfl dX9_unlike_2 ?_
  refine lv_iload_n hx hb dX9_unlike_5 rfl (lv_at hl 1 rfl) ?_
  by_cases hn6_ : 0 ≤ nd ∧ nd < μ 6 6
  · refine va_callv (va_runV (As := [.ref (h0 + 6), .int (iZ (nd))]) (rest := []) ⟨hx, hb, hml, hown, hts⟩ (s_needNode l dC dI cI cZ cII cIII h0 s.heap.size μ (6) (1100) (nd) (rowB_6) (by first | assumption | omega | exact CI_lc hI | exact CI_cn hI | exact (CI_n6 hI).1 | decide) (by first | assumption | (first | ((try clear hn6_); (try clear hlc); (try clear hsz); (try clear hnt); (try clear s₁); omega) | omega) | exact CI_lc hI | exact CI_cn hI | exact (CI_n6 hI).1 | decide) (by exact hn6_)) (cwV 2 hts (gV_G k914 k916 ks_yX9_needNode k1 k917) rfl rfl rfl (by decide +kernel) ⟨Nat.le_of_ble_eq_true rfl, Nat.le_of_ble_eq_true rfl⟩) ⟨fun a U g mk q => by obtain ⟨q0, q1, qP, qK, qM⟩ := q; exact ⟨q0, q1, qP, va_K.moved (u := U) (U := U.calling g mk a) (Vm.Alike.refl U.vm) qK, qM⟩, va_recv hK hP (ci := 9) (q0 := 0) rfl ((fw_get (by decide)).trans (by rw [sE_0]; rfl)), fun U hU hW => ⟨rfl, by rw [hU], by rw [hU]; exact hP, va_K.moved hW.alike hK, xM_warm hW hM⟩⟩ rfl rfl hl.1 rfl (lv_room (Nat.le_of_ble_eq_true rfl)) dX9_unlike_6 ⟨Nat.le_of_ble_eq_true rfl, Nat.le_of_ble_eq_true rfl⟩) hS (fun q _ h => fA_le hS.1 q h) (fA_le hS.1) (fun u9 t9 H1 locs ht9 hvm9 hw9 hB9 hz9 hk9 hS => ?_)
    obtain ⟨hP, -⟩ := hB9
    rw [ht9] at hP
    generalize H1 = H at hP hS ⊢
    obtain ⟨μ1, eμ1⟩ : ∃ x : va_M, x = u9 := ⟨_, rfl⟩
    rw [← eμ1] at hP hw9
    have hμ1 := hw9; clear hw9
    rw [hμ1] at hP
    have pp := rG_p hI.1.2.2.1 nd (by (first | ((try clear pp); (try clear hμ1); (try clear x); (try clear eμ1); (try clear μ1); (try clear hz9); (try clear h66); (try clear hlc); (try clear hsz); (try clear hnt); (try clear s₁); omega) | omega)) (by (first | ((try clear pp); (try clear hμ1); (try clear x); (try clear eμ1); (try clear μ1); (try clear hz9); (try clear h66); (try clear hlc); (try clear hsz); (try clear hnt); (try clear s₁); omega) | omega))
    have ss := hI.1.2.2.1.1 (μ (6 + 5) nd.toNat).toNat
    refine lv_aload_n hx hb dX9_unlike_9 rfl (lv_at hl 0 rfl) ?_
    refine fz_get (D := (dC, dI)) (ci := 9) (v := .ref (h0 + 6)) (C := RX9) (T := TX9) (N := 15) hx hb hts inG9 hown hK hP (k := 0) (by decide) (F := (sF0 h0)) sE_0 rfl 3 (by decide) (hts _ k335) (fun _ h9 => h9) rfl dX9_unlike_10 ?_
    refine lv_iload_n hx hb dX9_unlike_13 rfl (lv_at hl 1 rfl) ?_
    refine va_calli (va_runV (As := [.int (iZ (nd))]) (rest := []) ⟨hx, hb, hml, hown, hts⟩ (s_RcodeOf l dC dI cI cZ cII cIII h0 H.size μ (6) (1100) (nd) (rowB_6) (by (first | ((try clear ss); (try clear pp); (try clear hμ1); (try clear x); (try clear eμ1); (try clear μ1); (try clear hz9); (try clear hlc); (try clear hsz); (try clear hnt); (try clear s₁); omega) | omega)) (by (first | ((try clear ss); (try clear hμ1); (try clear x); (try clear eμ1); (try clear μ1); (try clear hz9); (try clear hlc); (try clear hsz); (try clear hnt); (try clear s₁); omega) | omega))) (cwV 1 hts (gV_G k983 k984 k985 k3 k986) rfl rfl rfl (by decide +kernel) ⟨Nat.le_of_ble_eq_true rfl, Nat.le_of_ble_eq_true rfl⟩) ⟨fun a U g mk q => by obtain ⟨q0, q1, qP, qK, qM⟩ := q; exact ⟨q0, q1, qP, va_K.moved (u := U) (U := U.calling g mk a) (Vm.Alike.refl U.vm) qK, qM⟩, va_recv hK hP (ci := 4) (q0 := 6) rfl ((fw_get (by decide)).trans (by rw [(sE_rowO rowB_6)])), fun U hU hW => ⟨rfl, by rw [hU], by rw [hU]; exact hP, va_K.moved hW.alike hK, xM_warm hW hM⟩⟩ rfl rfl hl.1 rfl (lv_room (Nat.le_of_ble_eq_true rfl)) dX9_unlike_14 ⟨Nat.le_of_ble_eq_true rfl, Nat.le_of_ble_eq_true rfl⟩) hS (fun q _ h => fA_le hS.1 q h) (fA_le hS.1) (fun r9 u9 t9 H1 locs ht9 hvm9 hw9 hB9 hz9 hk9 hS => ?_)
    obtain ⟨μk, rk⟩ := u9
    obtain ⟨hP, -⟩ := hB9
    rw [ht9] at hP
    generalize H1 = H at hP hS ⊢
    obtain ⟨e9, hw9⟩ := hw9
    have e9 : r9 = iZ rk := e9
    subst e9
    simp only at hP hw9
    have hμk := hw9; clear hw9
    rw [hμk.1] at hP; have hμk := hμk.2
    have hrk := hμk
    refine lv_sipush (v := iZ 512) hx hb dX9_unlike_17 rfl ?_
    refine fz_icmp_eq (tgt := 25) (by first | assumption | (constructor <;> (first | ((try clear hrk); (try clear hμk); (try clear hz9); (try clear pp); (try clear hμ1); (try clear x); (try clear eμ1); (try clear μ1); (try clear hn6_); (try clear h66); (try clear hlc); (try clear hsz); (try clear hnt); (try clear s₁); omega) | omega)) | decide) (by decide) hx hb dX9_unlike_20 (by decide) (fun c20_ => ?_) (fun c20_ => ?_)
    · refine lv_aload_n hx hb dX9_unlike_25 rfl (lv_at hl 0 rfl) ?_
      refine fz_get (D := (dC, dI)) (ci := 9) (v := .ref (h0 + 111)) (C := RX9) (T := TX9) (N := 15) hx hb hts inG9 hown hK hP (k := 0) (by decide) (F := (sF0 h0)) sE_0 rfl 13 (by decide) (hts _ k345) (fun _ h9 => h9) rfl dX9_unlike_26 ?_
      refine lv_iconst (v := iZ 0) hx hb dX9_unlike_29 rfl ?_
      refine va_callv (va_runS (As := [.ref (h0 + 111), .int (iZ (0))]) (rest := []) ⟨hx, hb, hml, hown, hts⟩ (s_fill l dC dI cI cZ cII cIII h0 H.size μ (111) (200) (0) (by decide) (sE_111)) (va_cwS 2 hts (gT_G k329 k330 k12 k331) rfl rfl rfl (by decide +kernel) ⟨Nat.le_of_ble_eq_true rfl, Nat.le_of_ble_eq_true rfl⟩) ⟨fun a U g mk q => by obtain ⟨q0, q1, qP, qK, qM⟩ := q; exact ⟨q0, q1, qP, va_K.moved (u := U) (U := U.calling g mk a) (Vm.Alike.refl U.vm) qK, qM⟩, fun U hU hW => ⟨rfl, by rw [hU], by rw [hU]; exact hP, va_K.moved hW.alike hK, xM_warm hW hM⟩⟩ rfl rfl hl.1 rfl (lv_room (Nat.le_of_ble_eq_true rfl)) dX9_unlike_30 ⟨Nat.le_of_ble_eq_true rfl, Nat.le_of_ble_eq_true rfl⟩) hS (fun q _ h => fA_le hS.1 q h) (fA_le hS.1) (fun u9 t9 H1 locs ht9 hvm9 hw9 hB9 hz9 hk9 hS => ?_)
      obtain ⟨hP, -⟩ := hB9
      rw [ht9] at hP
      generalize H1 = H at hP hS ⊢
      obtain ⟨μf, eμf⟩ : ∃ x : va_M, x = u9 := ⟨_, rfl⟩
      rw [← eμf] at hP hw9
      have hμf := hw9; clear hw9
      obtain ⟨g1_, g2_⟩ := hμf
      rw [fw_nz] at hP
      obtain ⟨μ2, eμ2⟩ : ∃ x : va_M, x = nz μf := ⟨_, rfl⟩
      rw [← eμ2] at hP
      have cf_ : CI T μ2 := by rw [eμ2]; exact CI_nz (CI_z hI.1 (fr_mono g1_ (fun x y h => by unfold Zc; (first | ((try clear μf); (try clear nz); (try clear eμ2); (try clear μ2); (try clear g2_); (try clear g1_); (try clear hμf); (try clear eμf); (try clear hz9); (try clear c20_); (try clear hrk); (try clear hμk); (try clear μk); (try clear ss); (try clear pp); (try clear hμ1); (try clear eμ1); (try clear μ1); (try clear hn6_); (try clear h66); (try clear hlc); (try clear hsz); (try clear hnt); (try clear s₁); omega) | omega))))
      have sf_ : SZ μ μ2 := by rw [eμ2]; exact SZ_nz (fun x y q => g1_ _ _ (by (first | ((try clear μf); (try clear nz); (try clear eμ2); (try clear μ2); (try clear g2_); (try clear g1_); (try clear hμf); (try clear eμf); (try clear hz9); (try clear c20_); (try clear hrk); (try clear hμk); (try clear μk); (try clear ss); (try clear pp); (try clear hμ1); (try clear eμ1); (try clear μ1); (try clear hn6_); (try clear h66); (try clear hlc); (try clear hsz); (try clear hnt); (try clear s₁); omega) | omega)))
      refine lv_iconst (v := iZ 0) hx hb dX9_unlike_33 rfl ?_
      refine lv_istore_n (lv' := [(2, .int (iZ (0))), (0, .ref h0), (1, .int (iZ (nd)))]) hx hb dX9_unlike_34 rfl hl (by decide) rfl (fun ls hl => ?_)
      refine lv_iconst (v := iZ 0) hx hb dX9_unlike_35 rfl ?_
      refine lv_istore_n (lv' := [(3, .int (iZ (0))), (2, .int (iZ (0))), (0, .ref h0), (1, .int (iZ (nd)))]) hx hb dX9_unlike_36 rfl hl (by decide) rfl (fun ls hl => ?_)
      refine LX9_unlike_37z hx hb hml hown hts hK hM (Nat.le_of_ble_eq_true rfl) (Nat.le_of_ble_eq_true rfl) (Nat.le_of_ble_eq_true rfl) (Nat.le_of_ble_eq_true rfl) (μ2) (T) (nd) (by exact cf_) (by assumption) ?_ _ (0) (0) μ2 H locs ls (by have := CI_lc cf_; (first | ((try clear μf); (try clear nz); (try clear x); (try clear eμ2); (try clear g2_); (try clear g1_); (try clear hμf); (try clear eμf); (try clear hz9); (try clear c20_); (try clear hrk); (try clear hμk); (try clear μk); (try clear ss); (try clear pp); (try clear hμ1); (try clear eμ1); (try clear μ1); (try clear hn6_); (try clear h66); (try clear hlc); (try clear hsz); (try clear hnt); (try clear s₁); omega) | omega)) (by exact cf_) (by exact fr_rfl) (Nat.lt_succ_self _) hP hS (lv_sub hl [0, 1, 3, 2] rfl)
      · intro i_3 wo_3 μ3_ H locs ls q1_3 q2_3 hP hS hl
        have hl : lv_has ls 4 [(2, .int (iZ (wo_3)))] := hl
        refine lv_iload_n hx hb dX9_unlike_60 rfl (lv_at hl 0 rfl) ?_
        exact W_widen (Nat.le_of_ble_eq_true rfl) (Nat.le_of_ble_eq_true rfl) (vx_ret (W.iret (v := iZ (wo_3)) hx hb hr (fun t9 ht9 hW9 => ⟨⟨iZ (wo_3), (μ3_, wo_3), rfl, ⟨rfl, (by
                        dsimp only
                        exact ⟨q1_3, SZ_tr sf_ (SZ_wq q2_3)⟩)⟩, by rw [ht9]; exact hP, va_K.moved hW9.alike hK⟩, hS.F ht9⟩) hS.2.2 dX9_unlike_61))
    · refine lv_iconst (v := iZ (-1)) hx hb dX9_unlike_23 rfl ?_
      exact W_widen (Nat.le_of_ble_eq_true rfl) (Nat.le_of_ble_eq_true rfl) (vx_ret (W.iret (v := iZ ((-1))) hx hb hr (fun t9 ht9 hW9 => ⟨⟨iZ ((-1)), (μ, (-1)), rfl, ⟨rfl, (by
                    dsimp only
                    exact ⟨hI, SZ_rf⟩)⟩, by rw [ht9]; exact hP, va_K.moved hW9.alike hK⟩, hS.F ht9⟩) hS.2.2 dX9_unlike_24))
  · refine vx_callv (vx_runV (As := [.ref (h0 + 6), .int (iZ (nd))]) (rest := []) ⟨hx, hb, hml, hown, hts⟩ (x_needNode l hfl dC dI cI cZ cII cIII h0 s.heap.size μ (6) (1100) (nd) (rowB_6) (by first | assumption | omega | exact CI_lc hI | exact CI_cn hI | exact (CI_n6 hI).1 | decide) (by first | assumption | (first | ((try clear hn6_); (try clear hlc); (try clear hsz); (try clear hnt); (try clear s₁); omega) | omega) | exact CI_lc hI | exact CI_cn hI | exact (CI_n6 hI).1 | decide) (hn6_)) (cwV 2 hts (gV_G k914 k916 ks_yX9_needNode k1 k917) rfl rfl rfl (by decide +kernel) ⟨Nat.le_of_ble_eq_true rfl, Nat.le_of_ble_eq_true rfl⟩) ⟨fun a U g mk q => by obtain ⟨q0, q1, qP, qK, qM, qE⟩ := q; exact ⟨q0, q1, qP, va_K.moved (u := U) (U := U.calling g mk a) (Vm.Alike.refl U.vm) qK, qM, xX_call qE⟩, va_recv hK hP (ci := 9) (q0 := 0) rfl ((fw_get (by decide)).trans (by rw [sE_0]; rfl)), fun U hU hW => ⟨rfl, by rw [hU], by rw [hU]; exact hP, va_K.moved hW.alike hK, xM_warm hW hM, xX_at hEx hS (fun q h => fA_le hS.1 q h) hU hW⟩⟩ rfl rfl hl.1 rfl (lv_room (Nat.le_of_ble_eq_true rfl)) dX9_unlike_6 ⟨Nat.le_of_ble_eq_true rfl, Nat.le_of_ble_eq_true rfl⟩) hS (fun q _ h => fA_le hS.1 q h) (fA_le hS.1) (fun q _ h => fA_le hS.1 q h) (fun E9 ce9 q9 u9 t9 H1 locs ht9 hvm9 hpx9 hBX9 hz9 hk9 hS hce9 hcv9 hcl9 => ?_) (fun u9 t9 H1 locs ht9 hvm9 hw9 hB9 hz9 hk9 hS => hw9.elim)
    obtain ⟨hE9, hP9, hK9⟩ := hBX9
    exact vx_out (fun x hx9 => (hnt x hx9).elim) hlocks hce9 hcv9 hcl9 (fun t8 ht8 hW8 => ⟨u9, (by
                show CI T u9 ∧ SZ μ u9
                exact CZ_thr hI hpx9), ⟨hE9, by rw [ht8, ← ht9]; exact hP9, va_K.moved hW8 hK⟩, hS.F ht8⟩) hS.2.2 (Nat.le_of_ble_eq_true rfl) (Nat.le_of_ble_eq_true rfl)

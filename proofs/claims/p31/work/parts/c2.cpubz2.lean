
/-! public methods that change something: the pages stay -/
set_option maxHeartbeats 4000000 in
set_option maxRecDepth 100000 in
theorem q_derived (l : Launch) (hfl : l.stackTraces = false) (dC : Nat → ClassId) (dI : Nat → Nat → Nat) (cI cZ cII cIII : ClassId) (h0 sz : Nat) (μ : va_M) (tn : Int) (T : List Tk) (hI : CI T μ) (h_tn : inR tn) : vx_Met l yX9_derived (Cond.code yX9_derived cX9_derived 2 (some .int) :: wsG) ({ frames := 7, cells := 1, slots := 6, locals := 113 } : Room) (va_Pc [.ref h0, .int (iZ (tn))] (fun U => U.heap.size = sz ∧ va_P (dC, dI) vwCl (fw (sE cI cZ cII cIII h0) h0 233 μ) U.heap ∧ va_K (dC, dI) vwCl (sT cI cZ cII cIII) U ∧ xM U ∧ xX (fA h0 233 sz) U)) (va_Qi (fun (r9 : Int32) (u : va_M × Int) => r9 = iZ u.2 ∧ (fun (u : va_M) (r : Int) => CI T u ∧ SZ μ u) u.1 u.2) (fun u t => va_P (dC, dI) vwCl (fw (sE cI cZ cII cIII h0) h0 233 u.1) t.heap ∧ va_K (dC, dI) vwCl (sT cI cZ cII cIII) t) (fA h0 233 sz)) (vx_X (fun (u : va_M) => CI T u ∧ SZ μ u) (fun E u t => E ∈ (["java/lang/IllegalArgumentException"] : List String) ∧ va_P (dC, dI) vwCl (fw (sE cI cZ cII cIII h0) h0 233 u) t.heap ∧ va_K (dC, dI) vwCl (sT cI cZ cII cIII) t) (fA h0 233 sz)) 1 6 (fA h0 233 sz) := by
  refine vx_ofW (cc := cX9_derived) (maxL := 2) (ret := (some .int)) (by decide) rfl ?_
  intro p e s m args below meth c s₁ B hml hnt hv
  obtain ⟨rfl, hsz, hP, hK, hM, hEx⟩ := hv
  have hx := B.exec
  have hb := B.bytes
  have hr := B.returns
  have hts : ∀ w ∈ wsG, w.before _ s = true := hG_of (atoms_spec (ws := (Cond.code yX9_derived cX9_derived 2 (some .int) :: wsG)) B.pre)
  have hown : s.vm.findClass RX9 = some m.cls := findClass_of_methodNamed B.named
  have hlocks := B.notSynchronized
  subst hsz
  have hS : va_S (fA h0 233 s.heap.size) s.heap s.heap [] := va_S.rf
  have hl := lv_entry ([.ref h0, .int (iZ (tn))]) (n := 2) (Nat.le_of_ble_eq_true rfl)
  rw [lg_entry_eq]
  generalize (lg_sl ([.ref h0, .int (iZ (tn))]) ++ List.replicate (2 - (lg_sl ([.ref h0, .int (iZ (tn))])).length) Slot.unset).toArray = ls at hl ⊢
  have hl : lv_has ls 2 [(0, .ref h0), (1, .int (iZ (tn)))] := hl
  have hlc := CI_lc hI
  have h66 := CI_n6 hI
  refine lv_aload_n hx hb dX9_derived_0 rfl (lv_at hl 0 rfl) ?_
  refine lv_iload_n hx hb dX9_derived_1 rfl (lv_at hl 1 rfl) ?_
  refine fz_if_lt (tgt := 15) (by first | assumption | (constructor <;> omega) | decide) hx hb dX9_derived_2 (by decide) (fun c2_ => ?_) (fun c2_ => ?_)
  · refine lv_iconst (v := iZ 0) hx hb dX9_derived_15 rfl ?_
    refine vx_callv (vx_runV (As := [.int (iZ (0))]) (rest := []) ⟨hx, hb, hml, hown, hts⟩ (x_needArgument l hfl dC dI cI cZ cII cIII h0 s.heap.size μ  ) (cwV 1 hts (gV_G k596 k598 ks_yX9_needArgument k1 k599) rfl rfl rfl (by decide +kernel) ⟨Nat.le_of_ble_eq_true rfl, Nat.le_of_ble_eq_true rfl⟩) ⟨fun a U g mk q => by obtain ⟨q0, q1, qP, qK, qM, qE⟩ := q; exact ⟨q0, q1, qP, va_K.moved (u := U) (U := U.calling g mk a) (Vm.Alike.refl U.vm) qK, qM, xX_call qE⟩, va_recv hK hP (ci := 9) (q0 := 0) rfl ((fw_get (by decide)).trans (by rw [sE_0]; rfl)), fun U hU hW => ⟨rfl, by rw [hU], by rw [hU]; exact hP, va_K.moved hW.alike hK, xM_warm hW hM, xX_at hEx hS (fun q h => fA_le hS.1 q h) hU hW⟩⟩ rfl rfl hl.1 rfl (lv_room (Nat.le_of_ble_eq_true rfl)) dX9_derived_16 ⟨Nat.le_of_ble_eq_true rfl, Nat.le_of_ble_eq_true rfl⟩) hS (fun q _ h => fA_le hS.1 q h) (fA_le hS.1) (fun q _ h => fA_le hS.1 q h) (fun E9 ce9 q9 u9 t9 H1 locs ht9 hvm9 hpx9 hBX9 hz9 hk9 hS hce9 hcv9 hcl9 => ?_) (fun u9 t9 H1 locs ht9 hvm9 hw9 hB9 hz9 hk9 hS => hw9.elim)
    obtain ⟨hE9, hP9, hK9⟩ := hBX9
    exact vx_out (fun x hx9 => (hnt x hx9).elim) hlocks hce9 hcv9 hcl9 (fun t8 ht8 hW8 => ⟨u9, (by
                show CI T u9 ∧ SZ μ u9
                exact CZ_thr hI hpx9), ⟨hE9, by rw [ht8, ← ht9]; exact hP9, va_K.moved hW8 hK⟩, hS.F ht8⟩) hS.2.2 (Nat.le_of_ble_eq_true rfl) (Nat.le_of_ble_eq_true rfl)
  · refine lv_iload_n hx hb dX9_derived_5 rfl (lv_at hl 1 rfl) ?_
    refine lv_bipush (v := iZ 60) hx hb dX9_derived_6 rfl ?_
    refine fz_icmp_gt (tgt := 15) (by first | assumption | (constructor <;> omega) | decide) (by decide) hx hb dX9_derived_8 (by decide) (fun c8_ => ?_) (fun c8_ => ?_)
    · refine lv_iconst (v := iZ 0) hx hb dX9_derived_15 rfl ?_
      refine vx_callv (vx_runV (As := [.int (iZ (0))]) (rest := []) ⟨hx, hb, hml, hown, hts⟩ (x_needArgument l hfl dC dI cI cZ cII cIII h0 s.heap.size μ  ) (cwV 1 hts (gV_G k596 k598 ks_yX9_needArgument k1 k599) rfl rfl rfl (by decide +kernel) ⟨Nat.le_of_ble_eq_true rfl, Nat.le_of_ble_eq_true rfl⟩) ⟨fun a U g mk q => by obtain ⟨q0, q1, qP, qK, qM, qE⟩ := q; exact ⟨q0, q1, qP, va_K.moved (u := U) (U := U.calling g mk a) (Vm.Alike.refl U.vm) qK, qM, xX_call qE⟩, va_recv hK hP (ci := 9) (q0 := 0) rfl ((fw_get (by decide)).trans (by rw [sE_0]; rfl)), fun U hU hW => ⟨rfl, by rw [hU], by rw [hU]; exact hP, va_K.moved hW.alike hK, xM_warm hW hM, xX_at hEx hS (fun q h => fA_le hS.1 q h) hU hW⟩⟩ rfl rfl hl.1 rfl (lv_room (Nat.le_of_ble_eq_true rfl)) dX9_derived_16 ⟨Nat.le_of_ble_eq_true rfl, Nat.le_of_ble_eq_true rfl⟩) hS (fun q _ h => fA_le hS.1 q h) (fA_le hS.1) (fun q _ h => fA_le hS.1 q h) (fun E9 ce9 q9 u9 t9 H1 locs ht9 hvm9 hpx9 hBX9 hz9 hk9 hS hce9 hcv9 hcl9 => ?_) (fun u9 t9 H1 locs ht9 hvm9 hw9 hB9 hz9 hk9 hS => hw9.elim)
      obtain ⟨hE9, hP9, hK9⟩ := hBX9
      exact vx_out (fun x hx9 => (hnt x hx9).elim) hlocks hce9 hcv9 hcl9 (fun t8 ht8 hW8 => ⟨u9, (by
                    show CI T u9 ∧ SZ μ u9
                    exact CZ_thr hI hpx9), ⟨hE9, by rw [ht8, ← ht9]; exact hP9, va_K.moved hW8 hK⟩, hS.F ht8⟩) hS.2.2 (Nat.le_of_ble_eq_true rfl) (Nat.le_of_ble_eq_true rfl)
    · refine lv_iconst (v := iZ 1) hx hb dX9_derived_11 rfl ?_
      refine lv_goto (tgt := 16) hx hb dX9_derived_12 (by decide) ?_
      refine va_callv (va_runV (As := [.int (iZ (1))]) (rest := []) ⟨hx, hb, hml, hown, hts⟩ (s_needArgument l dC dI cI cZ cII cIII h0 s.heap.size μ  ) (cwV 1 hts (gV_G k596 k598 ks_yX9_needArgument k1 k599) rfl rfl rfl (by decide +kernel) ⟨Nat.le_of_ble_eq_true rfl, Nat.le_of_ble_eq_true rfl⟩) ⟨fun a U g mk q => by obtain ⟨q0, q1, qP, qK, qM⟩ := q; exact ⟨q0, q1, qP, va_K.moved (u := U) (U := U.calling g mk a) (Vm.Alike.refl U.vm) qK, qM⟩, va_recv hK hP (ci := 9) (q0 := 0) rfl ((fw_get (by decide)).trans (by rw [sE_0]; rfl)), fun U hU hW => ⟨rfl, by rw [hU], by rw [hU]; exact hP, va_K.moved hW.alike hK, xM_warm hW hM⟩⟩ rfl rfl hl.1 rfl (lv_room (Nat.le_of_ble_eq_true rfl)) dX9_derived_16 ⟨Nat.le_of_ble_eq_true rfl, Nat.le_of_ble_eq_true rfl⟩) hS (fun q _ h => fA_le hS.1 q h) (fA_le hS.1) (fun u9 t9 H1 locs ht9 hvm9 hw9 hB9 hz9 hk9 hS => ?_)
      obtain ⟨hP, -⟩ := hB9
      rw [ht9] at hP
      generalize H1 = H at hP hS ⊢
      obtain ⟨μ1, eμ1⟩ : ∃ x : va_M, x = u9 := ⟨_, rfl⟩
      rw [← eμ1] at hP hw9
      have hμ1 := hw9; clear hw9
      rw [hμ1] at hP
      refine lv_aload_n hx hb dX9_derived_19 rfl (lv_at hl 0 rfl) ?_
      refine fz_get (D := (dC, dI)) (ci := 9) (v := .ref (h0 + 45)) (C := RX9) (T := TX9) (N := 15) hx hb hts inG9 hown hK hP (k := 0) (by decide) (F := (sF0 h0)) sE_0 rfl 10 (by decide) (hts _ k342) (fun _ h9 => h9) rfl dX9_derived_20 ?_
      refine lv_aload_n hx hb dX9_derived_23 rfl (lv_at hl 0 rfl) ?_
      refine fz_get (D := (dC, dI)) (ci := 9) (v := .ref (h0 + 6)) (C := RX9) (T := TX9) (N := 15) hx hb hts inG9 hown hK hP (k := 0) (by decide) (F := (sF0 h0)) sE_0 rfl 3 (by decide) (hts _ k335) (fun _ h9 => h9) rfl dX9_derived_24 ?_
      refine lv_aload_n hx hb dX9_derived_27 rfl (lv_at hl 0 rfl) ?_
      refine fz_get (D := (dC, dI)) (ci := 9) (v := .ref (h0 + 110)) (C := RX9) (T := TX9) (N := 15) hx hb hts inG9 hown hK hP (k := 0) (by decide) (F := (sF0 h0)) sE_0 rfl 12 (by decide) (hts _ k344) (fun _ h9 => h9) rfl dX9_derived_28 ?_
      refine lv_iload_n hx hb dX9_derived_31 rfl (lv_at hl 1 rfl) ?_
      refine lv_iconst (v := iZ 0) hx hb dX9_derived_32 rfl ?_
      refine va_calli (va_runV (As := [.ref (h0 + 6), .ref (h0 + 110), .int (iZ (tn)), .int (iZ (0))]) (rest := []) ⟨hx, hb, hml, hown, hts⟩ (s_WgoThrough l dC dI cI cZ cII cIII h0 H.size μ (6) (1100) (110) (60) (tn) (0) (rowB_6) (by exact hI.1.2.2.1) (by exact hI.1.2.2.2.2.2.1) (by (first | ((try clear hμ1); (try clear x); (try clear eμ1); (try clear μ1); (try clear hz9); (try clear c8_); (try clear c2_); (try clear h66); (try clear hlc); (try clear hsz); (try clear hnt); (try clear s₁); omega) | omega)) (sE_110) (by
                    intro j
                    exact hI.2 110 j (by unfold Zc; (first | ((try clear hμ1); (try clear x); (try clear eμ1); (try clear μ1); (try clear hz9); (try clear c8_); (try clear c2_); (try clear h66); (try clear hlc); (try clear hsz); (try clear hnt); (try clear s₁); omega) | omega)) (by (first | ((try clear j); (try clear hμ1); (try clear x); (try clear eμ1); (try clear μ1); (try clear hz9); (try clear c8_); (try clear c2_); (try clear h66); (try clear hlc); (try clear hsz); (try clear hnt); (try clear s₁); omega) | omega))) (by (first | ((try clear j); (try clear hμ1); (try clear x); (try clear eμ1); (try clear μ1); (try clear hz9); (try clear h66); (try clear hlc); (try clear hsz); (try clear hnt); (try clear s₁); omega) | omega)) (by decide)) (cwV 4 hts (gV_G k848 k544 k545 k8 k546) rfl rfl rfl (by decide +kernel) ⟨Nat.le_of_ble_eq_true rfl, Nat.le_of_ble_eq_true rfl⟩) ⟨fun a U g mk q => by obtain ⟨q0, q1, qP, qK, qM⟩ := q; exact ⟨q0, q1, qP, va_K.moved (u := U) (U := U.calling g mk a) (Vm.Alike.refl U.vm) qK, qM⟩, va_recv hK hP (ci := 8) (q0 := 45) rfl ((fw_get (by decide)).trans (by rw [sE_45])), fun U hU hW => ⟨rfl, by rw [hU], by rw [hU]; exact hP, va_K.moved hW.alike hK, xM_warm hW hM⟩⟩ rfl rfl hl.1 rfl (lv_room (Nat.le_of_ble_eq_true rfl)) dX9_derived_33 ⟨Nat.le_of_ble_eq_true rfl, Nat.le_of_ble_eq_true rfl⟩) hS (fun q _ h => fA_le hS.1 q h) (fA_le hS.1) (fun r9 u9 t9 H1 locs ht9 hvm9 hw9 hB9 hz9 hk9 hS => ?_)
      obtain ⟨μg, rg⟩ := u9
      obtain ⟨hP, -⟩ := hB9
      rw [ht9] at hP
      generalize H1 = H at hP hS ⊢
      obtain ⟨e9, hw9⟩ := hw9
      have e9 : r9 = iZ rg := e9
      subst e9
      simp only at hP hw9
      have hμg := hw9; clear hw9
      obtain ⟨f1_, a1_, r1_, r2_⟩ := hμg
      exact W_widen (Nat.le_of_ble_eq_true rfl) (Nat.le_of_ble_eq_true rfl) (vx_ret (W.iret (v := iZ (rg)) hx hb hr (fun t9 ht9 hW9 => ⟨⟨iZ (rg), (μg, rg), rfl, ⟨rfl, (by
                    dsimp only
                    exact CZ_wk hI f1_ a1_)⟩, by rw [ht9]; exact hP, va_K.moved hW9.alike hK⟩, hS.F ht9⟩) hS.2.2 dX9_derived_36))
set_option maxHeartbeats 4000000 in
set_option maxRecDepth 100000 in
theorem q_distance (l : Launch) (hfl : l.stackTraces = false) (dC : Nat → ClassId) (dI : Nat → Nat → Nat) (cI cZ cII cIII : ClassId) (h0 sz : Nat) (μ : va_M) (pg : Int) (ot : Int) (T : List Tk) (hI : CI T μ) (h_pg : inR pg) (h_ot : inR ot) : vx_Met l yX9_distance (Cond.code yX9_distance cX9_distance 3 (some .int) :: wsG) ({ frames := 8, cells := 1, slots := 6, locals := 161 } : Room) (va_Pc [.ref h0, .int (iZ (pg)), .int (iZ (ot))] (fun U => U.heap.size = sz ∧ va_P (dC, dI) vwCl (fw (sE cI cZ cII cIII h0) h0 233 μ) U.heap ∧ va_K (dC, dI) vwCl (sT cI cZ cII cIII) U ∧ xM U ∧ xX (fA h0 233 sz) U)) (va_Qi (fun (r9 : Int32) (u : va_M × Int) => r9 = iZ u.2 ∧ (fun (u : va_M) (r : Int) => CI T u ∧ SZ μ u) u.1 u.2) (fun u t => va_P (dC, dI) vwCl (fw (sE cI cZ cII cIII h0) h0 233 u.1) t.heap ∧ va_K (dC, dI) vwCl (sT cI cZ cII cIII) t) (fA h0 233 sz)) (vx_X (fun (u : va_M) => CI T u ∧ SZ μ u) (fun E u t => E ∈ (["java/util/NoSuchElementException"] : List String) ∧ va_P (dC, dI) vwCl (fw (sE cI cZ cII cIII h0) h0 233 u) t.heap ∧ va_K (dC, dI) vwCl (sT cI cZ cII cIII) t) (fA h0 233 sz)) 1 6 (fA h0 233 sz) := by
  refine vx_ofW (cc := cX9_distance) (maxL := 3) (ret := (some .int)) (by decide) rfl ?_
  intro p e s m args below meth c s₁ B hml hnt hv
  obtain ⟨rfl, hsz, hP, hK, hM, hEx⟩ := hv
  have hx := B.exec
  have hb := B.bytes
  have hr := B.returns
  have hts : ∀ w ∈ wsG, w.before _ s = true := hG_of (atoms_spec (ws := (Cond.code yX9_distance cX9_distance 3 (some .int) :: wsG)) B.pre)
  have hown : s.vm.findClass RX9 = some m.cls := findClass_of_methodNamed B.named
  have hlocks := B.notSynchronized
  subst hsz
  have hS : va_S (fA h0 233 s.heap.size) s.heap s.heap [] := va_S.rf
  have hl := lv_entry ([.ref h0, .int (iZ (pg)), .int (iZ (ot))]) (n := 3) (Nat.le_of_ble_eq_true rfl)
  rw [lg_entry_eq]
  generalize (lg_sl ([.ref h0, .int (iZ (pg)), .int (iZ (ot))]) ++ List.replicate (3 - (lg_sl ([.ref h0, .int (iZ (pg)), .int (iZ (ot))])).length) Slot.unset).toArray = ls at hl ⊢
  have hl : lv_has ls 3 [(0, .ref h0), (1, .int (iZ (pg))), (2, .int (iZ (ot)))] := hl
  have hlc := CI_lc hI
  have h66 := CI_n6 hI
  refine lv_aload_n hx hb dX9_distance_0 rfl (lv_at hl 0 rfl) ?_
  refine lv_iload_n hx hb dX9_distance_1 rfl (lv_at hl 1 rfl) ?_
  by_cases hn2_ : 0 ≤ pg ∧ pg < μ 0 2
  · refine va_callv (va_runV (As := [.int (iZ (pg))]) (rest := []) ⟨hx, hb, hml, hown, hts⟩ (s_needPage l dC dI cI cZ cII cIII h0 s.heap.size μ (pg) (by first | assumption | omega | exact CI_lc hI | exact CI_cn hI | exact (CI_n6 hI).1 | decide) (by first | assumption | omega | exact CI_lc hI | exact CI_cn hI | exact (CI_n6 hI).1 | decide) (by exact hn2_)) (cwV 1 hts (gV_G k735 k737 ks_yX9_needPage k1 k738) rfl rfl rfl (by decide +kernel) ⟨Nat.le_of_ble_eq_true rfl, Nat.le_of_ble_eq_true rfl⟩) ⟨fun a U g mk q => by obtain ⟨q0, q1, qP, qK, qM⟩ := q; exact ⟨q0, q1, qP, va_K.moved (u := U) (U := U.calling g mk a) (Vm.Alike.refl U.vm) qK, qM⟩, va_recv hK hP (ci := 9) (q0 := 0) rfl ((fw_get (by decide)).trans (by rw [sE_0]; rfl)), fun U hU hW => ⟨rfl, by rw [hU], by rw [hU]; exact hP, va_K.moved hW.alike hK, xM_warm hW hM⟩⟩ rfl rfl hl.1 rfl (lv_room (Nat.le_of_ble_eq_true rfl)) dX9_distance_2 ⟨Nat.le_of_ble_eq_true rfl, Nat.le_of_ble_eq_true rfl⟩) hS (fun q _ h => fA_le hS.1 q h) (fA_le hS.1) (fun u9 t9 H1 locs ht9 hvm9 hw9 hB9 hz9 hk9 hS => ?_)
    obtain ⟨hP, -⟩ := hB9
    rw [ht9] at hP
    generalize H1 = H at hP hS ⊢
    obtain ⟨μ1, eμ1⟩ : ∃ x : va_M, x = u9 := ⟨_, rfl⟩
    rw [← eμ1] at hP hw9
    have hμ1 := hw9; clear hw9
    rw [hμ1] at hP
    refine lv_aload_n hx hb dX9_distance_5 rfl (lv_at hl 0 rfl) ?_
    refine lv_iload_n hx hb dX9_distance_6 rfl (lv_at hl 2 rfl) ?_
    by_cases hn7_ : 0 ≤ ot ∧ ot < μ 0 2
    · refine va_callv (va_runV (As := [.int (iZ (ot))]) (rest := []) ⟨hx, hb, hml, hown, hts⟩ (s_needPage l dC dI cI cZ cII cIII h0 H.size μ (ot) (by first | assumption | omega | exact CI_lc hI | exact CI_cn hI | exact (CI_n6 hI).1 | decide) (by first | assumption | omega | exact CI_lc hI | exact CI_cn hI | exact (CI_n6 hI).1 | decide) (by exact hn7_)) (cwV 1 hts (gV_G k735 k737 ks_yX9_needPage k1 k738) rfl rfl rfl (by decide +kernel) ⟨Nat.le_of_ble_eq_true rfl, Nat.le_of_ble_eq_true rfl⟩) ⟨fun a U g mk q => by obtain ⟨q0, q1, qP, qK, qM⟩ := q; exact ⟨q0, q1, qP, va_K.moved (u := U) (U := U.calling g mk a) (Vm.Alike.refl U.vm) qK, qM⟩, va_recv hK hP (ci := 9) (q0 := 0) rfl ((fw_get (by decide)).trans (by rw [sE_0]; rfl)), fun U hU hW => ⟨rfl, by rw [hU], by rw [hU]; exact hP, va_K.moved hW.alike hK, xM_warm hW hM⟩⟩ rfl rfl hl.1 rfl (lv_room (Nat.le_of_ble_eq_true rfl)) dX9_distance_7 ⟨Nat.le_of_ble_eq_true rfl, Nat.le_of_ble_eq_true rfl⟩) hS (fun q _ h => fA_le hS.1 q h) (fA_le hS.1) (fun u9 t9 H1 locs ht9 hvm9 hw9 hB9 hz9 hk9 hS => ?_)
      obtain ⟨hP, -⟩ := hB9
      rw [ht9] at hP
      generalize H1 = H at hP hS ⊢
      obtain ⟨μ2, eμ2⟩ : ∃ x : va_M, x = u9 := ⟨_, rfl⟩
      rw [← eμ2] at hP hw9
      have hμ2 := hw9; clear hw9
      rw [hμ2] at hP
      refine lv_aload_n hx hb dX9_distance_10 rfl (lv_at hl 0 rfl) ?_
      refine lv_iload_n hx hb dX9_distance_11 rfl (lv_at hl 1 rfl) ?_
      refine lv_iload_n hx hb dX9_distance_12 rfl (lv_at hl 2 rfl) ?_
      refine va_calli (va_runV (As := [.int (iZ (pg)), .int (iZ (ot))]) (rest := []) ⟨hx, hb, hml, hown, hts⟩ (s_costBetween l dC dI cI cZ cII cIII h0 H.size μ (pg) (ot) (T) (by exact hI) (by (first | ((try clear hμ2); (try clear x); (try clear eμ2); (try clear μ2); (try clear hz9); (try clear hn7_); (try clear hμ1); (try clear eμ1); (try clear μ1); (try clear h66); (try clear hlc); (try clear hsz); (try clear hnt); (try clear s₁); omega) | omega)) (by (first | ((try clear hμ2); (try clear x); (try clear eμ2); (try clear μ2); (try clear hz9); (try clear hμ1); (try clear eμ1); (try clear μ1); (try clear hn2_); (try clear h66); (try clear hlc); (try clear hsz); (try clear hnt); (try clear s₁); omega) | omega))) (cwV 2 hts (gV_G k1026 k1028 ks_yX9_costBetween k1 k1029) rfl rfl rfl (by decide +kernel) ⟨Nat.le_of_ble_eq_true rfl, Nat.le_of_ble_eq_true rfl⟩) ⟨fun a U g mk q => by obtain ⟨q0, q1, qP, qK, qM⟩ := q; exact ⟨q0, q1, qP, va_K.moved (u := U) (U := U.calling g mk a) (Vm.Alike.refl U.vm) qK, qM⟩, va_recv hK hP (ci := 9) (q0 := 0) rfl ((fw_get (by decide)).trans (by rw [sE_0]; rfl)), fun U hU hW => ⟨rfl, by rw [hU], by rw [hU]; exact hP, va_K.moved hW.alike hK, xM_warm hW hM⟩⟩ rfl rfl hl.1 rfl (lv_room (Nat.le_of_ble_eq_true rfl)) dX9_distance_13 ⟨Nat.le_of_ble_eq_true rfl, Nat.le_of_ble_eq_true rfl⟩) hS (fun q _ h => fA_le hS.1 q h) (fA_le hS.1) (fun r9 u9 t9 H1 locs ht9 hvm9 hw9 hB9 hz9 hk9 hS => ?_)
      obtain ⟨μl, rl⟩ := u9
      obtain ⟨hP, -⟩ := hB9
      rw [ht9] at hP
      generalize H1 = H at hP hS ⊢
      obtain ⟨e9, hw9⟩ := hw9
      have e9 : r9 = iZ rl := e9
      subst e9
      simp only at hP hw9
      have hμl := hw9; clear hw9
      obtain ⟨c0_, f1_, r1_⟩ := hμl
      have cz_ := CZ_r12 hI c0_ (fr_mono f1_ (fun x y h => by (first | ((try clear y); (try clear cz_); (try clear r1_); (try clear f1_); (try clear c0_); (try clear hμl); (try clear μl); (try clear hz9); (try clear hμ2); (try clear eμ2); (try clear μ2); (try clear hn7_); (try clear hμ1); (try clear eμ1); (try clear μ1); (try clear hn2_); (try clear h66); (try clear hlc); (try clear hsz); (try clear hnt); (try clear s₁); omega) | omega)))
      exact W_widen (Nat.le_of_ble_eq_true rfl) (Nat.le_of_ble_eq_true rfl) (vx_ret (W.iret (v := iZ (rl)) hx hb hr (fun t9 ht9 hW9 => ⟨⟨iZ (rl), (μl, rl), rfl, ⟨rfl, (by
                    dsimp only
                    exact cz_)⟩, by rw [ht9]; exact hP, va_K.moved hW9.alike hK⟩, hS.F ht9⟩) hS.2.2 dX9_distance_16))
    · refine vx_callv (vx_runV (As := [.int (iZ (ot))]) (rest := []) ⟨hx, hb, hml, hown, hts⟩ (x_needPage l hfl dC dI cI cZ cII cIII h0 H.size μ (ot) (by first | assumption | omega | exact CI_lc hI | exact CI_cn hI | exact (CI_n6 hI).1 | decide) (by first | assumption | omega | exact CI_lc hI | exact CI_cn hI | exact (CI_n6 hI).1 | decide) (hn7_)) (cwV 1 hts (gV_G k735 k737 ks_yX9_needPage k1 k738) rfl rfl rfl (by decide +kernel) ⟨Nat.le_of_ble_eq_true rfl, Nat.le_of_ble_eq_true rfl⟩) ⟨fun a U g mk q => by obtain ⟨q0, q1, qP, qK, qM, qE⟩ := q; exact ⟨q0, q1, qP, va_K.moved (u := U) (U := U.calling g mk a) (Vm.Alike.refl U.vm) qK, qM, xX_call qE⟩, va_recv hK hP (ci := 9) (q0 := 0) rfl ((fw_get (by decide)).trans (by rw [sE_0]; rfl)), fun U hU hW => ⟨rfl, by rw [hU], by rw [hU]; exact hP, va_K.moved hW.alike hK, xM_warm hW hM, xX_at hEx hS (fun q h => fA_le hS.1 q h) hU hW⟩⟩ rfl rfl hl.1 rfl (lv_room (Nat.le_of_ble_eq_true rfl)) dX9_distance_7 ⟨Nat.le_of_ble_eq_true rfl, Nat.le_of_ble_eq_true rfl⟩) hS (fun q _ h => fA_le hS.1 q h) (fA_le hS.1) (fun q _ h => fA_le hS.1 q h) (fun E9 ce9 q9 u9 t9 H1 locs ht9 hvm9 hpx9 hBX9 hz9 hk9 hS hce9 hcv9 hcl9 => ?_) (fun u9 t9 H1 locs ht9 hvm9 hw9 hB9 hz9 hk9 hS => hw9.elim)
      obtain ⟨hE9, hP9, hK9⟩ := hBX9
      exact vx_out (fun x hx9 => (hnt x hx9).elim) hlocks hce9 hcv9 hcl9 (fun t8 ht8 hW8 => ⟨u9, (by
                    show CI T u9 ∧ SZ μ u9
                    exact CZ_thr hI hpx9), ⟨hE9, by rw [ht8, ← ht9]; exact hP9, va_K.moved hW8 hK⟩, hS.F ht8⟩) hS.2.2 (Nat.le_of_ble_eq_true rfl) (Nat.le_of_ble_eq_true rfl)
  · refine vx_callv (vx_runV (As := [.int (iZ (pg))]) (rest := []) ⟨hx, hb, hml, hown, hts⟩ (x_needPage l hfl dC dI cI cZ cII cIII h0 s.heap.size μ (pg) (by first | assumption | omega | exact CI_lc hI | exact CI_cn hI | exact (CI_n6 hI).1 | decide) (by first | assumption | omega | exact CI_lc hI | exact CI_cn hI | exact (CI_n6 hI).1 | decide) (hn2_)) (cwV 1 hts (gV_G k735 k737 ks_yX9_needPage k1 k738) rfl rfl rfl (by decide +kernel) ⟨Nat.le_of_ble_eq_true rfl, Nat.le_of_ble_eq_true rfl⟩) ⟨fun a U g mk q => by obtain ⟨q0, q1, qP, qK, qM, qE⟩ := q; exact ⟨q0, q1, qP, va_K.moved (u := U) (U := U.calling g mk a) (Vm.Alike.refl U.vm) qK, qM, xX_call qE⟩, va_recv hK hP (ci := 9) (q0 := 0) rfl ((fw_get (by decide)).trans (by rw [sE_0]; rfl)), fun U hU hW => ⟨rfl, by rw [hU], by rw [hU]; exact hP, va_K.moved hW.alike hK, xM_warm hW hM, xX_at hEx hS (fun q h => fA_le hS.1 q h) hU hW⟩⟩ rfl rfl hl.1 rfl (lv_room (Nat.le_of_ble_eq_true rfl)) dX9_distance_2 ⟨Nat.le_of_ble_eq_true rfl, Nat.le_of_ble_eq_true rfl⟩) hS (fun q _ h => fA_le hS.1 q h) (fA_le hS.1) (fun q _ h => fA_le hS.1 q h) (fun E9 ce9 q9 u9 t9 H1 locs ht9 hvm9 hpx9 hBX9 hz9 hk9 hS hce9 hcv9 hcl9 => ?_) (fun u9 t9 H1 locs ht9 hvm9 hw9 hB9 hz9 hk9 hS => hw9.elim)
    obtain ⟨hE9, hP9, hK9⟩ := hBX9
    exact vx_out (fun x hx9 => (hnt x hx9).elim) hlocks hce9 hcv9 hcl9 (fun t8 ht8 hW8 => ⟨u9, (by
                show CI T u9 ∧ SZ μ u9
                exact CZ_thr hI hpx9), ⟨hE9, by rw [ht8, ← ht9]; exact hP9, va_K.moved hW8 hK⟩, hS.F ht8⟩) hS.2.2 (Nat.le_of_ble_eq_true rfl) (Nat.le_of_ble_eq_true rfl)
set_option maxHeartbeats 4000000 in
set_option maxRecDepth 100000 in
theorem q_common (l : Launch) (hfl : l.stackTraces = false) (dC : Nat → ClassId) (dI : Nat → Nat → Nat) (cI cZ cII cIII : ClassId) (h0 sz : Nat) (μ : va_M) (pg : Int) (ot : Int) (T : List Tk) (hI : CI T μ) (h_pg : inR pg) (h_ot : inR ot) : vx_Met l yX9_common (Cond.code yX9_common cX9_common 3 (some .int) :: wsG) ({ frames := 8, cells := 1, slots := 6, locals := 131 } : Room) (va_Pc [.ref h0, .int (iZ (pg)), .int (iZ (ot))] (fun U => U.heap.size = sz ∧ va_P (dC, dI) vwCl (fw (sE cI cZ cII cIII h0) h0 233 μ) U.heap ∧ va_K (dC, dI) vwCl (sT cI cZ cII cIII) U ∧ xM U ∧ xX (fA h0 233 sz) U)) (va_Qi (fun (r9 : Int32) (u : va_M × Int) => r9 = iZ u.2 ∧ (fun (u : va_M) (r : Int) => CI T u ∧ SZ μ u) u.1 u.2) (fun u t => va_P (dC, dI) vwCl (fw (sE cI cZ cII cIII h0) h0 233 u.1) t.heap ∧ va_K (dC, dI) vwCl (sT cI cZ cII cIII) t) (fA h0 233 sz)) (vx_X (fun (u : va_M) => CI T u ∧ SZ μ u) (fun E u t => E ∈ (["java/util/NoSuchElementException"] : List String) ∧ va_P (dC, dI) vwCl (fw (sE cI cZ cII cIII h0) h0 233 u) t.heap ∧ va_K (dC, dI) vwCl (sT cI cZ cII cIII) t) (fA h0 233 sz)) 1 6 (fA h0 233 sz) := by
  refine vx_ofW (cc := cX9_common) (maxL := 3) (ret := (some .int)) (by decide) rfl ?_
  intro p e s m args below meth c s₁ B hml hnt hv
  obtain ⟨rfl, hsz, hP, hK, hM, hEx⟩ := hv
  have hx := B.exec
  have hb := B.bytes
  have hr := B.returns
  have hts : ∀ w ∈ wsG, w.before _ s = true := hG_of (atoms_spec (ws := (Cond.code yX9_common cX9_common 3 (some .int) :: wsG)) B.pre)
  have hown : s.vm.findClass RX9 = some m.cls := findClass_of_methodNamed B.named
  have hlocks := B.notSynchronized
  subst hsz
  have hS : va_S (fA h0 233 s.heap.size) s.heap s.heap [] := va_S.rf
  have hl := lv_entry ([.ref h0, .int (iZ (pg)), .int (iZ (ot))]) (n := 3) (Nat.le_of_ble_eq_true rfl)
  rw [lg_entry_eq]
  generalize (lg_sl ([.ref h0, .int (iZ (pg)), .int (iZ (ot))]) ++ List.replicate (3 - (lg_sl ([.ref h0, .int (iZ (pg)), .int (iZ (ot))])).length) Slot.unset).toArray = ls at hl ⊢
  have hl : lv_has ls 3 [(0, .ref h0), (1, .int (iZ (pg))), (2, .int (iZ (ot)))] := hl
  have hlc := CI_lc hI
  have h66 := CI_n6 hI
  refine lv_aload_n hx hb dX9_common_0 rfl (lv_at hl 0 rfl) ?_
  refine lv_iload_n hx hb dX9_common_1 rfl (lv_at hl 1 rfl) ?_
  by_cases hn2_ : 0 ≤ pg ∧ pg < μ 0 2
  · refine va_callv (va_runV (As := [.int (iZ (pg))]) (rest := []) ⟨hx, hb, hml, hown, hts⟩ (s_needPage l dC dI cI cZ cII cIII h0 s.heap.size μ (pg) (by first | assumption | omega | exact CI_lc hI | exact CI_cn hI | exact (CI_n6 hI).1 | decide) (by first | assumption | omega | exact CI_lc hI | exact CI_cn hI | exact (CI_n6 hI).1 | decide) (by exact hn2_)) (cwV 1 hts (gV_G k735 k737 ks_yX9_needPage k1 k738) rfl rfl rfl (by decide +kernel) ⟨Nat.le_of_ble_eq_true rfl, Nat.le_of_ble_eq_true rfl⟩) ⟨fun a U g mk q => by obtain ⟨q0, q1, qP, qK, qM⟩ := q; exact ⟨q0, q1, qP, va_K.moved (u := U) (U := U.calling g mk a) (Vm.Alike.refl U.vm) qK, qM⟩, va_recv hK hP (ci := 9) (q0 := 0) rfl ((fw_get (by decide)).trans (by rw [sE_0]; rfl)), fun U hU hW => ⟨rfl, by rw [hU], by rw [hU]; exact hP, va_K.moved hW.alike hK, xM_warm hW hM⟩⟩ rfl rfl hl.1 rfl (lv_room (Nat.le_of_ble_eq_true rfl)) dX9_common_2 ⟨Nat.le_of_ble_eq_true rfl, Nat.le_of_ble_eq_true rfl⟩) hS (fun q _ h => fA_le hS.1 q h) (fA_le hS.1) (fun u9 t9 H1 locs ht9 hvm9 hw9 hB9 hz9 hk9 hS => ?_)
    obtain ⟨hP, -⟩ := hB9
    rw [ht9] at hP
    generalize H1 = H at hP hS ⊢
    obtain ⟨μ1, eμ1⟩ : ∃ x : va_M, x = u9 := ⟨_, rfl⟩
    rw [← eμ1] at hP hw9
    have hμ1 := hw9; clear hw9
    rw [hμ1] at hP
    refine lv_aload_n hx hb dX9_common_5 rfl (lv_at hl 0 rfl) ?_
    refine lv_iload_n hx hb dX9_common_6 rfl (lv_at hl 2 rfl) ?_
    by_cases hn7_ : 0 ≤ ot ∧ ot < μ 0 2
    · refine va_callv (va_runV (As := [.int (iZ (ot))]) (rest := []) ⟨hx, hb, hml, hown, hts⟩ (s_needPage l dC dI cI cZ cII cIII h0 H.size μ (ot) (by first | assumption | omega | exact CI_lc hI | exact CI_cn hI | exact (CI_n6 hI).1 | decide) (by first | assumption | omega | exact CI_lc hI | exact CI_cn hI | exact (CI_n6 hI).1 | decide) (by exact hn7_)) (cwV 1 hts (gV_G k735 k737 ks_yX9_needPage k1 k738) rfl rfl rfl (by decide +kernel) ⟨Nat.le_of_ble_eq_true rfl, Nat.le_of_ble_eq_true rfl⟩) ⟨fun a U g mk q => by obtain ⟨q0, q1, qP, qK, qM⟩ := q; exact ⟨q0, q1, qP, va_K.moved (u := U) (U := U.calling g mk a) (Vm.Alike.refl U.vm) qK, qM⟩, va_recv hK hP (ci := 9) (q0 := 0) rfl ((fw_get (by decide)).trans (by rw [sE_0]; rfl)), fun U hU hW => ⟨rfl, by rw [hU], by rw [hU]; exact hP, va_K.moved hW.alike hK, xM_warm hW hM⟩⟩ rfl rfl hl.1 rfl (lv_room (Nat.le_of_ble_eq_true rfl)) dX9_common_7 ⟨Nat.le_of_ble_eq_true rfl, Nat.le_of_ble_eq_true rfl⟩) hS (fun q _ h => fA_le hS.1 q h) (fA_le hS.1) (fun u9 t9 H1 locs ht9 hvm9 hw9 hB9 hz9 hk9 hS => ?_)
      obtain ⟨hP, -⟩ := hB9
      rw [ht9] at hP
      generalize H1 = H at hP hS ⊢
      obtain ⟨μ2, eμ2⟩ : ∃ x : va_M, x = u9 := ⟨_, rfl⟩
      rw [← eμ2] at hP hw9
      have hμ2 := hw9; clear hw9
      rw [hμ2] at hP
      obtain ⟨hl1, hl2⟩ := CI_lf hI pg (by (first | ((try clear hl2); (try clear hl1); (try clear hμ2); (try clear x); (try clear eμ2); (try clear μ2); (try clear hz9); (try clear hn7_); (try clear hμ1); (try clear eμ1); (try clear μ1); (try clear h66); (try clear hlc); (try clear hsz); (try clear hnt); (try clear s₁); omega) | omega)) (by (first | ((try clear hl2); (try clear hl1); (try clear hμ2); (try clear x); (try clear eμ2); (try clear μ2); (try clear hz9); (try clear hn7_); (try clear hμ1); (try clear eμ1); (try clear μ1); (try clear h66); (try clear hsz); (try clear hnt); (try clear s₁); omega) | omega))
      obtain ⟨hm1, hm2⟩ := CI_lf hI ot (by (first | ((try clear hm2); (try clear hm1); (try clear hl2); (try clear hl1); (try clear hμ2); (try clear x); (try clear eμ2); (try clear μ2); (try clear hz9); (try clear hμ1); (try clear eμ1); (try clear μ1); (try clear hn2_); (try clear h66); (try clear hlc); (try clear hsz); (try clear hnt); (try clear s₁); omega) | omega)) (by (first | ((try clear hm2); (try clear hm1); (try clear hl2); (try clear hl1); (try clear hμ2); (try clear x); (try clear eμ2); (try clear μ2); (try clear hz9); (try clear hμ1); (try clear eμ1); (try clear μ1); (try clear h66); (try clear hsz); (try clear hnt); (try clear s₁); omega) | omega))
      refine lv_aload_n hx hb dX9_common_10 rfl (lv_at hl 0 rfl) ?_
      refine fz_get (D := (dC, dI)) (ci := 9) (v := .ref (h0 + 5)) (C := RX9) (T := TX9) (N := 15) hx hb hts inG9 hown hK hP (k := 0) (by decide) (F := (sF0 h0)) sE_0 rfl 1 (by decide) (hts _ k333) (fun _ h9 => h9) rfl dX9_common_11 ?_
      refine lv_iload_n hx hb dX9_common_14 rfl (lv_at hl 1 rfl) ?_
      refine fz_ald (k := 5) (n := 8) (k2 := (113 + (pg).toNat * 15)) hx hb hK hP 1 rfl (by decide) sE_5 rfl ⟨by (first | ((try clear hm2); (try clear hm1); (try clear hl2); (try clear hl1); (try clear hμ2); (try clear x); (try clear eμ2); (try clear μ2); (try clear hz9); (try clear hn7_); (try clear hμ1); (try clear eμ1); (try clear μ1); (try clear h66); (try clear hlc); (try clear hsz); (try clear hnt); (try clear s₁); omega) | omega), by (first | ((try clear hm2); (try clear hm1); (try clear hl2); (try clear hl1); (try clear hμ2); (try clear x); (try clear eμ2); (try clear μ2); (try clear hz9); (try clear hn7_); (try clear hμ1); (try clear eμ1); (try clear μ1); (try clear h66); (try clear hsz); (try clear hnt); (try clear s₁); omega) | omega)⟩ (by decide) (if_pos (by (first | ((try clear hm2); (try clear hm1); (try clear hl2); (try clear hl1); (try clear hμ2); (try clear x); (try clear eμ2); (try clear μ2); (try clear hz9); (try clear hμ1); (try clear eμ1); (try clear μ1); (try clear h66); (try clear hsz); (try clear hnt); (try clear s₁); omega) | omega))) dX9_common_15 ?_
      refine lv_aload_n hx hb dX9_common_16 rfl (lv_at hl 0 rfl) ?_
      refine fz_get (D := (dC, dI)) (ci := 9) (v := .ref (h0 + 5)) (C := RX9) (T := TX9) (N := 15) hx hb hts inG9 hown hK hP (k := 0) (by decide) (F := (sF0 h0)) sE_0 rfl 1 (by decide) (hts _ k333) (fun _ h9 => h9) rfl dX9_common_17 ?_
      refine lv_iload_n hx hb dX9_common_20 rfl (lv_at hl 2 rfl) ?_
      refine fz_ald (k := 5) (n := 8) (k2 := (113 + (ot).toNat * 15)) hx hb hK hP 1 rfl (by decide) sE_5 rfl ⟨by (first | ((try clear hm2); (try clear hm1); (try clear hl2); (try clear hl1); (try clear hμ2); (try clear x); (try clear eμ2); (try clear μ2); (try clear hz9); (try clear hμ1); (try clear eμ1); (try clear μ1); (try clear hn2_); (try clear h66); (try clear hlc); (try clear hsz); (try clear hnt); (try clear s₁); omega) | omega), by (first | ((try clear hm2); (try clear hm1); (try clear hl2); (try clear hl1); (try clear hμ2); (try clear x); (try clear eμ2); (try clear μ2); (try clear hz9); (try clear hμ1); (try clear eμ1); (try clear μ1); (try clear h66); (try clear hsz); (try clear hnt); (try clear s₁); omega) | omega)⟩ (by decide) (if_pos (by (first | ((try clear hm2); (try clear hm1); (try clear hl2); (try clear hl1); (try clear hμ2); (try clear x); (try clear eμ2); (try clear μ2); (try clear hz9); (try clear hμ1); (try clear eμ1); (try clear μ1); (try clear h66); (try clear hsz); (try clear hnt); (try clear s₁); omega) | omega))) dX9_common_21 ?_
      refine va_calli (va_runV (As := [.ref (h0 + (113 + (ot).toNat * 15))]) (rest := []) ⟨hx, hb, hml, hown, hts⟩ (s_FlongestCommon l dC dI cI cZ cII cIII h0 H.size μ ((113 + (pg).toNat * 15)) ((pg).toNat) ((113 + (ot).toNat * 15)) ((ot).toNat) (rfl) ((show (pg).toNat < 8 by (first | ((try clear hm2); (try clear hm1); (try clear hl2); (try clear hl1); (try clear hμ2); (try clear x); (try clear eμ2); (try clear μ2); (try clear hz9); (try clear hμ1); (try clear eμ1); (try clear μ1); (try clear h66); (try clear hsz); (try clear hnt); (try clear s₁); omega) | omega))) (rfl) ((show (ot).toNat < 8 by (first | ((try clear hm2); (try clear hm1); (try clear hl2); (try clear hl1); (try clear hμ2); (try clear x); (try clear eμ2); (try clear μ2); (try clear hz9); (try clear hμ1); (try clear eμ1); (try clear μ1); (try clear h66); (try clear hsz); (try clear hnt); (try clear s₁); omega) | omega))) (by exact hl1) (by exact hm1)) (cwV 1 hts (gV_G k1122 k1123 k1124 k10 k1125) rfl rfl rfl (by decide +kernel) ⟨Nat.le_of_ble_eq_true rfl, Nat.le_of_ble_eq_true rfl⟩) ⟨fun a U g mk q => by obtain ⟨q0, q1, qP, qK, qM⟩ := q; exact ⟨q0, q1, qP, va_K.moved (u := U) (U := U.calling g mk a) (Vm.Alike.refl U.vm) qK, qM⟩, va_recv hK hP (ci := 1) (q0 := (113 + (pg).toNat * 15)) rfl ((fw_get (by (first | ((try clear q); (try clear mk); (try clear g); (try clear U); (try clear hm2); (try clear hm1); (try clear hl2); (try clear hl1); (try clear hμ2); (try clear x); (try clear eμ2); (try clear μ2); (try clear hz9); (try clear hμ1); (try clear eμ1); (try clear μ1); (try clear h66); (try clear hsz); (try clear hnt); (try clear s₁); omega) | omega))).trans (by rw [(sE_leafO (show (pg).toNat < 8 by (first | ((try clear q); (try clear mk); (try clear g); (try clear U); (try clear hm2); (try clear hm1); (try clear hl2); (try clear hl1); (try clear hμ2); (try clear x); (try clear eμ2); (try clear μ2); (try clear hz9); (try clear hμ1); (try clear eμ1); (try clear μ1); (try clear h66); (try clear hsz); (try clear hnt); (try clear s₁); omega) | omega)) rfl)])), fun U hU hW => ⟨rfl, by rw [hU], by rw [hU]; exact hP, va_K.moved hW.alike hK, xM_warm hW hM⟩⟩ rfl rfl hl.1 rfl (lv_room (Nat.le_of_ble_eq_true rfl)) dX9_common_22 ⟨Nat.le_of_ble_eq_true rfl, Nat.le_of_ble_eq_true rfl⟩) hS (fun q _ h => fA_le hS.1 q h) (fA_le hS.1) (fun r9 u9 t9 H1 locs ht9 hvm9 hw9 hB9 hz9 hk9 hS => ?_)
      obtain ⟨μc, rc⟩ := u9
      obtain ⟨hP, -⟩ := hB9
      rw [ht9] at hP
      generalize H1 = H at hP hS ⊢
      obtain ⟨e9, hw9⟩ := hw9
      have e9 : r9 = iZ rc := e9
      subst e9
      simp only at hP hw9
      have hμc := hw9; clear hw9
      have f1_ := hμc
      rw [fw_nz] at hP
      obtain ⟨μ3, eμ3⟩ : ∃ x : va_M, x = nz μc := ⟨_, rfl⟩
      rw [← eμ3] at hP
      exact W_widen (Nat.le_of_ble_eq_true rfl) (Nat.le_of_ble_eq_true rfl) (vx_ret (W.iret (v := iZ (rc)) hx hb hr (fun t9 ht9 hW9 => ⟨⟨iZ (rc), (μ3, rc), rfl, ⟨rfl, (by
                    dsimp only
                    rw [eμ3]
                    exact ⟨CI_nz (CI_z hI.1 (fr_mono f1_ (fun x y h => by unfold Zc; (first | ((try clear μc); (try clear nz); (try clear eμ3); (try clear μ3); (try clear f1_); (try clear hμc); (try clear rc); (try clear hz9); (try clear hm2); (try clear hm1); (try clear hl2); (try clear hl1); (try clear hμ2); (try clear eμ2); (try clear μ2); (try clear hn7_); (try clear hμ1); (try clear eμ1); (try clear μ1); (try clear hn2_); (try clear h66); (try clear hlc); (try clear hsz); (try clear hnt); (try clear s₁); omega) | omega)))), SZ_nz (fun x y q => f1_ _ _ (by (first | ((try clear μc); (try clear nz); (try clear eμ3); (try clear μ3); (try clear f1_); (try clear hμc); (try clear rc); (try clear hz9); (try clear hm2); (try clear hm1); (try clear hl2); (try clear hl1); (try clear hμ2); (try clear eμ2); (try clear μ2); (try clear hn7_); (try clear hμ1); (try clear eμ1); (try clear μ1); (try clear h66); (try clear hlc); (try clear hsz); (try clear hnt); (try clear s₁); omega) | omega)))⟩)⟩, by rw [ht9]; exact hP, va_K.moved hW9.alike hK⟩, hS.F ht9⟩) hS.2.2 dX9_common_25))
    · refine vx_callv (vx_runV (As := [.int (iZ (ot))]) (rest := []) ⟨hx, hb, hml, hown, hts⟩ (x_needPage l hfl dC dI cI cZ cII cIII h0 H.size μ (ot) (by first | assumption | omega | exact CI_lc hI | exact CI_cn hI | exact (CI_n6 hI).1 | decide) (by first | assumption | omega | exact CI_lc hI | exact CI_cn hI | exact (CI_n6 hI).1 | decide) (hn7_)) (cwV 1 hts (gV_G k735 k737 ks_yX9_needPage k1 k738) rfl rfl rfl (by decide +kernel) ⟨Nat.le_of_ble_eq_true rfl, Nat.le_of_ble_eq_true rfl⟩) ⟨fun a U g mk q => by obtain ⟨q0, q1, qP, qK, qM, qE⟩ := q; exact ⟨q0, q1, qP, va_K.moved (u := U) (U := U.calling g mk a) (Vm.Alike.refl U.vm) qK, qM, xX_call qE⟩, va_recv hK hP (ci := 9) (q0 := 0) rfl ((fw_get (by decide)).trans (by rw [sE_0]; rfl)), fun U hU hW => ⟨rfl, by rw [hU], by rw [hU]; exact hP, va_K.moved hW.alike hK, xM_warm hW hM, xX_at hEx hS (fun q h => fA_le hS.1 q h) hU hW⟩⟩ rfl rfl hl.1 rfl (lv_room (Nat.le_of_ble_eq_true rfl)) dX9_common_7 ⟨Nat.le_of_ble_eq_true rfl, Nat.le_of_ble_eq_true rfl⟩) hS (fun q _ h => fA_le hS.1 q h) (fA_le hS.1) (fun q _ h => fA_le hS.1 q h) (fun E9 ce9 q9 u9 t9 H1 locs ht9 hvm9 hpx9 hBX9 hz9 hk9 hS hce9 hcv9 hcl9 => ?_) (fun u9 t9 H1 locs ht9 hvm9 hw9 hB9 hz9 hk9 hS => hw9.elim)
      obtain ⟨hE9, hP9, hK9⟩ := hBX9
      exact vx_out (fun x hx9 => (hnt x hx9).elim) hlocks hce9 hcv9 hcl9 (fun t8 ht8 hW8 => ⟨u9, (by
                    show CI T u9 ∧ SZ μ u9
                    exact CZ_thr hI hpx9), ⟨hE9, by rw [ht8, ← ht9]; exact hP9, va_K.moved hW8 hK⟩, hS.F ht8⟩) hS.2.2 (Nat.le_of_ble_eq_true rfl) (Nat.le_of_ble_eq_true rfl)
  · refine vx_callv (vx_runV (As := [.int (iZ (pg))]) (rest := []) ⟨hx, hb, hml, hown, hts⟩ (x_needPage l hfl dC dI cI cZ cII cIII h0 s.heap.size μ (pg) (by first | assumption | omega | exact CI_lc hI | exact CI_cn hI | exact (CI_n6 hI).1 | decide) (by first | assumption | omega | exact CI_lc hI | exact CI_cn hI | exact (CI_n6 hI).1 | decide) (hn2_)) (cwV 1 hts (gV_G k735 k737 ks_yX9_needPage k1 k738) rfl rfl rfl (by decide +kernel) ⟨Nat.le_of_ble_eq_true rfl, Nat.le_of_ble_eq_true rfl⟩) ⟨fun a U g mk q => by obtain ⟨q0, q1, qP, qK, qM, qE⟩ := q; exact ⟨q0, q1, qP, va_K.moved (u := U) (U := U.calling g mk a) (Vm.Alike.refl U.vm) qK, qM, xX_call qE⟩, va_recv hK hP (ci := 9) (q0 := 0) rfl ((fw_get (by decide)).trans (by rw [sE_0]; rfl)), fun U hU hW => ⟨rfl, by rw [hU], by rw [hU]; exact hP, va_K.moved hW.alike hK, xM_warm hW hM, xX_at hEx hS (fun q h => fA_le hS.1 q h) hU hW⟩⟩ rfl rfl hl.1 rfl (lv_room (Nat.le_of_ble_eq_true rfl)) dX9_common_2 ⟨Nat.le_of_ble_eq_true rfl, Nat.le_of_ble_eq_true rfl⟩) hS (fun q _ h => fA_le hS.1 q h) (fA_le hS.1) (fun q _ h => fA_le hS.1 q h) (fun E9 ce9 q9 u9 t9 H1 locs ht9 hvm9 hpx9 hBX9 hz9 hk9 hS hce9 hcv9 hcl9 => ?_) (fun u9 t9 H1 locs ht9 hvm9 hw9 hB9 hz9 hk9 hS => hw9.elim)
    obtain ⟨hE9, hP9, hK9⟩ := hBX9
    exact vx_out (fun x hx9 => (hnt x hx9).elim) hlocks hce9 hcv9 hcl9 (fun t8 ht8 hW8 => ⟨u9, (by
                show CI T u9 ∧ SZ μ u9
                exact CZ_thr hI hpx9), ⟨hE9, by rw [ht8, ← ht9]; exact hP9, va_K.moved hW8 hK⟩, hS.F ht8⟩) hS.2.2 (Nat.le_of_ble_eq_true rfl) (Nat.le_of_ble_eq_true rfl)
set_option maxHeartbeats 4000000 in
set_option maxRecDepth 100000 in
theorem LX9_nearest_13z {p : Program} {l : Launch} {e : Env} {R : Room} {s : State} {m : MethodId} {args : Array Value} {below : List Frame} {meth : Method} {c : Code} {cells slots : Nat} {Q : State → Prop} {dC : Nat → ClassId} {dI : Nat → Nat → Nat} {h0 : Nat} {cI cZ cII cIII : ClassId} (hx : p.tables.exec = Jvm.exec) (hb : c.code = cX9_nearest) (hml : c.maxLocals = 6) (hown : s.vm.findClass RX9 = some m.cls) (hts : ∀ w ∈ wsG, w.before args s = true) (hK : va_K (dC, dI) vwCl (sT cI cZ cII cIII) s) (hM : xM s) (hRf : 8 ≤ R.frames) (hRl : 161 ≤ R.locals) (hRc : cells ≤ R.cells) (hRs : slots ≤ R.slots) (μ0 : va_M) (T : List Tk) (pg : Int) (hI : CI T μ0) (hpg : 0 ≤ pg ∧ pg < μ0 0 2) (hexit55 : ∀ (i : Int) (le : Int) (be : Int) (μ : va_M) (H : Heap) (locs : List Loc) (ls : Array Slot), (CI T μ) → (fr (fun x _ => 41 ≤ x ∧ x ≤ 44) μ0 μ) → va_P (dC, dI) vwCl (fw (sE cI cZ cII cIII h0) h0 233 μ) H → va_S (fA h0 233 s.heap.size) s.heap H locs → lv_has ls 6 [(2, .int (iZ (be)))] → W p l e R s m args below meth c H locs cells slots Q (F0 m 55 ls [])) :
    ∀ (n9 : Nat) (i : Int) (le : Int) (be : Int) (μ : va_M) (H : Heap) (locs : List Loc) (ls : Array Slot), (0 ≤ i ∧ i ≤ μ0 0 2 ∧ 0 ≤ le ∧ le ≤ 1000000) → (CI T μ) → (fr (fun x _ => 41 ≤ x ∧ x ≤ 44) μ0 μ) → (9 - i).toNat < n9 → va_P (dC, dI) vwCl (fw (sE cI cZ cII cIII h0) h0 233 μ) H → va_S (fA h0 233 s.heap.size) s.heap H locs → lv_has ls 6 [(4, .int (iZ (i))), (3, .int (iZ (le))), (2, .int (iZ (be))), (1, .int (iZ (pg))), (0, .ref h0)] → W p l e R s m args below meth c H locs cells slots Q (F0 m 13 ls []) := by
  intro n9
  induction n9 with
  | zero => intro i le be μ H locs ls hi hc9 hf hm9 hP hS hl; exact absurd hm9 (Nat.not_lt_zero _)
  | succ n9 ih =>
    intro i le be μ H locs ls hi hc9 hf hm9 hP hS hl
    have hlc := CI_lc hI
    have x2 : μ 0 2 = μ0 0 2 := hf _ _ (by (first | ((try clear x2); (try clear hlc); (try clear hm9); (try clear hf); (try clear hc9); (try clear hi); (try clear hexit55); (try clear hpg); (try clear hRs); (try clear hRc); (try clear hRl); (try clear hRf); omega) | omega))
    refine lv_iload hx hb dX9_nearest_13 (lv_at hl 0 rfl) ?_
    refine lv_aload_n hx hb dX9_nearest_15 rfl (lv_at hl 4 rfl) ?_
    refine fz_get (D := (dC, dI)) (ci := 9) (v := .int (iZ (μ 0 2))) (C := RX9) (T := TX9) (N := 15) hx hb hts inG9 hown hK hP (k := 0) (by decide) (F := (sF0 h0)) sE_0 rfl 2 (by decide) (hts _ k334) (fun _ h9 => h9) rfl dX9_nearest_16 ?_
    refine fz_icmp_ge (tgt := 55) (by first | assumption | (constructor <;> (first | ((try clear hm9); (try clear hf); (try clear hc9); (try clear hexit55); (try clear hRs); (try clear hRc); (try clear hRl); (try clear hRf); omega) | omega)) | decide) (by first | assumption | (constructor <;> (first | ((try clear hm9); (try clear hf); (try clear hc9); (try clear hi); (try clear hexit55); (try clear hpg); (try clear hRs); (try clear hRc); (try clear hRl); (try clear hRf); omega) | omega)) | decide) hx hb dX9_nearest_19 (by decide) (fun c19_ => ?_) (fun c19_ => ?_)
    · exact hexit55 (i) (le) (be) μ H locs ls (by exact hc9) (by exact hf) hP hS (lv_sub hl [2] rfl)
    · refine lv_iload hx hb dX9_nearest_22 (lv_at hl 0 rfl) ?_
      refine lv_iload_n hx hb dX9_nearest_24 rfl (lv_at hl 3 rfl) ?_
      refine fz_icmp_eq (tgt := 49) (by first | assumption | (constructor <;> (first | ((try clear hm9); (try clear hf); (try clear hc9); (try clear hexit55); (try clear hRs); (try clear hRc); (try clear hRl); (try clear hRf); omega) | omega)) | decide) (by first | assumption | (constructor <;> (first | ((try clear c19_); (try clear hm9); (try clear hf); (try clear hc9); (try clear hi); (try clear hexit55); (try clear hRs); (try clear hRc); (try clear hRl); (try clear hRf); omega) | omega)) | decide) hx hb dX9_nearest_25 (by decide) (fun c25_ => ?_) (fun c25_ => ?_)
      · refine lv_iinc (v := iZ (i + 1)) (lv' := [(4, .int (iZ (i + 1))), (3, .int (iZ (le))), (2, .int (iZ (be))), (1, .int (iZ (pg))), (0, .ref h0)]) hx hb dX9_nearest_49 hl (k := 0) rfl (iZ_add _ _) (by decide) rfl (fun ls hl => ?_)
        refine lv_goto (tgt := 13) hx hb dX9_nearest_52 (by decide) ?_
        exact ih (i + 1) (le) (be) μ H locs ls (by (first | ((try clear hlc); (try clear hm9); (try clear hf); (try clear hc9); (try clear hexit55); (try clear hRs); (try clear hRc); (try clear hRl); (try clear hRf); omega) | omega)) (by exact hc9) (by exact hf) (by (first | ((try clear hf); (try clear hc9); (try clear hi); (try clear hexit55); (try clear hRs); (try clear hRc); (try clear hRl); (try clear hRf); omega) | omega)) hP hS (lv_sub hl [0, 1, 2, 3, 4] rfl)
      · refine lv_aload_n hx hb dX9_nearest_28 rfl (lv_at hl 4 rfl) ?_
        refine lv_iload_n hx hb dX9_nearest_29 rfl (lv_at hl 3 rfl) ?_
        refine lv_iload hx hb dX9_nearest_30 (lv_at hl 0 rfl) ?_
        refine va_calli (va_runV (As := [.int (iZ (pg)), .int (iZ (i))]) (rest := []) ⟨hx, hb, hml, hown, hts⟩ (s_costBetween l dC dI cI cZ cII cIII h0 H.size μ (pg) (i) (T) (by exact hc9) (by first | assumption | (first | ((try clear c25_); (try clear c19_); (try clear hlc); (try clear hm9); (try clear hf); (try clear hc9); (try clear hi); (try clear hexit55); (try clear hRs); (try clear hRc); (try clear hRl); (try clear hRf); omega) | omega) | exact CI_lc hI | exact CI_cn hI | exact (CI_n6 hI).1 | decide) (by first | assumption | (first | ((try clear c25_); (try clear x2); (try clear hlc); (try clear hm9); (try clear hf); (try clear hc9); (try clear hexit55); (try clear hpg); (try clear hRs); (try clear hRc); (try clear hRl); (try clear hRf); omega) | omega) | exact CI_lc hI | exact CI_cn hI | exact (CI_n6 hI).1 | decide)) (cwV 2 hts (gV_G k1026 k1028 ks_yX9_costBetween k1 k1029) rfl rfl rfl (by decide +kernel) ⟨by show 6 + 1 ≤ _; (first | ((try clear c25_); (try clear c19_); (try clear x2); (try clear hlc); (try clear hm9); (try clear hf); (try clear hc9); (try clear hi); (try clear hexit55); (try clear hpg); (try clear hRs); (try clear hRc); (try clear hRl); omega) | omega), by show 8 + (3 + 11) + (139) ≤ _; (first | ((try clear c25_); (try clear c19_); (try clear x2); (try clear hlc); (try clear hm9); (try clear hf); (try clear hc9); (try clear hi); (try clear hexit55); (try clear hpg); (try clear hRs); (try clear hRc); (try clear hRf); omega) | omega)⟩) ⟨fun a U g mk q => by obtain ⟨q0, q1, qP, qK, qM⟩ := q; exact ⟨q0, q1, qP, va_K.moved (u := U) (U := U.calling g mk a) (Vm.Alike.refl U.vm) qK, qM⟩, va_recv hK hP (ci := 9) (q0 := 0) rfl ((fw_get (by decide)).trans (by rw [sE_0]; rfl)), fun U hU hW => ⟨rfl, by rw [hU], by rw [hU]; exact hP, va_K.moved hW.alike hK, xM_warm hW hM⟩⟩ rfl rfl hl.1 rfl (lv_room (Nat.le_of_ble_eq_true rfl)) dX9_nearest_32 ⟨hRc, hRs⟩) hS (fun q _ h => fA_le hS.1 q h) (fA_le hS.1) (fun r9 u9 t9 H1 locs ht9 hvm9 hw9 hB9 hz9 hk9 hS => ?_)
        obtain ⟨μl, rl⟩ := u9
        obtain ⟨hP, -⟩ := hB9
        rw [ht9] at hP
        generalize H1 = H at hP hS ⊢
        obtain ⟨e9, hw9⟩ := hw9
        have e9 : r9 = iZ rl := e9
        subst e9
        simp only at hP hw9
        have hμl := hw9; clear hw9
        obtain ⟨c0_, f1_, r1_⟩ := hμl
        have cz_ := CZ_r12 hc9 c0_ (fr_mono f1_ (fun x y h => by (first | ((try clear y); (try clear cz_); (try clear r1_); (try clear f1_); (try clear c0_); (try clear hμl); (try clear μl); (try clear hz9); (try clear c25_); (try clear c19_); (try clear x2); (try clear hlc); (try clear hm9); (try clear hf); (try clear hc9); (try clear hi); (try clear hexit55); (try clear hpg); (try clear hRs); (try clear hRc); (try clear hRl); (try clear hRf); omega) | omega)))
        refine lv_istore (lv' := [(5, .int (iZ (rl))), (4, .int (iZ (i))), (3, .int (iZ (le))), (2, .int (iZ (be))), (1, .int (iZ (pg))), (0, .ref h0)]) hx hb dX9_nearest_35 hl (by decide) rfl (fun ls hl => ?_)
        refine lv_iload hx hb dX9_nearest_37 (lv_at hl 0 rfl) ?_
        refine lv_iload_n hx hb dX9_nearest_39 rfl (lv_at hl 2 rfl) ?_
        refine fz_icmp_ge (tgt := 49) (by first | assumption | (constructor <;> (first | ((try clear cz_); (try clear f1_); (try clear c0_); (try clear hμl); (try clear μl); (try clear hz9); (try clear c25_); (try clear c19_); (try clear x2); (try clear hlc); (try clear hm9); (try clear hf); (try clear hc9); (try clear hi); (try clear hexit55); (try clear hpg); (try clear hRs); (try clear hRc); (try clear hRl); (try clear hRf); omega) | omega)) | decide) (by first | assumption | (constructor <;> (first | ((try clear cz_); (try clear r1_); (try clear f1_); (try clear c0_); (try clear hμl); (try clear μl); (try clear hz9); (try clear c25_); (try clear c19_); (try clear x2); (try clear hlc); (try clear hm9); (try clear hf); (try clear hc9); (try clear hexit55); (try clear hpg); (try clear hRs); (try clear hRc); (try clear hRl); (try clear hRf); omega) | omega)) | decide) hx hb dX9_nearest_40 (by decide) (fun c40_ => ?_) (fun c40_ => ?_)
        · refine lv_iinc (v := iZ (i + 1)) (lv' := [(4, .int (iZ (i + 1))), (5, .int (iZ (rl))), (3, .int (iZ (le))), (2, .int (iZ (be))), (1, .int (iZ (pg))), (0, .ref h0)]) hx hb dX9_nearest_49 hl (k := 1) rfl (iZ_add _ _) (by decide) rfl (fun ls hl => ?_)
          refine lv_goto (tgt := 13) hx hb dX9_nearest_52 (by decide) ?_
          exact ih (i + 1) (le) (be) μl H locs ls (by (first | ((try clear c40_); (try clear cz_); (try clear r1_); (try clear f1_); (try clear c0_); (try clear hμl); (try clear μl); (try clear hz9); (try clear c25_); (try clear hlc); (try clear hm9); (try clear hf); (try clear hc9); (try clear hexit55); (try clear hpg); (try clear hRs); (try clear hRc); (try clear hRl); (try clear hRf); omega) | omega)) (by exact cz_.1) (by exact fr_trans hf f1_) (by (first | ((try clear c40_); (try clear cz_); (try clear r1_); (try clear f1_); (try clear c0_); (try clear hμl); (try clear μl); (try clear hz9); (try clear hf); (try clear hc9); (try clear hexit55); (try clear hRs); (try clear hRc); (try clear hRl); (try clear hRf); omega) | omega)) hP hS (lv_sub hl [0, 2, 3, 4, 5] rfl)
        · refine lv_iload hx hb dX9_nearest_43 (lv_at hl 0 rfl) ?_
          refine lv_istore_n (lv' := [(3, .int (iZ (rl))), (5, .int (iZ (rl))), (4, .int (iZ (i))), (2, .int (iZ (be))), (1, .int (iZ (pg))), (0, .ref h0)]) hx hb dX9_nearest_45 rfl hl (by decide) rfl (fun ls hl => ?_)
          refine lv_iload hx hb dX9_nearest_46 (lv_at hl 2 rfl) ?_
          refine lv_istore_n (lv' := [(2, .int (iZ (i))), (3, .int (iZ (rl))), (5, .int (iZ (rl))), (4, .int (iZ (i))), (1, .int (iZ (pg))), (0, .ref h0)]) hx hb dX9_nearest_48 rfl hl (by decide) rfl (fun ls hl => ?_)
          refine lv_iinc (v := iZ (i + 1)) (lv' := [(4, .int (iZ (i + 1))), (2, .int (iZ (i))), (3, .int (iZ (rl))), (5, .int (iZ (rl))), (1, .int (iZ (pg))), (0, .ref h0)]) hx hb dX9_nearest_49 hl (k := 3) rfl (iZ_add _ _) (by decide) rfl (fun ls hl => ?_)
          refine lv_goto (tgt := 13) hx hb dX9_nearest_52 (by decide) ?_
          exact ih (i + 1) (rl) (i) μl H locs ls (by (first | ((try clear c40_); (try clear cz_); (try clear f1_); (try clear c0_); (try clear hμl); (try clear μl); (try clear hz9); (try clear c25_); (try clear hlc); (try clear hm9); (try clear hf); (try clear hc9); (try clear hexit55); (try clear hpg); (try clear hRs); (try clear hRc); (try clear hRl); (try clear hRf); omega) | omega)) (by exact cz_.1) (by exact fr_trans hf f1_) (by (first | ((try clear c40_); (try clear cz_); (try clear r1_); (try clear f1_); (try clear c0_); (try clear hμl); (try clear μl); (try clear hz9); (try clear hf); (try clear hc9); (try clear hexit55); (try clear hRs); (try clear hRc); (try clear hRl); (try clear hRf); omega) | omega)) hP hS (lv_sub hl [0, 2, 1, 4, 5] rfl)
set_option maxHeartbeats 4000000 in
set_option maxRecDepth 100000 in
theorem q_nearest (l : Launch) (hfl : l.stackTraces = false) (dC : Nat → ClassId) (dI : Nat → Nat → Nat) (cI cZ cII cIII : ClassId) (h0 sz : Nat) (μ : va_M) (pg : Int) (T : List Tk) (hI : CI T μ) (h_pg : inR pg) : vx_Met l yX9_nearest (Cond.code yX9_nearest cX9_nearest 6 (some .int) :: wsG) ({ frames := 8, cells := 1, slots := 6, locals := 161 } : Room) (va_Pc [.ref h0, .int (iZ (pg))] (fun U => U.heap.size = sz ∧ va_P (dC, dI) vwCl (fw (sE cI cZ cII cIII h0) h0 233 μ) U.heap ∧ va_K (dC, dI) vwCl (sT cI cZ cII cIII) U ∧ xM U ∧ xX (fA h0 233 sz) U)) (va_Qi (fun (r9 : Int32) (u : va_M × Int) => r9 = iZ u.2 ∧ (fun (u : va_M) (r : Int) => CI T u ∧ SZ μ u) u.1 u.2) (fun u t => va_P (dC, dI) vwCl (fw (sE cI cZ cII cIII h0) h0 233 u.1) t.heap ∧ va_K (dC, dI) vwCl (sT cI cZ cII cIII) t) (fA h0 233 sz)) (vx_X (fun (u : va_M) => CI T u ∧ SZ μ u) (fun E u t => E ∈ (["java/util/NoSuchElementException"] : List String) ∧ va_P (dC, dI) vwCl (fw (sE cI cZ cII cIII h0) h0 233 u) t.heap ∧ va_K (dC, dI) vwCl (sT cI cZ cII cIII) t) (fA h0 233 sz)) 1 6 (fA h0 233 sz) := by
  refine vx_ofW (cc := cX9_nearest) (maxL := 6) (ret := (some .int)) (by decide) rfl ?_
  intro p e s m args below meth c s₁ B hml hnt hv
  obtain ⟨rfl, hsz, hP, hK, hM, hEx⟩ := hv
  have hx := B.exec
  have hb := B.bytes
  have hr := B.returns
  have hts : ∀ w ∈ wsG, w.before _ s = true := hG_of (atoms_spec (ws := (Cond.code yX9_nearest cX9_nearest 6 (some .int) :: wsG)) B.pre)
  have hown : s.vm.findClass RX9 = some m.cls := findClass_of_methodNamed B.named
  have hlocks := B.notSynchronized
  subst hsz
  have hS : va_S (fA h0 233 s.heap.size) s.heap s.heap [] := va_S.rf
  have hl := lv_entry ([.ref h0, .int (iZ (pg))]) (n := 6) (Nat.le_of_ble_eq_true rfl)
  rw [lg_entry_eq]
  generalize (lg_sl ([.ref h0, .int (iZ (pg))]) ++ List.replicate (6 - (lg_sl ([.ref h0, .int (iZ (pg))])).length) Slot.unset).toArray = ls at hl ⊢
  have hl : lv_has ls 6 [(0, .ref h0), (1, .int (iZ (pg)))] := hl
  have hlc := CI_lc hI
  have h66 := CI_n6 hI
  refine lv_aload_n hx hb dX9_nearest_0 rfl (lv_at hl 0 rfl) ?_
  refine lv_iload_n hx hb dX9_nearest_1 rfl (lv_at hl 1 rfl) ?_
  by_cases hn2_ : 0 ≤ pg ∧ pg < μ 0 2
  · refine va_callv (va_runV (As := [.int (iZ (pg))]) (rest := []) ⟨hx, hb, hml, hown, hts⟩ (s_needPage l dC dI cI cZ cII cIII h0 s.heap.size μ (pg) (by first | assumption | omega | exact CI_lc hI | exact CI_cn hI | exact (CI_n6 hI).1 | decide) (by first | assumption | omega | exact CI_lc hI | exact CI_cn hI | exact (CI_n6 hI).1 | decide) (by exact hn2_)) (cwV 1 hts (gV_G k735 k737 ks_yX9_needPage k1 k738) rfl rfl rfl (by decide +kernel) ⟨Nat.le_of_ble_eq_true rfl, Nat.le_of_ble_eq_true rfl⟩) ⟨fun a U g mk q => by obtain ⟨q0, q1, qP, qK, qM⟩ := q; exact ⟨q0, q1, qP, va_K.moved (u := U) (U := U.calling g mk a) (Vm.Alike.refl U.vm) qK, qM⟩, va_recv hK hP (ci := 9) (q0 := 0) rfl ((fw_get (by decide)).trans (by rw [sE_0]; rfl)), fun U hU hW => ⟨rfl, by rw [hU], by rw [hU]; exact hP, va_K.moved hW.alike hK, xM_warm hW hM⟩⟩ rfl rfl hl.1 rfl (lv_room (Nat.le_of_ble_eq_true rfl)) dX9_nearest_2 ⟨Nat.le_of_ble_eq_true rfl, Nat.le_of_ble_eq_true rfl⟩) hS (fun q _ h => fA_le hS.1 q h) (fA_le hS.1) (fun u9 t9 H1 locs ht9 hvm9 hw9 hB9 hz9 hk9 hS => ?_)
    obtain ⟨hP, -⟩ := hB9
    rw [ht9] at hP
    generalize H1 = H at hP hS ⊢
    obtain ⟨μ1, eμ1⟩ : ∃ x : va_M, x = u9 := ⟨_, rfl⟩
    rw [← eμ1] at hP hw9
    have hμ1 := hw9; clear hw9
    rw [hμ1] at hP
    refine lv_iconst (v := iZ (-1)) hx hb dX9_nearest_5 rfl ?_
    refine lv_istore_n (lv' := [(2, .int (iZ ((-1)))), (0, .ref h0), (1, .int (iZ (pg)))]) hx hb dX9_nearest_6 rfl hl (by decide) rfl (fun ls hl => ?_)
    refine lv_ldc (v := iZ 1000000) hx hb hown (hts _ k1037) dX9_nearest_7 ?_
    refine lv_istore_n (lv' := [(3, .int (iZ (1000000))), (2, .int (iZ ((-1)))), (0, .ref h0), (1, .int (iZ (pg)))]) hx hb dX9_nearest_9 rfl hl (by decide) rfl (fun ls hl => ?_)
    refine lv_iconst (v := iZ 0) hx hb dX9_nearest_10 rfl ?_
    refine lv_istore (lv' := [(4, .int (iZ (0))), (3, .int (iZ (1000000))), (2, .int (iZ ((-1)))), (0, .ref h0), (1, .int (iZ (pg)))]) hx hb dX9_nearest_11 hl (by decide) rfl (fun ls hl => ?_)
    refine LX9_nearest_13z hx hb hml hown hts hK hM (Nat.le_of_ble_eq_true rfl) (Nat.le_of_ble_eq_true rfl) (Nat.le_of_ble_eq_true rfl) (Nat.le_of_ble_eq_true rfl) (μ) (T) (pg) (by exact hI) (by (first | ((try clear hμ1); (try clear x); (try clear eμ1); (try clear μ1); (try clear hz9); (try clear h66); (try clear hlc); (try clear hsz); (try clear hnt); (try clear s₁); omega) | omega)) ?_ _ (0) (1000000) ((-1)) μ H locs ls (by (first | ((try clear hμ1); (try clear x); (try clear eμ1); (try clear μ1); (try clear hz9); (try clear hn2_); (try clear h66); (try clear hsz); (try clear hnt); (try clear s₁); omega) | omega)) (by exact hI) (by exact fr_rfl) (Nat.lt_succ_self _) hP hS (lv_sub hl [0, 1, 2, 4, 3] rfl)
    · intro i_2 le_2 be_2 μ2_ H locs ls q1_2 q2_2 hP hS hl
      have hl : lv_has ls 6 [(2, .int (iZ (be_2)))] := hl
      refine lv_iload_n hx hb dX9_nearest_55 rfl (lv_at hl 0 rfl) ?_
      exact W_widen (Nat.le_of_ble_eq_true rfl) (Nat.le_of_ble_eq_true rfl) (vx_ret (W.iret (v := iZ (be_2)) hx hb hr (fun t9 ht9 hW9 => ⟨⟨iZ (be_2), (μ2_, be_2), rfl, ⟨rfl, (by
                    dsimp only
                    exact ⟨q1_2, fun x y q => q2_2 _ _ (by (first | ((try clear q2_2); (try clear q1_2); (try clear μ2_); (try clear be_2); (try clear le_2); (try clear i_2); (try clear hμ1); (try clear eμ1); (try clear μ1); (try clear hz9); (try clear hn2_); (try clear h66); (try clear hlc); (try clear hsz); (try clear hnt); (try clear s₁); omega) | omega))⟩)⟩, by rw [ht9]; exact hP, va_K.moved hW9.alike hK⟩, hS.F ht9⟩) hS.2.2 dX9_nearest_56))
  · refine vx_callv (vx_runV (As := [.int (iZ (pg))]) (rest := []) ⟨hx, hb, hml, hown, hts⟩ (x_needPage l hfl dC dI cI cZ cII cIII h0 s.heap.size μ (pg) (by first | assumption | omega | exact CI_lc hI | exact CI_cn hI | exact (CI_n6 hI).1 | decide) (by first | assumption | omega | exact CI_lc hI | exact CI_cn hI | exact (CI_n6 hI).1 | decide) (hn2_)) (cwV 1 hts (gV_G k735 k737 ks_yX9_needPage k1 k738) rfl rfl rfl (by decide +kernel) ⟨Nat.le_of_ble_eq_true rfl, Nat.le_of_ble_eq_true rfl⟩) ⟨fun a U g mk q => by obtain ⟨q0, q1, qP, qK, qM, qE⟩ := q; exact ⟨q0, q1, qP, va_K.moved (u := U) (U := U.calling g mk a) (Vm.Alike.refl U.vm) qK, qM, xX_call qE⟩, va_recv hK hP (ci := 9) (q0 := 0) rfl ((fw_get (by decide)).trans (by rw [sE_0]; rfl)), fun U hU hW => ⟨rfl, by rw [hU], by rw [hU]; exact hP, va_K.moved hW.alike hK, xM_warm hW hM, xX_at hEx hS (fun q h => fA_le hS.1 q h) hU hW⟩⟩ rfl rfl hl.1 rfl (lv_room (Nat.le_of_ble_eq_true rfl)) dX9_nearest_2 ⟨Nat.le_of_ble_eq_true rfl, Nat.le_of_ble_eq_true rfl⟩) hS (fun q _ h => fA_le hS.1 q h) (fA_le hS.1) (fun q _ h => fA_le hS.1 q h) (fun E9 ce9 q9 u9 t9 H1 locs ht9 hvm9 hpx9 hBX9 hz9 hk9 hS hce9 hcv9 hcl9 => ?_) (fun u9 t9 H1 locs ht9 hvm9 hw9 hB9 hz9 hk9 hS => hw9.elim)
    obtain ⟨hE9, hP9, hK9⟩ := hBX9
    exact vx_out (fun x hx9 => (hnt x hx9).elim) hlocks hce9 hcv9 hcl9 (fun t8 ht8 hW8 => ⟨u9, (by
                show CI T u9 ∧ SZ μ u9
                exact CZ_thr hI hpx9), ⟨hE9, by rw [ht8, ← ht9]; exact hP9, va_K.moved hW8 hK⟩, hS.F ht8⟩) hS.2.2 (Nat.le_of_ble_eq_true rfl) (Nat.le_of_ble_eq_true rfl)
set_option maxHeartbeats 4000000 in
set_option maxRecDepth 100000 in
theorem q_orders (l : Launch) (hfl : l.stackTraces = false) (dC : Nat → ClassId) (dI : Nat → Nat → Nat) (cI cZ cII cIII : ClassId) (h0 sz : Nat) (μ : va_M) (wh : Int) (T : List Tk) (hI : CI T μ) (h_wh : inR wh) : vx_Met l yX9_orders (Cond.code yX9_orders cX9_orders 2 (some .int) :: wsG) ({ frames := 8, cells := 1, slots := 6, locals := 190 } : Room) (va_Pc [.ref h0, .int (iZ (wh))] (fun U => U.heap.size = sz ∧ va_P (dC, dI) vwCl (fw (sE cI cZ cII cIII h0) h0 233 μ) U.heap ∧ va_K (dC, dI) vwCl (sT cI cZ cII cIII) U ∧ xM U ∧ xX (fA h0 233 sz) U)) (va_Qi (fun (r9 : Int32) (u : va_M × Int) => r9 = iZ u.2 ∧ (fun (u : va_M) (r : Int) => CI T u ∧ SZ μ u) u.1 u.2) (fun u t => va_P (dC, dI) vwCl (fw (sE cI cZ cII cIII h0) h0 233 u.1) t.heap ∧ va_K (dC, dI) vwCl (sT cI cZ cII cIII) t) (fA h0 233 sz)) (vx_X (fun (u : va_M) => CI T u ∧ SZ μ u) (fun E u t => E ∈ (["java/lang/IllegalArgumentException", "java/lang/IllegalStateException"] : List String) ∧ va_P (dC, dI) vwCl (fw (sE cI cZ cII cIII h0) h0 233 u) t.heap ∧ va_K (dC, dI) vwCl (sT cI cZ cII cIII) t) (fA h0 233 sz)) 1 6 (fA h0 233 sz) := by
  refine vx_ofW (cc := cX9_orders) (maxL := 2) (ret := (some .int)) (by decide) rfl ?_
  intro p e s m args below meth c s₁ B hml hnt hv
  obtain ⟨rfl, hsz, hP, hK, hM, hEx⟩ := hv
  have hx := B.exec
  have hb := B.bytes
  have hr := B.returns
  have hts : ∀ w ∈ wsG, w.before _ s = true := hG_of (atoms_spec (ws := (Cond.code yX9_orders cX9_orders 2 (some .int) :: wsG)) B.pre)
  have hown : s.vm.findClass RX9 = some m.cls := findClass_of_methodNamed B.named
  have hlocks := B.notSynchronized
  subst hsz
  have hS : va_S (fA h0 233 s.heap.size) s.heap s.heap [] := va_S.rf
  have hl := lv_entry ([.ref h0, .int (iZ (wh))]) (n := 2) (Nat.le_of_ble_eq_true rfl)
  rw [lg_entry_eq]
  generalize (lg_sl ([.ref h0, .int (iZ (wh))]) ++ List.replicate (2 - (lg_sl ([.ref h0, .int (iZ (wh))])).length) Slot.unset).toArray = ls at hl ⊢
  have hl : lv_has ls 2 [(0, .ref h0), (1, .int (iZ (wh)))] := hl
  have hlc := CI_lc hI
  have h66 := CI_n6 hI
  refine lv_aload_n hx hb dX9_orders_0 rfl (lv_at hl 0 rfl) ?_
  refine lv_iload_n hx hb dX9_orders_1 rfl (lv_at hl 1 rfl) ?_
  refine fz_if_lt (tgt := 14) (by first | assumption | (constructor <;> omega) | decide) hx hb dX9_orders_2 (by decide) (fun c2_ => ?_) (fun c2_ => ?_)
  · refine lv_iconst (v := iZ 0) hx hb dX9_orders_14 rfl ?_
    refine vx_callv (vx_runV (As := [.int (iZ (0))]) (rest := []) ⟨hx, hb, hml, hown, hts⟩ (x_needArgument l hfl dC dI cI cZ cII cIII h0 s.heap.size μ  ) (cwV 1 hts (gV_G k596 k598 ks_yX9_needArgument k1 k599) rfl rfl rfl (by decide +kernel) ⟨Nat.le_of_ble_eq_true rfl, Nat.le_of_ble_eq_true rfl⟩) ⟨fun a U g mk q => by obtain ⟨q0, q1, qP, qK, qM, qE⟩ := q; exact ⟨q0, q1, qP, va_K.moved (u := U) (U := U.calling g mk a) (Vm.Alike.refl U.vm) qK, qM, xX_call qE⟩, va_recv hK hP (ci := 9) (q0 := 0) rfl ((fw_get (by decide)).trans (by rw [sE_0]; rfl)), fun U hU hW => ⟨rfl, by rw [hU], by rw [hU]; exact hP, va_K.moved hW.alike hK, xM_warm hW hM, xX_at hEx hS (fun q h => fA_le hS.1 q h) hU hW⟩⟩ rfl rfl hl.1 rfl (lv_room (Nat.le_of_ble_eq_true rfl)) dX9_orders_15 ⟨Nat.le_of_ble_eq_true rfl, Nat.le_of_ble_eq_true rfl⟩) hS (fun q _ h => fA_le hS.1 q h) (fA_le hS.1) (fun q _ h => fA_le hS.1 q h) (fun E9 ce9 q9 u9 t9 H1 locs ht9 hvm9 hpx9 hBX9 hz9 hk9 hS hce9 hcv9 hcl9 => ?_) (fun u9 t9 H1 locs ht9 hvm9 hw9 hB9 hz9 hk9 hS => hw9.elim)
    obtain ⟨hE9, hP9, hK9⟩ := hBX9
    exact vx_out (fun x hx9 => (hnt x hx9).elim) hlocks hce9 hcv9 hcl9 (fun t8 ht8 hW8 => ⟨u9, (by
                show CI T u9 ∧ SZ μ u9
                exact CZ_thr hI hpx9), ⟨(show ∀ z ∈ (["java/lang/IllegalArgumentException"] : List String), z ∈ (["java/lang/IllegalArgumentException", "java/lang/IllegalStateException"] : List String) by decide +kernel) E9 hE9, by rw [ht8, ← ht9]; exact hP9, va_K.moved hW8 hK⟩, hS.F ht8⟩) hS.2.2 (Nat.le_of_ble_eq_true rfl) (Nat.le_of_ble_eq_true rfl)
  · refine lv_iload_n hx hb dX9_orders_5 rfl (lv_at hl 1 rfl) ?_
    refine lv_iconst (v := iZ 3) hx hb dX9_orders_6 rfl ?_
    refine fz_icmp_gt (tgt := 14) (by first | assumption | (constructor <;> omega) | decide) (by decide) hx hb dX9_orders_7 (by decide) (fun c7_ => ?_) (fun c7_ => ?_)
    · refine lv_iconst (v := iZ 0) hx hb dX9_orders_14 rfl ?_
      refine vx_callv (vx_runV (As := [.int (iZ (0))]) (rest := []) ⟨hx, hb, hml, hown, hts⟩ (x_needArgument l hfl dC dI cI cZ cII cIII h0 s.heap.size μ  ) (cwV 1 hts (gV_G k596 k598 ks_yX9_needArgument k1 k599) rfl rfl rfl (by decide +kernel) ⟨Nat.le_of_ble_eq_true rfl, Nat.le_of_ble_eq_true rfl⟩) ⟨fun a U g mk q => by obtain ⟨q0, q1, qP, qK, qM, qE⟩ := q; exact ⟨q0, q1, qP, va_K.moved (u := U) (U := U.calling g mk a) (Vm.Alike.refl U.vm) qK, qM, xX_call qE⟩, va_recv hK hP (ci := 9) (q0 := 0) rfl ((fw_get (by decide)).trans (by rw [sE_0]; rfl)), fun U hU hW => ⟨rfl, by rw [hU], by rw [hU]; exact hP, va_K.moved hW.alike hK, xM_warm hW hM, xX_at hEx hS (fun q h => fA_le hS.1 q h) hU hW⟩⟩ rfl rfl hl.1 rfl (lv_room (Nat.le_of_ble_eq_true rfl)) dX9_orders_15 ⟨Nat.le_of_ble_eq_true rfl, Nat.le_of_ble_eq_true rfl⟩) hS (fun q _ h => fA_le hS.1 q h) (fA_le hS.1) (fun q _ h => fA_le hS.1 q h) (fun E9 ce9 q9 u9 t9 H1 locs ht9 hvm9 hpx9 hBX9 hz9 hk9 hS hce9 hcv9 hcl9 => ?_) (fun u9 t9 H1 locs ht9 hvm9 hw9 hB9 hz9 hk9 hS => hw9.elim)
      obtain ⟨hE9, hP9, hK9⟩ := hBX9
      exact vx_out (fun x hx9 => (hnt x hx9).elim) hlocks hce9 hcv9 hcl9 (fun t8 ht8 hW8 => ⟨u9, (by
                    show CI T u9 ∧ SZ μ u9
                    exact CZ_thr hI hpx9), ⟨(show ∀ z ∈ (["java/lang/IllegalArgumentException"] : List String), z ∈ (["java/lang/IllegalArgumentException", "java/lang/IllegalStateException"] : List String) by decide +kernel) E9 hE9, by rw [ht8, ← ht9]; exact hP9, va_K.moved hW8 hK⟩, hS.F ht8⟩) hS.2.2 (Nat.le_of_ble_eq_true rfl) (Nat.le_of_ble_eq_true rfl)
    · refine lv_iconst (v := iZ 1) hx hb dX9_orders_10 rfl ?_
      refine lv_goto (tgt := 15) hx hb dX9_orders_11 (by decide) ?_
      refine va_callv (va_runV (As := [.int (iZ (1))]) (rest := []) ⟨hx, hb, hml, hown, hts⟩ (s_needArgument l dC dI cI cZ cII cIII h0 s.heap.size μ  ) (cwV 1 hts (gV_G k596 k598 ks_yX9_needArgument k1 k599) rfl rfl rfl (by decide +kernel) ⟨Nat.le_of_ble_eq_true rfl, Nat.le_of_ble_eq_true rfl⟩) ⟨fun a U g mk q => by obtain ⟨q0, q1, qP, qK, qM⟩ := q; exact ⟨q0, q1, qP, va_K.moved (u := U) (U := U.calling g mk a) (Vm.Alike.refl U.vm) qK, qM⟩, va_recv hK hP (ci := 9) (q0 := 0) rfl ((fw_get (by decide)).trans (by rw [sE_0]; rfl)), fun U hU hW => ⟨rfl, by rw [hU], by rw [hU]; exact hP, va_K.moved hW.alike hK, xM_warm hW hM⟩⟩ rfl rfl hl.1 rfl (lv_room (Nat.le_of_ble_eq_true rfl)) dX9_orders_15 ⟨Nat.le_of_ble_eq_true rfl, Nat.le_of_ble_eq_true rfl⟩) hS (fun q _ h => fA_le hS.1 q h) (fA_le hS.1) (fun u9 t9 H1 locs ht9 hvm9 hw9 hB9 hz9 hk9 hS => ?_)
      obtain ⟨hP, -⟩ := hB9
      rw [ht9] at hP
      generalize H1 = H at hP hS ⊢
      obtain ⟨μ1, eμ1⟩ : ∃ x : va_M, x = u9 := ⟨_, rfl⟩
      rw [← eμ1] at hP hw9
      have hμ1 := hw9; clear hw9
      rw [hμ1] at hP
      refine lv_aload_n hx hb dX9_orders_18 rfl (lv_at hl 0 rfl) ?_
      refine lv_aload_n hx hb dX9_orders_19 rfl (lv_at hl 0 rfl) ?_
      refine fz_get (D := (dC, dI)) (ci := 9) (v := .int (iZ (μ 0 2))) (C := RX9) (T := TX9) (N := 15) hx hb hts inG9 hown hK hP (k := 0) (by decide) (F := (sF0 h0)) sE_0 rfl 2 (by decide) (hts _ k334) (fun _ h9 => h9) rfl dX9_orders_20 ?_
      refine lv_iconst (v := iZ 1) hx hb dX9_orders_23 rfl ?_
      refine fz_icmp_lt (tgt := 39) (by first | assumption | (constructor <;> (first | ((try clear hμ1); (try clear x); (try clear eμ1); (try clear μ1); (try clear hz9); (try clear c7_); (try clear c2_); (try clear h66); (try clear hsz); (try clear hnt); (try clear s₁); omega) | omega)) | decide) (by decide) hx hb dX9_orders_24 (by decide) (fun c24_ => ?_) (fun c24_ => ?_)
      · refine lv_iconst (v := iZ 0) hx hb dX9_orders_39 rfl ?_
        refine vx_callv (vx_runV (As := [.int (iZ (0))]) (rest := []) ⟨hx, hb, hml, hown, hts⟩ (x_needState l hfl dC dI cI cZ cII cIII h0 H.size μ  ) (cwV 1 hts (gV_G k663 k665 ks_yX9_needState k1 k666) rfl rfl rfl (by decide +kernel) ⟨Nat.le_of_ble_eq_true rfl, Nat.le_of_ble_eq_true rfl⟩) ⟨fun a U g mk q => by obtain ⟨q0, q1, qP, qK, qM, qE⟩ := q; exact ⟨q0, q1, qP, va_K.moved (u := U) (U := U.calling g mk a) (Vm.Alike.refl U.vm) qK, qM, xX_call qE⟩, va_recv hK hP (ci := 9) (q0 := 0) rfl ((fw_get (by decide)).trans (by rw [sE_0]; rfl)), fun U hU hW => ⟨rfl, by rw [hU], by rw [hU]; exact hP, va_K.moved hW.alike hK, xM_warm hW hM, xX_at hEx hS (fun q h => fA_le hS.1 q h) hU hW⟩⟩ rfl rfl hl.1 rfl (lv_room (Nat.le_of_ble_eq_true rfl)) dX9_orders_40 ⟨Nat.le_of_ble_eq_true rfl, Nat.le_of_ble_eq_true rfl⟩) hS (fun q _ h => fA_le hS.1 q h) (fA_le hS.1) (fun q _ h => fA_le hS.1 q h) (fun E9 ce9 q9 u9 t9 H1 locs ht9 hvm9 hpx9 hBX9 hz9 hk9 hS hce9 hcv9 hcl9 => ?_) (fun u9 t9 H1 locs ht9 hvm9 hw9 hB9 hz9 hk9 hS => hw9.elim)
        obtain ⟨hE9, hP9, hK9⟩ := hBX9
        exact vx_out (fun x hx9 => (hnt x hx9).elim) hlocks hce9 hcv9 hcl9 (fun t8 ht8 hW8 => ⟨u9, (by
                        show CI T u9 ∧ SZ μ u9
                        exact CZ_thr hI hpx9), ⟨(show ∀ z ∈ (["java/lang/IllegalStateException"] : List String), z ∈ (["java/lang/IllegalArgumentException", "java/lang/IllegalStateException"] : List String) by decide +kernel) E9 hE9, by rw [ht8, ← ht9]; exact hP9, va_K.moved hW8 hK⟩, hS.F ht8⟩) hS.2.2 (Nat.le_of_ble_eq_true rfl) (Nat.le_of_ble_eq_true rfl)
      · refine lv_aload_n hx hb dX9_orders_27 rfl (lv_at hl 0 rfl) ?_
        refine fz_get (D := (dC, dI)) (ci := 9) (v := .int (iZ (μ 0 2))) (C := RX9) (T := TX9) (N := 15) hx hb hts inG9 hown hK hP (k := 0) (by decide) (F := (sF0 h0)) sE_0 rfl 2 (by decide) (hts _ k334) (fun _ h9 => h9) rfl dX9_orders_28 ?_
        refine lv_iconst (v := iZ 4) hx hb dX9_orders_31 rfl ?_
        refine fz_icmp_gt (tgt := 39) (by first | assumption | (constructor <;> (first | ((try clear hμ1); (try clear x); (try clear eμ1); (try clear μ1); (try clear hz9); (try clear c7_); (try clear c2_); (try clear h66); (try clear hsz); (try clear hnt); (try clear s₁); omega) | omega)) | decide) (by decide) hx hb dX9_orders_32 (by decide) (fun c32_ => ?_) (fun c32_ => ?_)
        · refine lv_iconst (v := iZ 0) hx hb dX9_orders_39 rfl ?_
          refine vx_callv (vx_runV (As := [.int (iZ (0))]) (rest := []) ⟨hx, hb, hml, hown, hts⟩ (x_needState l hfl dC dI cI cZ cII cIII h0 H.size μ  ) (cwV 1 hts (gV_G k663 k665 ks_yX9_needState k1 k666) rfl rfl rfl (by decide +kernel) ⟨Nat.le_of_ble_eq_true rfl, Nat.le_of_ble_eq_true rfl⟩) ⟨fun a U g mk q => by obtain ⟨q0, q1, qP, qK, qM, qE⟩ := q; exact ⟨q0, q1, qP, va_K.moved (u := U) (U := U.calling g mk a) (Vm.Alike.refl U.vm) qK, qM, xX_call qE⟩, va_recv hK hP (ci := 9) (q0 := 0) rfl ((fw_get (by decide)).trans (by rw [sE_0]; rfl)), fun U hU hW => ⟨rfl, by rw [hU], by rw [hU]; exact hP, va_K.moved hW.alike hK, xM_warm hW hM, xX_at hEx hS (fun q h => fA_le hS.1 q h) hU hW⟩⟩ rfl rfl hl.1 rfl (lv_room (Nat.le_of_ble_eq_true rfl)) dX9_orders_40 ⟨Nat.le_of_ble_eq_true rfl, Nat.le_of_ble_eq_true rfl⟩) hS (fun q _ h => fA_le hS.1 q h) (fA_le hS.1) (fun q _ h => fA_le hS.1 q h) (fun E9 ce9 q9 u9 t9 H1 locs ht9 hvm9 hpx9 hBX9 hz9 hk9 hS hce9 hcv9 hcl9 => ?_) (fun u9 t9 H1 locs ht9 hvm9 hw9 hB9 hz9 hk9 hS => hw9.elim)
          obtain ⟨hE9, hP9, hK9⟩ := hBX9
          exact vx_out (fun x hx9 => (hnt x hx9).elim) hlocks hce9 hcv9 hcl9 (fun t8 ht8 hW8 => ⟨u9, (by
                            show CI T u9 ∧ SZ μ u9
                            exact CZ_thr hI hpx9), ⟨(show ∀ z ∈ (["java/lang/IllegalStateException"] : List String), z ∈ (["java/lang/IllegalArgumentException", "java/lang/IllegalStateException"] : List String) by decide +kernel) E9 hE9, by rw [ht8, ← ht9]; exact hP9, va_K.moved hW8 hK⟩, hS.F ht8⟩) hS.2.2 (Nat.le_of_ble_eq_true rfl) (Nat.le_of_ble_eq_true rfl)
        · refine lv_iconst (v := iZ 1) hx hb dX9_orders_35 rfl ?_
          refine lv_goto (tgt := 40) hx hb dX9_orders_36 (by decide) ?_
          refine va_callv (va_runV (As := [.int (iZ (1))]) (rest := []) ⟨hx, hb, hml, hown, hts⟩ (s_needState l dC dI cI cZ cII cIII h0 H.size μ  ) (cwV 1 hts (gV_G k663 k665 ks_yX9_needState k1 k666) rfl rfl rfl (by decide +kernel) ⟨Nat.le_of_ble_eq_true rfl, Nat.le_of_ble_eq_true rfl⟩) ⟨fun a U g mk q => by obtain ⟨q0, q1, qP, qK, qM⟩ := q; exact ⟨q0, q1, qP, va_K.moved (u := U) (U := U.calling g mk a) (Vm.Alike.refl U.vm) qK, qM⟩, va_recv hK hP (ci := 9) (q0 := 0) rfl ((fw_get (by decide)).trans (by rw [sE_0]; rfl)), fun U hU hW => ⟨rfl, by rw [hU], by rw [hU]; exact hP, va_K.moved hW.alike hK, xM_warm hW hM⟩⟩ rfl rfl hl.1 rfl (lv_room (Nat.le_of_ble_eq_true rfl)) dX9_orders_40 ⟨Nat.le_of_ble_eq_true rfl, Nat.le_of_ble_eq_true rfl⟩) hS (fun q _ h => fA_le hS.1 q h) (fA_le hS.1) (fun u9 t9 H1 locs ht9 hvm9 hw9 hB9 hz9 hk9 hS => ?_)
          obtain ⟨hP, -⟩ := hB9
          rw [ht9] at hP
          generalize H1 = H at hP hS ⊢
          obtain ⟨μ2, eμ2⟩ : ∃ x : va_M, x = u9 := ⟨_, rfl⟩
          rw [← eμ2] at hP hw9
          have hμ2 := hw9; clear hw9
          rw [hμ2] at hP
          have n1_ := hI.1.2.2.2.2.2.2.1
          refine lv_aload_n hx hb dX9_orders_43 rfl (lv_at hl 0 rfl) ?_
          refine fz_get (D := (dC, dI)) (ci := 9) (v := .ref (h0 + 48)) (C := RX9) (T := TX9) (N := 15) hx hb hts inG9 hown hK hP (k := 0) (by decide) (F := (sF0 h0)) sE_0 rfl 11 (by decide) (hts _ k343) (fun _ h9 => h9) rfl dX9_orders_44 ?_
          refine fz_get (D := (dC, dI)) (ci := 2) (v := .int (iZ (μ 48 7))) (C := RX2) (T := TX2) (N := 9) hx hb hts inG2 hown hK hP (k := 48) (by decide) (F := (sF48 h0)) sE_48 rfl 7 (by decide) (hts _ k236) (fun _ h9 => h9) rfl dX9_orders_47 ?_
          refine lv_aload_n hx hb dX9_orders_50 rfl (lv_at hl 0 rfl) ?_
          refine fz_get (D := (dC, dI)) (ci := 9) (v := .int (iZ (μ 0 2))) (C := RX9) (T := TX9) (N := 15) hx hb hts inG9 hown hK hP (k := 0) (by decide) (F := (sF0 h0)) sE_0 rfl 2 (by decide) (hts _ k334) (fun _ h9 => h9) rfl dX9_orders_51 ?_
          refine fz_icmp_eq (tgt := 76) (by first | assumption | (constructor <;> (first | ((try clear hμ2); (try clear x); (try clear eμ2); (try clear μ2); (try clear hz9); (try clear c32_); (try clear c24_); (try clear hμ1); (try clear eμ1); (try clear μ1); (try clear c7_); (try clear c2_); (try clear h66); (try clear hlc); (try clear hsz); (try clear hnt); (try clear s₁); omega) | omega)) | decide) (by first | assumption | (constructor <;> (first | ((try clear n1_); (try clear hμ2); (try clear x); (try clear eμ2); (try clear μ2); (try clear hz9); (try clear hμ1); (try clear eμ1); (try clear μ1); (try clear c7_); (try clear c2_); (try clear h66); (try clear hsz); (try clear hnt); (try clear s₁); omega) | omega)) | decide) hx hb dX9_orders_54 (by decide) (fun c54_ => ?_) (fun c54_ => ?_)
          · refine lv_aload_n hx hb dX9_orders_76 rfl (lv_at hl 0 rfl) ?_
            refine fz_get (D := (dC, dI)) (ci := 9) (v := .ref (h0 + 48)) (C := RX9) (T := TX9) (N := 15) hx hb hts inG9 hown hK hP (k := 0) (by decide) (F := (sF0 h0)) sE_0 rfl 11 (by decide) (hts _ k343) (fun _ h9 => h9) rfl dX9_orders_77 ?_
            refine fz_get (D := (dC, dI)) (ci := 2) (v := .ref (h0 + 79)) (C := RX2) (T := TX2) (N := 9) hx hb hts inG2 hown hK hP (k := 48) (by decide) (F := (sF48 h0)) sE_48 rfl 8 (by decide) (hts _ k238) (fun _ h9 => h9) rfl dX9_orders_80 ?_
            refine lv_iload_n hx hb dX9_orders_83 rfl (lv_at hl 1 rfl) ?_
            refine fz_ld (k := 79) (n := 4) hx hb hK hP 0 (by decide) sE_79 rfl ⟨by (first | ((try clear c54_); (try clear n1_); (try clear hμ2); (try clear x); (try clear eμ2); (try clear μ2); (try clear hz9); (try clear c32_); (try clear c24_); (try clear hμ1); (try clear eμ1); (try clear μ1); (try clear c7_); (try clear h66); (try clear hlc); (try clear hsz); (try clear hnt); (try clear s₁); omega) | omega), by (first | ((try clear c54_); (try clear n1_); (try clear hμ2); (try clear x); (try clear eμ2); (try clear μ2); (try clear hz9); (try clear c32_); (try clear c24_); (try clear hμ1); (try clear eμ1); (try clear μ1); (try clear h66); (try clear hlc); (try clear hsz); (try clear hnt); (try clear s₁); omega) | omega)⟩ (by decide) dX9_orders_84 ?_
            exact W_widen (Nat.le_of_ble_eq_true rfl) (Nat.le_of_ble_eq_true rfl) (vx_ret (W.iret (v := iZ (μ 79 (wh).toNat)) hx hb hr (fun t9 ht9 hW9 => ⟨⟨iZ (μ 79 (wh).toNat), (μ, μ 79 (wh).toNat), rfl, ⟨rfl, (by
                                dsimp only
                                exact ⟨hI, SZ_rf⟩)⟩, by rw [ht9]; exact hP, va_K.moved hW9.alike hK⟩, hS.F ht9⟩) hS.2.2 dX9_orders_85))
          · refine lv_aload_n hx hb dX9_orders_57 rfl (lv_at hl 0 rfl) ?_
            refine fz_get (D := (dC, dI)) (ci := 9) (v := .ref (h0 + 48)) (C := RX9) (T := TX9) (N := 15) hx hb hts inG9 hown hK hP (k := 0) (by decide) (F := (sF0 h0)) sE_0 rfl 11 (by decide) (hts _ k343) (fun _ h9 => h9) rfl dX9_orders_58 ?_
            refine lv_aload_n hx hb dX9_orders_61 rfl (lv_at hl 0 rfl) ?_
            refine fz_get (D := (dC, dI)) (ci := 9) (v := .ref (h0 + 5)) (C := RX9) (T := TX9) (N := 15) hx hb hts inG9 hown hK hP (k := 0) (by decide) (F := (sF0 h0)) sE_0 rfl 1 (by decide) (hts _ k333) (fun _ h9 => h9) rfl dX9_orders_62 ?_
            refine lv_aload_n hx hb dX9_orders_65 rfl (lv_at hl 0 rfl) ?_
            refine fz_get (D := (dC, dI)) (ci := 9) (v := .int (iZ (μ 0 2))) (C := RX9) (T := TX9) (N := 15) hx hb hts inG9 hown hK hP (k := 0) (by decide) (F := (sF0 h0)) sE_0 rfl 2 (by decide) (hts _ k334) (fun _ h9 => h9) rfl dX9_orders_66 ?_
            refine lv_aload_n hx hb dX9_orders_69 rfl (lv_at hl 0 rfl) ?_
            refine fz_get (D := (dC, dI)) (ci := 9) (v := .ref (h0 + 41)) (C := RX9) (T := TX9) (N := 15) hx hb hts inG9 hown hK hP (k := 0) (by decide) (F := (sF0 h0)) sE_0 rfl 9 (by decide) (hts _ k341) (fun _ h9 => h9) rfl dX9_orders_70 ?_
            refine va_callv (va_runV (As := [.ref (h0 + 5), .int (iZ (μ 0 2)), .ref (h0 + 41)]) (rest := []) ⟨hx, hb, hml, hown, hts⟩ (s_OgoThroughAll l dC dI cI cZ cII cIII h0 H.size μ (μ 0 2) (by exact hI.1.2.2.2.2.2.2) (by
                                exact fun i hi => by
                                  have := (hI.1.2.1 i hi).1.2.2.2
                                  rw [show 116 + i * 15 = 113 + i * 15 + 3 by (first | ((try clear hi); (try clear c54_); (try clear n1_); (try clear hμ2); (try clear x); (try clear eμ2); (try clear μ2); (try clear hz9); (try clear c32_); (try clear c24_); (try clear hμ1); (try clear eμ1); (try clear μ1); (try clear c7_); (try clear c2_); (try clear h66); (try clear hlc); (try clear hsz); (try clear hnt); (try clear s₁); omega) | omega)]; exact this) (by (first | ((try clear hi); (try clear i); (try clear c54_); (try clear n1_); (try clear hμ2); (try clear x); (try clear eμ2); (try clear μ2); (try clear hz9); (try clear c32_); (try clear c24_); (try clear hμ1); (try clear eμ1); (try clear μ1); (try clear c7_); (try clear c2_); (try clear h66); (try clear hsz); (try clear hnt); (try clear s₁); omega) | omega))) (cwV 3 hts (gV_G k1045 k1046 k1047 k9 k1048) rfl rfl rfl (by decide +kernel) ⟨Nat.le_of_ble_eq_true rfl, Nat.le_of_ble_eq_true rfl⟩) ⟨fun a U g mk q => by obtain ⟨q0, q1, qP, qK, qM⟩ := q; exact ⟨q0, q1, qP, va_K.moved (u := U) (U := U.calling g mk a) (Vm.Alike.refl U.vm) qK, qM⟩, va_recv hK hP (ci := 2) (q0 := 48) rfl ((fw_get (by decide)).trans (by rw [sE_48])), fun U hU hW => ⟨rfl, by rw [hU], by rw [hU]; exact hP, va_K.moved hW.alike hK, xM_warm hW hM⟩⟩ rfl rfl hl.1 rfl (lv_room (Nat.le_of_ble_eq_true rfl)) dX9_orders_73 ⟨Nat.le_of_ble_eq_true rfl, Nat.le_of_ble_eq_true rfl⟩) hS (fun q _ h => fA_le hS.1 q h) (fA_le hS.1) (fun u9 t9 H1 locs ht9 hvm9 hw9 hB9 hz9 hk9 hS => ?_)
            obtain ⟨hP, -⟩ := hB9
            rw [ht9] at hP
            generalize H1 = H at hP hS ⊢
            obtain ⟨μo, eμo⟩ : ∃ x : va_M, x = u9 := ⟨_, rfl⟩
            rw [← eμo] at hP hw9
            have hμo := hw9; clear hw9
            obtain ⟨o1_, f1_⟩ := hμo
            refine lv_aload_n hx hb dX9_orders_76 rfl (lv_at hl 0 rfl) ?_
            refine fz_get (D := (dC, dI)) (ci := 9) (v := .ref (h0 + 48)) (C := RX9) (T := TX9) (N := 15) hx hb hts inG9 hown hK hP (k := 0) (by decide) (F := (sF0 h0)) sE_0 rfl 11 (by decide) (hts _ k343) (fun _ h9 => h9) rfl dX9_orders_77 ?_
            refine fz_get (D := (dC, dI)) (ci := 2) (v := .ref (h0 + 79)) (C := RX2) (T := TX2) (N := 9) hx hb hts inG2 hown hK hP (k := 48) (by decide) (F := (sF48 h0)) sE_48 rfl 8 (by decide) (hts _ k238) (fun _ h9 => h9) rfl dX9_orders_80 ?_
            refine lv_iload_n hx hb dX9_orders_83 rfl (lv_at hl 1 rfl) ?_
            refine fz_ld (k := 79) (n := 4) hx hb hK hP 0 (by decide) sE_79 rfl ⟨by (first | ((try clear f1_); (try clear o1_); (try clear hμo); (try clear x); (try clear eμo); (try clear μo); (try clear c54_); (try clear n1_); (try clear hμ2); (try clear eμ2); (try clear μ2); (try clear hz9); (try clear c32_); (try clear c24_); (try clear hμ1); (try clear eμ1); (try clear μ1); (try clear c7_); (try clear h66); (try clear hlc); (try clear hsz); (try clear hnt); (try clear s₁); omega) | omega), by (first | ((try clear f1_); (try clear o1_); (try clear hμo); (try clear x); (try clear eμo); (try clear μo); (try clear c54_); (try clear n1_); (try clear hμ2); (try clear eμ2); (try clear μ2); (try clear hz9); (try clear c32_); (try clear c24_); (try clear hμ1); (try clear eμ1); (try clear μ1); (try clear h66); (try clear hlc); (try clear hsz); (try clear hnt); (try clear s₁); omega) | omega)⟩ (by decide) dX9_orders_84 ?_
            exact W_widen (Nat.le_of_ble_eq_true rfl) (Nat.le_of_ble_eq_true rfl) (vx_ret (W.iret (v := iZ (μo 79 (wh).toNat)) hx hb hr (fun t9 ht9 hW9 => ⟨⟨iZ (μo 79 (wh).toNat), (μo, μo 79 (wh).toNat), rfl, ⟨rfl, (by
                                dsimp only
                                exact ⟨CI_up (CI_ch hI.1 (fun x y q => f1_ _ _ (by (first | ((try clear f1_); (try clear o1_); (try clear hμo); (try clear eμo); (try clear μo); (try clear c54_); (try clear n1_); (try clear hμ2); (try clear eμ2); (try clear μ2); (try clear hz9); (try clear c32_); (try clear c24_); (try clear hμ1); (try clear eμ1); (try clear μ1); (try clear c7_); (try clear c2_); (try clear h66); (try clear hlc); (try clear hsz); (try clear hnt); (try clear s₁); omega) | omega))) (Or.inr (fun x y q1 q2 => f1_ _ _ (by (first | ((try clear q2); (try clear y); (try clear f1_); (try clear o1_); (try clear hμo); (try clear eμo); (try clear μo); (try clear c54_); (try clear n1_); (try clear hμ2); (try clear eμ2); (try clear μ2); (try clear hz9); (try clear c32_); (try clear c24_); (try clear hμ1); (try clear eμ1); (try clear μ1); (try clear c7_); (try clear c2_); (try clear h66); (try clear hlc); (try clear hsz); (try clear hnt); (try clear s₁); omega) | omega)))) (Or.inr (fun x y q1 q2 => f1_ _ _ (by (first | ((try clear y); (try clear f1_); (try clear o1_); (try clear hμo); (try clear eμo); (try clear μo); (try clear c54_); (try clear n1_); (try clear hμ2); (try clear eμ2); (try clear μ2); (try clear hz9); (try clear c32_); (try clear c24_); (try clear hμ1); (try clear eμ1); (try clear μ1); (try clear c7_); (try clear c2_); (try clear h66); (try clear hlc); (try clear hsz); (try clear hnt); (try clear s₁); omega) | omega)))) (Or.inr (fun x y q1 q2 => f1_ _ _ (by (first | ((try clear y); (try clear f1_); (try clear o1_); (try clear hμo); (try clear eμo); (try clear μo); (try clear c54_); (try clear n1_); (try clear hμ2); (try clear eμ2); (try clear μ2); (try clear hz9); (try clear c32_); (try clear c24_); (try clear hμ1); (try clear eμ1); (try clear μ1); (try clear c7_); (try clear c2_); (try clear h66); (try clear hlc); (try clear hsz); (try clear hnt); (try clear s₁); omega) | omega)))) (Or.inr (fun x y q1 q2 => f1_ _ _ (by (first | ((try clear y); (try clear f1_); (try clear o1_); (try clear hμo); (try clear eμo); (try clear μo); (try clear c54_); (try clear n1_); (try clear hμ2); (try clear eμ2); (try clear μ2); (try clear hz9); (try clear c32_); (try clear c24_); (try clear hμ1); (try clear eμ1); (try clear μ1); (try clear c7_); (try clear c2_); (try clear h66); (try clear hlc); (try clear hsz); (try clear hnt); (try clear s₁); omega) | omega)))) (Or.inr (fun x y q => f1_ _ _ (by (first | ((try clear y); (try clear f1_); (try clear o1_); (try clear hμo); (try clear eμo); (try clear μo); (try clear c54_); (try clear n1_); (try clear hμ2); (try clear eμ2); (try clear μ2); (try clear hz9); (try clear c32_); (try clear c24_); (try clear hμ1); (try clear eμ1); (try clear μ1); (try clear c7_); (try clear c2_); (try clear h66); (try clear hlc); (try clear hsz); (try clear hnt); (try clear s₁); omega) | omega)))) (Or.inl o1_)) hI (fun x y q n => f1_ _ _ (by unfold Zc at q; (first | ((try clear f1_); (try clear o1_); (try clear hμo); (try clear eμo); (try clear μo); (try clear c54_); (try clear n1_); (try clear hμ2); (try clear eμ2); (try clear μ2); (try clear hz9); (try clear c32_); (try clear c24_); (try clear hμ1); (try clear eμ1); (try clear μ1); (try clear c7_); (try clear c2_); (try clear h66); (try clear hlc); (try clear hsz); (try clear hnt); (try clear s₁); omega) | omega))), fun x y q => f1_ _ _ (by (first | ((try clear f1_); (try clear o1_); (try clear hμo); (try clear eμo); (try clear μo); (try clear c54_); (try clear n1_); (try clear hμ2); (try clear eμ2); (try clear μ2); (try clear hz9); (try clear c32_); (try clear c24_); (try clear hμ1); (try clear eμ1); (try clear μ1); (try clear c7_); (try clear c2_); (try clear h66); (try clear hlc); (try clear hsz); (try clear hnt); (try clear s₁); omega) | omega))⟩)⟩, by rw [ht9]; exact hP, va_K.moved hW9.alike hK⟩, hS.F ht9⟩) hS.2.2 dX9_orders_85))
set_option maxHeartbeats 4000000 in
set_option maxRecDepth 100000 in
theorem q_would (l : Launch) (hfl : l.stackTraces = false) (dC : Nat → ClassId) (dI : Nat → Nat → Nat) (cI cZ cII cIII : ClassId) (h0 sz : Nat) (μ : va_M) (pg : Int) (wh : Int) (T : List Tk) (hI : CI T μ) (h_pg : inR pg) (h_wh : inR wh) : vx_Met l yX9_would (Cond.code yX9_would cX9_would 4 (some .int) :: wsG) ({ frames := 8, cells := 1, slots := 6, locals := 162 } : Room) (va_Pc [.ref h0, .int (iZ (pg)), .int (iZ (wh))] (fun U => U.heap.size = sz ∧ va_P (dC, dI) vwCl (fw (sE cI cZ cII cIII h0) h0 233 μ) U.heap ∧ va_K (dC, dI) vwCl (sT cI cZ cII cIII) U ∧ xM U ∧ xX (fA h0 233 sz) U)) (va_Qi (fun (r9 : Int32) (u : va_M × Int) => r9 = iZ u.2 ∧ (fun (u : va_M) (r : Int) => CI T u ∧ SZ μ u) u.1 u.2) (fun u t => va_P (dC, dI) vwCl (fw (sE cI cZ cII cIII h0) h0 233 u.1) t.heap ∧ va_K (dC, dI) vwCl (sT cI cZ cII cIII) t) (fA h0 233 sz)) (vx_X (fun (u : va_M) => CI T u ∧ SZ μ u) (fun E u t => E ∈ (["java/util/NoSuchElementException", "java/lang/IllegalArgumentException"] : List String) ∧ va_P (dC, dI) vwCl (fw (sE cI cZ cII cIII h0) h0 233 u) t.heap ∧ va_K (dC, dI) vwCl (sT cI cZ cII cIII) t) (fA h0 233 sz)) 1 6 (fA h0 233 sz) := by
  refine vx_ofW (cc := cX9_would) (maxL := 4) (ret := (some .int)) (by decide) rfl ?_
  intro p e s m args below meth c s₁ B hml hnt hv
  obtain ⟨rfl, hsz, hP, hK, hM, hEx⟩ := hv
  have hx := B.exec
  have hb := B.bytes
  have hr := B.returns
  have hts : ∀ w ∈ wsG, w.before _ s = true := hG_of (atoms_spec (ws := (Cond.code yX9_would cX9_would 4 (some .int) :: wsG)) B.pre)
  have hown : s.vm.findClass RX9 = some m.cls := findClass_of_methodNamed B.named
  have hlocks := B.notSynchronized
  subst hsz
  have hS : va_S (fA h0 233 s.heap.size) s.heap s.heap [] := va_S.rf
  have hl := lv_entry ([.ref h0, .int (iZ (pg)), .int (iZ (wh))]) (n := 4) (Nat.le_of_ble_eq_true rfl)
  rw [lg_entry_eq]
  generalize (lg_sl ([.ref h0, .int (iZ (pg)), .int (iZ (wh))]) ++ List.replicate (4 - (lg_sl ([.ref h0, .int (iZ (pg)), .int (iZ (wh))])).length) Slot.unset).toArray = ls at hl ⊢
  have hl : lv_has ls 4 [(0, .ref h0), (1, .int (iZ (pg))), (2, .int (iZ (wh)))] := hl
  have hlc := CI_lc hI
  have h66 := CI_n6 hI
  refine lv_aload_n hx hb dX9_would_0 rfl (lv_at hl 0 rfl) ?_
  refine lv_iload_n hx hb dX9_would_1 rfl (lv_at hl 1 rfl) ?_
  by_cases hn2_ : 0 ≤ pg ∧ pg < μ 0 2
  · refine va_callv (va_runV (As := [.int (iZ (pg))]) (rest := []) ⟨hx, hb, hml, hown, hts⟩ (s_needPage l dC dI cI cZ cII cIII h0 s.heap.size μ (pg) (by first | assumption | omega | exact CI_lc hI | exact CI_cn hI | exact (CI_n6 hI).1 | decide) (by first | assumption | omega | exact CI_lc hI | exact CI_cn hI | exact (CI_n6 hI).1 | decide) (by exact hn2_)) (cwV 1 hts (gV_G k735 k737 ks_yX9_needPage k1 k738) rfl rfl rfl (by decide +kernel) ⟨Nat.le_of_ble_eq_true rfl, Nat.le_of_ble_eq_true rfl⟩) ⟨fun a U g mk q => by obtain ⟨q0, q1, qP, qK, qM⟩ := q; exact ⟨q0, q1, qP, va_K.moved (u := U) (U := U.calling g mk a) (Vm.Alike.refl U.vm) qK, qM⟩, va_recv hK hP (ci := 9) (q0 := 0) rfl ((fw_get (by decide)).trans (by rw [sE_0]; rfl)), fun U hU hW => ⟨rfl, by rw [hU], by rw [hU]; exact hP, va_K.moved hW.alike hK, xM_warm hW hM⟩⟩ rfl rfl hl.1 rfl (lv_room (Nat.le_of_ble_eq_true rfl)) dX9_would_2 ⟨Nat.le_of_ble_eq_true rfl, Nat.le_of_ble_eq_true rfl⟩) hS (fun q _ h => fA_le hS.1 q h) (fA_le hS.1) (fun u9 t9 H1 locs ht9 hvm9 hw9 hB9 hz9 hk9 hS => ?_)
    obtain ⟨hP, -⟩ := hB9
    rw [ht9] at hP
    generalize H1 = H at hP hS ⊢
    obtain ⟨μ1, eμ1⟩ : ∃ x : va_M, x = u9 := ⟨_, rfl⟩
    rw [← eμ1] at hP hw9
    have hμ1 := hw9; clear hw9
    rw [hμ1] at hP
    refine lv_aload_n hx hb dX9_would_5 rfl (lv_at hl 0 rfl) ?_
    refine lv_iload_n hx hb dX9_would_6 rfl (lv_at hl 2 rfl) ?_
    refine fz_if_lt (tgt := 19) (by first | assumption | (constructor <;> omega) | decide) hx hb dX9_would_7 (by decide) (fun c7_ => ?_) (fun c7_ => ?_)
    · refine lv_iconst (v := iZ 0) hx hb dX9_would_19 rfl ?_
      refine vx_callv (vx_runV (As := [.int (iZ (0))]) (rest := []) ⟨hx, hb, hml, hown, hts⟩ (x_needArgument l hfl dC dI cI cZ cII cIII h0 H.size μ  ) (cwV 1 hts (gV_G k596 k598 ks_yX9_needArgument k1 k599) rfl rfl rfl (by decide +kernel) ⟨Nat.le_of_ble_eq_true rfl, Nat.le_of_ble_eq_true rfl⟩) ⟨fun a U g mk q => by obtain ⟨q0, q1, qP, qK, qM, qE⟩ := q; exact ⟨q0, q1, qP, va_K.moved (u := U) (U := U.calling g mk a) (Vm.Alike.refl U.vm) qK, qM, xX_call qE⟩, va_recv hK hP (ci := 9) (q0 := 0) rfl ((fw_get (by decide)).trans (by rw [sE_0]; rfl)), fun U hU hW => ⟨rfl, by rw [hU], by rw [hU]; exact hP, va_K.moved hW.alike hK, xM_warm hW hM, xX_at hEx hS (fun q h => fA_le hS.1 q h) hU hW⟩⟩ rfl rfl hl.1 rfl (lv_room (Nat.le_of_ble_eq_true rfl)) dX9_would_20 ⟨Nat.le_of_ble_eq_true rfl, Nat.le_of_ble_eq_true rfl⟩) hS (fun q _ h => fA_le hS.1 q h) (fA_le hS.1) (fun q _ h => fA_le hS.1 q h) (fun E9 ce9 q9 u9 t9 H1 locs ht9 hvm9 hpx9 hBX9 hz9 hk9 hS hce9 hcv9 hcl9 => ?_) (fun u9 t9 H1 locs ht9 hvm9 hw9 hB9 hz9 hk9 hS => hw9.elim)
      obtain ⟨hE9, hP9, hK9⟩ := hBX9
      exact vx_out (fun x hx9 => (hnt x hx9).elim) hlocks hce9 hcv9 hcl9 (fun t8 ht8 hW8 => ⟨u9, (by
                    show CI T u9 ∧ SZ μ u9
                    exact CZ_thr hI hpx9), ⟨(show ∀ z ∈ (["java/lang/IllegalArgumentException"] : List String), z ∈ (["java/util/NoSuchElementException", "java/lang/IllegalArgumentException"] : List String) by decide +kernel) E9 hE9, by rw [ht8, ← ht9]; exact hP9, va_K.moved hW8 hK⟩, hS.F ht8⟩) hS.2.2 (Nat.le_of_ble_eq_true rfl) (Nat.le_of_ble_eq_true rfl)
    · refine lv_iload_n hx hb dX9_would_10 rfl (lv_at hl 2 rfl) ?_
      refine lv_iconst (v := iZ 2) hx hb dX9_would_11 rfl ?_
      refine fz_icmp_gt (tgt := 19) (by first | assumption | (constructor <;> omega) | decide) (by decide) hx hb dX9_would_12 (by decide) (fun c12_ => ?_) (fun c12_ => ?_)
      · refine lv_iconst (v := iZ 0) hx hb dX9_would_19 rfl ?_
        refine vx_callv (vx_runV (As := [.int (iZ (0))]) (rest := []) ⟨hx, hb, hml, hown, hts⟩ (x_needArgument l hfl dC dI cI cZ cII cIII h0 H.size μ  ) (cwV 1 hts (gV_G k596 k598 ks_yX9_needArgument k1 k599) rfl rfl rfl (by decide +kernel) ⟨Nat.le_of_ble_eq_true rfl, Nat.le_of_ble_eq_true rfl⟩) ⟨fun a U g mk q => by obtain ⟨q0, q1, qP, qK, qM, qE⟩ := q; exact ⟨q0, q1, qP, va_K.moved (u := U) (U := U.calling g mk a) (Vm.Alike.refl U.vm) qK, qM, xX_call qE⟩, va_recv hK hP (ci := 9) (q0 := 0) rfl ((fw_get (by decide)).trans (by rw [sE_0]; rfl)), fun U hU hW => ⟨rfl, by rw [hU], by rw [hU]; exact hP, va_K.moved hW.alike hK, xM_warm hW hM, xX_at hEx hS (fun q h => fA_le hS.1 q h) hU hW⟩⟩ rfl rfl hl.1 rfl (lv_room (Nat.le_of_ble_eq_true rfl)) dX9_would_20 ⟨Nat.le_of_ble_eq_true rfl, Nat.le_of_ble_eq_true rfl⟩) hS (fun q _ h => fA_le hS.1 q h) (fA_le hS.1) (fun q _ h => fA_le hS.1 q h) (fun E9 ce9 q9 u9 t9 H1 locs ht9 hvm9 hpx9 hBX9 hz9 hk9 hS hce9 hcv9 hcl9 => ?_) (fun u9 t9 H1 locs ht9 hvm9 hw9 hB9 hz9 hk9 hS => hw9.elim)
        obtain ⟨hE9, hP9, hK9⟩ := hBX9
        exact vx_out (fun x hx9 => (hnt x hx9).elim) hlocks hce9 hcv9 hcl9 (fun t8 ht8 hW8 => ⟨u9, (by
                        show CI T u9 ∧ SZ μ u9
                        exact CZ_thr hI hpx9), ⟨(show ∀ z ∈ (["java/lang/IllegalArgumentException"] : List String), z ∈ (["java/util/NoSuchElementException", "java/lang/IllegalArgumentException"] : List String) by decide +kernel) E9 hE9, by rw [ht8, ← ht9]; exact hP9, va_K.moved hW8 hK⟩, hS.F ht8⟩) hS.2.2 (Nat.le_of_ble_eq_true rfl) (Nat.le_of_ble_eq_true rfl)
      · refine lv_iconst (v := iZ 1) hx hb dX9_would_15 rfl ?_
        refine lv_goto (tgt := 20) hx hb dX9_would_16 (by decide) ?_
        refine va_callv (va_runV (As := [.int (iZ (1))]) (rest := []) ⟨hx, hb, hml, hown, hts⟩ (s_needArgument l dC dI cI cZ cII cIII h0 H.size μ  ) (cwV 1 hts (gV_G k596 k598 ks_yX9_needArgument k1 k599) rfl rfl rfl (by decide +kernel) ⟨Nat.le_of_ble_eq_true rfl, Nat.le_of_ble_eq_true rfl⟩) ⟨fun a U g mk q => by obtain ⟨q0, q1, qP, qK, qM⟩ := q; exact ⟨q0, q1, qP, va_K.moved (u := U) (U := U.calling g mk a) (Vm.Alike.refl U.vm) qK, qM⟩, va_recv hK hP (ci := 9) (q0 := 0) rfl ((fw_get (by decide)).trans (by rw [sE_0]; rfl)), fun U hU hW => ⟨rfl, by rw [hU], by rw [hU]; exact hP, va_K.moved hW.alike hK, xM_warm hW hM⟩⟩ rfl rfl hl.1 rfl (lv_room (Nat.le_of_ble_eq_true rfl)) dX9_would_20 ⟨Nat.le_of_ble_eq_true rfl, Nat.le_of_ble_eq_true rfl⟩) hS (fun q _ h => fA_le hS.1 q h) (fA_le hS.1) (fun u9 t9 H1 locs ht9 hvm9 hw9 hB9 hz9 hk9 hS => ?_)
        obtain ⟨hP, -⟩ := hB9
        rw [ht9] at hP
        generalize H1 = H at hP hS ⊢
        obtain ⟨μ2, eμ2⟩ : ∃ x : va_M, x = u9 := ⟨_, rfl⟩
        rw [← eμ2] at hP hw9
        have hμ2 := hw9; clear hw9
        rw [hμ2] at hP
        refine lv_aload_n hx hb dX9_would_23 rfl (lv_at hl 0 rfl) ?_
        refine lv_iload_n hx hb dX9_would_24 rfl (lv_at hl 1 rfl) ?_
        refine va_calli (va_runV (As := [.int (iZ (pg))]) (rest := []) ⟨hx, hb, hml, hown, hts⟩ (s_tryToLay l dC dI cI cZ cII cIII h0 H.size μ (pg) (T) (by exact hI) (by (first | ((try clear hμ2); (try clear x); (try clear eμ2); (try clear μ2); (try clear hz9); (try clear c12_); (try clear c7_); (try clear hμ1); (try clear eμ1); (try clear μ1); (try clear h66); (try clear hlc); (try clear hsz); (try clear hnt); (try clear s₁); omega) | omega))) (cwV 1 hts (gV_G k758 k760 ks_yX9_tryToLay k1 k761) rfl rfl rfl (by decide +kernel) ⟨Nat.le_of_ble_eq_true rfl, Nat.le_of_ble_eq_true rfl⟩) ⟨fun a U g mk q => by obtain ⟨q0, q1, qP, qK, qM⟩ := q; exact ⟨q0, q1, qP, va_K.moved (u := U) (U := U.calling g mk a) (Vm.Alike.refl U.vm) qK, qM⟩, va_recv hK hP (ci := 9) (q0 := 0) rfl ((fw_get (by decide)).trans (by rw [sE_0]; rfl)), fun U hU hW => ⟨rfl, by rw [hU], by rw [hU]; exact hP, va_K.moved hW.alike hK, xM_warm hW hM⟩⟩ rfl rfl hl.1 rfl (lv_room (Nat.le_of_ble_eq_true rfl)) dX9_would_25 ⟨Nat.le_of_ble_eq_true rfl, Nat.le_of_ble_eq_true rfl⟩) hS (fun q _ h => fA_le hS.1 q h) (fA_le hS.1) (fun r9 u9 t9 H1 locs ht9 hvm9 hw9 hB9 hz9 hk9 hS => ?_)
        obtain ⟨μl, rl⟩ := u9
        obtain ⟨hP, -⟩ := hB9
        rw [ht9] at hP
        generalize H1 = H at hP hS ⊢
        obtain ⟨e9, hw9⟩ := hw9
        have e9 : r9 = iZ rl := e9
        subst e9
        simp only at hP hw9
        have hμl := hw9; clear hw9
        obtain ⟨c0_, f1_, r1_⟩ := hμl
        have cz_ := CZ_r12 hI c0_ (fr_mono f1_ (fun x y h => by (first | ((try clear y); (try clear cz_); (try clear r1_); (try clear f1_); (try clear c0_); (try clear hμl); (try clear μl); (try clear hz9); (try clear hμ2); (try clear eμ2); (try clear μ2); (try clear c12_); (try clear c7_); (try clear hμ1); (try clear eμ1); (try clear μ1); (try clear hn2_); (try clear h66); (try clear hlc); (try clear hsz); (try clear hnt); (try clear s₁); omega) | omega)))
        have g12 := c0_.2.2.2.1
        have ln12 := rG_len g12
        have sz12 := rG_sz g12
        have ov12 := rG_ov g12
        refine lv_istore_n (lv' := [(3, .int (iZ (rl))), (0, .ref h0), (1, .int (iZ (pg))), (2, .int (iZ (wh)))]) hx hb dX9_would_28 rfl hl (by decide) rfl (fun ls hl => ?_)
        refine lv_iload_n hx hb dX9_would_29 rfl (lv_at hl 3 rfl) ?_
        by_cases hc30_0 : wh = 0
        · refine lv_lookup (tgt := 56) (off := 26) hx hb dX9_would_30 (by decide) (by rw [iZ_toInt (by first | assumption | (constructor <;> omega) | decide), hc30_0]; decide) (by decide) ?_
          refine lv_iload_n hx hb dX9_would_56 rfl (lv_at hl 0 rfl) ?_
          exact W_widen (Nat.le_of_ble_eq_true rfl) (Nat.le_of_ble_eq_true rfl) (vx_ret (W.iret (v := iZ (rl)) hx hb hr (fun t9 ht9 hW9 => ⟨⟨iZ (rl), (μl, rl), rfl, ⟨rfl, (by
                            dsimp only
                            exact cz_)⟩, by rw [ht9]; exact hP, va_K.moved hW9.alike hK⟩, hS.F ht9⟩) hS.2.2 dX9_would_57))
        · skip
          by_cases hc30_1 : wh = 1
          · refine lv_lookup (tgt := 58) (off := 28) hx hb dX9_would_30 (by decide) (by rw [iZ_toInt (by first | assumption | (constructor <;> omega) | decide), hc30_1]; decide) (by decide) ?_
            refine lv_aload_n hx hb dX9_would_58 rfl (lv_at hl 1 rfl) ?_
            refine fz_get (D := (dC, dI)) (ci := 9) (v := .ref (h0 + 12)) (C := RX9) (T := TX9) (N := 15) hx hb hts inG9 hown hK hP (k := 0) (by decide) (F := (sF0 h0)) sE_0 rfl 4 (by decide) (hts _ k336) (fun _ h9 => h9) rfl dX9_would_59 ?_
            refine va_calli (va_runV (As := []) (rest := []) ⟨hx, hb, hml, hown, hts⟩ (s_Rsize l dC dI cI cZ cII cIII h0 H.size μl (12) (1100) (rowB_12) (by exact ln12)) (cwV 0 hts (gV_G k513 k514 k515 k3 k516) rfl rfl rfl (by decide +kernel) ⟨Nat.le_of_ble_eq_true rfl, Nat.le_of_ble_eq_true rfl⟩) ⟨fun a U g mk q => by obtain ⟨q0, q1, qP, qK, qM⟩ := q; exact ⟨q0, q1, qP, va_K.moved (u := U) (U := U.calling g mk a) (Vm.Alike.refl U.vm) qK, qM⟩, va_recv hK hP (ci := 4) (q0 := 12) rfl ((fw_get (by decide)).trans (by rw [(sE_rowO rowB_12)])), fun U hU hW => ⟨rfl, by rw [hU], by rw [hU]; exact hP, va_K.moved hW.alike hK, xM_warm hW hM⟩⟩ rfl rfl hl.1 rfl (lv_room (Nat.le_of_ble_eq_true rfl)) dX9_would_62 ⟨Nat.le_of_ble_eq_true rfl, Nat.le_of_ble_eq_true rfl⟩) hS (fun q _ h => fA_le hS.1 q h) (fA_le hS.1) (fun r9 u9 t9 H1 locs ht9 hvm9 hw9 hB9 hz9 hk9 hS => ?_)
            obtain ⟨μ3, r4⟩ := u9
            obtain ⟨hP, -⟩ := hB9
            rw [ht9] at hP
            generalize H1 = H at hP hS ⊢
            obtain ⟨e9, hw9⟩ := hw9
            have e9 : r9 = iZ r4 := e9
            subst e9
            simp only at hP hw9
            have hμ3 := hw9; clear hw9
            rw [hμ3.1] at hP; have hμ3 := hμ3.2
            exact W_widen (Nat.le_of_ble_eq_true rfl) (Nat.le_of_ble_eq_true rfl) (vx_ret (W.iret (v := iZ (r4)) hx hb hr (fun t9 ht9 hW9 => ⟨⟨iZ (r4), (μl, r4), rfl, ⟨rfl, (by
                                dsimp only
                                exact cz_)⟩, by rw [ht9]; exact hP, va_K.moved hW9.alike hK⟩, hS.F ht9⟩) hS.2.2 dX9_would_65))
          · skip
            refine lv_lookup (tgt := 66) (off := 36) hx hb dX9_would_30 (by decide) (by rw [iZ_toInt (by first | assumption | (constructor <;> omega) | decide)]; show (if (0 : Int) = wh then 26 else (if (1 : Int) = wh then 28 else 36)) = _; rw [if_neg (by (first | ((try clear ov12); (try clear sz12); (try clear ln12); (try clear g12); (try clear cz_); (try clear r1_); (try clear f1_); (try clear c0_); (try clear hμl); (try clear hz9); (try clear hμ2); (try clear x); (try clear eμ2); (try clear μ2); (try clear c12_); (try clear c7_); (try clear hμ1); (try clear eμ1); (try clear μ1); (try clear hn2_); (try clear h66); (try clear hlc); (try clear hsz); (try clear hnt); (try clear s₁); omega) | omega)), if_neg (by (first | ((try clear hc30_0); (try clear ov12); (try clear sz12); (try clear ln12); (try clear g12); (try clear cz_); (try clear r1_); (try clear f1_); (try clear c0_); (try clear hμl); (try clear hz9); (try clear hμ2); (try clear x); (try clear eμ2); (try clear μ2); (try clear c12_); (try clear c7_); (try clear hμ1); (try clear eμ1); (try clear μ1); (try clear hn2_); (try clear h66); (try clear hlc); (try clear hsz); (try clear hnt); (try clear s₁); omega) | omega))]) (by decide) ?_
            refine lv_aload_n hx hb dX9_would_66 rfl (lv_at hl 1 rfl) ?_
            refine fz_get (D := (dC, dI)) (ci := 9) (v := .ref (h0 + 12)) (C := RX9) (T := TX9) (N := 15) hx hb hts inG9 hown hK hP (k := 0) (by decide) (F := (sF0 h0)) sE_0 rfl 4 (by decide) (hts _ k336) (fun _ h9 => h9) rfl dX9_would_67 ?_
            refine fz_get (D := (dC, dI)) (ci := 4) (v := .int (iZ (μl 12 6))) (C := RX4) (T := TX4) (N := 8) hx hb hts inG4 hown hK hP (k := 12) (by decide) (F := (sRF h0 12)) (sE_rowO rowB_12) rfl 6 (by decide) (hts _ k101) (fun _ h9 => h9) rfl dX9_would_70 ?_
            exact W_widen (Nat.le_of_ble_eq_true rfl) (Nat.le_of_ble_eq_true rfl) (vx_ret (W.iret (v := iZ (μl 12 6)) hx hb hr (fun t9 ht9 hW9 => ⟨⟨iZ (μl 12 6), (μl, μl 12 6), rfl, ⟨rfl, (by
                                dsimp only
                                exact cz_)⟩, by rw [ht9]; exact hP, va_K.moved hW9.alike hK⟩, hS.F ht9⟩) hS.2.2 dX9_would_73))
  · refine vx_callv (vx_runV (As := [.int (iZ (pg))]) (rest := []) ⟨hx, hb, hml, hown, hts⟩ (x_needPage l hfl dC dI cI cZ cII cIII h0 s.heap.size μ (pg) (by first | assumption | omega | exact CI_lc hI | exact CI_cn hI | exact (CI_n6 hI).1 | decide) (by first | assumption | omega | exact CI_lc hI | exact CI_cn hI | exact (CI_n6 hI).1 | decide) (hn2_)) (cwV 1 hts (gV_G k735 k737 ks_yX9_needPage k1 k738) rfl rfl rfl (by decide +kernel) ⟨Nat.le_of_ble_eq_true rfl, Nat.le_of_ble_eq_true rfl⟩) ⟨fun a U g mk q => by obtain ⟨q0, q1, qP, qK, qM, qE⟩ := q; exact ⟨q0, q1, qP, va_K.moved (u := U) (U := U.calling g mk a) (Vm.Alike.refl U.vm) qK, qM, xX_call qE⟩, va_recv hK hP (ci := 9) (q0 := 0) rfl ((fw_get (by decide)).trans (by rw [sE_0]; rfl)), fun U hU hW => ⟨rfl, by rw [hU], by rw [hU]; exact hP, va_K.moved hW.alike hK, xM_warm hW hM, xX_at hEx hS (fun q h => fA_le hS.1 q h) hU hW⟩⟩ rfl rfl hl.1 rfl (lv_room (Nat.le_of_ble_eq_true rfl)) dX9_would_2 ⟨Nat.le_of_ble_eq_true rfl, Nat.le_of_ble_eq_true rfl⟩) hS (fun q _ h => fA_le hS.1 q h) (fA_le hS.1) (fun q _ h => fA_le hS.1 q h) (fun E9 ce9 q9 u9 t9 H1 locs ht9 hvm9 hpx9 hBX9 hz9 hk9 hS hce9 hcv9 hcl9 => ?_) (fun u9 t9 H1 locs ht9 hvm9 hw9 hB9 hz9 hk9 hS => hw9.elim)
    obtain ⟨hE9, hP9, hK9⟩ := hBX9
    exact vx_out (fun x hx9 => (hnt x hx9).elim) hlocks hce9 hcv9 hcl9 (fun t8 ht8 hW8 => ⟨u9, (by
                show CI T u9 ∧ SZ μ u9
                exact CZ_thr hI hpx9), ⟨(show ∀ z ∈ (["java/util/NoSuchElementException"] : List String), z ∈ (["java/util/NoSuchElementException", "java/lang/IllegalArgumentException"] : List String) by decide +kernel) E9 hE9, by rw [ht8, ← ht9]; exact hP9, va_K.moved hW8 hK⟩, hS.F ht8⟩) hS.2.2 (Nat.le_of_ble_eq_true rfl) (Nat.le_of_ble_eq_true rfl)
set_option maxHeartbeats 4000000 in
set_option maxRecDepth 100000 in
theorem LX9_fitting_4z {p : Program} {l : Launch} {e : Env} {R : Room} {s : State} {m : MethodId} {args : Array Value} {below : List Frame} {meth : Method} {c : Code} {cells slots : Nat} {Q : State → Prop} {dC : Nat → ClassId} {dI : Nat → Nat → Nat} {h0 : Nat} {cI cZ cII cIII : ClassId} (hx : p.tables.exec = Jvm.exec) (hb : c.code = cX9_fitting) (hml : c.maxLocals = 3) (hown : s.vm.findClass RX9 = some m.cls) (hts : ∀ w ∈ wsG, w.before args s = true) (hK : va_K (dC, dI) vwCl (sT cI cZ cII cIII) s) (hM : xM s) (hRf : 7 ≤ R.frames) (hRl : 163 ≤ R.locals) (hRc : cells ≤ R.cells) (hRs : slots ≤ R.slots) (μ0 : va_M) (T : List Tk) (hI : CI T μ0) (hexit35 : ∀ (i : Int) (v9 : Int) (μ : va_M) (H : Heap) (locs : List Loc) (ls : Array Slot), (CI T μ) → (fr WQ μ0 μ) → va_P (dC, dI) vwCl (fw (sE cI cZ cII cIII h0) h0 233 μ) H → va_S (fA h0 233 s.heap.size) s.heap H locs → lv_has ls 3 [(1, .int (iZ (v9)))] → W p l e R s m args below meth c H locs cells slots Q (F0 m 35 ls [])) :
    ∀ (n9 : Nat) (i : Int) (v9 : Int) (μ : va_M) (H : Heap) (locs : List Loc) (ls : Array Slot), (0 ≤ i ∧ i ≤ μ0 0 2) → (CI T μ) → (fr WQ μ0 μ) → (9 - i).toNat < n9 → va_P (dC, dI) vwCl (fw (sE cI cZ cII cIII h0) h0 233 μ) H → va_S (fA h0 233 s.heap.size) s.heap H locs → lv_has ls 3 [(2, .int (iZ (i))), (1, .int (iZ (v9))), (0, .ref h0)] → W p l e R s m args below meth c H locs cells slots Q (F0 m 4 ls []) := by
  intro n9
  induction n9 with
  | zero => intro i v9 μ H locs ls hi hc9 hf hm9 hP hS hl; exact absurd hm9 (Nat.not_lt_zero _)
  | succ n9 ih =>
    intro i v9 μ H locs ls hi hc9 hf hm9 hP hS hl
    have hlc := CI_lc hI
    have x2 : μ 0 2 = μ0 0 2 := hf _ _ (by unfold WQ Zc; (first | ((try clear x2); (try clear hlc); (try clear hm9); (try clear hf); (try clear hc9); (try clear hi); (try clear hexit35); (try clear hRs); (try clear hRc); (try clear hRl); (try clear hRf); omega) | omega))
    have x6 : μ 6 6 = μ0 6 6 := hf _ _ (by unfold WQ Zc; (first | ((try clear x6); (try clear x2); (try clear hlc); (try clear hm9); (try clear hf); (try clear hc9); (try clear hi); (try clear hexit35); (try clear hRs); (try clear hRc); (try clear hRl); (try clear hRf); omega) | omega))
    have h66 := CI_n6 hI
    refine lv_iload_n hx hb dX9_fitting_4 rfl (lv_at hl 0 rfl) ?_
    refine lv_aload_n hx hb dX9_fitting_5 rfl (lv_at hl 2 rfl) ?_
    refine fz_get (D := (dC, dI)) (ci := 9) (v := .int (iZ (μ 0 2))) (C := RX9) (T := TX9) (N := 15) hx hb hts inG9 hown hK hP (k := 0) (by decide) (F := (sF0 h0)) sE_0 rfl 2 (by decide) (hts _ k334) (fun _ h9 => h9) rfl dX9_fitting_6 ?_
    refine fz_icmp_ge (tgt := 35) (by first | assumption | (constructor <;> (first | ((try clear h66); (try clear x6); (try clear hm9); (try clear hf); (try clear hc9); (try clear hexit35); (try clear hRs); (try clear hRc); (try clear hRl); (try clear hRf); omega) | omega)) | decide) (by first | assumption | (constructor <;> (first | ((try clear h66); (try clear x6); (try clear hm9); (try clear hf); (try clear hc9); (try clear hi); (try clear hexit35); (try clear hRs); (try clear hRc); (try clear hRl); (try clear hRf); omega) | omega)) | decide) hx hb dX9_fitting_9 (by decide) (fun c9_ => ?_) (fun c9_ => ?_)
    · exact hexit35 (i) (v9) μ H locs ls (by exact hc9) (by exact hf) hP hS (lv_sub hl [1] rfl)
    · refine lv_aload_n hx hb dX9_fitting_12 rfl (lv_at hl 2 rfl) ?_
      refine lv_iload_n hx hb dX9_fitting_13 rfl (lv_at hl 0 rfl) ?_
      refine va_callr (va_runV (As := [.int (iZ (i))]) (rest := []) ⟨hx, hb, hml, hown, hts⟩ (s_walkOf l dC dI cI cZ cII cIII h0 H.size μ (i) (T) (by exact hc9) (by first | assumption | (first | ((try clear h66); (try clear x6); (try clear x2); (try clear hlc); (try clear hm9); (try clear hf); (try clear hc9); (try clear hexit35); (try clear hRs); (try clear hRc); (try clear hRl); (try clear hRf); omega) | omega) | exact CI_lc hI | exact CI_cn hI | exact (CI_n6 hI).1 | decide)) (cwV 1 hts (gV_G k535 k537 ks_yX9_walkOf k1 k538) rfl rfl rfl (by decide +kernel) ⟨by show 6 + 1 ≤ _; (first | ((try clear c9_); (try clear h66); (try clear x6); (try clear x2); (try clear hlc); (try clear hm9); (try clear hf); (try clear hc9); (try clear hi); (try clear hexit35); (try clear hRs); (try clear hRc); (try clear hRl); omega) | omega), by show 8 + (3 + 11) + (141) ≤ _; (first | ((try clear c9_); (try clear h66); (try clear x6); (try clear x2); (try clear hlc); (try clear hm9); (try clear hf); (try clear hc9); (try clear hi); (try clear hexit35); (try clear hRs); (try clear hRc); (try clear hRf); omega) | omega)⟩) ⟨fun a U g mk q => by obtain ⟨q0, q1, qP, qK, qM⟩ := q; exact ⟨q0, q1, qP, va_K.moved (u := U) (U := U.calling g mk a) (Vm.Alike.refl U.vm) qK, qM⟩, va_recv hK hP (ci := 9) (q0 := 0) rfl ((fw_get (by decide)).trans (by rw [sE_0]; rfl)), fun U hU hW => ⟨rfl, by rw [hU], by rw [hU]; exact hP, va_K.moved hW.alike hK, xM_warm hW hM⟩⟩ rfl rfl hl.1 rfl (lv_room (Nat.le_of_ble_eq_true rfl)) dX9_fitting_14 ⟨hRc, hRs⟩) hS (fun q _ h => fA_le hS.1 q h) (fA_le hS.1) (fun u9 ra9 t9 H1 locs ht9 hvm9 hw9 hB9 hz9 hk9 hS => ?_)
      obtain ⟨hra9, hP, -⟩ := hB9
      subst hra9
      rw [ht9] at hP
      generalize H1 = H at hP hS ⊢
      obtain ⟨μw, eμw⟩ : ∃ x : va_M, x = u9 := ⟨_, rfl⟩
      rw [← eμw] at hP hw9
      have hμw := hw9; clear hw9
      obtain ⟨c1_, f1_⟩ := hμw
      obtain ⟨wl1, wl2⟩ := CI_lf c1_ i (by (first | ((try clear wl2); (try clear wl1); (try clear f1_); (try clear c1_); (try clear hμw); (try clear x); (try clear eμw); (try clear μw); (try clear hra9); (try clear hz9); (try clear ra9); (try clear c9_); (try clear h66); (try clear x6); (try clear x2); (try clear hlc); (try clear hm9); (try clear hf); (try clear hc9); (try clear hexit35); (try clear hRs); (try clear hRc); (try clear hRl); (try clear hRf); omega) | omega)) (by (first | ((try clear wl2); (try clear wl1); (try clear f1_); (try clear c1_); (try clear hμw); (try clear x); (try clear eμw); (try clear μw); (try clear hra9); (try clear hz9); (try clear ra9); (try clear h66); (try clear x6); (try clear hm9); (try clear hf); (try clear hc9); (try clear hi); (try clear hexit35); (try clear hRs); (try clear hRc); (try clear hRl); (try clear hRf); omega) | omega))
      refine va_calli (va_runV (As := []) (rest := []) ⟨hx, hb, hml, hown, hts⟩ (s_KisThrough l dC dI cI cZ cII cIII h0 H.size μw ((113 + (i).toNat * 15)) ((i).toNat) (rfl) ((show (i).toNat < 8 by (first | ((try clear wl2); (try clear wl1); (try clear f1_); (try clear c1_); (try clear hμw); (try clear x); (try clear eμw); (try clear hra9); (try clear hz9); (try clear ra9); (try clear h66); (try clear x6); (try clear hm9); (try clear hf); (try clear hc9); (try clear hi); (try clear hexit35); (try clear hRs); (try clear hRc); (try clear hRl); (try clear hRf); omega) | omega))) (by constructor <;> (first | ((try clear wl1); (try clear f1_); (try clear c1_); (try clear hμw); (try clear x); (try clear eμw); (try clear hra9); (try clear hz9); (try clear ra9); (try clear c9_); (try clear h66); (try clear x6); (try clear x2); (try clear hlc); (try clear hm9); (try clear hf); (try clear hc9); (try clear hi); (try clear hexit35); (try clear hRs); (try clear hRc); (try clear hRl); (try clear hRf); omega) | omega))) (cwV 0 hts (gV_G k579 k580 k581 k11 k582) rfl rfl rfl (by decide +kernel) ⟨by show 1 + 1 ≤ _; (first | ((try clear wl2); (try clear wl1); (try clear f1_); (try clear c1_); (try clear hμw); (try clear x); (try clear eμw); (try clear hra9); (try clear hz9); (try clear ra9); (try clear c9_); (try clear h66); (try clear x6); (try clear x2); (try clear hlc); (try clear hm9); (try clear hf); (try clear hc9); (try clear hi); (try clear hexit35); (try clear hRs); (try clear hRc); (try clear hRl); omega) | omega), by show 8 + (1 + 11) + (14) ≤ _; (first | ((try clear wl2); (try clear wl1); (try clear f1_); (try clear c1_); (try clear hμw); (try clear x); (try clear eμw); (try clear hra9); (try clear hz9); (try clear ra9); (try clear c9_); (try clear h66); (try clear x6); (try clear x2); (try clear hlc); (try clear hm9); (try clear hf); (try clear hc9); (try clear hi); (try clear hexit35); (try clear hRs); (try clear hRc); (try clear hRf); omega) | omega)⟩) ⟨fun a U g mk q => by obtain ⟨q0, q1, qP, qK, qM⟩ := q; exact ⟨q0, q1, qP, va_K.moved (u := U) (U := U.calling g mk a) (Vm.Alike.refl U.vm) qK, qM⟩, va_recv hK hP (ci := 7) (q0 := ((113 + (i).toNat * 15) + 10)) rfl ((fw_get (by (first | ((try clear q); (try clear mk); (try clear g); (try clear U); (try clear wl2); (try clear wl1); (try clear f1_); (try clear c1_); (try clear hμw); (try clear x); (try clear eμw); (try clear hra9); (try clear hz9); (try clear ra9); (try clear h66); (try clear x6); (try clear hm9); (try clear hf); (try clear hc9); (try clear hi); (try clear hexit35); (try clear hRs); (try clear hRc); (try clear hRl); (try clear hRf); omega) | omega))).trans (by rw [(sE_walk (show (i).toNat < 8 by (first | ((try clear q); (try clear mk); (try clear g); (try clear U); (try clear wl2); (try clear wl1); (try clear f1_); (try clear c1_); (try clear hμw); (try clear x); (try clear eμw); (try clear hra9); (try clear hz9); (try clear ra9); (try clear h66); (try clear x6); (try clear hm9); (try clear hf); (try clear hc9); (try clear hi); (try clear hexit35); (try clear hRs); (try clear hRc); (try clear hRl); (try clear hRf); omega) | omega)) rfl)])), fun U hU hW => ⟨rfl, by rw [hU], by rw [hU]; exact hP, va_K.moved hW.alike hK, xM_warm hW hM⟩⟩ rfl rfl hl.1 rfl (lv_room (Nat.le_of_ble_eq_true rfl)) dX9_fitting_17 ⟨hRc, hRs⟩) hS (fun q _ h => fA_le hS.1 q h) (fA_le hS.1) (fun r9 u9 t9 H1 locs ht9 hvm9 hw9 hB9 hz9 hk9 hS => ?_)
      obtain ⟨μi, ri⟩ := u9
      obtain ⟨hP, -⟩ := hB9
      rw [ht9] at hP
      generalize H1 = H at hP hS ⊢
      obtain ⟨e9, hw9⟩ := hw9
      have e9 : r9 = iZ ri := e9
      subst e9
      simp only at hP hw9
      have hμi := hw9; clear hw9
      rw [hμi.1] at hP; have hμi := hμi.2
      have hri := hμi
      refine fz_if_eq (tgt := 29) (by first | assumption | (constructor <;> (first | ((try clear hμi); (try clear μi); (try clear hz9); (try clear wl2); (try clear wl1); (try clear f1_); (try clear c1_); (try clear hμw); (try clear x); (try clear eμw); (try clear hra9); (try clear ra9); (try clear c9_); (try clear h66); (try clear x6); (try clear x2); (try clear hlc); (try clear hm9); (try clear hf); (try clear hc9); (try clear hi); (try clear hexit35); (try clear hRs); (try clear hRc); (try clear hRl); (try clear hRf); omega) | omega)) | decide) hx hb dX9_fitting_20 (by decide) (fun c20_ => ?_) (fun c20_ => ?_)
      · refine lv_iinc (v := iZ (i + 1)) (lv' := [(2, .int (iZ (i + 1))), (1, .int (iZ (v9))), (0, .ref h0)]) hx hb dX9_fitting_29 hl (k := 0) rfl (iZ_add _ _) (by decide) rfl (fun ls hl => ?_)
        refine lv_goto (tgt := 4) hx hb dX9_fitting_32 (by decide) ?_
        exact ih (i + 1) (v9) μw H locs ls (by (first | ((try clear c20_); (try clear hri); (try clear hμi); (try clear μi); (try clear hz9); (try clear wl2); (try clear wl1); (try clear f1_); (try clear c1_); (try clear hμw); (try clear x); (try clear eμw); (try clear hra9); (try clear ra9); (try clear h66); (try clear x6); (try clear hlc); (try clear hm9); (try clear hf); (try clear hc9); (try clear hexit35); (try clear hRs); (try clear hRc); (try clear hRl); (try clear hRf); omega) | omega)) (by exact c1_) (by exact fr_trans hf f1_) (by (first | ((try clear hz9); (try clear wl2); (try clear wl1); (try clear f1_); (try clear c1_); (try clear hμw); (try clear x); (try clear eμw); (try clear hra9); (try clear ra9); (try clear h66); (try clear x6); (try clear hf); (try clear hc9); (try clear hexit35); (try clear hRs); (try clear hRc); (try clear hRl); (try clear hRf); omega) | omega)) hP hS (lv_sub hl [0, 1, 2] rfl)
      · refine lv_iload_n hx hb dX9_fitting_23 rfl (lv_at hl 1 rfl) ?_
        refine lv_iconst (v := iZ 1) hx hb dX9_fitting_24 rfl ?_
        refine lv_iload_n hx hb dX9_fitting_25 rfl (lv_at hl 0 rfl) ?_
        refine lv_ishl hx hb dX9_fitting_26 ?_
        refine lv_topi (fun x9 ex9 => ?_)
        obtain ⟨z1, rfl, hz1⟩ := iZ_ex x9
        have ez1 := ex9; clear ex9
        refine lv_ior hx hb dX9_fitting_27 ?_
        refine lv_topi (fun x9 ex9 => ?_)
        obtain ⟨z2, rfl, hz2⟩ := iZ_ex x9
        have ez2 := ex9; clear ex9
        refine lv_istore_n (lv' := [(1, .int (iZ (z2))), (2, .int (iZ (i))), (0, .ref h0)]) hx hb dX9_fitting_28 rfl hl (by decide) rfl (fun ls hl => ?_)
        refine lv_iinc (v := iZ (i + 1)) (lv' := [(2, .int (iZ (i + 1))), (1, .int (iZ (z2))), (0, .ref h0)]) hx hb dX9_fitting_29 hl (k := 1) rfl (iZ_add _ _) (by decide) rfl (fun ls hl => ?_)
        refine lv_goto (tgt := 4) hx hb dX9_fitting_32 (by decide) ?_
        exact ih (i + 1) (z2) μw H locs ls (by (first | ((try clear ez2); (try clear hz2); (try clear ex9); (try clear ez1); (try clear hz1); (try clear c20_); (try clear hri); (try clear hμi); (try clear ri); (try clear μi); (try clear hz9); (try clear wl2); (try clear wl1); (try clear f1_); (try clear c1_); (try clear hμw); (try clear x); (try clear eμw); (try clear hra9); (try clear ra9); (try clear h66); (try clear x6); (try clear hlc); (try clear hm9); (try clear hf); (try clear hc9); (try clear hexit35); (try clear hRs); (try clear hRc); (try clear hRl); (try clear hRf); omega) | omega)) (by exact c1_) (by exact fr_trans hf f1_) (by (first | ((try clear ez2); (try clear hz2); (try clear ex9); (try clear ez1); (try clear hz1); (try clear hz9); (try clear wl2); (try clear wl1); (try clear f1_); (try clear c1_); (try clear hμw); (try clear x); (try clear eμw); (try clear hra9); (try clear ra9); (try clear h66); (try clear x6); (try clear hf); (try clear hc9); (try clear hexit35); (try clear hRs); (try clear hRc); (try clear hRl); (try clear hRf); omega) | omega)) hP hS (lv_sub hl [0, 1, 2] rfl)
set_option maxHeartbeats 4000000 in
set_option maxRecDepth 100000 in
theorem q_fitting (l : Launch) (dC : Nat → ClassId) (dI : Nat → Nat → Nat) (cI cZ cII cIII : ClassId) (h0 sz : Nat) (μ : va_M) (T : List Tk) (hI : CI T μ) : Met l yX9_fitting (Cond.code yX9_fitting cX9_fitting 3 (some .int) :: wsG) ({ frames := 7, cells := 0, slots := 0, locals := 163 } : Room) (va_Pc [.ref h0] (fun U => U.heap.size = sz ∧ va_P (dC, dI) vwCl (fw (sE cI cZ cII cIII h0) h0 233 μ) U.heap ∧ va_K (dC, dI) vwCl (sT cI cZ cII cIII) U ∧ xM U)) (va_Qi (fun (r9 : Int32) (u : va_M × Int) => r9 = iZ u.2 ∧ (fun (u : va_M) (r : Int) => CI T u ∧ SZ μ u) u.1 u.2) (fun u t => va_P (dC, dI) vwCl (fw (sE cI cZ cII cIII h0) h0 233 u.1) t.heap ∧ va_K (dC, dI) vwCl (sT cI cZ cII cIII) t) (fA h0 233 sz)) 0 0 (fA h0 233 sz) := by
  refine Met.ofW (cc := cX9_fitting) (maxL := 3) (ret := (some .int)) (by decide) rfl ?_
  intro p e s m args below meth c s₁ B hml hv
  obtain ⟨rfl, hsz, hP, hK, hM⟩ := hv
  have hx := B.exec
  have hb := B.bytes
  have hr := B.returns
  have hts : ∀ w ∈ wsG, w.before _ s = true := hG_of (atoms_spec (ws := (Cond.code yX9_fitting cX9_fitting 3 (some .int) :: wsG)) B.pre)
  have hown : s.vm.findClass RX9 = some m.cls := findClass_of_methodNamed B.named
  have hlocks := B.notSynchronized
  subst hsz
  have hS : va_S (fA h0 233 s.heap.size) s.heap s.heap [] := va_S.rf
  have hl := lv_entry ([.ref h0]) (n := 3) (Nat.le_of_ble_eq_true rfl)
  rw [lg_entry_eq]
  generalize (lg_sl ([.ref h0]) ++ List.replicate (3 - (lg_sl ([.ref h0])).length) Slot.unset).toArray = ls at hl ⊢
  have hl : lv_has ls 3 [(0, .ref h0)] := hl
  have hlc := CI_lc hI
  have h66 := CI_n6 hI
  refine lv_iconst (v := iZ 0) hx hb dX9_fitting_0 rfl ?_
  refine lv_istore_n (lv' := [(1, .int (iZ (0))), (0, .ref h0)]) hx hb dX9_fitting_1 rfl hl (by decide) rfl (fun ls hl => ?_)
  refine lv_iconst (v := iZ 0) hx hb dX9_fitting_2 rfl ?_
  refine lv_istore_n (lv' := [(2, .int (iZ (0))), (1, .int (iZ (0))), (0, .ref h0)]) hx hb dX9_fitting_3 rfl hl (by decide) rfl (fun ls hl => ?_)
  refine LX9_fitting_4z hx hb hml hown hts hK hM (Nat.le_of_ble_eq_true rfl) (Nat.le_of_ble_eq_true rfl) (Nat.le_of_ble_eq_true rfl) (Nat.le_of_ble_eq_true rfl) (μ) (T) (by exact hI) ?_ _ (0) (0) μ s.heap [] ls (by (first | ((try clear h66); (try clear hsz); (try clear s₁); omega) | omega)) (by exact hI) (by exact fr_rfl) (Nat.lt_succ_self _) hP hS (lv_sub hl [0, 1, 2] rfl)
  · intro i_3 v9_3 μ3_ H locs ls q1_3 q2_3 hP hS hl
    have hl : lv_has ls 3 [(1, .int (iZ (v9_3)))] := hl
    refine lv_iload_n hx hb dX9_fitting_35 rfl (lv_at hl 0 rfl) ?_
    exact W.iret (v := iZ (v9_3)) hx hb hr (fun t9 ht9 hW9 => ⟨⟨iZ (v9_3), (μ3_, v9_3), rfl, ⟨rfl, (by
                dsimp only
                exact ⟨q1_3, SZ_wq q2_3⟩)⟩, by rw [ht9]; exact hP, va_K.moved hW9.alike hK⟩, hS.F ht9⟩) hS.2.2 dX9_fitting_36
set_option maxHeartbeats 4000000 in
set_option maxRecDepth 100000 in
theorem LX9_users_13z {p : Program} {l : Launch} {e : Env} {R : Room} {s : State} {m : MethodId} {args : Array Value} {below : List Frame} {meth : Method} {c : Code} {cells slots : Nat} {Q : State → Prop} {dC : Nat → ClassId} {dI : Nat → Nat → Nat} {h0 : Nat} {cI cZ cII cIII : ClassId} (hx : p.tables.exec = Jvm.exec) (hb : c.code = cX9_users) (hml : c.maxLocals = 5) (hown : s.vm.findClass RX9 = some m.cls) (hts : ∀ w ∈ wsG, w.before args s = true) (hK : va_K (dC, dI) vwCl (sT cI cZ cII cIII) s) (hM : xM s) (hRf : 8 ≤ R.frames) (hRl : 163 ≤ R.locals) (hRc : cells ≤ R.cells) (hRs : slots ≤ R.slots) (μ0 : va_M) (T : List Tk) (nd : Int) (hI : CI T μ0) (hnd : 0 ≤ nd ∧ nd < μ0 6 6) (hexit58 : ∀ (i : Int) (v9 : Int) (μ : va_M) (H : Heap) (locs : List Loc) (ls : Array Slot), (CI T μ) → (fr WQ μ0 μ) → va_P (dC, dI) vwCl (fw (sE cI cZ cII cIII h0) h0 233 μ) H → va_S (fA h0 233 s.heap.size) s.heap H locs → lv_has ls 5 [(2, .int (iZ (v9)))] → W p l e R s m args below meth c H locs cells slots Q (F0 m 58 ls [])) :
    ∀ (n9 : Nat) (i : Int) (v9 : Int) (μ : va_M) (H : Heap) (locs : List Loc) (ls : Array Slot), (0 ≤ i ∧ i ≤ μ0 0 2) → (CI T μ) → (fr WQ μ0 μ) → (9 - i).toNat < n9 → va_P (dC, dI) vwCl (fw (sE cI cZ cII cIII h0) h0 233 μ) H → va_S (fA h0 233 s.heap.size) s.heap H locs → lv_has ls 5 [(3, .int (iZ (i))), (2, .int (iZ (v9))), (1, .int (iZ (nd))), (0, .ref h0)] → W p l e R s m args below meth c H locs cells slots Q (F0 m 13 ls []) := by
  intro n9
  induction n9 with
  | zero => intro i v9 μ H locs ls hi hc9 hf hm9 hP hS hl; exact absurd hm9 (Nat.not_lt_zero _)
  | succ n9 ih =>
    intro i v9 μ H locs ls hi hc9 hf hm9 hP hS hl
    have hlc := CI_lc hI
    have x2 : μ 0 2 = μ0 0 2 := hf _ _ (by unfold WQ Zc; (first | ((try clear x2); (try clear hlc); (try clear hm9); (try clear hf); (try clear hc9); (try clear hi); (try clear hexit58); (try clear hnd); (try clear hRs); (try clear hRc); (try clear hRl); (try clear hRf); omega) | omega))
    have x6 : μ 6 6 = μ0 6 6 := hf _ _ (by unfold WQ Zc; (first | ((try clear x6); (try clear x2); (try clear hlc); (try clear hm9); (try clear hf); (try clear hc9); (try clear hi); (try clear hexit58); (try clear hnd); (try clear hRs); (try clear hRc); (try clear hRl); (try clear hRf); omega) | omega))
    have h66 := CI_n6 hI
    refine lv_iload_n hx hb dX9_users_13 rfl (lv_at hl 0 rfl) ?_
    refine lv_aload_n hx hb dX9_users_14 rfl (lv_at hl 3 rfl) ?_
    refine fz_get (D := (dC, dI)) (ci := 9) (v := .int (iZ (μ 0 2))) (C := RX9) (T := TX9) (N := 15) hx hb hts inG9 hown hK hP (k := 0) (by decide) (F := (sF0 h0)) sE_0 rfl 2 (by decide) (hts _ k334) (fun _ h9 => h9) rfl dX9_users_15 ?_
    refine fz_icmp_ge (tgt := 58) (by first | assumption | (constructor <;> (first | ((try clear h66); (try clear x6); (try clear hm9); (try clear hf); (try clear hc9); (try clear hexit58); (try clear hnd); (try clear hRs); (try clear hRc); (try clear hRl); (try clear hRf); omega) | omega)) | decide) (by first | assumption | (constructor <;> (first | ((try clear h66); (try clear x6); (try clear hm9); (try clear hf); (try clear hc9); (try clear hi); (try clear hexit58); (try clear hnd); (try clear hRs); (try clear hRc); (try clear hRl); (try clear hRf); omega) | omega)) | decide) hx hb dX9_users_18 (by decide) (fun c18_ => ?_) (fun c18_ => ?_)
    · exact hexit58 (i) (v9) μ H locs ls (by exact hc9) (by exact hf) hP hS (lv_sub hl [1] rfl)
    · refine lv_aload_n hx hb dX9_users_21 rfl (lv_at hl 3 rfl) ?_
      refine lv_iload_n hx hb dX9_users_22 rfl (lv_at hl 0 rfl) ?_
      refine va_callr (va_runV (As := [.int (iZ (i))]) (rest := []) ⟨hx, hb, hml, hown, hts⟩ (s_walkOf l dC dI cI cZ cII cIII h0 H.size μ (i) (T) (by exact hc9) (by first | assumption | (first | ((try clear h66); (try clear x6); (try clear x2); (try clear hlc); (try clear hm9); (try clear hf); (try clear hc9); (try clear hexit58); (try clear hnd); (try clear hRs); (try clear hRc); (try clear hRl); (try clear hRf); omega) | omega) | exact CI_lc hI | exact CI_cn hI | exact (CI_n6 hI).1 | decide)) (cwV 1 hts (gV_G k535 k537 ks_yX9_walkOf k1 k538) rfl rfl rfl (by decide +kernel) ⟨by show 6 + 1 ≤ _; (first | ((try clear c18_); (try clear h66); (try clear x6); (try clear x2); (try clear hlc); (try clear hm9); (try clear hf); (try clear hc9); (try clear hi); (try clear hexit58); (try clear hnd); (try clear hRs); (try clear hRc); (try clear hRl); omega) | omega), by show 8 + (3 + 11) + (141) ≤ _; (first | ((try clear c18_); (try clear h66); (try clear x6); (try clear x2); (try clear hlc); (try clear hm9); (try clear hf); (try clear hc9); (try clear hi); (try clear hexit58); (try clear hnd); (try clear hRs); (try clear hRc); (try clear hRf); omega) | omega)⟩) ⟨fun a U g mk q => by obtain ⟨q0, q1, qP, qK, qM⟩ := q; exact ⟨q0, q1, qP, va_K.moved (u := U) (U := U.calling g mk a) (Vm.Alike.refl U.vm) qK, qM⟩, va_recv hK hP (ci := 9) (q0 := 0) rfl ((fw_get (by decide)).trans (by rw [sE_0]; rfl)), fun U hU hW => ⟨rfl, by rw [hU], by rw [hU]; exact hP, va_K.moved hW.alike hK, xM_warm hW hM⟩⟩ rfl rfl hl.1 rfl (lv_room (Nat.le_of_ble_eq_true rfl)) dX9_users_23 ⟨hRc, hRs⟩) hS (fun q _ h => fA_le hS.1 q h) (fA_le hS.1) (fun u9 ra9 t9 H1 locs ht9 hvm9 hw9 hB9 hz9 hk9 hS => ?_)
      obtain ⟨hra9, hP, -⟩ := hB9
      subst hra9
      rw [ht9] at hP
      generalize H1 = H at hP hS ⊢
      obtain ⟨μw, eμw⟩ : ∃ x : va_M, x = u9 := ⟨_, rfl⟩
      rw [← eμw] at hP hw9
      have hμw := hw9; clear hw9
      obtain ⟨c1_, f1_⟩ := hμw
      obtain ⟨wl1, wl2⟩ := CI_lf c1_ i (by (first | ((try clear wl2); (try clear wl1); (try clear f1_); (try clear c1_); (try clear hμw); (try clear x); (try clear eμw); (try clear μw); (try clear hra9); (try clear hz9); (try clear ra9); (try clear c18_); (try clear h66); (try clear x6); (try clear x2); (try clear hlc); (try clear hm9); (try clear hf); (try clear hc9); (try clear hexit58); (try clear hnd); (try clear hRs); (try clear hRc); (try clear hRl); (try clear hRf); omega) | omega)) (by (first | ((try clear wl2); (try clear wl1); (try clear f1_); (try clear c1_); (try clear hμw); (try clear x); (try clear eμw); (try clear μw); (try clear hra9); (try clear hz9); (try clear ra9); (try clear h66); (try clear x6); (try clear hm9); (try clear hf); (try clear hc9); (try clear hi); (try clear hexit58); (try clear hnd); (try clear hRs); (try clear hRc); (try clear hRl); (try clear hRf); omega) | omega))
      refine lv_astore (lv' := [(4, .ref (h0 + ((113 + (i).toNat * 15) + 10))), (3, .int (iZ (i))), (2, .int (iZ (v9))), (1, .int (iZ (nd))), (0, .ref h0)]) hx hb dX9_users_26 hl (by decide) rfl (fun ls hl => ?_)
      refine lv_aload hx hb dX9_users_28 (lv_at hl 0 rfl) ?_
      refine va_calli (va_runV (As := []) (rest := []) ⟨hx, hb, hml, hown, hts⟩ (s_KisThrough l dC dI cI cZ cII cIII h0 H.size μw ((113 + (i).toNat * 15)) ((i).toNat) (rfl) ((show (i).toNat < 8 by (first | ((try clear wl2); (try clear wl1); (try clear f1_); (try clear c1_); (try clear hμw); (try clear x); (try clear eμw); (try clear hra9); (try clear hz9); (try clear ra9); (try clear h66); (try clear x6); (try clear hm9); (try clear hf); (try clear hc9); (try clear hi); (try clear hexit58); (try clear hnd); (try clear hRs); (try clear hRc); (try clear hRl); (try clear hRf); omega) | omega))) (by constructor <;> (first | ((try clear wl1); (try clear f1_); (try clear c1_); (try clear hμw); (try clear x); (try clear eμw); (try clear hra9); (try clear hz9); (try clear ra9); (try clear c18_); (try clear h66); (try clear x6); (try clear x2); (try clear hlc); (try clear hm9); (try clear hf); (try clear hc9); (try clear hi); (try clear hexit58); (try clear hnd); (try clear hRs); (try clear hRc); (try clear hRl); (try clear hRf); omega) | omega))) (cwV 0 hts (gV_G k579 k580 k581 k11 k582) rfl rfl rfl (by decide +kernel) ⟨by show 1 + 1 ≤ _; (first | ((try clear wl2); (try clear wl1); (try clear f1_); (try clear c1_); (try clear hμw); (try clear x); (try clear eμw); (try clear hra9); (try clear hz9); (try clear ra9); (try clear c18_); (try clear h66); (try clear x6); (try clear x2); (try clear hlc); (try clear hm9); (try clear hf); (try clear hc9); (try clear hi); (try clear hexit58); (try clear hnd); (try clear hRs); (try clear hRc); (try clear hRl); omega) | omega), by show 8 + (1 + 11) + (14) ≤ _; (first | ((try clear wl2); (try clear wl1); (try clear f1_); (try clear c1_); (try clear hμw); (try clear x); (try clear eμw); (try clear hra9); (try clear hz9); (try clear ra9); (try clear c18_); (try clear h66); (try clear x6); (try clear x2); (try clear hlc); (try clear hm9); (try clear hf); (try clear hc9); (try clear hi); (try clear hexit58); (try clear hnd); (try clear hRs); (try clear hRc); (try clear hRf); omega) | omega)⟩) ⟨fun a U g mk q => by obtain ⟨q0, q1, qP, qK, qM⟩ := q; exact ⟨q0, q1, qP, va_K.moved (u := U) (U := U.calling g mk a) (Vm.Alike.refl U.vm) qK, qM⟩, va_recv hK hP (ci := 7) (q0 := ((113 + (i).toNat * 15) + 10)) rfl ((fw_get (by (first | ((try clear q); (try clear mk); (try clear g); (try clear U); (try clear wl2); (try clear wl1); (try clear f1_); (try clear c1_); (try clear hμw); (try clear x); (try clear eμw); (try clear hra9); (try clear hz9); (try clear ra9); (try clear h66); (try clear x6); (try clear hm9); (try clear hf); (try clear hc9); (try clear hi); (try clear hexit58); (try clear hnd); (try clear hRs); (try clear hRc); (try clear hRl); (try clear hRf); omega) | omega))).trans (by rw [(sE_walk (show (i).toNat < 8 by (first | ((try clear q); (try clear mk); (try clear g); (try clear U); (try clear wl2); (try clear wl1); (try clear f1_); (try clear c1_); (try clear hμw); (try clear x); (try clear eμw); (try clear hra9); (try clear hz9); (try clear ra9); (try clear h66); (try clear x6); (try clear hm9); (try clear hf); (try clear hc9); (try clear hi); (try clear hexit58); (try clear hnd); (try clear hRs); (try clear hRc); (try clear hRl); (try clear hRf); omega) | omega)) rfl)])), fun U hU hW => ⟨rfl, by rw [hU], by rw [hU]; exact hP, va_K.moved hW.alike hK, xM_warm hW hM⟩⟩ rfl rfl hl.1 rfl (lv_room (Nat.le_of_ble_eq_true rfl)) dX9_users_30 ⟨hRc, hRs⟩) hS (fun q _ h => fA_le hS.1 q h) (fA_le hS.1) (fun r9 u9 t9 H1 locs ht9 hvm9 hw9 hB9 hz9 hk9 hS => ?_)
      obtain ⟨μi, ri⟩ := u9
      obtain ⟨hP, -⟩ := hB9
      rw [ht9] at hP
      generalize H1 = H at hP hS ⊢
      obtain ⟨e9, hw9⟩ := hw9
      have e9 : r9 = iZ ri := e9
      subst e9
      simp only at hP hw9
      have hμi := hw9; clear hw9
      rw [hμi.1] at hP; have hμi := hμi.2
      have hri := hμi
      refine fz_if_eq (tgt := 52) (by first | assumption | (constructor <;> (first | ((try clear hμi); (try clear μi); (try clear hz9); (try clear wl2); (try clear wl1); (try clear f1_); (try clear c1_); (try clear hμw); (try clear x); (try clear eμw); (try clear hra9); (try clear ra9); (try clear c18_); (try clear h66); (try clear x6); (try clear x2); (try clear hlc); (try clear hm9); (try clear hf); (try clear hc9); (try clear hi); (try clear hexit58); (try clear hnd); (try clear hRs); (try clear hRc); (try clear hRl); (try clear hRf); omega) | omega)) | decide) hx hb dX9_users_33 (by decide) (fun c33_ => ?_) (fun c33_ => ?_)
      · refine lv_iinc (v := iZ (i + 1)) (lv' := [(3, .int (iZ (i + 1))), (4, .ref (h0 + ((113 + (i).toNat * 15) + 10))), (2, .int (iZ (v9))), (1, .int (iZ (nd))), (0, .ref h0)]) hx hb dX9_users_52 hl (k := 1) rfl (iZ_add _ _) (by decide) rfl (fun ls hl => ?_)
        refine lv_goto (tgt := 13) hx hb dX9_users_55 (by decide) ?_
        exact ih (i + 1) (v9) μw H locs ls (by (first | ((try clear c33_); (try clear hri); (try clear hμi); (try clear μi); (try clear hz9); (try clear wl2); (try clear wl1); (try clear f1_); (try clear c1_); (try clear hμw); (try clear x); (try clear eμw); (try clear hra9); (try clear ra9); (try clear h66); (try clear x6); (try clear hlc); (try clear hm9); (try clear hf); (try clear hc9); (try clear hexit58); (try clear hnd); (try clear hRs); (try clear hRc); (try clear hRl); (try clear hRf); omega) | omega)) (by exact c1_) (by exact fr_trans hf f1_) (by (first | ((try clear hz9); (try clear wl2); (try clear wl1); (try clear f1_); (try clear c1_); (try clear hμw); (try clear x); (try clear eμw); (try clear hra9); (try clear ra9); (try clear h66); (try clear x6); (try clear hf); (try clear hc9); (try clear hexit58); (try clear hnd); (try clear hRs); (try clear hRc); (try clear hRl); (try clear hRf); omega) | omega)) hP hS (lv_sub hl [0, 2, 3, 4] rfl)
      · have hth : inR (μw (113 + (i).toNat * 15 + 12) nd.toNat) := c1_.2 _ _ (by unfold Zc; (first | ((try clear c33_); (try clear hri); (try clear hμi); (try clear ri); (try clear μi); (try clear hz9); (try clear wl2); (try clear wl1); (try clear f1_); (try clear c1_); (try clear hμw); (try clear x); (try clear eμw); (try clear hra9); (try clear ra9); (try clear c18_); (try clear h66); (try clear x6); (try clear x2); (try clear hlc); (try clear hm9); (try clear hf); (try clear hc9); (try clear hi); (try clear hexit58); (try clear hnd); (try clear hRs); (try clear hRc); (try clear hRl); (try clear hRf); omega) | omega)) (by (first | ((try clear c33_); (try clear hri); (try clear hμi); (try clear ri); (try clear μi); (try clear hz9); (try clear wl2); (try clear wl1); (try clear f1_); (try clear c1_); (try clear hμw); (try clear x); (try clear eμw); (try clear hra9); (try clear ra9); (try clear c18_); (try clear h66); (try clear x6); (try clear x2); (try clear hlc); (try clear hm9); (try clear hf); (try clear hc9); (try clear hi); (try clear hexit58); (try clear hnd); (try clear hRs); (try clear hRc); (try clear hRl); (try clear hRf); omega) | omega))
        refine lv_aload hx hb dX9_users_36 (lv_at hl 0 rfl) ?_
        refine fz_get (D := (dC, dI)) (ci := 7) (v := .ref (h0 + ((113 + (i).toNat * 15) + 12))) (C := RX7) (T := TX7) (N := 5) hx hb hts inG7 hown hK hP (k := ((113 + (i).toNat * 15) + 10)) (by (first | ((try clear c33_); (try clear hri); (try clear hμi); (try clear ri); (try clear μi); (try clear hz9); (try clear wl2); (try clear wl1); (try clear f1_); (try clear c1_); (try clear hμw); (try clear x); (try clear eμw); (try clear hra9); (try clear ra9); (try clear h66); (try clear x6); (try clear hm9); (try clear hf); (try clear hc9); (try clear hi); (try clear hexit58); (try clear hnd); (try clear hRs); (try clear hRc); (try clear hRl); (try clear hRf); omega) | omega)) (F := (sWF h0 (113 + (i).toNat * 15))) (sE_walk (show (i).toNat < 8 by (first | ((try clear c33_); (try clear hri); (try clear hμi); (try clear ri); (try clear μi); (try clear hz9); (try clear wl2); (try clear wl1); (try clear f1_); (try clear c1_); (try clear hμw); (try clear x); (try clear eμw); (try clear hra9); (try clear ra9); (try clear h66); (try clear x6); (try clear hm9); (try clear hf); (try clear hc9); (try clear hi); (try clear hexit58); (try clear hnd); (try clear hRs); (try clear hRc); (try clear hRl); (try clear hRf); omega) | omega)) rfl) rfl 3 (by decide) (hts _ k281) (fun _ h9 => h9) rfl dX9_users_38 ?_
        refine lv_iload_n hx hb dX9_users_41 rfl (lv_at hl 3 rfl) ?_
        refine fz_ld (k := ((113 + (i).toNat * 15) + 12)) (n := 1100) hx hb hK hP 0 (by (first | ((try clear c33_); (try clear hri); (try clear hμi); (try clear ri); (try clear μi); (try clear hz9); (try clear wl2); (try clear wl1); (try clear f1_); (try clear c1_); (try clear hμw); (try clear x); (try clear eμw); (try clear hra9); (try clear ra9); (try clear h66); (try clear x6); (try clear hm9); (try clear hf); (try clear hc9); (try clear hi); (try clear hexit58); (try clear hnd); (try clear hRs); (try clear hRc); (try clear hRl); (try clear hRf); omega) | omega)) (sE_leafA 12 1100 (show (i).toNat < 8 by (first | ((try clear c33_); (try clear hri); (try clear hμi); (try clear ri); (try clear μi); (try clear hz9); (try clear wl2); (try clear wl1); (try clear f1_); (try clear c1_); (try clear hμw); (try clear x); (try clear eμw); (try clear hra9); (try clear ra9); (try clear h66); (try clear x6); (try clear hm9); (try clear hf); (try clear hc9); (try clear hi); (try clear hexit58); (try clear hnd); (try clear hRs); (try clear hRc); (try clear hRl); (try clear hRf); omega) | omega)) rfl (by decide)) rfl ⟨by (first | ((try clear c33_); (try clear hri); (try clear hμi); (try clear ri); (try clear μi); (try clear hz9); (try clear wl2); (try clear wl1); (try clear f1_); (try clear c1_); (try clear hμw); (try clear x); (try clear eμw); (try clear hra9); (try clear ra9); (try clear c18_); (try clear h66); (try clear x6); (try clear x2); (try clear hlc); (try clear hm9); (try clear hf); (try clear hc9); (try clear hi); (try clear hexit58); (try clear hRs); (try clear hRc); (try clear hRl); (try clear hRf); omega) | omega), by (first | ((try clear c33_); (try clear hri); (try clear hμi); (try clear ri); (try clear μi); (try clear hz9); (try clear wl2); (try clear wl1); (try clear f1_); (try clear c1_); (try clear hμw); (try clear x); (try clear eμw); (try clear hra9); (try clear ra9); (try clear c18_); (try clear x2); (try clear hlc); (try clear hm9); (try clear hf); (try clear hc9); (try clear hi); (try clear hexit58); (try clear hRs); (try clear hRc); (try clear hRl); (try clear hRf); omega) | omega)⟩ (by decide) dX9_users_42 ?_
        refine fz_if_le (tgt := 52) (by first | assumption | (constructor <;> omega) | decide) hx hb dX9_users_43 (by decide) (fun c43_ => ?_) (fun c43_ => ?_)
        · refine lv_iinc (v := iZ (i + 1)) (lv' := [(3, .int (iZ (i + 1))), (4, .ref (h0 + ((113 + (i).toNat * 15) + 10))), (2, .int (iZ (v9))), (1, .int (iZ (nd))), (0, .ref h0)]) hx hb dX9_users_52 hl (k := 1) rfl (iZ_add _ _) (by decide) rfl (fun ls hl => ?_)
          refine lv_goto (tgt := 13) hx hb dX9_users_55 (by decide) ?_
          exact ih (i + 1) (v9) μw H locs ls (by (first | ((try clear c43_); (try clear c33_); (try clear hri); (try clear hμi); (try clear ri); (try clear μi); (try clear hz9); (try clear wl2); (try clear wl1); (try clear f1_); (try clear c1_); (try clear hμw); (try clear x); (try clear eμw); (try clear hra9); (try clear ra9); (try clear h66); (try clear x6); (try clear hlc); (try clear hm9); (try clear hf); (try clear hc9); (try clear hexit58); (try clear hnd); (try clear hRs); (try clear hRc); (try clear hRl); (try clear hRf); omega) | omega)) (by exact c1_) (by exact fr_trans hf f1_) (by (first | ((try clear c43_); (try clear hz9); (try clear wl2); (try clear wl1); (try clear f1_); (try clear c1_); (try clear hμw); (try clear x); (try clear eμw); (try clear hra9); (try clear ra9); (try clear h66); (try clear x6); (try clear hf); (try clear hc9); (try clear hexit58); (try clear hnd); (try clear hRs); (try clear hRc); (try clear hRl); (try clear hRf); omega) | omega)) hP hS (lv_sub hl [0, 2, 3, 4] rfl)
        · refine lv_iload_n hx hb dX9_users_46 rfl (lv_at hl 2 rfl) ?_
          refine lv_iconst (v := iZ 1) hx hb dX9_users_47 rfl ?_
          refine lv_iload_n hx hb dX9_users_48 rfl (lv_at hl 1 rfl) ?_
          refine lv_ishl hx hb dX9_users_49 ?_
          refine lv_topi (fun x9 ex9 => ?_)
          obtain ⟨z1, rfl, hz1⟩ := iZ_ex x9
          have ez1 := ex9; clear ex9
          refine lv_ior hx hb dX9_users_50 ?_
          refine lv_topi (fun x9 ex9 => ?_)
          obtain ⟨z2, rfl, hz2⟩ := iZ_ex x9
          have ez2 := ex9; clear ex9
          refine lv_istore_n (lv' := [(2, .int (iZ (z2))), (4, .ref (h0 + ((113 + (i).toNat * 15) + 10))), (3, .int (iZ (i))), (1, .int (iZ (nd))), (0, .ref h0)]) hx hb dX9_users_51 rfl hl (by decide) rfl (fun ls hl => ?_)
          refine lv_iinc (v := iZ (i + 1)) (lv' := [(3, .int (iZ (i + 1))), (2, .int (iZ (z2))), (4, .ref (h0 + ((113 + (i).toNat * 15) + 10))), (1, .int (iZ (nd))), (0, .ref h0)]) hx hb dX9_users_52 hl (k := 2) rfl (iZ_add _ _) (by decide) rfl (fun ls hl => ?_)
          refine lv_goto (tgt := 13) hx hb dX9_users_55 (by decide) ?_
          exact ih (i + 1) (z2) μw H locs ls (by (first | ((try clear ez2); (try clear hz2); (try clear ex9); (try clear ez1); (try clear hz1); (try clear c43_); (try clear c33_); (try clear hri); (try clear hμi); (try clear ri); (try clear μi); (try clear hz9); (try clear wl2); (try clear wl1); (try clear f1_); (try clear c1_); (try clear hμw); (try clear x); (try clear eμw); (try clear hra9); (try clear ra9); (try clear h66); (try clear x6); (try clear hlc); (try clear hm9); (try clear hf); (try clear hc9); (try clear hexit58); (try clear hnd); (try clear hRs); (try clear hRc); (try clear hRl); (try clear hRf); omega) | omega)) (by exact c1_) (by exact fr_trans hf f1_) (by (first | ((try clear ez2); (try clear hz2); (try clear ex9); (try clear ez1); (try clear hz1); (try clear c43_); (try clear hz9); (try clear wl2); (try clear wl1); (try clear f1_); (try clear c1_); (try clear hμw); (try clear x); (try clear eμw); (try clear hra9); (try clear ra9); (try clear h66); (try clear x6); (try clear hf); (try clear hc9); (try clear hexit58); (try clear hnd); (try clear hRs); (try clear hRc); (try clear hRl); (try clear hRf); omega) | omega)) hP hS (lv_sub hl [0, 1, 3, 4] rfl)
set_option maxHeartbeats 4000000 in
set_option maxRecDepth 100000 in
theorem q_users (l : Launch) (hfl : l.stackTraces = false) (dC : Nat → ClassId) (dI : Nat → Nat → Nat) (cI cZ cII cIII : ClassId) (h0 sz : Nat) (μ : va_M) (nd : Int) (T : List Tk) (hI : CI T μ) (h_nd : inR nd) : vx_Met l yX9_users (Cond.code yX9_users cX9_users 5 (some .int) :: wsG) ({ frames := 8, cells := 1, slots := 6, locals := 163 } : Room) (va_Pc [.ref h0, .int (iZ (nd))] (fun U => U.heap.size = sz ∧ va_P (dC, dI) vwCl (fw (sE cI cZ cII cIII h0) h0 233 μ) U.heap ∧ va_K (dC, dI) vwCl (sT cI cZ cII cIII) U ∧ xM U ∧ xX (fA h0 233 sz) U)) (va_Qi (fun (r9 : Int32) (u : va_M × Int) => r9 = iZ u.2 ∧ (fun (u : va_M) (r : Int) => CI T u ∧ SZ μ u) u.1 u.2) (fun u t => va_P (dC, dI) vwCl (fw (sE cI cZ cII cIII h0) h0 233 u.1) t.heap ∧ va_K (dC, dI) vwCl (sT cI cZ cII cIII) t) (fA h0 233 sz)) (vx_X (fun (u : va_M) => CI T u ∧ SZ μ u) (fun E u t => E ∈ (["java/util/NoSuchElementException"] : List String) ∧ va_P (dC, dI) vwCl (fw (sE cI cZ cII cIII h0) h0 233 u) t.heap ∧ va_K (dC, dI) vwCl (sT cI cZ cII cIII) t) (fA h0 233 sz)) 1 6 (fA h0 233 sz) := by
  refine vx_ofW (cc := cX9_users) (maxL := 5) (ret := (some .int)) (by decide) rfl ?_
  intro p e s m args below meth c s₁ B hml hnt hv
  obtain ⟨rfl, hsz, hP, hK, hM, hEx⟩ := hv
  have hx := B.exec
  have hb := B.bytes
  have hr := B.returns
  have hts : ∀ w ∈ wsG, w.before _ s = true := hG_of (atoms_spec (ws := (Cond.code yX9_users cX9_users 5 (some .int) :: wsG)) B.pre)
  have hown : s.vm.findClass RX9 = some m.cls := findClass_of_methodNamed B.named
  have hlocks := B.notSynchronized
  subst hsz
  have hS : va_S (fA h0 233 s.heap.size) s.heap s.heap [] := va_S.rf
  have hl := lv_entry ([.ref h0, .int (iZ (nd))]) (n := 5) (Nat.le_of_ble_eq_true rfl)
  rw [lg_entry_eq]
  generalize (lg_sl ([.ref h0, .int (iZ (nd))]) ++ List.replicate (5 - (lg_sl ([.ref h0, .int (iZ (nd))])).length) Slot.unset).toArray = ls at hl ⊢
  have hl : lv_has ls 5 [(0, .ref h0), (1, .int (iZ (nd)))] := hl
  have hlc := CI_lc hI
  have h66 := CI_n6 hI
  refine lv_aload_n hx hb dX9_users_0 rfl (lv_at hl 0 rfl) ?_
  refine lv_aload_n hx hb dX9_users_1 rfl (lv_at hl 0 rfl) ?_
  refine fz_get (D := (dC, dI)) (ci := 9) (v := .ref (h0 + 6)) (C := RX9) (T := TX9) (N := 15) hx hb hts inG9 hown hK hP (k := 0) (by decide) (F := (sF0 h0)) sE_0 rfl 3 (by decide) (hts _ k335) (fun _ h9 => h9) rfl dX9_users_2 ?_
  refine lv_iload_n hx hb dX9_users_5 rfl (lv_at hl 1 rfl) ?_
  by_cases hn6_ : 0 ≤ nd ∧ nd < μ 6 6
  · refine va_callv (va_runV (As := [.ref (h0 + 6), .int (iZ (nd))]) (rest := []) ⟨hx, hb, hml, hown, hts⟩ (s_needNode l dC dI cI cZ cII cIII h0 s.heap.size μ (6) (1100) (nd) (rowB_6) (by first | assumption | omega | exact CI_lc hI | exact CI_cn hI | exact (CI_n6 hI).1 | decide) (by first | assumption | (first | ((try clear hn6_); (try clear hlc); (try clear hsz); (try clear hnt); (try clear s₁); omega) | omega) | exact CI_lc hI | exact CI_cn hI | exact (CI_n6 hI).1 | decide) (by exact hn6_)) (cwV 2 hts (gV_G k914 k916 ks_yX9_needNode k1 k917) rfl rfl rfl (by decide +kernel) ⟨Nat.le_of_ble_eq_true rfl, Nat.le_of_ble_eq_true rfl⟩) ⟨fun a U g mk q => by obtain ⟨q0, q1, qP, qK, qM⟩ := q; exact ⟨q0, q1, qP, va_K.moved (u := U) (U := U.calling g mk a) (Vm.Alike.refl U.vm) qK, qM⟩, va_recv hK hP (ci := 9) (q0 := 0) rfl ((fw_get (by decide)).trans (by rw [sE_0]; rfl)), fun U hU hW => ⟨rfl, by rw [hU], by rw [hU]; exact hP, va_K.moved hW.alike hK, xM_warm hW hM⟩⟩ rfl rfl hl.1 rfl (lv_room (Nat.le_of_ble_eq_true rfl)) dX9_users_6 ⟨Nat.le_of_ble_eq_true rfl, Nat.le_of_ble_eq_true rfl⟩) hS (fun q _ h => fA_le hS.1 q h) (fA_le hS.1) (fun u9 t9 H1 locs ht9 hvm9 hw9 hB9 hz9 hk9 hS => ?_)
    obtain ⟨hP, -⟩ := hB9
    rw [ht9] at hP
    generalize H1 = H at hP hS ⊢
    obtain ⟨μ3, eμ3⟩ : ∃ x : va_M, x = u9 := ⟨_, rfl⟩
    rw [← eμ3] at hP hw9
    have hμ3 := hw9; clear hw9
    rw [hμ3] at hP
    refine lv_iconst (v := iZ 0) hx hb dX9_users_9 rfl ?_
    refine lv_istore_n (lv' := [(2, .int (iZ (0))), (0, .ref h0), (1, .int (iZ (nd)))]) hx hb dX9_users_10 rfl hl (by decide) rfl (fun ls hl => ?_)
    refine lv_iconst (v := iZ 0) hx hb dX9_users_11 rfl ?_
    refine lv_istore_n (lv' := [(3, .int (iZ (0))), (2, .int (iZ (0))), (0, .ref h0), (1, .int (iZ (nd)))]) hx hb dX9_users_12 rfl hl (by decide) rfl (fun ls hl => ?_)
    refine LX9_users_13z hx hb hml hown hts hK hM (Nat.le_of_ble_eq_true rfl) (Nat.le_of_ble_eq_true rfl) (Nat.le_of_ble_eq_true rfl) (Nat.le_of_ble_eq_true rfl) (μ) (T) (nd) (by exact hI) (by (first | ((try clear hμ3); (try clear x); (try clear eμ3); (try clear μ3); (try clear hz9); (try clear h66); (try clear hlc); (try clear hsz); (try clear hnt); (try clear s₁); omega) | omega)) ?_ _ (0) (0) μ H locs ls (by (first | ((try clear hμ3); (try clear x); (try clear eμ3); (try clear μ3); (try clear hz9); (try clear hn6_); (try clear h66); (try clear hsz); (try clear hnt); (try clear s₁); omega) | omega)) (by exact hI) (by exact fr_rfl) (Nat.lt_succ_self _) hP hS (lv_sub hl [0, 1, 3, 2] rfl)
    · intro i_4 v9_4 μ4_ H locs ls q1_4 q2_4 hP hS hl
      have hl : lv_has ls 5 [(2, .int (iZ (v9_4)))] := hl
      refine lv_iload_n hx hb dX9_users_58 rfl (lv_at hl 0 rfl) ?_
      exact W_widen (Nat.le_of_ble_eq_true rfl) (Nat.le_of_ble_eq_true rfl) (vx_ret (W.iret (v := iZ (v9_4)) hx hb hr (fun t9 ht9 hW9 => ⟨⟨iZ (v9_4), (μ4_, v9_4), rfl, ⟨rfl, (by
                    dsimp only
                    exact ⟨q1_4, SZ_wq q2_4⟩)⟩, by rw [ht9]; exact hP, va_K.moved hW9.alike hK⟩, hS.F ht9⟩) hS.2.2 dX9_users_59))
  · refine vx_callv (vx_runV (As := [.ref (h0 + 6), .int (iZ (nd))]) (rest := []) ⟨hx, hb, hml, hown, hts⟩ (x_needNode l hfl dC dI cI cZ cII cIII h0 s.heap.size μ (6) (1100) (nd) (rowB_6) (by first | assumption | omega | exact CI_lc hI | exact CI_cn hI | exact (CI_n6 hI).1 | decide) (by first | assumption | (first | ((try clear hn6_); (try clear hlc); (try clear hsz); (try clear hnt); (try clear s₁); omega) | omega) | exact CI_lc hI | exact CI_cn hI | exact (CI_n6 hI).1 | decide) (hn6_)) (cwV 2 hts (gV_G k914 k916 ks_yX9_needNode k1 k917) rfl rfl rfl (by decide +kernel) ⟨Nat.le_of_ble_eq_true rfl, Nat.le_of_ble_eq_true rfl⟩) ⟨fun a U g mk q => by obtain ⟨q0, q1, qP, qK, qM, qE⟩ := q; exact ⟨q0, q1, qP, va_K.moved (u := U) (U := U.calling g mk a) (Vm.Alike.refl U.vm) qK, qM, xX_call qE⟩, va_recv hK hP (ci := 9) (q0 := 0) rfl ((fw_get (by decide)).trans (by rw [sE_0]; rfl)), fun U hU hW => ⟨rfl, by rw [hU], by rw [hU]; exact hP, va_K.moved hW.alike hK, xM_warm hW hM, xX_at hEx hS (fun q h => fA_le hS.1 q h) hU hW⟩⟩ rfl rfl hl.1 rfl (lv_room (Nat.le_of_ble_eq_true rfl)) dX9_users_6 ⟨Nat.le_of_ble_eq_true rfl, Nat.le_of_ble_eq_true rfl⟩) hS (fun q _ h => fA_le hS.1 q h) (fA_le hS.1) (fun q _ h => fA_le hS.1 q h) (fun E9 ce9 q9 u9 t9 H1 locs ht9 hvm9 hpx9 hBX9 hz9 hk9 hS hce9 hcv9 hcl9 => ?_) (fun u9 t9 H1 locs ht9 hvm9 hw9 hB9 hz9 hk9 hS => hw9.elim)
    obtain ⟨hE9, hP9, hK9⟩ := hBX9
    exact vx_out (fun x hx9 => (hnt x hx9).elim) hlocks hce9 hcv9 hcl9 (fun t8 ht8 hW8 => ⟨u9, (by
                show CI T u9 ∧ SZ μ u9
                exact CZ_thr hI hpx9), ⟨hE9, by rw [ht8, ← ht9]; exact hP9, va_K.moved hW8 hK⟩, hS.F ht8⟩) hS.2.2 (Nat.le_of_ble_eq_true rfl) (Nat.le_of_ble_eq_true rfl)
set_option maxHeartbeats 4000000 in
set_option maxRecDepth 100000 in
theorem LX9_greatest_13z {p : Program} {l : Launch} {e : Env} {R : Room} {s : State} {m : MethodId} {args : Array Value} {below : List Frame} {meth : Method} {c : Code} {cells slots : Nat} {Q : State → Prop} {dC : Nat → ClassId} {dI : Nat → Nat → Nat} {h0 : Nat} {cI cZ cII cIII : ClassId} (hx : p.tables.exec = Jvm.exec) (hb : c.code = cX9_greatest) (hml : c.maxLocals = 5) (hown : s.vm.findClass RX9 = some m.cls) (hts : ∀ w ∈ wsG, w.before args s = true) (hK : va_K (dC, dI) vwCl (sT cI cZ cII cIII) s) (hM : xM s) (hRf : 8 ≤ R.frames) (hRl : 163 ≤ R.locals) (hRc : cells ≤ R.cells) (hRs : slots ≤ R.slots) (μ0 : va_M) (T : List Tk) (nd : Int) (hI : CI T μ0) (hnd : 0 ≤ nd ∧ nd < μ0 6 6) (hexit54 : ∀ (i : Int) (v9 : Int) (μ : va_M) (H : Heap) (locs : List Loc) (ls : Array Slot), (CI T μ) → (fr WQ μ0 μ) → va_P (dC, dI) vwCl (fw (sE cI cZ cII cIII h0) h0 233 μ) H → va_S (fA h0 233 s.heap.size) s.heap H locs → lv_has ls 5 [(2, .int (iZ (v9)))] → W p l e R s m args below meth c H locs cells slots Q (F0 m 54 ls [])) :
    ∀ (n9 : Nat) (i : Int) (v9 : Int) (μ : va_M) (H : Heap) (locs : List Loc) (ls : Array Slot), (0 ≤ i ∧ i ≤ μ0 0 2) → (CI T μ) → (fr WQ μ0 μ) → (inR v9) → (9 - i).toNat < n9 → va_P (dC, dI) vwCl (fw (sE cI cZ cII cIII h0) h0 233 μ) H → va_S (fA h0 233 s.heap.size) s.heap H locs → lv_has ls 5 [(3, .int (iZ (i))), (2, .int (iZ (v9))), (1, .int (iZ (nd))), (0, .ref h0)] → W p l e R s m args below meth c H locs cells slots Q (F0 m 13 ls []) := by
  intro n9
  induction n9 with
  | zero => intro i v9 μ H locs ls hi hc9 hf hmo hm9 hP hS hl; exact absurd hm9 (Nat.not_lt_zero _)
  | succ n9 ih =>
    intro i v9 μ H locs ls hi hc9 hf hmo hm9 hP hS hl
    have hlc := CI_lc hI
    have x2 : μ 0 2 = μ0 0 2 := hf _ _ (by unfold WQ Zc; (first | ((try clear x2); (try clear hlc); (try clear hm9); (try clear hmo); (try clear hf); (try clear hc9); (try clear hi); (try clear hexit54); (try clear hnd); (try clear hRs); (try clear hRc); (try clear hRl); (try clear hRf); omega) | omega))
    have x6 : μ 6 6 = μ0 6 6 := hf _ _ (by unfold WQ Zc; (first | ((try clear x6); (try clear x2); (try clear hlc); (try clear hm9); (try clear hmo); (try clear hf); (try clear hc9); (try clear hi); (try clear hexit54); (try clear hnd); (try clear hRs); (try clear hRc); (try clear hRl); (try clear hRf); omega) | omega))
    have h66 := CI_n6 hI
    refine lv_iload_n hx hb dX9_greatest_13 rfl (lv_at hl 0 rfl) ?_
    refine lv_aload_n hx hb dX9_greatest_14 rfl (lv_at hl 3 rfl) ?_
    refine fz_get (D := (dC, dI)) (ci := 9) (v := .int (iZ (μ 0 2))) (C := RX9) (T := TX9) (N := 15) hx hb hts inG9 hown hK hP (k := 0) (by decide) (F := (sF0 h0)) sE_0 rfl 2 (by decide) (hts _ k334) (fun _ h9 => h9) rfl dX9_greatest_15 ?_
    refine fz_icmp_ge (tgt := 54) (by first | assumption | (constructor <;> (first | ((try clear h66); (try clear x6); (try clear hm9); (try clear hmo); (try clear hf); (try clear hc9); (try clear hexit54); (try clear hnd); (try clear hRs); (try clear hRc); (try clear hRl); (try clear hRf); omega) | omega)) | decide) (by first | assumption | (constructor <;> (first | ((try clear h66); (try clear x6); (try clear hm9); (try clear hmo); (try clear hf); (try clear hc9); (try clear hi); (try clear hexit54); (try clear hnd); (try clear hRs); (try clear hRc); (try clear hRl); (try clear hRf); omega) | omega)) | decide) hx hb dX9_greatest_18 (by decide) (fun c18_ => ?_) (fun c18_ => ?_)
    · exact hexit54 (i) (v9) μ H locs ls (by exact hc9) (by exact hf) hP hS (lv_sub hl [1] rfl)
    · refine lv_aload_n hx hb dX9_greatest_21 rfl (lv_at hl 3 rfl) ?_
      refine lv_iload_n hx hb dX9_greatest_22 rfl (lv_at hl 0 rfl) ?_
      refine va_callr (va_runV (As := [.int (iZ (i))]) (rest := []) ⟨hx, hb, hml, hown, hts⟩ (s_walkOf l dC dI cI cZ cII cIII h0 H.size μ (i) (T) (by exact hc9) (by first | assumption | (first | ((try clear h66); (try clear x6); (try clear x2); (try clear hlc); (try clear hm9); (try clear hmo); (try clear hf); (try clear hc9); (try clear hexit54); (try clear hnd); (try clear hRs); (try clear hRc); (try clear hRl); (try clear hRf); omega) | omega) | exact CI_lc hI | exact CI_cn hI | exact (CI_n6 hI).1 | decide)) (cwV 1 hts (gV_G k535 k537 ks_yX9_walkOf k1 k538) rfl rfl rfl (by decide +kernel) ⟨by show 6 + 1 ≤ _; (first | ((try clear c18_); (try clear h66); (try clear x6); (try clear x2); (try clear hlc); (try clear hm9); (try clear hmo); (try clear hf); (try clear hc9); (try clear hi); (try clear hexit54); (try clear hnd); (try clear hRs); (try clear hRc); (try clear hRl); omega) | omega), by show 8 + (3 + 11) + (141) ≤ _; (first | ((try clear c18_); (try clear h66); (try clear x6); (try clear x2); (try clear hlc); (try clear hm9); (try clear hmo); (try clear hf); (try clear hc9); (try clear hi); (try clear hexit54); (try clear hnd); (try clear hRs); (try clear hRc); (try clear hRf); omega) | omega)⟩) ⟨fun a U g mk q => by obtain ⟨q0, q1, qP, qK, qM⟩ := q; exact ⟨q0, q1, qP, va_K.moved (u := U) (U := U.calling g mk a) (Vm.Alike.refl U.vm) qK, qM⟩, va_recv hK hP (ci := 9) (q0 := 0) rfl ((fw_get (by decide)).trans (by rw [sE_0]; rfl)), fun U hU hW => ⟨rfl, by rw [hU], by rw [hU]; exact hP, va_K.moved hW.alike hK, xM_warm hW hM⟩⟩ rfl rfl hl.1 rfl (lv_room (Nat.le_of_ble_eq_true rfl)) dX9_greatest_23 ⟨hRc, hRs⟩) hS (fun q _ h => fA_le hS.1 q h) (fA_le hS.1) (fun u9 ra9 t9 H1 locs ht9 hvm9 hw9 hB9 hz9 hk9 hS => ?_)
      obtain ⟨hra9, hP, -⟩ := hB9
      subst hra9
      rw [ht9] at hP
      generalize H1 = H at hP hS ⊢
      obtain ⟨μw, eμw⟩ : ∃ x : va_M, x = u9 := ⟨_, rfl⟩
      rw [← eμw] at hP hw9
      have hμw := hw9; clear hw9
      obtain ⟨c1_, f1_⟩ := hμw
      obtain ⟨wl1, wl2⟩ := CI_lf c1_ i (by (first | ((try clear wl2); (try clear wl1); (try clear f1_); (try clear c1_); (try clear hμw); (try clear x); (try clear eμw); (try clear μw); (try clear hra9); (try clear hz9); (try clear ra9); (try clear c18_); (try clear h66); (try clear x6); (try clear x2); (try clear hlc); (try clear hm9); (try clear hmo); (try clear hf); (try clear hc9); (try clear hexit54); (try clear hnd); (try clear hRs); (try clear hRc); (try clear hRl); (try clear hRf); omega) | omega)) (by (first | ((try clear wl2); (try clear wl1); (try clear f1_); (try clear c1_); (try clear hμw); (try clear x); (try clear eμw); (try clear μw); (try clear hra9); (try clear hz9); (try clear ra9); (try clear h66); (try clear x6); (try clear hm9); (try clear hmo); (try clear hf); (try clear hc9); (try clear hi); (try clear hexit54); (try clear hnd); (try clear hRs); (try clear hRc); (try clear hRl); (try clear hRf); omega) | omega))
      refine lv_astore (lv' := [(4, .ref (h0 + ((113 + (i).toNat * 15) + 10))), (3, .int (iZ (i))), (2, .int (iZ (v9))), (1, .int (iZ (nd))), (0, .ref h0)]) hx hb dX9_greatest_26 hl (by decide) rfl (fun ls hl => ?_)
      refine lv_aload hx hb dX9_greatest_28 (lv_at hl 0 rfl) ?_
      refine va_calli (va_runV (As := []) (rest := []) ⟨hx, hb, hml, hown, hts⟩ (s_KisThrough l dC dI cI cZ cII cIII h0 H.size μw ((113 + (i).toNat * 15)) ((i).toNat) (rfl) ((show (i).toNat < 8 by (first | ((try clear wl2); (try clear wl1); (try clear f1_); (try clear c1_); (try clear hμw); (try clear x); (try clear eμw); (try clear hra9); (try clear hz9); (try clear ra9); (try clear h66); (try clear x6); (try clear hm9); (try clear hmo); (try clear hf); (try clear hc9); (try clear hi); (try clear hexit54); (try clear hnd); (try clear hRs); (try clear hRc); (try clear hRl); (try clear hRf); omega) | omega))) (by constructor <;> (first | ((try clear wl1); (try clear f1_); (try clear c1_); (try clear hμw); (try clear x); (try clear eμw); (try clear hra9); (try clear hz9); (try clear ra9); (try clear c18_); (try clear h66); (try clear x6); (try clear x2); (try clear hlc); (try clear hm9); (try clear hmo); (try clear hf); (try clear hc9); (try clear hi); (try clear hexit54); (try clear hnd); (try clear hRs); (try clear hRc); (try clear hRl); (try clear hRf); omega) | omega))) (cwV 0 hts (gV_G k579 k580 k581 k11 k582) rfl rfl rfl (by decide +kernel) ⟨by show 1 + 1 ≤ _; (first | ((try clear wl2); (try clear wl1); (try clear f1_); (try clear c1_); (try clear hμw); (try clear x); (try clear eμw); (try clear hra9); (try clear hz9); (try clear ra9); (try clear c18_); (try clear h66); (try clear x6); (try clear x2); (try clear hlc); (try clear hm9); (try clear hmo); (try clear hf); (try clear hc9); (try clear hi); (try clear hexit54); (try clear hnd); (try clear hRs); (try clear hRc); (try clear hRl); omega) | omega), by show 8 + (1 + 11) + (14) ≤ _; (first | ((try clear wl2); (try clear wl1); (try clear f1_); (try clear c1_); (try clear hμw); (try clear x); (try clear eμw); (try clear hra9); (try clear hz9); (try clear ra9); (try clear c18_); (try clear h66); (try clear x6); (try clear x2); (try clear hlc); (try clear hm9); (try clear hmo); (try clear hf); (try clear hc9); (try clear hi); (try clear hexit54); (try clear hnd); (try clear hRs); (try clear hRc); (try clear hRf); omega) | omega)⟩) ⟨fun a U g mk q => by obtain ⟨q0, q1, qP, qK, qM⟩ := q; exact ⟨q0, q1, qP, va_K.moved (u := U) (U := U.calling g mk a) (Vm.Alike.refl U.vm) qK, qM⟩, va_recv hK hP (ci := 7) (q0 := ((113 + (i).toNat * 15) + 10)) rfl ((fw_get (by (first | ((try clear q); (try clear mk); (try clear g); (try clear U); (try clear wl2); (try clear wl1); (try clear f1_); (try clear c1_); (try clear hμw); (try clear x); (try clear eμw); (try clear hra9); (try clear hz9); (try clear ra9); (try clear h66); (try clear x6); (try clear hm9); (try clear hmo); (try clear hf); (try clear hc9); (try clear hi); (try clear hexit54); (try clear hnd); (try clear hRs); (try clear hRc); (try clear hRl); (try clear hRf); omega) | omega))).trans (by rw [(sE_walk (show (i).toNat < 8 by (first | ((try clear q); (try clear mk); (try clear g); (try clear U); (try clear wl2); (try clear wl1); (try clear f1_); (try clear c1_); (try clear hμw); (try clear x); (try clear eμw); (try clear hra9); (try clear hz9); (try clear ra9); (try clear h66); (try clear x6); (try clear hm9); (try clear hmo); (try clear hf); (try clear hc9); (try clear hi); (try clear hexit54); (try clear hnd); (try clear hRs); (try clear hRc); (try clear hRl); (try clear hRf); omega) | omega)) rfl)])), fun U hU hW => ⟨rfl, by rw [hU], by rw [hU]; exact hP, va_K.moved hW.alike hK, xM_warm hW hM⟩⟩ rfl rfl hl.1 rfl (lv_room (Nat.le_of_ble_eq_true rfl)) dX9_greatest_30 ⟨hRc, hRs⟩) hS (fun q _ h => fA_le hS.1 q h) (fA_le hS.1) (fun r9 u9 t9 H1 locs ht9 hvm9 hw9 hB9 hz9 hk9 hS => ?_)
      obtain ⟨μi, ri⟩ := u9
      obtain ⟨hP, -⟩ := hB9
      rw [ht9] at hP
      generalize H1 = H at hP hS ⊢
      obtain ⟨e9, hw9⟩ := hw9
      have e9 : r9 = iZ ri := e9
      subst e9
      simp only at hP hw9
      have hμi := hw9; clear hw9
      rw [hμi.1] at hP; have hμi := hμi.2
      have hri := hμi
      refine fz_if_eq (tgt := 48) (by first | assumption | (constructor <;> (first | ((try clear hμi); (try clear μi); (try clear hz9); (try clear wl2); (try clear wl1); (try clear f1_); (try clear c1_); (try clear hμw); (try clear x); (try clear eμw); (try clear hra9); (try clear ra9); (try clear c18_); (try clear h66); (try clear x6); (try clear x2); (try clear hlc); (try clear hm9); (try clear hmo); (try clear hf); (try clear hc9); (try clear hi); (try clear hexit54); (try clear hnd); (try clear hRs); (try clear hRc); (try clear hRl); (try clear hRf); omega) | omega)) | decide) hx hb dX9_greatest_33 (by decide) (fun c33_ => ?_) (fun c33_ => ?_)
      · refine lv_iinc (v := iZ (i + 1)) (lv' := [(3, .int (iZ (i + 1))), (4, .ref (h0 + ((113 + (i).toNat * 15) + 10))), (2, .int (iZ (v9))), (1, .int (iZ (nd))), (0, .ref h0)]) hx hb dX9_greatest_48 hl (k := 1) rfl (iZ_add _ _) (by decide) rfl (fun ls hl => ?_)
        refine lv_goto (tgt := 13) hx hb dX9_greatest_51 (by decide) ?_
        exact ih (i + 1) (v9) μw H locs ls (by (first | ((try clear c33_); (try clear hri); (try clear hμi); (try clear μi); (try clear hz9); (try clear wl2); (try clear wl1); (try clear f1_); (try clear c1_); (try clear hμw); (try clear x); (try clear eμw); (try clear hra9); (try clear ra9); (try clear h66); (try clear x6); (try clear hlc); (try clear hm9); (try clear hmo); (try clear hf); (try clear hc9); (try clear hexit54); (try clear hnd); (try clear hRs); (try clear hRc); (try clear hRl); (try clear hRf); omega) | omega)) (by exact c1_) (by exact fr_trans hf f1_) (by exact hmo) (by (first | ((try clear hz9); (try clear wl2); (try clear wl1); (try clear f1_); (try clear c1_); (try clear hμw); (try clear x); (try clear eμw); (try clear hra9); (try clear ra9); (try clear h66); (try clear x6); (try clear hmo); (try clear hf); (try clear hc9); (try clear hexit54); (try clear hnd); (try clear hRs); (try clear hRc); (try clear hRl); (try clear hRf); omega) | omega)) hP hS (lv_sub hl [0, 2, 3, 4] rfl)
      · have hth : inR (μw (113 + (i).toNat * 15 + 12) nd.toNat) := c1_.2 _ _ (by unfold Zc; (first | ((try clear c33_); (try clear hri); (try clear hμi); (try clear ri); (try clear μi); (try clear hz9); (try clear wl2); (try clear wl1); (try clear f1_); (try clear c1_); (try clear hμw); (try clear x); (try clear eμw); (try clear hra9); (try clear ra9); (try clear c18_); (try clear h66); (try clear x6); (try clear x2); (try clear hlc); (try clear hm9); (try clear hmo); (try clear hf); (try clear hc9); (try clear hi); (try clear hexit54); (try clear hnd); (try clear hRs); (try clear hRc); (try clear hRl); (try clear hRf); omega) | omega)) (by (first | ((try clear c33_); (try clear hri); (try clear hμi); (try clear ri); (try clear μi); (try clear hz9); (try clear wl2); (try clear wl1); (try clear f1_); (try clear c1_); (try clear hμw); (try clear x); (try clear eμw); (try clear hra9); (try clear ra9); (try clear c18_); (try clear h66); (try clear x6); (try clear x2); (try clear hlc); (try clear hm9); (try clear hmo); (try clear hf); (try clear hc9); (try clear hi); (try clear hexit54); (try clear hnd); (try clear hRs); (try clear hRc); (try clear hRl); (try clear hRf); omega) | omega))
        refine lv_iload_n hx hb dX9_greatest_36 rfl (lv_at hl 2 rfl) ?_
        refine lv_aload hx hb dX9_greatest_37 (lv_at hl 0 rfl) ?_
        refine fz_get (D := (dC, dI)) (ci := 7) (v := .ref (h0 + ((113 + (i).toNat * 15) + 12))) (C := RX7) (T := TX7) (N := 5) hx hb hts inG7 hown hK hP (k := ((113 + (i).toNat * 15) + 10)) (by (first | ((try clear c33_); (try clear hri); (try clear hμi); (try clear ri); (try clear μi); (try clear hz9); (try clear wl2); (try clear wl1); (try clear f1_); (try clear c1_); (try clear hμw); (try clear x); (try clear eμw); (try clear hra9); (try clear ra9); (try clear h66); (try clear x6); (try clear hm9); (try clear hmo); (try clear hf); (try clear hc9); (try clear hi); (try clear hexit54); (try clear hnd); (try clear hRs); (try clear hRc); (try clear hRl); (try clear hRf); omega) | omega)) (F := (sWF h0 (113 + (i).toNat * 15))) (sE_walk (show (i).toNat < 8 by (first | ((try clear c33_); (try clear hri); (try clear hμi); (try clear ri); (try clear μi); (try clear hz9); (try clear wl2); (try clear wl1); (try clear f1_); (try clear c1_); (try clear hμw); (try clear x); (try clear eμw); (try clear hra9); (try clear ra9); (try clear h66); (try clear x6); (try clear hm9); (try clear hmo); (try clear hf); (try clear hc9); (try clear hi); (try clear hexit54); (try clear hnd); (try clear hRs); (try clear hRc); (try clear hRl); (try clear hRf); omega) | omega)) rfl) rfl 3 (by decide) (hts _ k281) (fun _ h9 => h9) rfl dX9_greatest_39 ?_
        refine lv_iload_n hx hb dX9_greatest_42 rfl (lv_at hl 3 rfl) ?_
        refine fz_ld (k := ((113 + (i).toNat * 15) + 12)) (n := 1100) hx hb hK hP 0 (by (first | ((try clear c33_); (try clear hri); (try clear hμi); (try clear ri); (try clear μi); (try clear hz9); (try clear wl2); (try clear wl1); (try clear f1_); (try clear c1_); (try clear hμw); (try clear x); (try clear eμw); (try clear hra9); (try clear ra9); (try clear h66); (try clear x6); (try clear hm9); (try clear hmo); (try clear hf); (try clear hc9); (try clear hi); (try clear hexit54); (try clear hnd); (try clear hRs); (try clear hRc); (try clear hRl); (try clear hRf); omega) | omega)) (sE_leafA 12 1100 (show (i).toNat < 8 by (first | ((try clear c33_); (try clear hri); (try clear hμi); (try clear ri); (try clear μi); (try clear hz9); (try clear wl2); (try clear wl1); (try clear f1_); (try clear c1_); (try clear hμw); (try clear x); (try clear eμw); (try clear hra9); (try clear ra9); (try clear h66); (try clear x6); (try clear hm9); (try clear hmo); (try clear hf); (try clear hc9); (try clear hi); (try clear hexit54); (try clear hnd); (try clear hRs); (try clear hRc); (try clear hRl); (try clear hRf); omega) | omega)) rfl (by decide)) rfl ⟨by (first | ((try clear c33_); (try clear hri); (try clear hμi); (try clear ri); (try clear μi); (try clear hz9); (try clear wl2); (try clear wl1); (try clear f1_); (try clear c1_); (try clear hμw); (try clear x); (try clear eμw); (try clear hra9); (try clear ra9); (try clear c18_); (try clear h66); (try clear x6); (try clear x2); (try clear hlc); (try clear hm9); (try clear hmo); (try clear hf); (try clear hc9); (try clear hi); (try clear hexit54); (try clear hRs); (try clear hRc); (try clear hRl); (try clear hRf); omega) | omega), by (first | ((try clear c33_); (try clear hri); (try clear hμi); (try clear ri); (try clear μi); (try clear hz9); (try clear wl2); (try clear wl1); (try clear f1_); (try clear c1_); (try clear hμw); (try clear x); (try clear eμw); (try clear hra9); (try clear ra9); (try clear c18_); (try clear x2); (try clear hlc); (try clear hm9); (try clear hmo); (try clear hf); (try clear hc9); (try clear hi); (try clear hexit54); (try clear hRs); (try clear hRc); (try clear hRl); (try clear hRf); omega) | omega)⟩ (by decide) dX9_greatest_43 ?_
        refine va_mmax hx hb (hml.trans hl.1.symm) hown (hts _ k1156) (hts _ k75) (hts _ k4) (hts _ k76) (Nat.le_trans (Nat.le_of_ble_eq_true rfl) hRf) (Nat.le_trans (m := 163) (Nat.le_of_ble_eq_true rfl) hRl) hRc hRs dX9_greatest_44 ?_
        refine lv_topi (fun x9 ex9 => ?_)
        obtain rfl : x9 = iZ (max v9 (μw ((113 + (i).toNat * 15) + 12) (nd).toNat)) := ex9.trans (iZ_mx (by first | assumption | (constructor <;> omega) | decide) (by first | assumption | (constructor <;> omega) | decide))
        refine lv_istore_n (lv' := [(2, .int (iZ (max v9 (μw ((113 + (i).toNat * 15) + 12) (nd).toNat)))), (4, .ref (h0 + ((113 + (i).toNat * 15) + 10))), (3, .int (iZ (i))), (1, .int (iZ (nd))), (0, .ref h0)]) hx hb dX9_greatest_47 rfl hl (by decide) rfl (fun ls hl => ?_)
        refine lv_iinc (v := iZ (i + 1)) (lv' := [(3, .int (iZ (i + 1))), (2, .int (iZ (max v9 (μw ((113 + (i).toNat * 15) + 12) (nd).toNat)))), (4, .ref (h0 + ((113 + (i).toNat * 15) + 10))), (1, .int (iZ (nd))), (0, .ref h0)]) hx hb dX9_greatest_48 hl (k := 2) rfl (iZ_add _ _) (by decide) rfl (fun ls hl => ?_)
        refine lv_goto (tgt := 13) hx hb dX9_greatest_51 (by decide) ?_
        exact ih (i + 1) (max v9 (μw ((113 + (i).toNat * 15) + 12) (nd).toNat)) μw H locs ls (by (first | ((try clear ex9); (try clear c33_); (try clear hri); (try clear hμi); (try clear ri); (try clear μi); (try clear hz9); (try clear wl2); (try clear wl1); (try clear f1_); (try clear c1_); (try clear hμw); (try clear x); (try clear eμw); (try clear hra9); (try clear ra9); (try clear h66); (try clear x6); (try clear hlc); (try clear hm9); (try clear hmo); (try clear hf); (try clear hc9); (try clear hexit54); (try clear hnd); (try clear hRs); (try clear hRc); (try clear hRl); (try clear hRf); omega) | omega)) (by exact c1_) (by exact fr_trans hf f1_) (by unfold inR at hmo hth ⊢; (first | ((try clear ex9); (try clear c33_); (try clear hri); (try clear hμi); (try clear ri); (try clear μi); (try clear hz9); (try clear wl2); (try clear wl1); (try clear f1_); (try clear c1_); (try clear hμw); (try clear x); (try clear eμw); (try clear hra9); (try clear ra9); (try clear c18_); (try clear h66); (try clear x6); (try clear x2); (try clear hlc); (try clear hm9); (try clear hf); (try clear hc9); (try clear hi); (try clear hexit54); (try clear hnd); (try clear hRs); (try clear hRc); (try clear hRl); (try clear hRf); omega) | omega)) (by (first | ((try clear ex9); (try clear hz9); (try clear wl2); (try clear wl1); (try clear f1_); (try clear c1_); (try clear hμw); (try clear x); (try clear eμw); (try clear hra9); (try clear ra9); (try clear h66); (try clear x6); (try clear hmo); (try clear hf); (try clear hc9); (try clear hexit54); (try clear hnd); (try clear hRs); (try clear hRc); (try clear hRl); (try clear hRf); omega) | omega)) hP hS (lv_sub hl [0, 1, 3, 4] rfl)
set_option maxHeartbeats 4000000 in
set_option maxRecDepth 100000 in
theorem q_greatest (l : Launch) (hfl : l.stackTraces = false) (dC : Nat → ClassId) (dI : Nat → Nat → Nat) (cI cZ cII cIII : ClassId) (h0 sz : Nat) (μ : va_M) (nd : Int) (T : List Tk) (hI : CI T μ) (h_nd : inR nd) : vx_Met l yX9_greatest (Cond.code yX9_greatest cX9_greatest 5 (some .int) :: wsG) ({ frames := 8, cells := 1, slots := 6, locals := 163 } : Room) (va_Pc [.ref h0, .int (iZ (nd))] (fun U => U.heap.size = sz ∧ va_P (dC, dI) vwCl (fw (sE cI cZ cII cIII h0) h0 233 μ) U.heap ∧ va_K (dC, dI) vwCl (sT cI cZ cII cIII) U ∧ xM U ∧ xX (fA h0 233 sz) U)) (va_Qi (fun (r9 : Int32) (u : va_M × Int) => r9 = iZ u.2 ∧ (fun (u : va_M) (r : Int) => CI T u ∧ SZ μ u) u.1 u.2) (fun u t => va_P (dC, dI) vwCl (fw (sE cI cZ cII cIII h0) h0 233 u.1) t.heap ∧ va_K (dC, dI) vwCl (sT cI cZ cII cIII) t) (fA h0 233 sz)) (vx_X (fun (u : va_M) => CI T u ∧ SZ μ u) (fun E u t => E ∈ (["java/util/NoSuchElementException"] : List String) ∧ va_P (dC, dI) vwCl (fw (sE cI cZ cII cIII h0) h0 233 u) t.heap ∧ va_K (dC, dI) vwCl (sT cI cZ cII cIII) t) (fA h0 233 sz)) 1 6 (fA h0 233 sz) := by
  refine vx_ofW (cc := cX9_greatest) (maxL := 5) (ret := (some .int)) (by decide) rfl ?_
  intro p e s m args below meth c s₁ B hml hnt hv
  obtain ⟨rfl, hsz, hP, hK, hM, hEx⟩ := hv
  have hx := B.exec
  have hb := B.bytes
  have hr := B.returns
  have hts : ∀ w ∈ wsG, w.before _ s = true := hG_of (atoms_spec (ws := (Cond.code yX9_greatest cX9_greatest 5 (some .int) :: wsG)) B.pre)
  have hown : s.vm.findClass RX9 = some m.cls := findClass_of_methodNamed B.named
  have hlocks := B.notSynchronized
  subst hsz
  have hS : va_S (fA h0 233 s.heap.size) s.heap s.heap [] := va_S.rf
  have hl := lv_entry ([.ref h0, .int (iZ (nd))]) (n := 5) (Nat.le_of_ble_eq_true rfl)
  rw [lg_entry_eq]
  generalize (lg_sl ([.ref h0, .int (iZ (nd))]) ++ List.replicate (5 - (lg_sl ([.ref h0, .int (iZ (nd))])).length) Slot.unset).toArray = ls at hl ⊢
  have hl : lv_has ls 5 [(0, .ref h0), (1, .int (iZ (nd)))] := hl
  have hlc := CI_lc hI
  have h66 := CI_n6 hI
  refine lv_aload_n hx hb dX9_greatest_0 rfl (lv_at hl 0 rfl) ?_
  refine lv_aload_n hx hb dX9_greatest_1 rfl (lv_at hl 0 rfl) ?_
  refine fz_get (D := (dC, dI)) (ci := 9) (v := .ref (h0 + 6)) (C := RX9) (T := TX9) (N := 15) hx hb hts inG9 hown hK hP (k := 0) (by decide) (F := (sF0 h0)) sE_0 rfl 3 (by decide) (hts _ k335) (fun _ h9 => h9) rfl dX9_greatest_2 ?_
  refine lv_iload_n hx hb dX9_greatest_5 rfl (lv_at hl 1 rfl) ?_
  by_cases hn6_ : 0 ≤ nd ∧ nd < μ 6 6
  · refine va_callv (va_runV (As := [.ref (h0 + 6), .int (iZ (nd))]) (rest := []) ⟨hx, hb, hml, hown, hts⟩ (s_needNode l dC dI cI cZ cII cIII h0 s.heap.size μ (6) (1100) (nd) (rowB_6) (by first | assumption | omega | exact CI_lc hI | exact CI_cn hI | exact (CI_n6 hI).1 | decide) (by first | assumption | (first | ((try clear hn6_); (try clear hlc); (try clear hsz); (try clear hnt); (try clear s₁); omega) | omega) | exact CI_lc hI | exact CI_cn hI | exact (CI_n6 hI).1 | decide) (by exact hn6_)) (cwV 2 hts (gV_G k914 k916 ks_yX9_needNode k1 k917) rfl rfl rfl (by decide +kernel) ⟨Nat.le_of_ble_eq_true rfl, Nat.le_of_ble_eq_true rfl⟩) ⟨fun a U g mk q => by obtain ⟨q0, q1, qP, qK, qM⟩ := q; exact ⟨q0, q1, qP, va_K.moved (u := U) (U := U.calling g mk a) (Vm.Alike.refl U.vm) qK, qM⟩, va_recv hK hP (ci := 9) (q0 := 0) rfl ((fw_get (by decide)).trans (by rw [sE_0]; rfl)), fun U hU hW => ⟨rfl, by rw [hU], by rw [hU]; exact hP, va_K.moved hW.alike hK, xM_warm hW hM⟩⟩ rfl rfl hl.1 rfl (lv_room (Nat.le_of_ble_eq_true rfl)) dX9_greatest_6 ⟨Nat.le_of_ble_eq_true rfl, Nat.le_of_ble_eq_true rfl⟩) hS (fun q _ h => fA_le hS.1 q h) (fA_le hS.1) (fun u9 t9 H1 locs ht9 hvm9 hw9 hB9 hz9 hk9 hS => ?_)
    obtain ⟨hP, -⟩ := hB9
    rw [ht9] at hP
    generalize H1 = H at hP hS ⊢
    obtain ⟨μ1, eμ1⟩ : ∃ x : va_M, x = u9 := ⟨_, rfl⟩
    rw [← eμ1] at hP hw9
    have hμ1 := hw9; clear hw9
    rw [hμ1] at hP
    refine lv_iconst (v := iZ (-1)) hx hb dX9_greatest_9 rfl ?_
    refine lv_istore_n (lv' := [(2, .int (iZ ((-1)))), (0, .ref h0), (1, .int (iZ (nd)))]) hx hb dX9_greatest_10 rfl hl (by decide) rfl (fun ls hl => ?_)
    refine lv_iconst (v := iZ 0) hx hb dX9_greatest_11 rfl ?_
    refine lv_istore_n (lv' := [(3, .int (iZ (0))), (2, .int (iZ ((-1)))), (0, .ref h0), (1, .int (iZ (nd)))]) hx hb dX9_greatest_12 rfl hl (by decide) rfl (fun ls hl => ?_)
    refine LX9_greatest_13z hx hb hml hown hts hK hM (Nat.le_of_ble_eq_true rfl) (Nat.le_of_ble_eq_true rfl) (Nat.le_of_ble_eq_true rfl) (Nat.le_of_ble_eq_true rfl) (μ) (T) (nd) (by exact hI) (by (first | ((try clear hμ1); (try clear x); (try clear eμ1); (try clear μ1); (try clear hz9); (try clear h66); (try clear hlc); (try clear hsz); (try clear hnt); (try clear s₁); omega) | omega)) ?_ _ (0) ((-1)) μ H locs ls (by (first | ((try clear hμ1); (try clear x); (try clear eμ1); (try clear μ1); (try clear hz9); (try clear hn6_); (try clear h66); (try clear hsz); (try clear hnt); (try clear s₁); omega) | omega)) (by exact hI) (by exact fr_rfl) (by constructor <;> decide) (Nat.lt_succ_self _) hP hS (lv_sub hl [0, 1, 3, 2] rfl)
    · intro i_2 v9_2 μ2_ H locs ls q1_2 q2_2 hP hS hl
      have hl : lv_has ls 5 [(2, .int (iZ (v9_2)))] := hl
      refine lv_iload_n hx hb dX9_greatest_54 rfl (lv_at hl 0 rfl) ?_
      exact W_widen (Nat.le_of_ble_eq_true rfl) (Nat.le_of_ble_eq_true rfl) (vx_ret (W.iret (v := iZ (v9_2)) hx hb hr (fun t9 ht9 hW9 => ⟨⟨iZ (v9_2), (μ2_, v9_2), rfl, ⟨rfl, (by
                    dsimp only
                    exact ⟨q1_2, SZ_wq q2_2⟩)⟩, by rw [ht9]; exact hP, va_K.moved hW9.alike hK⟩, hS.F ht9⟩) hS.2.2 dX9_greatest_55))
  · refine vx_callv (vx_runV (As := [.ref (h0 + 6), .int (iZ (nd))]) (rest := []) ⟨hx, hb, hml, hown, hts⟩ (x_needNode l hfl dC dI cI cZ cII cIII h0 s.heap.size μ (6) (1100) (nd) (rowB_6) (by first | assumption | omega | exact CI_lc hI | exact CI_cn hI | exact (CI_n6 hI).1 | decide) (by first | assumption | (first | ((try clear hn6_); (try clear hlc); (try clear hsz); (try clear hnt); (try clear s₁); omega) | omega) | exact CI_lc hI | exact CI_cn hI | exact (CI_n6 hI).1 | decide) (hn6_)) (cwV 2 hts (gV_G k914 k916 ks_yX9_needNode k1 k917) rfl rfl rfl (by decide +kernel) ⟨Nat.le_of_ble_eq_true rfl, Nat.le_of_ble_eq_true rfl⟩) ⟨fun a U g mk q => by obtain ⟨q0, q1, qP, qK, qM, qE⟩ := q; exact ⟨q0, q1, qP, va_K.moved (u := U) (U := U.calling g mk a) (Vm.Alike.refl U.vm) qK, qM, xX_call qE⟩, va_recv hK hP (ci := 9) (q0 := 0) rfl ((fw_get (by decide)).trans (by rw [sE_0]; rfl)), fun U hU hW => ⟨rfl, by rw [hU], by rw [hU]; exact hP, va_K.moved hW.alike hK, xM_warm hW hM, xX_at hEx hS (fun q h => fA_le hS.1 q h) hU hW⟩⟩ rfl rfl hl.1 rfl (lv_room (Nat.le_of_ble_eq_true rfl)) dX9_greatest_6 ⟨Nat.le_of_ble_eq_true rfl, Nat.le_of_ble_eq_true rfl⟩) hS (fun q _ h => fA_le hS.1 q h) (fA_le hS.1) (fun q _ h => fA_le hS.1 q h) (fun E9 ce9 q9 u9 t9 H1 locs ht9 hvm9 hpx9 hBX9 hz9 hk9 hS hce9 hcv9 hcl9 => ?_) (fun u9 t9 H1 locs ht9 hvm9 hw9 hB9 hz9 hk9 hS => hw9.elim)
    obtain ⟨hE9, hP9, hK9⟩ := hBX9
    exact vx_out (fun x hx9 => (hnt x hx9).elim) hlocks hce9 hcv9 hcl9 (fun t8 ht8 hW8 => ⟨u9, (by
                show CI T u9 ∧ SZ μ u9
                exact CZ_thr hI hpx9), ⟨hE9, by rw [ht8, ← ht9]; exact hP9, va_K.moved hW8 hK⟩, hS.F ht8⟩) hS.2.2 (Nat.le_of_ble_eq_true rfl) (Nat.le_of_ble_eq_true rfl)

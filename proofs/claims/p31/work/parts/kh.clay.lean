
/-! lay, tidy, undo, clear of the class, told whole -/
set_option maxHeartbeats 4000000 in
set_option maxRecDepth 100000 in
theorem t_lay9 (l : Launch) (hfl : l.stackTraces = false) (dC : Nat → ClassId) (dI : Nat → Nat → Nat) (cI cZ cII cIII : ClassId) (h0 sz : Nat) (μ : va_M) (pg : Int) (T : List Tk) (Wk : Rw) (Bs : List Rw) (b : Rw) (hI : CI T μ) (h_pg : inR pg) (hSK : SKc Wk Bs μ) (hl16 : Bs.length ≤ 16) (hWw : rWF Wk) (hwp : 0 ≤ pg ∧ pg < μ 0 2 → rowS μ ((113 + (pg).toNat * 15) + 3) b ∧ (rWF b ∧ rPg b ∧ rN Wk + rN b ≤ 1800) ∧ (rL (lyW Wk b) ≤ 160 → sL (lyW Wk b) ≤ 1100)) (hWy : 0 ≤ pg ∧ pg < μ 0 2 → rWF (lyW Wk b)) : vx_Met l yX9_lay (Cond.code yX9_lay cX9_lay 3 (some .int) :: wsG) ({ frames := 8, cells := 1, slots := 6, locals := 162 } : Room) (va_Pc [.ref h0, .int (iZ (pg))] (fun U => U.heap.size = sz ∧ va_P (dC, dI) vwCl (fw (sE cI cZ cII cIII h0) h0 233 μ) U.heap ∧ va_K (dC, dI) vwCl (sT cI cZ cII cIII) U ∧ xM U ∧ xX (fA h0 233 sz) U)) (va_Qi (fun (r9 : Int32) (u : va_M × Int) => r9 = iZ u.2 ∧ (fun (u : va_M) (r : Int) => CI T u ∧ SP μ u ∧ (0 ≤ pg ∧ pg < μ 0 2) ∧ (rL (lyW Wk b) ≤ 160) ∧ r = lyC Wk b ∧ SKc (lyW Wk b) (Wk :: Bs.take 15) u) u.1 u.2) (fun u t => va_P (dC, dI) vwCl (fw (sE cI cZ cII cIII h0) h0 233 u.1) t.heap ∧ va_K (dC, dI) vwCl (sT cI cZ cII cIII) t) (fA h0 233 sz)) (vx_X (fun (u : va_M) => CI T u ∧ SZ μ u) (fun E u t => E ∈ (["java/util/NoSuchElementException", "java/lang/IllegalStateException"] : List String) ∧ va_P (dC, dI) vwCl (fw (sE cI cZ cII cIII h0) h0 233 u) t.heap ∧ va_K (dC, dI) vwCl (sT cI cZ cII cIII) t ∧ ((E = "java/util/NoSuchElementException" → cd2 (0 ≤ pg ∧ pg < μ 0 2) (rL (lyW Wk b) ≤ 160) = 1) ∧ (E = "java/lang/IllegalStateException" → cd2 (0 ≤ pg ∧ pg < μ 0 2) (rL (lyW Wk b) ≤ 160) = 2))) (fA h0 233 sz)) 1 6 (fA h0 233 sz) := by
  refine vx_ofW (cc := cX9_lay) (maxL := 3) (ret := (some .int)) (by decide) rfl ?_
  intro p e s m args below meth c s₁ B hml hnt hv
  obtain ⟨rfl, hsz, hP, hK, hM, hEx⟩ := hv
  have hx := B.exec
  have hb := B.bytes
  have hr := B.returns
  have hts : ∀ w ∈ wsG, w.before _ s = true := hG_of (atoms_spec (ws := (Cond.code yX9_lay cX9_lay 3 (some .int) :: wsG)) B.pre)
  have hown : s.vm.findClass RX9 = some m.cls := findClass_of_methodNamed B.named
  have hlocks := B.notSynchronized
  subst hsz
  have hS : va_S (fA h0 233 s.heap.size) s.heap s.heap [] := va_S.rf
  have hl := lv_entry ([.ref h0, .int (iZ (pg))]) (n := 3) (Nat.le_of_ble_eq_true rfl)
  rw [lg_entry_eq]
  generalize (lg_sl ([.ref h0, .int (iZ (pg))]) ++ List.replicate (3 - (lg_sl ([.ref h0, .int (iZ (pg))])).length) Slot.unset).toArray = ls at hl ⊢
  have hl : lv_has ls 3 [(0, .ref h0), (1, .int (iZ (pg)))] := hl
  have hlc := CI_lc hI
  have h66 := CI_n6 hI
  refine lv_aload_n hx hb dX9_lay_0 rfl (lv_at hl 0 rfl) ?_
  refine lv_iload_n hx hb dX9_lay_1 rfl (lv_at hl 1 rfl) ?_
  by_cases hn2_ : 0 ≤ pg ∧ pg < μ 0 2
  · refine va_callv (va_runV (As := [.int (iZ (pg))]) (rest := []) ⟨hx, hb, hml, hown, hts⟩ (s_needPage l dC dI cI cZ cII cIII h0 s.heap.size μ (pg) (by first | assumption | omega | exact CI_lc hI | exact CI_cn hI | exact (CI_n6 hI).1 | decide) (by first | assumption | omega | exact CI_lc hI | exact CI_cn hI | exact (CI_n6 hI).1 | decide) (by exact hn2_)) (cwV 1 hts (gV_G k735 k737 ks_yX9_needPage k1 k738) rfl rfl rfl (by decide +kernel) ⟨Nat.le_of_ble_eq_true rfl, Nat.le_of_ble_eq_true rfl⟩) ⟨fun a U g mk q => by obtain ⟨q0, q1, qP, qK, qM⟩ := q; exact ⟨q0, q1, qP, va_K.moved (u := U) (U := U.calling g mk a) (Vm.Alike.refl U.vm) qK, qM⟩, va_recv hK hP (ci := 9) (q0 := 0) rfl ((fw_get (by decide)).trans (by rw [sE_0]; rfl)), fun U hU hW => ⟨rfl, by rw [hU], by rw [hU]; exact hP, va_K.moved hW.alike hK, xM_warm hW hM⟩⟩ rfl rfl hl.1 rfl (lv_room (Nat.le_of_ble_eq_true rfl)) dX9_lay_2 ⟨Nat.le_of_ble_eq_true rfl, Nat.le_of_ble_eq_true rfl⟩) hS (fun q _ h => fA_le hS.1 q h) (fA_le hS.1) (fun u9 t9 H1 locs ht9 hvm9 hw9 hB9 hz9 hk9 hS => ?_)
    obtain ⟨hP, -⟩ := hB9
    rw [ht9] at hP
    generalize H1 = H at hP hS ⊢
    obtain ⟨μ1, eμ1⟩ : ∃ x : va_M, x = u9 := ⟨_, rfl⟩
    rw [← eμ1] at hP hw9
    have hμ1 := hw9; clear hw9
    rw [hμ1] at hP
    refine lv_aload_n hx hb dX9_lay_5 rfl (lv_at hl 0 rfl) ?_
    refine lv_iload_n hx hb dX9_lay_6 rfl (lv_at hl 1 rfl) ?_
    refine va_calli (va_runV (As := [.int (iZ (pg))]) (rest := []) ⟨hx, hb, hml, hown, hts⟩ (s_tryToLay2 l dC dI cI cZ cII cIII h0 H.size μ (pg) (T) (Wk) (b) (by exact hI) (by omega) (by exact hSK.1) (by exact hWw) (by exact (hwp (by omega)).1) (by exact (hwp (by omega)).2.1)) (cwV 1 hts (gV_G k758 k760 ks_yX9_tryToLay k1 k761) rfl rfl rfl (by decide +kernel) ⟨Nat.le_of_ble_eq_true rfl, Nat.le_of_ble_eq_true rfl⟩) ⟨fun a U g mk q => by obtain ⟨q0, q1, qP, qK, qM⟩ := q; exact ⟨q0, q1, qP, va_K.moved (u := U) (U := U.calling g mk a) (Vm.Alike.refl U.vm) qK, qM⟩, va_recv hK hP (ci := 9) (q0 := 0) rfl ((fw_get (by decide)).trans (by rw [sE_0]; rfl)), fun U hU hW => ⟨rfl, by rw [hU], by rw [hU]; exact hP, va_K.moved hW.alike hK, xM_warm hW hM⟩⟩ rfl rfl hl.1 rfl (lv_room (Nat.le_of_ble_eq_true rfl)) dX9_lay_7 ⟨Nat.le_of_ble_eq_true rfl, Nat.le_of_ble_eq_true rfl⟩) hS (fun q _ h => fA_le hS.1 q h) (fA_le hS.1) (fun r9 u9 t9 H1 locs ht9 hvm9 hw9 hB9 hz9 hk9 hS => ?_)
    obtain ⟨μl, rl⟩ := u9
    obtain ⟨hP, -⟩ := hB9
    rw [ht9] at hP
    generalize H1 = H at hP hS ⊢
    obtain ⟨e9, hw9⟩ := hw9
    have e9 : r9 = iZ rl := e9
    subst e9
    simp only at hP hw9
    have hμl := hw9; clear hw9
    obtain ⟨c0_, f1_, r0_, r1_, rc_, rw_, g1_, g2_⟩ := hμl
    have cz_ := CZ_r12 hI c0_ (fr_mono f1_ (fun x y h => by omega))
    have g12 := c0_.2.2.2.1
    have ln12 := rG_len g12
    have sz12 := rG_sz g12
    have ov12 := rG_ov g12
    have sk_ : SKc Wk Bs μl := SKc_fr hSK (fun x y q => f1_ x y (by omega))
    have hc9_ := (hwp (by omega)).2.2
    have g1h := hid_i g1_
    have g2h := hid_i g2_
    have hch := hid_i hc9_
    clear g1_ g2_ hc9_
    refine lv_istore_n (lv' := [(2, .int (iZ (rl))), (0, .ref h0), (1, .int (iZ (pg)))]) hx hb dX9_lay_10 rfl hl (by decide) rfl (fun ls hl => ?_)
    refine lv_aload_n hx hb dX9_lay_11 rfl (lv_at hl 1 rfl) ?_
    refine lv_aload_n hx hb dX9_lay_12 rfl (lv_at hl 1 rfl) ?_
    refine fz_get (D := (dC, dI)) (ci := 9) (v := .ref (h0 + 12)) (C := RX9) (T := TX9) (N := 15) hx hb hts inG9 hown hK hP (k := 0) (by decide) (F := (sF0 h0)) sE_0 rfl 4 (by decide) (hts _ k336) (fun _ h9 => h9) rfl dX9_lay_13 ?_
    refine va_calli (va_runV (As := []) (rest := [.ref h0]) ⟨hx, hb, hml, hown, hts⟩ (s_Rsize l dC dI cI cZ cII cIII h0 H.size μl (12) (1100) (rowB_12) (by exact ln12)) (cwV 0 hts (gV_G k513 k514 k515 k3 k516) rfl rfl rfl (by decide +kernel) ⟨Nat.le_of_ble_eq_true rfl, Nat.le_of_ble_eq_true rfl⟩) ⟨fun a U g mk q => by obtain ⟨q0, q1, qP, qK, qM⟩ := q; exact ⟨q0, q1, qP, va_K.moved (u := U) (U := U.calling g mk a) (Vm.Alike.refl U.vm) qK, qM⟩, va_recv hK hP (ci := 4) (q0 := 12) rfl ((fw_get (by decide)).trans (by rw [(sE_rowO rowB_12)])), fun U hU hW => ⟨rfl, by rw [hU], by rw [hU]; exact hP, va_K.moved hW.alike hK, xM_warm hW hM⟩⟩ rfl rfl hl.1 rfl (lv_room (Nat.le_of_ble_eq_true rfl)) dX9_lay_16 ⟨Nat.le_of_ble_eq_true rfl, Nat.le_of_ble_eq_true rfl⟩) hS (fun q _ h => fA_le hS.1 q h) (fA_le hS.1) (fun r9 u9 t9 H1 locs ht9 hvm9 hw9 hB9 hz9 hk9 hS => ?_)
    obtain ⟨μ2, r3⟩ := u9
    obtain ⟨hP, -⟩ := hB9
    rw [ht9] at hP
    generalize H1 = H at hP hS ⊢
    obtain ⟨e9, hw9⟩ := hw9
    have e9 : r9 = iZ r3 := e9
    subst e9
    simp only at hP hw9
    have hμ2 := hw9; clear hw9
    rw [hμ2.1] at hP; have hμ2 := hμ2.2
    have hs3_ := hμ2
    rw [rw_.1.1, Int.toNat_natCast, rw_.1.2.2] at hs3_
    refine lv_sipush (v := iZ 160) hx hb dX9_lay_19 rfl ?_
    refine fz_icmp_gt (tgt := 39) (by first | assumption | (constructor <;> omega) | decide) (by decide) hx hb dX9_lay_22 (by decide) (fun c22_ => ?_) (fun c22_ => ?_)
    · have nBB_ : ¬ rL (lyW Wk b) ≤ 160 := fun h9 => by
        have h8 := hid_e hch h9
        unfold rcut at hs3_
        rw [if_pos h8] at hs3_
        omega
      refine lv_iconst (v := iZ 0) hx hb dX9_lay_39 rfl ?_
      refine vx_callv (vx_runV (As := [.int (iZ (0))]) (rest := []) ⟨hx, hb, hml, hown, hts⟩ (x_needState l hfl dC dI cI cZ cII cIII h0 H.size μl  ) (cwV 1 hts (gV_G k663 k665 ks_yX9_needState k1 k666) rfl rfl rfl (by decide +kernel) ⟨Nat.le_of_ble_eq_true rfl, Nat.le_of_ble_eq_true rfl⟩) ⟨fun a U g mk q => by obtain ⟨q0, q1, qP, qK, qM, qE⟩ := q; exact ⟨q0, q1, qP, va_K.moved (u := U) (U := U.calling g mk a) (Vm.Alike.refl U.vm) qK, qM, xX_call qE⟩, va_recv hK hP (ci := 9) (q0 := 0) rfl ((fw_get (by decide)).trans (by rw [sE_0]; rfl)), fun U hU hW => ⟨rfl, by rw [hU], by rw [hU]; exact hP, va_K.moved hW.alike hK, xM_warm hW hM, xX_at hEx hS (fun q h => fA_le hS.1 q h) hU hW⟩⟩ rfl rfl hl.1 rfl (lv_room (Nat.le_of_ble_eq_true rfl)) dX9_lay_40 ⟨Nat.le_of_ble_eq_true rfl, Nat.le_of_ble_eq_true rfl⟩) hS (fun q _ h => fA_le hS.1 q h) (fA_le hS.1) (fun q _ h => fA_le hS.1 q h) (fun E9 ce9 q9 u9 t9 H1 locs ht9 hvm9 hpx9 hBX9 hz9 hk9 hS hce9 hcv9 hcl9 => ?_) (fun u9 t9 H1 locs ht9 hvm9 hw9 hB9 hz9 hk9 hS => hw9.elim)
      obtain ⟨hE9, hP9, hK9⟩ := hBX9
      exact vx_out (fun x hx9 => (hnt x hx9).elim) hlocks hce9 hcv9 hcl9 (fun t8 ht8 hW8 => ⟨u9, (by
                    show CI T u9 ∧ SZ μ u9
                    have q9 := CZ_thr cz_.1 hpx9
                    exact ⟨q9.1, SZ_tr cz_.2 q9.2⟩), ⟨(show ∀ z ∈ (["java/lang/IllegalStateException"] : List String), z ∈ (["java/util/NoSuchElementException", "java/lang/IllegalStateException"] : List String) by decide +kernel) E9 hE9, by rw [ht8, ← ht9]; exact hP9, va_K.moved hW8 hK, (by have hE8 := List.mem_singleton.mp hE9; rw [hE8]; exact ⟨fun h => absurd h (by decide +kernel), fun _ => cd2_2 ⟨by omega, by omega⟩ nBB_⟩)⟩, hS.F ht8⟩) hS.2.2 (Nat.le_of_ble_eq_true rfl) (Nat.le_of_ble_eq_true rfl)
    · refine lv_aload_n hx hb dX9_lay_25 rfl (lv_at hl 1 rfl) ?_
      refine fz_get (D := (dC, dI)) (ci := 9) (v := .ref (h0 + 12)) (C := RX9) (T := TX9) (N := 15) hx hb hts inG9 hown hK hP (k := 0) (by decide) (F := (sF0 h0)) sE_0 rfl 4 (by decide) (hts _ k336) (fun _ h9 => h9) rfl dX9_lay_26 ?_
      refine fz_get (D := (dC, dI)) (ci := 4) (v := .int (iZ (μl 12 7))) (C := RX4) (T := TX4) (N := 8) hx hb hts inG4 hown hK hP (k := 12) (by decide) (F := (sRF h0 12)) (sE_rowO rowB_12) rfl 7 (by decide) (hts _ k104) (fun _ h9 => h9) rfl dX9_lay_29 ?_
      refine fz_if_ne (tgt := 39) (by first | assumption | (constructor <;> omega) | decide) hx hb dX9_lay_32 (by decide) (fun c32_ => ?_) (fun c32_ => ?_)
      · have nBB_ : ¬ rL (lyW Wk b) ≤ 160 := fun h9 => by
          have h8 := hid_e g1h (hid_e hch h9)
          omega
        refine lv_iconst (v := iZ 0) hx hb dX9_lay_39 rfl ?_
        refine vx_callv (vx_runV (As := [.int (iZ (0))]) (rest := []) ⟨hx, hb, hml, hown, hts⟩ (x_needState l hfl dC dI cI cZ cII cIII h0 H.size μl  ) (cwV 1 hts (gV_G k663 k665 ks_yX9_needState k1 k666) rfl rfl rfl (by decide +kernel) ⟨Nat.le_of_ble_eq_true rfl, Nat.le_of_ble_eq_true rfl⟩) ⟨fun a U g mk q => by obtain ⟨q0, q1, qP, qK, qM, qE⟩ := q; exact ⟨q0, q1, qP, va_K.moved (u := U) (U := U.calling g mk a) (Vm.Alike.refl U.vm) qK, qM, xX_call qE⟩, va_recv hK hP (ci := 9) (q0 := 0) rfl ((fw_get (by decide)).trans (by rw [sE_0]; rfl)), fun U hU hW => ⟨rfl, by rw [hU], by rw [hU]; exact hP, va_K.moved hW.alike hK, xM_warm hW hM, xX_at hEx hS (fun q h => fA_le hS.1 q h) hU hW⟩⟩ rfl rfl hl.1 rfl (lv_room (Nat.le_of_ble_eq_true rfl)) dX9_lay_40 ⟨Nat.le_of_ble_eq_true rfl, Nat.le_of_ble_eq_true rfl⟩) hS (fun q _ h => fA_le hS.1 q h) (fA_le hS.1) (fun q _ h => fA_le hS.1 q h) (fun E9 ce9 q9 u9 t9 H1 locs ht9 hvm9 hpx9 hBX9 hz9 hk9 hS hce9 hcv9 hcl9 => ?_) (fun u9 t9 H1 locs ht9 hvm9 hw9 hB9 hz9 hk9 hS => hw9.elim)
        obtain ⟨hE9, hP9, hK9⟩ := hBX9
        exact vx_out (fun x hx9 => (hnt x hx9).elim) hlocks hce9 hcv9 hcl9 (fun t8 ht8 hW8 => ⟨u9, (by
                        show CI T u9 ∧ SZ μ u9
                        have q9 := CZ_thr cz_.1 hpx9
                        exact ⟨q9.1, SZ_tr cz_.2 q9.2⟩), ⟨(show ∀ z ∈ (["java/lang/IllegalStateException"] : List String), z ∈ (["java/util/NoSuchElementException", "java/lang/IllegalStateException"] : List String) by decide +kernel) E9 hE9, by rw [ht8, ← ht9]; exact hP9, va_K.moved hW8 hK, (by have hE8 := List.mem_singleton.mp hE9; rw [hE8]; exact ⟨fun h => absurd h (by decide +kernel), fun _ => cd2_2 ⟨by omega, by omega⟩ nBB_⟩)⟩, hS.F ht8⟩) hS.2.2 (Nat.le_of_ble_eq_true rfl) (Nat.le_of_ble_eq_true rfl)
      · have h11_ : sL (lyW Wk b) ≤ 1100 := by
          by_cases h9 : sL (lyW Wk b) ≤ 1100
          · exact h9
          · have h8 := hid_e g2h (by omega)
            omega
        have rcE_ : rcut 1100 (lyW Wk b) = lyW Wk b := if_pos h11_
        rw [rcE_] at rw_ hs3_
        have BB_ : rL (lyW Wk b) ≤ 160 := by omega
        refine lv_iconst (v := iZ 1) hx hb dX9_lay_35 rfl ?_
        refine lv_goto (tgt := 40) hx hb dX9_lay_36 (by decide) ?_
        refine va_callv (va_runV (As := [.int (iZ (1))]) (rest := []) ⟨hx, hb, hml, hown, hts⟩ (s_needState l dC dI cI cZ cII cIII h0 H.size μl  ) (cwV 1 hts (gV_G k663 k665 ks_yX9_needState k1 k666) rfl rfl rfl (by decide +kernel) ⟨Nat.le_of_ble_eq_true rfl, Nat.le_of_ble_eq_true rfl⟩) ⟨fun a U g mk q => by obtain ⟨q0, q1, qP, qK, qM⟩ := q; exact ⟨q0, q1, qP, va_K.moved (u := U) (U := U.calling g mk a) (Vm.Alike.refl U.vm) qK, qM⟩, va_recv hK hP (ci := 9) (q0 := 0) rfl ((fw_get (by decide)).trans (by rw [sE_0]; rfl)), fun U hU hW => ⟨rfl, by rw [hU], by rw [hU]; exact hP, va_K.moved hW.alike hK, xM_warm hW hM⟩⟩ rfl rfl hl.1 rfl (lv_room (Nat.le_of_ble_eq_true rfl)) dX9_lay_40 ⟨Nat.le_of_ble_eq_true rfl, Nat.le_of_ble_eq_true rfl⟩) hS (fun q _ h => fA_le hS.1 q h) (fA_le hS.1) (fun u9 t9 H1 locs ht9 hvm9 hw9 hB9 hz9 hk9 hS => ?_)
        obtain ⟨hP, -⟩ := hB9
        rw [ht9] at hP
        generalize H1 = H at hP hS ⊢
        obtain ⟨μ4, eμ4⟩ : ∃ x : va_M, x = u9 := ⟨_, rfl⟩
        rw [← eμ4] at hP hw9
        have hμ4 := hw9; clear hw9
        rw [hμ4] at hP
        refine lv_aload_n hx hb dX9_lay_43 rfl (lv_at hl 1 rfl) ?_
        refine fz_get (D := (dC, dI)) (ci := 9) (v := .ref (h0 + 18)) (C := RX9) (T := TX9) (N := 15) hx hb hts inG9 hown hK hP (k := 0) (by decide) (F := (sF0 h0)) sE_0 rfl 7 (by decide) (hts _ k339) (fun _ h9 => h9) rfl dX9_lay_44 ?_
        refine lv_aload_n hx hb dX9_lay_47 rfl (lv_at hl 1 rfl) ?_
        refine fz_get (D := (dC, dI)) (ci := 9) (v := .ref (h0 + 6)) (C := RX9) (T := TX9) (N := 15) hx hb hts inG9 hown hK hP (k := 0) (by decide) (F := (sF0 h0)) sE_0 rfl 3 (by decide) (hts _ k335) (fun _ h9 => h9) rfl dX9_lay_48 ?_
        refine lv_aload_n hx hb dX9_lay_51 rfl (lv_at hl 1 rfl) ?_
        refine fz_get (D := (dC, dI)) (ci := 9) (v := .int (iZ (μl 0 5))) (C := RX9) (T := TX9) (N := 15) hx hb hts inG9 hown hK hP (k := 0) (by decide) (F := (sF0 h0)) sE_0 rfl 5 (by decide) (hts _ k337) (fun _ h9 => h9) rfl dX9_lay_52 ?_
        refine va_callv (va_runV (As := [.ref (h0 + 6), .int (iZ (μl 0 5))]) (rest := []) ⟨hx, hb, hml, hown, hts⟩ (s_Psave2 l dC dI cI cZ cII cIII h0 H.size μl (μl 0 5) (Wk) (Bs) (by exact c0_.2.2.1) (by exact c0_.2.2.2.2.1) (by exact sk_.1) (by exact sk_.2) (by exact hl16)) (cwV 2 hts (gV_G k495 k496 k497 k5 k498) rfl rfl rfl (by decide +kernel) ⟨Nat.le_of_ble_eq_true rfl, Nat.le_of_ble_eq_true rfl⟩) ⟨fun a U g mk q => by obtain ⟨q0, q1, qP, qK, qM⟩ := q; exact ⟨q0, q1, qP, va_K.moved (u := U) (U := U.calling g mk a) (Vm.Alike.refl U.vm) qK, qM⟩, va_recv hK hP (ci := 3) (q0 := 18) rfl ((fw_get (by decide)).trans (by rw [sE_18])), fun U hU hW => ⟨rfl, by rw [hU], by rw [hU]; exact hP, va_K.moved hW.alike hK, xM_warm hW hM⟩⟩ rfl rfl hl.1 rfl (lv_room (Nat.le_of_ble_eq_true rfl)) dX9_lay_55 ⟨Nat.le_of_ble_eq_true rfl, Nat.le_of_ble_eq_true rfl⟩) hS (fun q _ h => fA_le hS.1 q h) (fA_le hS.1) (fun u9 t9 H1 locs ht9 hvm9 hw9 hB9 hz9 hk9 hS => ?_)
        obtain ⟨hP, -⟩ := hB9
        rw [ht9] at hP
        generalize H1 = H at hP hS ⊢
        obtain ⟨μv, eμv⟩ : ∃ x : va_M, x = u9 := ⟨_, rfl⟩
        rw [← eμv] at hP hw9
        have hμv := hw9; clear hw9
        obtain ⟨p2_, f2_, px_⟩ := hμv
        have g62 : rG μv 6 1100 := rG_fr c0_.2.2.1 (fun x y q1 q2 => f2_ _ _ (by unfold PaB; omega))
        have g122 : rG μv 12 1100 := rG_fr g12 (fun x y q1 q2 => f2_ _ _ (by unfold PaB; omega))
        have w2_ : rowS μv 12 (lyW Wk b) := rowS_fr9 rw_ (fun x y q1 q2 => f2_ _ _ (by unfold PaB; omega))
        have lnX_ := (rG_len g122).2
        have eLX_ := w2_.1.1
        refine lv_aload_n hx hb dX9_lay_58 rfl (lv_at hl 1 rfl) ?_
        refine fz_get (D := (dC, dI)) (ci := 9) (v := .ref (h0 + 6)) (C := RX9) (T := TX9) (N := 15) hx hb hts inG9 hown hK hP (k := 0) (by decide) (F := (sF0 h0)) sE_0 rfl 3 (by decide) (hts _ k335) (fun _ h9 => h9) rfl dX9_lay_59 ?_
        refine lv_aload_n hx hb dX9_lay_62 rfl (lv_at hl 1 rfl) ?_
        refine fz_get (D := (dC, dI)) (ci := 9) (v := .ref (h0 + 12)) (C := RX9) (T := TX9) (N := 15) hx hb hts inG9 hown hK hP (k := 0) (by decide) (F := (sF0 h0)) sE_0 rfl 4 (by decide) (hts _ k336) (fun _ h9 => h9) rfl dX9_lay_63 ?_
        refine va_callv (va_runV (As := [.ref (h0 + 12)]) (rest := []) ⟨hx, hb, hml, hown, hts⟩ (s_Rtake3 l dC dI cI cZ cII cIII h0 H.size μv (6) (1100) (12) (1100) ((lyW Wk b)) (rowB_6) (rowB_12) (by omega) (by exact rWF_0 _ (hWy (by omega))) (by exact w2_) (by exact (rG_len g122).2)) (cwV 1 hts (gV_G k398 k399 k400 k3 k401) rfl rfl rfl (by decide +kernel) ⟨Nat.le_of_ble_eq_true rfl, Nat.le_of_ble_eq_true rfl⟩) ⟨fun a U g mk q => by obtain ⟨q0, q1, qP, qK, qM⟩ := q; exact ⟨q0, q1, qP, va_K.moved (u := U) (U := U.calling g mk a) (Vm.Alike.refl U.vm) qK, qM⟩, va_recv hK hP (ci := 4) (q0 := 6) rfl ((fw_get (by decide)).trans (by rw [(sE_rowO rowB_6)])), fun U hU hW => ⟨rfl, by rw [hU], by rw [hU]; exact hP, va_K.moved hW.alike hK, xM_warm hW hM⟩⟩ rfl rfl hl.1 rfl (lv_room (Nat.le_of_ble_eq_true rfl)) dX9_lay_66 ⟨Nat.le_of_ble_eq_true rfl, Nat.le_of_ble_eq_true rfl⟩) hS (fun q _ h => fA_le hS.1 q h) (fA_le hS.1) (fun u9 t9 H1 locs ht9 hvm9 hw9 hB9 hz9 hk9 hS => ?_)
        obtain ⟨hP, -⟩ := hB9
        rw [ht9] at hP
        generalize H1 = H at hP hS ⊢
        obtain ⟨μt, eμt⟩ : ∃ x : va_M, x = u9 := ⟨_, rfl⟩
        rw [← eμt] at hP hw9
        have hμt := hw9; clear hw9
        obtain ⟨⟨a1_, a2_, a3_⟩, a4_, -⟩ := hμt
        have G9 := rG_load g62 (rWF_0 _ (hWy (by omega))) g122.1 a4_ a1_ a2_ a3_
        have f3_ : fr (fun x y => 6 ≤ x ∧ x < 12) μv μt := fr_mono a2_ (fun x y h => by have := h.1; unfold LEq at this; omega)
        have F9 : fr (fun x y => PaB x y ∨ (6 ≤ x ∧ x < 12)) μl μt := fr_trans (fr_mono f2_ (fun x y h => Or.inl h)) (fr_mono f3_ (fun x y h => Or.inr h))
        have C9 : CI0 T μt := CI_ch c0_ (fun x y q => F9 _ _ (by unfold PaB; omega)) (Or.inr (fun x y q1 q2 => F9 _ _ (by unfold PaB; omega))) (Or.inl G9) (Or.inr (fun x y q1 q2 => F9 _ _ (by unfold PaB; omega))) (Or.inl (pst_fr2 p2_ (fun x y q1 q2 => f3_ _ _ (by omega)))) (Or.inr (fun x y q => F9 _ _ (by unfold PaB; omega))) (Or.inr (fun x y q1 q2 => F9 _ _ (by unfold PaB; omega)))
        have S9 : SP μ μt := SP_tr (fun x y q => cz_.2 x y (by omega)) (fun x y q => F9 _ _ (by unfold PaB; omega))
        have hsX_ : sL (lyW Wk b) ≤ 1100 := by omega
        have sk9_ : SKc (lyW Wk b) (Wk :: Bs.take 15) μt := by
          refine ⟨?_, pstX_fr px_ (fun x y q1 q2 => f3_ _ _ (by omega))⟩
          have h9 := a1_
          unfold rcut at h9
          rw [if_pos hsX_] at h9
          exact h9
        refine lv_aload_n hx hb dX9_lay_69 rfl (lv_at hl 1 rfl) ?_
        refine lv_dup hx hb dX9_lay_70 rfl ?_
        refine fz_get (D := (dC, dI)) (ci := 9) (v := .int (iZ (μt 0 5))) (C := RX9) (T := TX9) (N := 15) hx hb hts inG9 hown hK hP (k := 0) (by decide) (F := (sF0 h0)) sE_0 rfl 5 (by decide) (hts _ k337) (fun _ h9 => h9) rfl dX9_lay_71 ?_
        refine lv_iload_n hx hb dX9_lay_74 rfl (lv_at hl 0 rfl) ?_
        refine lv_iadd hx hb dX9_lay_75 ?_
        refine lv_topi (fun x9 ex9 => ?_)
        obtain rfl : x9 = iZ ((μt 0 5) + rl) := ex9.trans (iZ_add _ _)
        refine fz_put (D := (dC, dI)) (ci := 9) (ty := .int) (z := ((μt 0 5) + rl)) (C := RX9) (T := TX9) (N := 15) hx hb hts inG9 tyX9 tyX9_ok nmX9 hown hK hP fA_in hS (k := 0) (by decide) (F := (sF0 h0)) sE_0 rfl 5 (by decide) (hts _ k337) (fun _ h9 => h9) rfl (by decide +kernel) rfl rfl (fun _ => Nat.le_of_ble_eq_true rfl) (fun _ _ => rfl) dX9_lay_76 (fun H locs hP hS => ?_)
        obtain ⟨μ5, eμ5⟩ : ∃ x : va_M, x = uz μt 0 5 ((μt 0 5) + rl) := ⟨_, rfl⟩
        rw [← eμ5] at hP
        refine lv_aload_n hx hb dX9_lay_79 rfl (lv_at hl 1 rfl) ?_
        refine lv_dup hx hb dX9_lay_80 rfl ?_
        refine fz_get (D := (dC, dI)) (ci := 9) (v := .int (iZ (μ5 0 6))) (C := RX9) (T := TX9) (N := 15) hx hb hts inG9 hown hK hP (k := 0) (by decide) (F := (sF0 h0)) sE_0 rfl 6 (by decide) (hts _ k338) (fun _ h9 => h9) rfl dX9_lay_81 ?_
        rw [show μ5 0 6 = μt 0 6 from by rw [eμ5, uz_n (by omega)]]
        refine lv_iconst (v := iZ 1) hx hb dX9_lay_84 rfl ?_
        refine lv_iadd hx hb dX9_lay_85 ?_
        refine lv_topi (fun x9 ex9 => ?_)
        obtain rfl : x9 = iZ ((μt 0 6) + 1) := ex9.trans (iZ_add _ _)
        refine fz_put (D := (dC, dI)) (ci := 9) (ty := .int) (z := ((μt 0 6) + 1)) (C := RX9) (T := TX9) (N := 15) hx hb hts inG9 tyX9 tyX9_ok nmX9 hown hK hP fA_in hS (k := 0) (by decide) (F := (sF0 h0)) sE_0 rfl 6 (by decide) (hts _ k338) (fun _ h9 => h9) rfl (by decide +kernel) rfl rfl (fun _ => Nat.le_of_ble_eq_true rfl) (fun _ _ => rfl) dX9_lay_86 (fun H locs hP hS => ?_)
        obtain ⟨μ6, eμ6⟩ : ∃ x : va_M, x = uz μ5 0 6 ((μt 0 6) + 1) := ⟨_, rfl⟩
        rw [← eμ6] at hP
        refine lv_iload_n hx hb dX9_lay_89 rfl (lv_at hl 0 rfl) ?_
        rw [fw_nz] at hP
        obtain ⟨μ7, eμ7⟩ : ∃ x : va_M, x = nz μ6 := ⟨_, rfl⟩
        rw [← eμ7] at hP
        exact W_widen (Nat.le_of_ble_eq_true rfl) (Nat.le_of_ble_eq_true rfl) (vx_ret (W.iret (v := iZ (rl)) hx hb hr (fun t9 ht9 hW9 => ⟨⟨iZ (rl), (μ7, rl), rfl, ⟨rfl, (by
                        dsimp only
                        rw [eμ7]
                        have FZ : fr Zc μt μ6 := by rw [eμ6, eμ5]; exact fr_uz (fr_uz (fr_rfl) (by unfold Zc; omega)) (by unfold Zc; omega)
                        exact ⟨CI_nz (CI_z C9 FZ), SP_nz (SP_tr S9 (fun x y q => FZ _ _ (by unfold Zc; omega))), ⟨by omega, by omega⟩, BB_, rc_, SKc_nz (SKc_fr sk9_ (fun x y q => by rw [eμ6, eμ5, uz_n (by omega), uz_n (by omega)]))⟩)⟩, by rw [ht9]; exact hP, va_K.moved hW9.alike hK⟩, hS.F ht9⟩) hS.2.2 dX9_lay_90))
  · refine vx_callv (vx_runV (As := [.int (iZ (pg))]) (rest := []) ⟨hx, hb, hml, hown, hts⟩ (x_needPage l hfl dC dI cI cZ cII cIII h0 s.heap.size μ (pg) (by first | assumption | omega | exact CI_lc hI | exact CI_cn hI | exact (CI_n6 hI).1 | decide) (by first | assumption | omega | exact CI_lc hI | exact CI_cn hI | exact (CI_n6 hI).1 | decide) (hn2_)) (cwV 1 hts (gV_G k735 k737 ks_yX9_needPage k1 k738) rfl rfl rfl (by decide +kernel) ⟨Nat.le_of_ble_eq_true rfl, Nat.le_of_ble_eq_true rfl⟩) ⟨fun a U g mk q => by obtain ⟨q0, q1, qP, qK, qM, qE⟩ := q; exact ⟨q0, q1, qP, va_K.moved (u := U) (U := U.calling g mk a) (Vm.Alike.refl U.vm) qK, qM, xX_call qE⟩, va_recv hK hP (ci := 9) (q0 := 0) rfl ((fw_get (by decide)).trans (by rw [sE_0]; rfl)), fun U hU hW => ⟨rfl, by rw [hU], by rw [hU]; exact hP, va_K.moved hW.alike hK, xM_warm hW hM, xX_at hEx hS (fun q h => fA_le hS.1 q h) hU hW⟩⟩ rfl rfl hl.1 rfl (lv_room (Nat.le_of_ble_eq_true rfl)) dX9_lay_2 ⟨Nat.le_of_ble_eq_true rfl, Nat.le_of_ble_eq_true rfl⟩) hS (fun q _ h => fA_le hS.1 q h) (fA_le hS.1) (fun q _ h => fA_le hS.1 q h) (fun E9 ce9 q9 u9 t9 H1 locs ht9 hvm9 hpx9 hBX9 hz9 hk9 hS hce9 hcv9 hcl9 => ?_) (fun u9 t9 H1 locs ht9 hvm9 hw9 hB9 hz9 hk9 hS => hw9.elim)
    obtain ⟨hE9, hP9, hK9⟩ := hBX9
    exact vx_out (fun x hx9 => (hnt x hx9).elim) hlocks hce9 hcv9 hcl9 (fun t8 ht8 hW8 => ⟨u9, (by
                show CI T u9 ∧ SZ μ u9
                exact CZ_thr hI hpx9), ⟨(show ∀ z ∈ (["java/util/NoSuchElementException"] : List String), z ∈ (["java/util/NoSuchElementException", "java/lang/IllegalStateException"] : List String) by decide +kernel) E9 hE9, by rw [ht8, ← ht9]; exact hP9, va_K.moved hW8 hK, (by have hE8 := List.mem_singleton.mp hE9; rw [hE8]; exact ⟨fun _ => cd2_1 (by omega), fun h => absurd h (by decide +kernel)⟩)⟩, hS.F ht8⟩) hS.2.2 (Nat.le_of_ble_eq_true rfl) (Nat.le_of_ble_eq_true rfl)
set_option maxHeartbeats 4000000 in
set_option maxRecDepth 100000 in
theorem t_tidy (l : Launch) (dC : Nat → ClassId) (dI : Nat → Nat → Nat) (cI cZ cII cIII : ClassId) (h0 sz : Nat) (μ : va_M) (T : List Tk) (Wk : Rw) (Bs : List Rw) (hI : CI T μ) (hSK : SKc Wk Bs μ) (hl16 : Bs.length ≤ 16) (hWw : rWF Wk) (hWd : rAd Wk) (hcapW : ∀ y : Rw, TQ Wk y → (sL y : Int) ≤ (1100 : Nat)) (hTD : ∀ (y : Rw) (n : Nat), tdy Wk y n → rWF y) (hn12 : ∀ (y : Rw) (n : Nat), tdy Wk y n → n ≤ 1200) : Met l yX9_tidy (Cond.code yX9_tidy cX9_tidy 2 (some .int) :: wsG) ({ frames := 8, cells := 0, slots := 0, locals := 197 } : Room) (va_Pc [.ref h0] (fun U => U.heap.size = sz ∧ va_P (dC, dI) vwCl (fw (sE cI cZ cII cIII h0) h0 233 μ) U.heap ∧ va_K (dC, dI) vwCl (sT cI cZ cII cIII) U ∧ xM U)) (va_Qi (fun (r9 : Int32) (u : va_M × Int) => r9 = iZ u.2 ∧ (fun (u : va_M) (r : Int) => CI T u ∧ SP μ u ∧ ∃ (w2 : Rw) (n : Nat), tdy Wk w2 n ∧ r = n ∧ ((r = 0 ∧ SKc Wk Bs u) ∨ (¬ r = 0 ∧ SKc w2 (Wk :: Bs.take 15) u))) u.1 u.2) (fun u t => va_P (dC, dI) vwCl (fw (sE cI cZ cII cIII h0) h0 233 u.1) t.heap ∧ va_K (dC, dI) vwCl (sT cI cZ cII cIII) t) (fA h0 233 sz)) 0 0 (fA h0 233 sz) := by
  refine Met.ofW (cc := cX9_tidy) (maxL := 2) (ret := (some .int)) (by decide) rfl ?_
  intro p e s m args below meth c s₁ B hml hv
  obtain ⟨rfl, hsz, hP, hK, hM⟩ := hv
  have hx := B.exec
  have hb := B.bytes
  have hr := B.returns
  have hts : ∀ w ∈ wsG, w.before _ s = true := hG_of (atoms_spec (ws := (Cond.code yX9_tidy cX9_tidy 2 (some .int) :: wsG)) B.pre)
  have hown : s.vm.findClass RX9 = some m.cls := findClass_of_methodNamed B.named
  have hlocks := B.notSynchronized
  subst hsz
  have hS : va_S (fA h0 233 s.heap.size) s.heap s.heap [] := va_S.rf
  have hl := lv_entry ([.ref h0]) (n := 2) (Nat.le_of_ble_eq_true rfl)
  rw [lg_entry_eq]
  generalize (lg_sl ([.ref h0]) ++ List.replicate (2 - (lg_sl ([.ref h0])).length) Slot.unset).toArray = ls at hl ⊢
  have hl : lv_has ls 2 [(0, .ref h0)] := hl
  have hlc := CI_lc hI
  have h66 := CI_n6 hI
  refine lv_aload_n hx hb dX9_tidy_0 rfl (lv_at hl 0 rfl) ?_
  refine va_calli (va_runV (As := []) (rest := []) ⟨hx, hb, hml, hown, hts⟩ (s_tryToTidy2 l dC dI cI cZ cII cIII h0 s.heap.size μ (T) (Wk) (by exact hI) (by exact hSK.1) (by exact hWw) (by exact hWd) (by exact hcapW)) (cwV 0 hts (gV_G k394 k396 ks_yX9_tryToTidy k1 k397) rfl rfl rfl (by decide +kernel) ⟨Nat.le_of_ble_eq_true rfl, Nat.le_of_ble_eq_true rfl⟩) ⟨fun a U g mk q => by obtain ⟨q0, q1, qP, qK, qM⟩ := q; exact ⟨q0, q1, qP, va_K.moved (u := U) (U := U.calling g mk a) (Vm.Alike.refl U.vm) qK, qM⟩, va_recv hK hP (ci := 9) (q0 := 0) rfl ((fw_get (by decide)).trans (by rw [sE_0]; rfl)), fun U hU hW => ⟨rfl, by rw [hU], by rw [hU]; exact hP, va_K.moved hW.alike hK, xM_warm hW hM⟩⟩ rfl rfl hl.1 rfl (lv_room (Nat.le_of_ble_eq_true rfl)) dX9_tidy_1 ⟨Nat.le_of_ble_eq_true rfl, Nat.le_of_ble_eq_true rfl⟩) hS (fun q _ h => fA_le hS.1 q h) (fA_le hS.1) (fun r9 u9 t9 H1 locs ht9 hvm9 hw9 hB9 hz9 hk9 hS => ?_)
  obtain ⟨μl, rl⟩ := u9
  obtain ⟨hP, -⟩ := hB9
  rw [ht9] at hP
  generalize H1 = H at hP hS ⊢
  obtain ⟨e9, hw9⟩ := hw9
  have e9 : r9 = iZ rl := e9
  subst e9
  simp only at hP hw9
  have hμl := hw9; clear hw9
  obtain ⟨c0_, f1_, w9_, n9_, td_, rn_, rw_, rf_⟩ := hμl
  have cz_ := CZ_r12 hI c0_ (fr_mono f1_ (fun x y h => by omega))
  have g12 := c0_.2.2.2.1
  have ln12 := rG_len g12
  have sk_ : SKc Wk Bs μl := SKc_fr hSK (fun x y q => f1_ x y (by omega))
  have hrb_ := hn12 w9_ n9_ td_
  refine lv_istore_n (lv' := [(1, .int (iZ (rl))), (0, .ref h0)]) hx hb dX9_tidy_4 rfl hl (by decide) rfl (fun ls hl => ?_)
  refine lv_iload_n hx hb dX9_tidy_5 rfl (lv_at hl 0 rfl) ?_
  refine fz_if_le (tgt := 45) (by first | assumption | (constructor <;> omega) | decide) hx hb dX9_tidy_6 (by decide) (fun c6_ => ?_) (fun c6_ => ?_)
  · refine lv_iload_n hx hb dX9_tidy_45 rfl (lv_at hl 0 rfl) ?_
    rw [fw_nz] at hP
    obtain ⟨μ1, eμ1⟩ : ∃ x : va_M, x = nz μl := ⟨_, rfl⟩
    rw [← eμ1] at hP
    exact W.iret (v := iZ (rl)) hx hb hr (fun t9 ht9 hW9 => ⟨⟨iZ (rl), (μ1, rl), rfl, ⟨rfl, (by
                dsimp only
                rw [eμ1]
                exact ⟨CI_nz c0_, SP_nz (fun x y q => cz_.2 x y (by omega)), w9_, n9_, td_, rn_, Or.inl ⟨by omega, SKc_nz sk_⟩⟩)⟩, by rw [ht9]; exact hP, va_K.moved hW9.alike hK⟩, hS.F ht9⟩) hS.2.2 dX9_tidy_46
  · refine lv_aload_n hx hb dX9_tidy_9 rfl (lv_at hl 1 rfl) ?_
    refine fz_get (D := (dC, dI)) (ci := 9) (v := .ref (h0 + 18)) (C := RX9) (T := TX9) (N := 15) hx hb hts inG9 hown hK hP (k := 0) (by decide) (F := (sF0 h0)) sE_0 rfl 7 (by decide) (hts _ k339) (fun _ h9 => h9) rfl dX9_tidy_10 ?_
    refine lv_aload_n hx hb dX9_tidy_13 rfl (lv_at hl 1 rfl) ?_
    refine fz_get (D := (dC, dI)) (ci := 9) (v := .ref (h0 + 6)) (C := RX9) (T := TX9) (N := 15) hx hb hts inG9 hown hK hP (k := 0) (by decide) (F := (sF0 h0)) sE_0 rfl 3 (by decide) (hts _ k335) (fun _ h9 => h9) rfl dX9_tidy_14 ?_
    refine lv_aload_n hx hb dX9_tidy_17 rfl (lv_at hl 1 rfl) ?_
    refine fz_get (D := (dC, dI)) (ci := 9) (v := .int (iZ (μl 0 5))) (C := RX9) (T := TX9) (N := 15) hx hb hts inG9 hown hK hP (k := 0) (by decide) (F := (sF0 h0)) sE_0 rfl 5 (by decide) (hts _ k337) (fun _ h9 => h9) rfl dX9_tidy_18 ?_
    refine va_callv (va_runV (As := [.ref (h0 + 6), .int (iZ (μl 0 5))]) (rest := []) ⟨hx, hb, hml, hown, hts⟩ (s_Psave2 l dC dI cI cZ cII cIII h0 H.size μl (μl 0 5) (Wk) (Bs) (by exact c0_.2.2.1) (by exact c0_.2.2.2.2.1) (by exact sk_.1) (by exact sk_.2) (by exact hl16)) (cwV 2 hts (gV_G k495 k496 k497 k5 k498) rfl rfl rfl (by decide +kernel) ⟨Nat.le_of_ble_eq_true rfl, Nat.le_of_ble_eq_true rfl⟩) ⟨fun a U g mk q => by obtain ⟨q0, q1, qP, qK, qM⟩ := q; exact ⟨q0, q1, qP, va_K.moved (u := U) (U := U.calling g mk a) (Vm.Alike.refl U.vm) qK, qM⟩, va_recv hK hP (ci := 3) (q0 := 18) rfl ((fw_get (by decide)).trans (by rw [sE_18])), fun U hU hW => ⟨rfl, by rw [hU], by rw [hU]; exact hP, va_K.moved hW.alike hK, xM_warm hW hM⟩⟩ rfl rfl hl.1 rfl (lv_room (Nat.le_of_ble_eq_true rfl)) dX9_tidy_21 ⟨Nat.le_of_ble_eq_true rfl, Nat.le_of_ble_eq_true rfl⟩) hS (fun q _ h => fA_le hS.1 q h) (fA_le hS.1) (fun u9 t9 H1 locs ht9 hvm9 hw9 hB9 hz9 hk9 hS => ?_)
    obtain ⟨hP, -⟩ := hB9
    rw [ht9] at hP
    generalize H1 = H at hP hS ⊢
    obtain ⟨μv, eμv⟩ : ∃ x : va_M, x = u9 := ⟨_, rfl⟩
    rw [← eμv] at hP hw9
    have hμv := hw9; clear hw9
    obtain ⟨p2_, f2_, px_⟩ := hμv
    have g62 : rG μv 6 1100 := rG_fr c0_.2.2.1 (fun x y q1 q2 => f2_ _ _ (by unfold PaB; omega))
    have g122 : rG μv 12 1100 := rG_fr g12 (fun x y q1 q2 => f2_ _ _ (by unfold PaB; omega))
    have w2_ : rowS μv 12 w9_ := rowS_fr9 rw_ (fun x y q1 q2 => f2_ _ _ (by unfold PaB; omega))
    have lnX_ := (rG_len g122).2
    have eLX_ := w2_.1.1
    refine lv_aload_n hx hb dX9_tidy_24 rfl (lv_at hl 1 rfl) ?_
    refine fz_get (D := (dC, dI)) (ci := 9) (v := .ref (h0 + 6)) (C := RX9) (T := TX9) (N := 15) hx hb hts inG9 hown hK hP (k := 0) (by decide) (F := (sF0 h0)) sE_0 rfl 3 (by decide) (hts _ k335) (fun _ h9 => h9) rfl dX9_tidy_25 ?_
    refine lv_aload_n hx hb dX9_tidy_28 rfl (lv_at hl 1 rfl) ?_
    refine fz_get (D := (dC, dI)) (ci := 9) (v := .ref (h0 + 12)) (C := RX9) (T := TX9) (N := 15) hx hb hts inG9 hown hK hP (k := 0) (by decide) (F := (sF0 h0)) sE_0 rfl 4 (by decide) (hts _ k336) (fun _ h9 => h9) rfl dX9_tidy_29 ?_
    refine va_callv (va_runV (As := [.ref (h0 + 12)]) (rest := []) ⟨hx, hb, hml, hown, hts⟩ (s_Rtake3 l dC dI cI cZ cII cIII h0 H.size μv (6) (1100) (12) (1100) (w9_) (rowB_6) (rowB_12) (by omega) (by exact rWF_0 _ (hTD w9_ n9_ td_)) (by exact w2_) (by exact (rG_len g122).2)) (cwV 1 hts (gV_G k398 k399 k400 k3 k401) rfl rfl rfl (by decide +kernel) ⟨Nat.le_of_ble_eq_true rfl, Nat.le_of_ble_eq_true rfl⟩) ⟨fun a U g mk q => by obtain ⟨q0, q1, qP, qK, qM⟩ := q; exact ⟨q0, q1, qP, va_K.moved (u := U) (U := U.calling g mk a) (Vm.Alike.refl U.vm) qK, qM⟩, va_recv hK hP (ci := 4) (q0 := 6) rfl ((fw_get (by decide)).trans (by rw [(sE_rowO rowB_6)])), fun U hU hW => ⟨rfl, by rw [hU], by rw [hU]; exact hP, va_K.moved hW.alike hK, xM_warm hW hM⟩⟩ rfl rfl hl.1 rfl (lv_room (Nat.le_of_ble_eq_true rfl)) dX9_tidy_32 ⟨Nat.le_of_ble_eq_true rfl, Nat.le_of_ble_eq_true rfl⟩) hS (fun q _ h => fA_le hS.1 q h) (fA_le hS.1) (fun u9 t9 H1 locs ht9 hvm9 hw9 hB9 hz9 hk9 hS => ?_)
    obtain ⟨hP, -⟩ := hB9
    rw [ht9] at hP
    generalize H1 = H at hP hS ⊢
    obtain ⟨μt, eμt⟩ : ∃ x : va_M, x = u9 := ⟨_, rfl⟩
    rw [← eμt] at hP hw9
    have hμt := hw9; clear hw9
    obtain ⟨⟨a1_, a2_, a3_⟩, a4_, -⟩ := hμt
    have G9 := rG_load g62 (rWF_0 _ (hTD w9_ n9_ td_)) g122.1 a4_ a1_ a2_ a3_
    have f3_ : fr (fun x y => 6 ≤ x ∧ x < 12) μv μt := fr_mono a2_ (fun x y h => by have := h.1; unfold LEq at this; omega)
    have F9 : fr (fun x y => PaB x y ∨ (6 ≤ x ∧ x < 12)) μl μt := fr_trans (fr_mono f2_ (fun x y h => Or.inl h)) (fr_mono f3_ (fun x y h => Or.inr h))
    have C9 : CI0 T μt := CI_ch c0_ (fun x y q => F9 _ _ (by unfold PaB; omega)) (Or.inr (fun x y q1 q2 => F9 _ _ (by unfold PaB; omega))) (Or.inl G9) (Or.inr (fun x y q1 q2 => F9 _ _ (by unfold PaB; omega))) (Or.inl (pst_fr2 p2_ (fun x y q1 q2 => f3_ _ _ (by omega)))) (Or.inr (fun x y q => F9 _ _ (by unfold PaB; omega))) (Or.inr (fun x y q1 q2 => F9 _ _ (by unfold PaB; omega)))
    have S9 : SP μ μt := SP_tr (fun x y q => cz_.2 x y (by omega)) (fun x y q => F9 _ _ (by unfold PaB; omega))
    have hsX_ : sL w9_ ≤ 1100 := by omega
    have sk9_ : SKc w9_ (Wk :: Bs.take 15) μt := by
      refine ⟨?_, pstX_fr px_ (fun x y q1 q2 => f3_ _ _ (by omega))⟩
      have h9 := a1_
      unfold rcut at h9
      rw [if_pos hsX_] at h9
      exact h9
    refine lv_aload_n hx hb dX9_tidy_35 rfl (lv_at hl 1 rfl) ?_
    refine lv_dup hx hb dX9_tidy_36 rfl ?_
    refine fz_get (D := (dC, dI)) (ci := 9) (v := .int (iZ (μt 0 6))) (C := RX9) (T := TX9) (N := 15) hx hb hts inG9 hown hK hP (k := 0) (by decide) (F := (sF0 h0)) sE_0 rfl 6 (by decide) (hts _ k338) (fun _ h9 => h9) rfl dX9_tidy_37 ?_
    refine lv_iconst (v := iZ 1) hx hb dX9_tidy_40 rfl ?_
    refine lv_iadd hx hb dX9_tidy_41 ?_
    refine lv_topi (fun x9 ex9 => ?_)
    obtain rfl : x9 = iZ ((μt 0 6) + 1) := ex9.trans (iZ_add _ _)
    refine fz_put (D := (dC, dI)) (ci := 9) (ty := .int) (z := ((μt 0 6) + 1)) (C := RX9) (T := TX9) (N := 15) hx hb hts inG9 tyX9 tyX9_ok nmX9 hown hK hP fA_in hS (k := 0) (by decide) (F := (sF0 h0)) sE_0 rfl 6 (by decide) (hts _ k338) (fun _ h9 => h9) rfl (by decide +kernel) rfl rfl (fun _ => Nat.le_of_ble_eq_true rfl) (fun _ _ => rfl) dX9_tidy_42 (fun H locs hP hS => ?_)
    obtain ⟨μ2, eμ2⟩ : ∃ x : va_M, x = uz μt 0 6 ((μt 0 6) + 1) := ⟨_, rfl⟩
    rw [← eμ2] at hP
    refine lv_iload_n hx hb dX9_tidy_45 rfl (lv_at hl 0 rfl) ?_
    rw [fw_nz] at hP
    obtain ⟨μ3, eμ3⟩ : ∃ x : va_M, x = nz μ2 := ⟨_, rfl⟩
    rw [← eμ3] at hP
    exact W.iret (v := iZ (rl)) hx hb hr (fun t9 ht9 hW9 => ⟨⟨iZ (rl), (μ3, rl), rfl, ⟨rfl, (by
                dsimp only
                rw [eμ3]
                have FZ : fr Zc μt μ2 := by rw [eμ2]; exact fr_uz (fr_rfl) (by unfold Zc; omega)
                exact ⟨CI_nz (CI_z C9 FZ), SP_nz (SP_tr S9 (fun x y q => FZ _ _ (by unfold Zc; omega))), w9_, n9_, td_, rn_, Or.inr ⟨by omega, SKc_nz (SKc_fr sk9_ (fun x y q => by rw [eμ2, uz_n (by omega)]))⟩⟩)⟩, by rw [ht9]; exact hP, va_K.moved hW9.alike hK⟩, hS.F ht9⟩) hS.2.2 dX9_tidy_46
set_option maxHeartbeats 4000000 in
set_option maxRecDepth 100000 in
theorem t_undo (l : Launch) (dC : Nat → ClassId) (dI : Nat → Nat → Nat) (cI cZ cII cIII : ClassId) (h0 sz : Nat) (μ : va_M) (T : List Tk) (Wk : Rw) (Bs : List Rw) (hI : CI T μ) (hSK : SKc Wk Bs μ) (hl16 : Bs.length ≤ 16) (hWw : rWF Wk) (hJB : ∀ (i : Nat) (B : Rw), Bs[i]? = some B → rWF B ∧ sL B ≤ 1100) : Met l yX9_undo (Cond.code yX9_undo cX9_undo 1 (some .int) :: wsG) ({ frames := 5, cells := 0, slots := 0, locals := 102 } : Room) (va_Pc [.ref h0] (fun U => U.heap.size = sz ∧ va_P (dC, dI) vwCl (fw (sE cI cZ cII cIII h0) h0 233 μ) U.heap ∧ va_K (dC, dI) vwCl (sT cI cZ cII cIII) U ∧ xM U)) (va_Qi (fun (r9 : Int32) (u : va_M × Int) => r9 = iZ u.2 ∧ (fun (u : va_M) (r : Int) => CI T u ∧ SP μ u ∧ r = udR Bs ∧ SKc (udW Wk Bs) Bs.tail u) u.1 u.2) (fun u t => va_P (dC, dI) vwCl (fw (sE cI cZ cII cIII h0) h0 233 u.1) t.heap ∧ va_K (dC, dI) vwCl (sT cI cZ cII cIII) t) (fA h0 233 sz)) 0 0 (fA h0 233 sz) := by
  refine Met.ofW (cc := cX9_undo) (maxL := 1) (ret := (some .int)) (by decide) rfl ?_
  intro p e s m args below meth c s₁ B hml hv
  obtain ⟨rfl, hsz, hP, hK, hM⟩ := hv
  have hx := B.exec
  have hb := B.bytes
  have hr := B.returns
  have hts : ∀ w ∈ wsG, w.before _ s = true := hG_of (atoms_spec (ws := (Cond.code yX9_undo cX9_undo 1 (some .int) :: wsG)) B.pre)
  have hown : s.vm.findClass RX9 = some m.cls := findClass_of_methodNamed B.named
  have hlocks := B.notSynchronized
  subst hsz
  have hS : va_S (fA h0 233 s.heap.size) s.heap s.heap [] := va_S.rf
  have hl := lv_entry ([.ref h0]) (n := 1) (Nat.le_of_ble_eq_true rfl)
  rw [lg_entry_eq]
  generalize (lg_sl ([.ref h0]) ++ List.replicate (1 - (lg_sl ([.ref h0])).length) Slot.unset).toArray = ls at hl ⊢
  have hl : lv_has ls 1 [(0, .ref h0)] := hl
  have hlc := CI_lc hI
  have h66 := CI_n6 hI
  have c0_ := hI.1
  have pp := c0_.2.2.2.2.1.1
  have hp4_ := hSK.2.1
  refine lv_aload_n hx hb dX9_undo_0 rfl (lv_at hl 0 rfl) ?_
  refine fz_get (D := (dC, dI)) (ci := 9) (v := .ref (h0 + 18)) (C := RX9) (T := TX9) (N := 15) hx hb hts inG9 hown hK hP (k := 0) (by decide) (F := (sF0 h0)) sE_0 rfl 7 (by decide) (hts _ k339) (fun _ h9 => h9) rfl dX9_undo_1 ?_
  refine fz_get (D := (dC, dI)) (ci := 3) (v := .int (iZ (μ 18 4))) (C := RX3) (T := TX3) (N := 5) hx hb hts inG3 hown hK hP (k := 18) (by decide) (F := (sF18 h0)) sE_18 rfl 4 (by decide) (hts _ k135) (fun _ h9 => h9) rfl dX9_undo_4 ?_
  refine fz_if_ne (tgt := 12) (by first | assumption | (constructor <;> omega) | decide) hx hb dX9_undo_7 (by decide) (fun c7_ => ?_) (fun c7_ => ?_)
  · obtain ⟨B, Bt, eB⟩ : ∃ (B : Rw) (Bt : List Rw), Bs = B :: Bt := by
      cases Bs with
      | nil => exact absurd hp4_ (by rw [List.length_nil]; omega)
      | cons B Bt => exact ⟨B, Bt, rfl⟩
    subst eB
    rw [List.length_cons] at hp4_ hl16
    refine lv_aload_n hx hb dX9_undo_12 rfl (lv_at hl 0 rfl) ?_
    refine lv_aload_n hx hb dX9_undo_13 rfl (lv_at hl 0 rfl) ?_
    refine fz_get (D := (dC, dI)) (ci := 9) (v := .ref (h0 + 18)) (C := RX9) (T := TX9) (N := 15) hx hb hts inG9 hown hK hP (k := 0) (by decide) (F := (sF0 h0)) sE_0 rfl 7 (by decide) (hts _ k339) (fun _ h9 => h9) rfl dX9_undo_14 ?_
    refine lv_aload_n hx hb dX9_undo_17 rfl (lv_at hl 0 rfl) ?_
    refine fz_get (D := (dC, dI)) (ci := 9) (v := .ref (h0 + 6)) (C := RX9) (T := TX9) (N := 15) hx hb hts inG9 hown hK hP (k := 0) (by decide) (F := (sF0 h0)) sE_0 rfl 3 (by decide) (hts _ k335) (fun _ h9 => h9) rfl dX9_undo_18 ?_
    refine va_calli (va_runV (As := [.ref (h0 + 6)]) (rest := [.ref h0]) ⟨hx, hb, hml, hown, hts⟩ (s_Prestore2 l dC dI cI cZ cII cIII h0 s.heap.size μ (B) (Bt) (by exact c0_.2.2.1) (by exact c0_.2.2.2.2.1) (by exact hSK.2) (by exact hJB 0 B rfl)) (cwV 1 hts (gV_G k507 k508 k509 k5 k510) rfl rfl rfl (by decide +kernel) ⟨Nat.le_of_ble_eq_true rfl, Nat.le_of_ble_eq_true rfl⟩) ⟨fun a U g mk q => by obtain ⟨q0, q1, qP, qK, qM⟩ := q; exact ⟨q0, q1, qP, va_K.moved (u := U) (U := U.calling g mk a) (Vm.Alike.refl U.vm) qK, qM⟩, va_recv hK hP (ci := 3) (q0 := 18) rfl ((fw_get (by decide)).trans (by rw [sE_18])), fun U hU hW => ⟨rfl, by rw [hU], by rw [hU]; exact hP, va_K.moved hW.alike hK, xM_warm hW hM⟩⟩ rfl rfl hl.1 rfl (lv_room (Nat.le_of_ble_eq_true rfl)) dX9_undo_21 ⟨Nat.le_of_ble_eq_true rfl, Nat.le_of_ble_eq_true rfl⟩) hS (fun q _ h => fA_le hS.1 q h) (fA_le hS.1) (fun r9 u9 t9 H1 locs ht9 hvm9 hw9 hB9 hz9 hk9 hS => ?_)
    obtain ⟨μt, rt⟩ := u9
    obtain ⟨hP, -⟩ := hB9
    rw [ht9] at hP
    generalize H1 = H at hP hS ⊢
    obtain ⟨e9, hw9⟩ := hw9
    have e9 : r9 = iZ rt := e9
    subst e9
    simp only at hP hw9
    have hμt := hw9; clear hw9
    obtain ⟨p2_, G9, f2_, rw_, px_⟩ := hμt
    have C9 : CI0 T μt := CI_ch c0_ (fun x y q => f2_ _ _ (by unfold PaB LEq; omega)) (Or.inr (fun x y q1 q2 => f2_ _ _ (by unfold PaB LEq; omega))) (Or.inl G9) (Or.inr (fun x y q1 q2 => f2_ _ _ (by unfold PaB LEq; omega))) (Or.inl p2_) (Or.inr (fun x y q => f2_ _ _ (by unfold PaB LEq; omega))) (Or.inr (fun x y q1 q2 => f2_ _ _ (by unfold PaB LEq; omega)))
    have S9 : SP μ μt := fun x y q => f2_ _ _ (by unfold PaB LEq; omega)
    have sk9_ : SKc B Bt μt := ⟨rw_, px_⟩
    have eRL_ := rw_.1
    refine fz_put (D := (dC, dI)) (ci := 9) (ty := .int) (z := rt) (C := RX9) (T := TX9) (N := 15) hx hb hts inG9 tyX9 tyX9_ok nmX9 hown hK hP fA_in hS (k := 0) (by decide) (F := (sF0 h0)) sE_0 rfl 5 (by decide) (hts _ k337) (fun _ h9 => h9) rfl (by decide +kernel) rfl rfl (fun _ => Nat.le_of_ble_eq_true rfl) (fun _ _ => rfl) dX9_undo_24 (fun H locs hP hS => ?_)
    obtain ⟨μ1, eμ1⟩ : ∃ x : va_M, x = uz μt 0 5 (rt) := ⟨_, rfl⟩
    rw [← eμ1] at hP
    refine lv_aload_n hx hb dX9_undo_27 rfl (lv_at hl 0 rfl) ?_
    refine lv_dup hx hb dX9_undo_28 rfl ?_
    refine fz_get (D := (dC, dI)) (ci := 9) (v := .int (iZ (μ1 0 6))) (C := RX9) (T := TX9) (N := 15) hx hb hts inG9 hown hK hP (k := 0) (by decide) (F := (sF0 h0)) sE_0 rfl 6 (by decide) (hts _ k338) (fun _ h9 => h9) rfl dX9_undo_29 ?_
    rw [show μ1 0 6 = μt 0 6 from by rw [eμ1, uz_n (by omega)]]
    refine lv_iconst (v := iZ 1) hx hb dX9_undo_32 rfl ?_
    refine lv_iadd hx hb dX9_undo_33 ?_
    refine lv_topi (fun x9 ex9 => ?_)
    obtain rfl : x9 = iZ ((μt 0 6) + 1) := ex9.trans (iZ_add _ _)
    refine fz_put (D := (dC, dI)) (ci := 9) (ty := .int) (z := ((μt 0 6) + 1)) (C := RX9) (T := TX9) (N := 15) hx hb hts inG9 tyX9 tyX9_ok nmX9 hown hK hP fA_in hS (k := 0) (by decide) (F := (sF0 h0)) sE_0 rfl 6 (by decide) (hts _ k338) (fun _ h9 => h9) rfl (by decide +kernel) rfl rfl (fun _ => Nat.le_of_ble_eq_true rfl) (fun _ _ => rfl) dX9_undo_34 (fun H locs hP hS => ?_)
    obtain ⟨μ2, eμ2⟩ : ∃ x : va_M, x = uz μ1 0 6 ((μt 0 6) + 1) := ⟨_, rfl⟩
    rw [← eμ2] at hP
    refine lv_aload_n hx hb dX9_undo_37 rfl (lv_at hl 0 rfl) ?_
    refine fz_get (D := (dC, dI)) (ci := 9) (v := .ref (h0 + 6)) (C := RX9) (T := TX9) (N := 15) hx hb hts inG9 hown hK hP (k := 0) (by decide) (F := (sF0 h0)) sE_0 rfl 3 (by decide) (hts _ k335) (fun _ h9 => h9) rfl dX9_undo_38 ?_
    have g6 : rG μ2 6 1100 := rG_fr G9 (fun x y q1 q2 => by rw [eμ2, eμ1, uz_n (by omega), uz_n (by omega)])
    have rw8_ : rowS μ2 6 B := rowS_fr9 rw_ (fun x y q1 q2 => by rw [eμ2, eμ1, uz_n (by omega), uz_n (by omega)])
    refine va_calli (va_runV (As := []) (rest := []) ⟨hx, hb, hml, hown, hts⟩ (s_Rsize l dC dI cI cZ cII cIII h0 H.size μ2 (6) (1100) (rowB_6) (by exact rG_len g6)) (cwV 0 hts (gV_G k513 k514 k515 k3 k516) rfl rfl rfl (by decide +kernel) ⟨Nat.le_of_ble_eq_true rfl, Nat.le_of_ble_eq_true rfl⟩) ⟨fun a U g mk q => by obtain ⟨q0, q1, qP, qK, qM⟩ := q; exact ⟨q0, q1, qP, va_K.moved (u := U) (U := U.calling g mk a) (Vm.Alike.refl U.vm) qK, qM⟩, va_recv hK hP (ci := 4) (q0 := 6) rfl ((fw_get (by decide)).trans (by rw [(sE_rowO rowB_6)])), fun U hU hW => ⟨rfl, by rw [hU], by rw [hU]; exact hP, va_K.moved hW.alike hK, xM_warm hW hM⟩⟩ rfl rfl hl.1 rfl (lv_room (Nat.le_of_ble_eq_true rfl)) dX9_undo_41 ⟨Nat.le_of_ble_eq_true rfl, Nat.le_of_ble_eq_true rfl⟩) hS (fun q _ h => fA_le hS.1 q h) (fA_le hS.1) (fun r9 u9 t9 H1 locs ht9 hvm9 hw9 hB9 hz9 hk9 hS => ?_)
    obtain ⟨μ3, r4⟩ := u9
    obtain ⟨hP, -⟩ := hB9
    rw [ht9] at hP
    generalize H1 = H at hP hS ⊢
    obtain ⟨e9, hw9⟩ := hw9
    have e9 : r9 = iZ r4 := e9
    subst e9
    simp only at hP hw9
    have hμ3 := hw9; clear hw9
    rw [hμ3.1] at hP; have hμ3 := hμ3.2
    have hs3_ := hμ3
    rw [rw8_.1.1, Int.toNat_natCast, rw8_.1.2.2] at hs3_
    rw [fw_nz] at hP
    obtain ⟨μ5, eμ5⟩ : ∃ x : va_M, x = nz μ2 := ⟨_, rfl⟩
    rw [← eμ5] at hP
    exact W.iret (v := iZ (r4)) hx hb hr (fun t9 ht9 hW9 => ⟨⟨iZ (r4), (μ5, r4), rfl, ⟨rfl, (by
                dsimp only
                rw [eμ5]
                have FZ : fr Zc μt μ2 := by rw [eμ2, eμ1]; exact fr_uz (fr_uz (fr_rfl) (by unfold Zc; omega)) (by unfold Zc; omega)
                exact ⟨CI_nz (CI_z C9 FZ), SP_nz (SP_tr S9 (fun x y q => FZ _ _ (by unfold Zc; omega))), hs3_, SKc_nz (SKc_fr sk9_ (fun x y q => by rw [eμ2, eμ1, uz_n (by omega), uz_n (by omega)]))⟩)⟩, by rw [ht9]; exact hP, va_K.moved hW9.alike hK⟩, hS.F ht9⟩) hS.2.2 dX9_undo_44
  · have hB0 : Bs = [] := List.eq_nil_of_length_eq_zero (by omega)
    subst hB0
    refine lv_iconst (v := iZ (-1)) hx hb dX9_undo_10 rfl ?_
    exact W.iret (v := iZ ((-1))) hx hb hr (fun t9 ht9 hW9 => ⟨⟨iZ ((-1)), (μ, (-1)), rfl, ⟨rfl, (by
                dsimp only
                exact ⟨hI, SP_rf, rfl, hSK⟩)⟩, by rw [ht9]; exact hP, va_K.moved hW9.alike hK⟩, hS.F ht9⟩) hS.2.2 dX9_undo_11
set_option maxHeartbeats 4000000 in
set_option maxRecDepth 100000 in
theorem t_clear (l : Launch) (dC : Nat → ClassId) (dI : Nat → Nat → Nat) (cI cZ cII cIII : ClassId) (h0 sz : Nat) (μ : va_M) (T : List Tk) (Wk : Rw) (Bs : List Rw) (hI : CI T μ) (hSK : SKc Wk Bs μ) (hl16 : Bs.length ≤ 16) (hWw : rWF Wk) : Met l yX9_clear (Cond.code yX9_clear cX9_clear 2 (some .int) :: wsG) ({ frames := 3, cells := 0, slots := 0, locals := 58 } : Room) (va_Pc [.ref h0] (fun U => U.heap.size = sz ∧ va_P (dC, dI) vwCl (fw (sE cI cZ cII cIII h0) h0 233 μ) U.heap ∧ va_K (dC, dI) vwCl (sT cI cZ cII cIII) U ∧ xM U)) (va_Qi (fun (r9 : Int32) (u : va_M × Int) => r9 = iZ u.2 ∧ (fun (u : va_M) (r : Int) => CI T u ∧ SP μ u ∧ r = rL Wk ∧ SKc .leaf [] u) u.1 u.2) (fun u t => va_P (dC, dI) vwCl (fw (sE cI cZ cII cIII h0) h0 233 u.1) t.heap ∧ va_K (dC, dI) vwCl (sT cI cZ cII cIII) t) (fA h0 233 sz)) 0 0 (fA h0 233 sz) := by
  refine Met.ofW (cc := cX9_clear) (maxL := 2) (ret := (some .int)) (by decide) rfl ?_
  intro p e s m args below meth c s₁ B hml hv
  obtain ⟨rfl, hsz, hP, hK, hM⟩ := hv
  have hx := B.exec
  have hb := B.bytes
  have hr := B.returns
  have hts : ∀ w ∈ wsG, w.before _ s = true := hG_of (atoms_spec (ws := (Cond.code yX9_clear cX9_clear 2 (some .int) :: wsG)) B.pre)
  have hown : s.vm.findClass RX9 = some m.cls := findClass_of_methodNamed B.named
  have hlocks := B.notSynchronized
  subst hsz
  have hS : va_S (fA h0 233 s.heap.size) s.heap s.heap [] := va_S.rf
  have hl := lv_entry ([.ref h0]) (n := 2) (Nat.le_of_ble_eq_true rfl)
  rw [lg_entry_eq]
  generalize (lg_sl ([.ref h0]) ++ List.replicate (2 - (lg_sl ([.ref h0])).length) Slot.unset).toArray = ls at hl ⊢
  have hl : lv_has ls 2 [(0, .ref h0)] := hl
  have hlc := CI_lc hI
  have h66 := CI_n6 hI
  refine lv_aload_n hx hb dX9_clear_0 rfl (lv_at hl 0 rfl) ?_
  refine fz_get (D := (dC, dI)) (ci := 9) (v := .ref (h0 + 6)) (C := RX9) (T := TX9) (N := 15) hx hb hts inG9 hown hK hP (k := 0) (by decide) (F := (sF0 h0)) sE_0 rfl 3 (by decide) (hts _ k335) (fun _ h9 => h9) rfl dX9_clear_1 ?_
  refine va_calli (va_runV (As := []) (rest := []) ⟨hx, hb, hml, hown, hts⟩ (s_Rsize l dC dI cI cZ cII cIII h0 s.heap.size μ (6) (1100) (rowB_6) (by exact (rG_len hI.1.2.2.1))) (cwV 0 hts (gV_G k513 k514 k515 k3 k516) rfl rfl rfl (by decide +kernel) ⟨Nat.le_of_ble_eq_true rfl, Nat.le_of_ble_eq_true rfl⟩) ⟨fun a U g mk q => by obtain ⟨q0, q1, qP, qK, qM⟩ := q; exact ⟨q0, q1, qP, va_K.moved (u := U) (U := U.calling g mk a) (Vm.Alike.refl U.vm) qK, qM⟩, va_recv hK hP (ci := 4) (q0 := 6) rfl ((fw_get (by decide)).trans (by rw [(sE_rowO rowB_6)])), fun U hU hW => ⟨rfl, by rw [hU], by rw [hU]; exact hP, va_K.moved hW.alike hK, xM_warm hW hM⟩⟩ rfl rfl hl.1 rfl (lv_room (Nat.le_of_ble_eq_true rfl)) dX9_clear_4 ⟨Nat.le_of_ble_eq_true rfl, Nat.le_of_ble_eq_true rfl⟩) hS (fun q _ h => fA_le hS.1 q h) (fA_le hS.1) (fun r9 u9 t9 H1 locs ht9 hvm9 hw9 hB9 hz9 hk9 hS => ?_)
  obtain ⟨μ1, r2⟩ := u9
  obtain ⟨hP, -⟩ := hB9
  rw [ht9] at hP
  generalize H1 = H at hP hS ⊢
  obtain ⟨e9, hw9⟩ := hw9
  have e9 : r9 = iZ r2 := e9
  subst e9
  simp only at hP hw9
  have hμ1 := hw9; clear hw9
  rw [hμ1.1] at hP; have hμ1 := hμ1.2
  have hs3_ := hμ1
  rw [hSK.1.1.1, Int.toNat_natCast, hSK.1.1.2.2] at hs3_
  refine lv_istore_n (lv' := [(1, .int (iZ (r2))), (0, .ref h0)]) hx hb dX9_clear_7 rfl hl (by decide) rfl (fun ls hl => ?_)
  refine lv_aload_n hx hb dX9_clear_8 rfl (lv_at hl 1 rfl) ?_
  refine fz_get (D := (dC, dI)) (ci := 9) (v := .ref (h0 + 6)) (C := RX9) (T := TX9) (N := 15) hx hb hts inG9 hown hK hP (k := 0) (by decide) (F := (sF0 h0)) sE_0 rfl 3 (by decide) (hts _ k335) (fun _ h9 => h9) rfl dX9_clear_9 ?_
  refine va_callv (va_runV (As := []) (rest := []) ⟨hx, hb, hml, hown, hts⟩ (s_Rempty l dC dI cI cZ cII cIII h0 H.size μ (6) (1100) (rowB_6)) (cwV 0 hts (gV_G k521 k407 k408 k3 k409) rfl rfl rfl (by decide +kernel) ⟨Nat.le_of_ble_eq_true rfl, Nat.le_of_ble_eq_true rfl⟩) ⟨fun a U g mk q => by obtain ⟨q0, q1, qP, qK, qM⟩ := q; exact ⟨q0, q1, qP, va_K.moved (u := U) (U := U.calling g mk a) (Vm.Alike.refl U.vm) qK, qM⟩, va_recv hK hP (ci := 4) (q0 := 6) rfl ((fw_get (by decide)).trans (by rw [(sE_rowO rowB_6)])), fun U hU hW => ⟨rfl, by rw [hU], by rw [hU]; exact hP, va_K.moved hW.alike hK, xM_warm hW hM⟩⟩ rfl rfl hl.1 rfl (lv_room (Nat.le_of_ble_eq_true rfl)) dX9_clear_12 ⟨Nat.le_of_ble_eq_true rfl, Nat.le_of_ble_eq_true rfl⟩) hS (fun q _ h => fA_le hS.1 q h) (fA_le hS.1) (fun u9 t9 H1 locs ht9 hvm9 hw9 hB9 hz9 hk9 hS => ?_)
  obtain ⟨hP, -⟩ := hB9
  rw [ht9] at hP
  generalize H1 = H at hP hS ⊢
  obtain ⟨μe, eμe⟩ : ∃ x : va_M, x = u9 := ⟨_, rfl⟩
  rw [← eμe] at hP hw9
  have hμe := hw9; clear hw9
  have he := hμe
  have O0 : outS μe 6 1100 0 := outS_0 (fun i => by rw [he, uz_n (by omega), uz_n (by omega)]; exact hI.1.2.2.1.1 i) (by rw [he, uz_n (by omega), uz_s]) (by rw [he, uz_s])
  have M0 : mA μe 6 1100 := fun y => by rw [he, uz_n (by omega), uz_n (by omega)]; exact hI.1.2.2.1.2.1 y
  have w1_ : rW0 (Std.DTreeMap.Internal.Impl.leaf : Rw) := trivial
  have w2_ : sL (Std.DTreeMap.Internal.Impl.leaf : Rw) ≤ 1100 := Nat.zero_le _
  have w3_ : (μe 6 7 = 0 ∧ SA μe (6 + 1) .leaf 0 ∧ μe 6 5 = sL (Std.DTreeMap.Internal.Impl.leaf : Rw)) ∨ (μe 6 7 = 1 ∧ (Std.DTreeMap.Internal.Impl.leaf : Rw) = .leaf) := Or.inl ⟨by rw [he, uz_s], trivial, by rw [he, uz_n (by omega), uz_s]; rfl⟩
  refine lv_aload_n hx hb dX9_clear_15 rfl (lv_at hl 1 rfl) ?_
  refine fz_get (D := (dC, dI)) (ci := 9) (v := .ref (h0 + 6)) (C := RX9) (T := TX9) (N := 15) hx hb hts inG9 hown hK hP (k := 0) (by decide) (F := (sF0 h0)) sE_0 rfl 3 (by decide) (hts _ k335) (fun _ h9 => h9) rfl dX9_clear_16 ?_
  refine va_callv (va_runV (As := []) (rest := []) ⟨hx, hb, hml, hown, hts⟩ (s_Rseal l dC dI cI cZ cII cIII h0 H.size μe (6) (1100) (.leaf) (rowB_6) (by exact O0.1) (by exact ⟨w1_, w3_⟩)) (cwV 0 hts (gV_G k522 k415 k416 k3 k417) rfl rfl rfl (by decide +kernel) ⟨Nat.le_of_ble_eq_true rfl, Nat.le_of_ble_eq_true rfl⟩) ⟨fun a U g mk q => by obtain ⟨q0, q1, qP, qK, qM⟩ := q; exact ⟨q0, q1, qP, va_K.moved (u := U) (U := U.calling g mk a) (Vm.Alike.refl U.vm) qK, qM⟩, va_recv hK hP (ci := 4) (q0 := 6) rfl ((fw_get (by decide)).trans (by rw [(sE_rowO rowB_6)])), fun U hU hW => ⟨rfl, by rw [hU], by rw [hU]; exact hP, va_K.moved hW.alike hK, xM_warm hW hM⟩⟩ rfl rfl hl.1 rfl (lv_room (Nat.le_of_ble_eq_true rfl)) dX9_clear_19 ⟨Nat.le_of_ble_eq_true rfl, Nat.le_of_ble_eq_true rfl⟩) hS (fun q _ h => fA_le hS.1 q h) (fA_le hS.1) (fun u9 t9 H1 locs ht9 hvm9 hw9 hB9 hz9 hk9 hS => ?_)
  obtain ⟨hP, -⟩ := hB9
  rw [ht9] at hP
  generalize H1 = H at hP hS ⊢
  obtain ⟨μs, eμs⟩ : ∃ x : va_M, x = u9 := ⟨_, rfl⟩
  rw [← eμs] at hP hw9
  have hμs := hw9; clear hw9
  obtain ⟨r5_, f5_⟩ := hμs
  have G9 := rG_seal w1_ w2_ w3_ O0.2.1 M0 r5_ f5_
  have f6_ : fr (fun x _ => 6 ≤ x ∧ x < 12) μ μs := fr_trans (by rw [he]; exact fr_uz (fr_uz fr_rfl (by omega)) (by omega)) (fr_mono f5_ (fun x y h => by unfold SEw SEq at h; omega))
  refine lv_aload_n hx hb dX9_clear_22 rfl (lv_at hl 1 rfl) ?_
  refine fz_get (D := (dC, dI)) (ci := 9) (v := .ref (h0 + 18)) (C := RX9) (T := TX9) (N := 15) hx hb hts inG9 hown hK hP (k := 0) (by decide) (F := (sF0 h0)) sE_0 rfl 7 (by decide) (hts _ k339) (fun _ h9 => h9) rfl dX9_clear_23 ?_
  refine lv_iconst (v := iZ 0) hx hb dX9_clear_26 rfl ?_
  refine fz_put (D := (dC, dI)) (ci := 3) (ty := .int) (z := 0) (C := RX3) (T := TX3) (N := 5) hx hb hts inG3 tyX3 tyX3_ok nmX3 hown hK hP fA_in hS (k := 18) (by decide) (F := (sF18 h0)) sE_18 rfl 4 (by decide) (hts _ k135) (fun _ h9 => h9) rfl (by decide +kernel) rfl rfl (fun _ => Nat.le_of_ble_eq_true rfl) (fun _ _ => rfl) dX9_clear_27 (fun H locs hP hS => ?_)
  obtain ⟨μ3, eμ3⟩ : ∃ x : va_M, x = uz μs 18 4 (0) := ⟨_, rfl⟩
  rw [← eμ3] at hP
  have f7_ : fr (fun x y => (6 ≤ x ∧ x < 12) ∨ (x = 18 ∧ y = 4)) μ μ3 := by rw [eμ3]; exact fr_uz (fr_mono f6_ (fun x y h => Or.inl h)) (by omega)
  have q0_ : μ3 18 4 = 0 := by rw [eμ3, uz_s]
  have P9 : pstOK μ3 := by
    obtain ⟨h1, h2⟩ := hI.1.2.2.2.2.1
    refine ⟨⟨by rw [f7_ _ _ (by omega)]; exact h1.1, by omega, by omega⟩, fun k hk => ?_⟩
    obtain ⟨k1, w8, k2, k3, k4, k5⟩ := h2 k hk
    exact ⟨fun i => by rw [f7_ _ _ (by omega)]; exact k1 i, w8, k2, SA_fr (fun y => f7_ _ _ (by omega)) w8 0 k3, by rw [f7_ _ _ (by omega)]; exact k4, k5⟩
  have C9 : CI0 T μ3 := CI_ch hI.1 (fun x y q => f7_ _ _ (by omega)) (Or.inr (fun x y q1 q2 => f7_ _ _ (by omega))) (Or.inl (rG_fr G9 (fun x y q1 q2 => by rw [eμ3, uz_n (by omega)]))) (Or.inr (fun x y q1 q2 => f7_ _ _ (by omega))) (Or.inl P9) (Or.inr (fun x y q => f7_ _ _ (by omega))) (Or.inr (fun x y q1 q2 => f7_ _ _ (by omega)))
  have S9 : SP μ μ3 := fun x y q => f7_ _ _ (by omega)
  skip
  have sk9_ : SKc .leaf [] μ3 := ⟨rowS_fr9 r5_ (fun x y q1 q2 => by rw [eμ3, uz_n (by omega)]), pstX_0 q0_⟩
  skip
  refine lv_aload_n hx hb dX9_clear_30 rfl (lv_at hl 1 rfl) ?_
  refine lv_dup hx hb dX9_clear_31 rfl ?_
  refine fz_get (D := (dC, dI)) (ci := 9) (v := .int (iZ (μ3 0 6))) (C := RX9) (T := TX9) (N := 15) hx hb hts inG9 hown hK hP (k := 0) (by decide) (F := (sF0 h0)) sE_0 rfl 6 (by decide) (hts _ k338) (fun _ h9 => h9) rfl dX9_clear_32 ?_
  rw [show μ3 0 6 = μs 0 6 from by rw [eμ3, uz_n (by omega)]]
  refine lv_iconst (v := iZ 1) hx hb dX9_clear_35 rfl ?_
  refine lv_iadd hx hb dX9_clear_36 ?_
  refine lv_topi (fun x9 ex9 => ?_)
  obtain rfl : x9 = iZ ((μs 0 6) + 1) := ex9.trans (iZ_add _ _)
  refine fz_put (D := (dC, dI)) (ci := 9) (ty := .int) (z := ((μs 0 6) + 1)) (C := RX9) (T := TX9) (N := 15) hx hb hts inG9 tyX9 tyX9_ok nmX9 hown hK hP fA_in hS (k := 0) (by decide) (F := (sF0 h0)) sE_0 rfl 6 (by decide) (hts _ k338) (fun _ h9 => h9) rfl (by decide +kernel) rfl rfl (fun _ => Nat.le_of_ble_eq_true rfl) (fun _ _ => rfl) dX9_clear_37 (fun H locs hP hS => ?_)
  obtain ⟨μ4, eμ4⟩ : ∃ x : va_M, x = uz μ3 0 6 ((μs 0 6) + 1) := ⟨_, rfl⟩
  rw [← eμ4] at hP
  refine lv_iload_n hx hb dX9_clear_40 rfl (lv_at hl 0 rfl) ?_
  rw [fw_nz] at hP
  obtain ⟨μ5, eμ5⟩ : ∃ x : va_M, x = nz μ4 := ⟨_, rfl⟩
  rw [← eμ5] at hP
  exact W.iret (v := iZ (r2)) hx hb hr (fun t9 ht9 hW9 => ⟨⟨iZ (r2), (μ5, r2), rfl, ⟨rfl, (by
            dsimp only
            rw [eμ5]
            have FZ : fr Zc μ3 μ4 := by rw [eμ4]; exact fr_uz (fr_rfl) (by unfold Zc; omega)
            exact ⟨CI_nz (CI_z C9 FZ), SP_nz (SP_tr S9 (fun x y q => FZ _ _ (by unfold Zc; omega))), hs3_, SKc_nz (SKc_fr sk9_ (fun x y q => by rw [eμ4, uz_n (by omega)]))⟩)⟩, by rw [ht9]; exact hP, va_K.moved hW9.alike hK⟩, hS.F ht9⟩) hS.2.2 dX9_clear_41
set_option maxHeartbeats 4000000 in
set_option maxRecDepth 100000 in
theorem t_tidied (l : Launch) (hfl : l.stackTraces = false) (dC : Nat → ClassId) (dI : Nat → Nat → Nat) (cI cZ cII cIII : ClassId) (h0 sz : Nat) (μ : va_M) (wh : Int) (T : List Tk) (Wk : Rw) (Bs : List Rw) (hI : CI T μ) (h_wh : inR wh) (hSK : SKc Wk Bs μ) (hl16 : Bs.length ≤ 16) (hWw : rWF Wk) (hWd : rAd Wk) (hcapW : ∀ y : Rw, TQ Wk y → (sL y : Int) ≤ (1100 : Nat)) : vx_Met l yX9_tidied (Cond.code yX9_tidied cX9_tidied 3 (some .int) :: wsG) ({ frames := 8, cells := 1, slots := 6, locals := 197 } : Room) (va_Pc [.ref h0, .int (iZ (wh))] (fun U => U.heap.size = sz ∧ va_P (dC, dI) vwCl (fw (sE cI cZ cII cIII h0) h0 233 μ) U.heap ∧ va_K (dC, dI) vwCl (sT cI cZ cII cIII) U ∧ xM U ∧ xX (fA h0 233 sz) U)) (va_Qi (fun (r9 : Int32) (u : va_M × Int) => r9 = iZ u.2 ∧ (fun (u : va_M) (r : Int) => CI T u ∧ SZ μ u) u.1 u.2) (fun u t => va_P (dC, dI) vwCl (fw (sE cI cZ cII cIII h0) h0 233 u.1) t.heap ∧ va_K (dC, dI) vwCl (sT cI cZ cII cIII) t) (fA h0 233 sz)) (vx_X (fun (u : va_M) => CI T u ∧ SZ μ u) (fun E u t => E ∈ (["java/lang/IllegalArgumentException"] : List String) ∧ va_P (dC, dI) vwCl (fw (sE cI cZ cII cIII h0) h0 233 u) t.heap ∧ va_K (dC, dI) vwCl (sT cI cZ cII cIII) t) (fA h0 233 sz)) 1 6 (fA h0 233 sz) := by
  refine vx_ofW (cc := cX9_tidied) (maxL := 3) (ret := (some .int)) (by decide) rfl ?_
  intro p e s m args below meth c s₁ B hml hnt hv
  obtain ⟨rfl, hsz, hP, hK, hM, hEx⟩ := hv
  have hx := B.exec
  have hb := B.bytes
  have hr := B.returns
  have hts : ∀ w ∈ wsG, w.before _ s = true := hG_of (atoms_spec (ws := (Cond.code yX9_tidied cX9_tidied 3 (some .int) :: wsG)) B.pre)
  have hown : s.vm.findClass RX9 = some m.cls := findClass_of_methodNamed B.named
  have hlocks := B.notSynchronized
  subst hsz
  have hS : va_S (fA h0 233 s.heap.size) s.heap s.heap [] := va_S.rf
  have hl := lv_entry ([.ref h0, .int (iZ (wh))]) (n := 3) (Nat.le_of_ble_eq_true rfl)
  rw [lg_entry_eq]
  generalize (lg_sl ([.ref h0, .int (iZ (wh))]) ++ List.replicate (3 - (lg_sl ([.ref h0, .int (iZ (wh))])).length) Slot.unset).toArray = ls at hl ⊢
  have hl : lv_has ls 3 [(0, .ref h0), (1, .int (iZ (wh)))] := hl
  have hlc := CI_lc hI
  have h66 := CI_n6 hI
  refine lv_aload_n hx hb dX9_tidied_0 rfl (lv_at hl 0 rfl) ?_
  refine lv_iload_n hx hb dX9_tidied_1 rfl (lv_at hl 1 rfl) ?_
  refine fz_if_lt (tgt := 14) (by first | assumption | (constructor <;> omega) | decide) hx hb dX9_tidied_2 (by decide) (fun c2_ => ?_) (fun c2_ => ?_)
  · refine lv_iconst (v := iZ 0) hx hb dX9_tidied_14 rfl ?_
    refine vx_callv (vx_runV (As := [.int (iZ (0))]) (rest := []) ⟨hx, hb, hml, hown, hts⟩ (x_needArgument l hfl dC dI cI cZ cII cIII h0 s.heap.size μ  ) (cwV 1 hts (gV_G k596 k598 ks_yX9_needArgument k1 k599) rfl rfl rfl (by decide +kernel) ⟨Nat.le_of_ble_eq_true rfl, Nat.le_of_ble_eq_true rfl⟩) ⟨fun a U g mk q => by obtain ⟨q0, q1, qP, qK, qM, qE⟩ := q; exact ⟨q0, q1, qP, va_K.moved (u := U) (U := U.calling g mk a) (Vm.Alike.refl U.vm) qK, qM, xX_call qE⟩, va_recv hK hP (ci := 9) (q0 := 0) rfl ((fw_get (by decide)).trans (by rw [sE_0]; rfl)), fun U hU hW => ⟨rfl, by rw [hU], by rw [hU]; exact hP, va_K.moved hW.alike hK, xM_warm hW hM, xX_at hEx hS (fun q h => fA_le hS.1 q h) hU hW⟩⟩ rfl rfl hl.1 rfl (lv_room (Nat.le_of_ble_eq_true rfl)) dX9_tidied_15 ⟨Nat.le_of_ble_eq_true rfl, Nat.le_of_ble_eq_true rfl⟩) hS (fun q _ h => fA_le hS.1 q h) (fA_le hS.1) (fun q _ h => fA_le hS.1 q h) (fun E9 ce9 q9 u9 t9 H1 locs ht9 hvm9 hpx9 hBX9 hz9 hk9 hS hce9 hcv9 hcl9 => ?_) (fun u9 t9 H1 locs ht9 hvm9 hw9 hB9 hz9 hk9 hS => hw9.elim)
    obtain ⟨hE9, hP9, hK9⟩ := hBX9
    exact vx_out (fun x hx9 => (hnt x hx9).elim) hlocks hce9 hcv9 hcl9 (fun t8 ht8 hW8 => ⟨u9, (by
                show CI T u9 ∧ SZ μ u9
                exact CZ_thr hI hpx9), ⟨hE9, by rw [ht8, ← ht9]; exact hP9, va_K.moved hW8 hK⟩, hS.F ht8⟩) hS.2.2 (Nat.le_of_ble_eq_true rfl) (Nat.le_of_ble_eq_true rfl)
  · refine lv_iload_n hx hb dX9_tidied_5 rfl (lv_at hl 1 rfl) ?_
    refine lv_iconst (v := iZ 3) hx hb dX9_tidied_6 rfl ?_
    refine fz_icmp_gt (tgt := 14) (by first | assumption | (constructor <;> omega) | decide) (by decide) hx hb dX9_tidied_7 (by decide) (fun c7_ => ?_) (fun c7_ => ?_)
    · refine lv_iconst (v := iZ 0) hx hb dX9_tidied_14 rfl ?_
      refine vx_callv (vx_runV (As := [.int (iZ (0))]) (rest := []) ⟨hx, hb, hml, hown, hts⟩ (x_needArgument l hfl dC dI cI cZ cII cIII h0 s.heap.size μ  ) (cwV 1 hts (gV_G k596 k598 ks_yX9_needArgument k1 k599) rfl rfl rfl (by decide +kernel) ⟨Nat.le_of_ble_eq_true rfl, Nat.le_of_ble_eq_true rfl⟩) ⟨fun a U g mk q => by obtain ⟨q0, q1, qP, qK, qM, qE⟩ := q; exact ⟨q0, q1, qP, va_K.moved (u := U) (U := U.calling g mk a) (Vm.Alike.refl U.vm) qK, qM, xX_call qE⟩, va_recv hK hP (ci := 9) (q0 := 0) rfl ((fw_get (by decide)).trans (by rw [sE_0]; rfl)), fun U hU hW => ⟨rfl, by rw [hU], by rw [hU]; exact hP, va_K.moved hW.alike hK, xM_warm hW hM, xX_at hEx hS (fun q h => fA_le hS.1 q h) hU hW⟩⟩ rfl rfl hl.1 rfl (lv_room (Nat.le_of_ble_eq_true rfl)) dX9_tidied_15 ⟨Nat.le_of_ble_eq_true rfl, Nat.le_of_ble_eq_true rfl⟩) hS (fun q _ h => fA_le hS.1 q h) (fA_le hS.1) (fun q _ h => fA_le hS.1 q h) (fun E9 ce9 q9 u9 t9 H1 locs ht9 hvm9 hpx9 hBX9 hz9 hk9 hS hce9 hcv9 hcl9 => ?_) (fun u9 t9 H1 locs ht9 hvm9 hw9 hB9 hz9 hk9 hS => hw9.elim)
      obtain ⟨hE9, hP9, hK9⟩ := hBX9
      exact vx_out (fun x hx9 => (hnt x hx9).elim) hlocks hce9 hcv9 hcl9 (fun t8 ht8 hW8 => ⟨u9, (by
                    show CI T u9 ∧ SZ μ u9
                    exact CZ_thr hI hpx9), ⟨hE9, by rw [ht8, ← ht9]; exact hP9, va_K.moved hW8 hK⟩, hS.F ht8⟩) hS.2.2 (Nat.le_of_ble_eq_true rfl) (Nat.le_of_ble_eq_true rfl)
    · refine lv_iconst (v := iZ 1) hx hb dX9_tidied_10 rfl ?_
      refine lv_goto (tgt := 15) hx hb dX9_tidied_11 (by decide) ?_
      refine va_callv (va_runV (As := [.int (iZ (1))]) (rest := []) ⟨hx, hb, hml, hown, hts⟩ (s_needArgument l dC dI cI cZ cII cIII h0 s.heap.size μ  ) (cwV 1 hts (gV_G k596 k598 ks_yX9_needArgument k1 k599) rfl rfl rfl (by decide +kernel) ⟨Nat.le_of_ble_eq_true rfl, Nat.le_of_ble_eq_true rfl⟩) ⟨fun a U g mk q => by obtain ⟨q0, q1, qP, qK, qM⟩ := q; exact ⟨q0, q1, qP, va_K.moved (u := U) (U := U.calling g mk a) (Vm.Alike.refl U.vm) qK, qM⟩, va_recv hK hP (ci := 9) (q0 := 0) rfl ((fw_get (by decide)).trans (by rw [sE_0]; rfl)), fun U hU hW => ⟨rfl, by rw [hU], by rw [hU]; exact hP, va_K.moved hW.alike hK, xM_warm hW hM⟩⟩ rfl rfl hl.1 rfl (lv_room (Nat.le_of_ble_eq_true rfl)) dX9_tidied_15 ⟨Nat.le_of_ble_eq_true rfl, Nat.le_of_ble_eq_true rfl⟩) hS (fun q _ h => fA_le hS.1 q h) (fA_le hS.1) (fun u9 t9 H1 locs ht9 hvm9 hw9 hB9 hz9 hk9 hS => ?_)
      obtain ⟨hP, -⟩ := hB9
      rw [ht9] at hP
      generalize H1 = H at hP hS ⊢
      obtain ⟨μ1, eμ1⟩ : ∃ x : va_M, x = u9 := ⟨_, rfl⟩
      rw [← eμ1] at hP hw9
      have hμ1 := hw9; clear hw9
      rw [hμ1] at hP
      refine lv_aload_n hx hb dX9_tidied_18 rfl (lv_at hl 0 rfl) ?_
      refine va_calli (va_runV (As := []) (rest := []) ⟨hx, hb, hml, hown, hts⟩ (s_tryToTidy2 l dC dI cI cZ cII cIII h0 H.size μ (T) (Wk) (by exact hI) (by exact hSK.1) (by exact hWw) (by exact hWd) (by exact hcapW)) (cwV 0 hts (gV_G k394 k396 ks_yX9_tryToTidy k1 k397) rfl rfl rfl (by decide +kernel) ⟨Nat.le_of_ble_eq_true rfl, Nat.le_of_ble_eq_true rfl⟩) ⟨fun a U g mk q => by obtain ⟨q0, q1, qP, qK, qM⟩ := q; exact ⟨q0, q1, qP, va_K.moved (u := U) (U := U.calling g mk a) (Vm.Alike.refl U.vm) qK, qM⟩, va_recv hK hP (ci := 9) (q0 := 0) rfl ((fw_get (by decide)).trans (by rw [sE_0]; rfl)), fun U hU hW => ⟨rfl, by rw [hU], by rw [hU]; exact hP, va_K.moved hW.alike hK, xM_warm hW hM⟩⟩ rfl rfl hl.1 rfl (lv_room (Nat.le_of_ble_eq_true rfl)) dX9_tidied_19 ⟨Nat.le_of_ble_eq_true rfl, Nat.le_of_ble_eq_true rfl⟩) hS (fun q _ h => fA_le hS.1 q h) (fA_le hS.1) (fun r9 u9 t9 H1 locs ht9 hvm9 hw9 hB9 hz9 hk9 hS => ?_)
      obtain ⟨μl, rl⟩ := u9
      obtain ⟨hP, -⟩ := hB9
      rw [ht9] at hP
      generalize H1 = H at hP hS ⊢
      obtain ⟨e9, hw9⟩ := hw9
      have e9 : r9 = iZ rl := e9
      subst e9
      simp only at hP hw9
      have hμl := hw9; clear hw9
      obtain ⟨c0_, f1_, -⟩ := hμl
      have cz_ := CZ_r12 hI c0_ (fr_mono f1_ (fun x y h => by omega))
      have g12 := c0_.2.2.2.1
      have ln12 := rG_len g12
      refine lv_istore_n (lv' := [(2, .int (iZ (rl))), (0, .ref h0), (1, .int (iZ (wh)))]) hx hb dX9_tidied_22 rfl hl (by decide) rfl (fun ls hl => ?_)
      refine lv_iload_n hx hb dX9_tidied_23 rfl (lv_at hl 2 rfl) ?_
      by_cases hc24_0 : wh = 0
      · refine lv_tableIn (tgt := 52) (off := 28) hx hb dX9_tidied_24 (by rw [iZ_toInt (by first | assumption | (constructor <;> omega) | decide), hc24_0]; decide +kernel) (by rw [iZ_toInt (by first | assumption | (constructor <;> omega) | decide), hc24_0]; decide +kernel) (by rw [iZ_toInt (by first | assumption | (constructor <;> omega) | decide), hc24_0]; decide +kernel) (by decide) ?_
        refine lv_iload_n hx hb dX9_tidied_52 rfl (lv_at hl 0 rfl) ?_
        exact W_widen (Nat.le_of_ble_eq_true rfl) (Nat.le_of_ble_eq_true rfl) (vx_ret (W.iret (v := iZ (rl)) hx hb hr (fun t9 ht9 hW9 => ⟨⟨iZ (rl), (μl, rl), rfl, ⟨rfl, (by
                        dsimp only
                        exact cz_)⟩, by rw [ht9]; exact hP, va_K.moved hW9.alike hK⟩, hS.F ht9⟩) hS.2.2 dX9_tidied_53))
      · skip
        by_cases hc24_1 : wh = 1
        · refine lv_tableIn (tgt := 54) (off := 30) hx hb dX9_tidied_24 (by rw [iZ_toInt (by first | assumption | (constructor <;> omega) | decide), hc24_1]; decide +kernel) (by rw [iZ_toInt (by first | assumption | (constructor <;> omega) | decide), hc24_1]; decide +kernel) (by rw [iZ_toInt (by first | assumption | (constructor <;> omega) | decide), hc24_1]; decide +kernel) (by decide) ?_
          refine lv_aload_n hx hb dX9_tidied_54 rfl (lv_at hl 1 rfl) ?_
          refine fz_get (D := (dC, dI)) (ci := 9) (v := .ref (h0 + 12)) (C := RX9) (T := TX9) (N := 15) hx hb hts inG9 hown hK hP (k := 0) (by decide) (F := (sF0 h0)) sE_0 rfl 4 (by decide) (hts _ k336) (fun _ h9 => h9) rfl dX9_tidied_55 ?_
          refine va_calli (va_runV (As := []) (rest := []) ⟨hx, hb, hml, hown, hts⟩ (s_Rsize l dC dI cI cZ cII cIII h0 H.size μl (12) (1100) (rowB_12) (by exact ln12)) (cwV 0 hts (gV_G k513 k514 k515 k3 k516) rfl rfl rfl (by decide +kernel) ⟨Nat.le_of_ble_eq_true rfl, Nat.le_of_ble_eq_true rfl⟩) ⟨fun a U g mk q => by obtain ⟨q0, q1, qP, qK, qM⟩ := q; exact ⟨q0, q1, qP, va_K.moved (u := U) (U := U.calling g mk a) (Vm.Alike.refl U.vm) qK, qM⟩, va_recv hK hP (ci := 4) (q0 := 12) rfl ((fw_get (by decide)).trans (by rw [(sE_rowO rowB_12)])), fun U hU hW => ⟨rfl, by rw [hU], by rw [hU]; exact hP, va_K.moved hW.alike hK, xM_warm hW hM⟩⟩ rfl rfl hl.1 rfl (lv_room (Nat.le_of_ble_eq_true rfl)) dX9_tidied_58 ⟨Nat.le_of_ble_eq_true rfl, Nat.le_of_ble_eq_true rfl⟩) hS (fun q _ h => fA_le hS.1 q h) (fA_le hS.1) (fun r9 u9 t9 H1 locs ht9 hvm9 hw9 hB9 hz9 hk9 hS => ?_)
          obtain ⟨μ2, r3⟩ := u9
          obtain ⟨hP, -⟩ := hB9
          rw [ht9] at hP
          generalize H1 = H at hP hS ⊢
          obtain ⟨e9, hw9⟩ := hw9
          have e9 : r9 = iZ r3 := e9
          subst e9
          simp only at hP hw9
          have hμ2 := hw9; clear hw9
          rw [hμ2.1] at hP; have hμ2 := hμ2.2
          exact W_widen (Nat.le_of_ble_eq_true rfl) (Nat.le_of_ble_eq_true rfl) (vx_ret (W.iret (v := iZ (r3)) hx hb hr (fun t9 ht9 hW9 => ⟨⟨iZ (r3), (μl, r3), rfl, ⟨rfl, (by
                            dsimp only
                            exact cz_)⟩, by rw [ht9]; exact hP, va_K.moved hW9.alike hK⟩, hS.F ht9⟩) hS.2.2 dX9_tidied_61))
        · skip
          by_cases hc24_2 : wh = 2
          · refine lv_tableIn (tgt := 62) (off := 38) hx hb dX9_tidied_24 (by rw [iZ_toInt (by first | assumption | (constructor <;> omega) | decide), hc24_2]; decide +kernel) (by rw [iZ_toInt (by first | assumption | (constructor <;> omega) | decide), hc24_2]; decide +kernel) (by rw [iZ_toInt (by first | assumption | (constructor <;> omega) | decide), hc24_2]; decide +kernel) (by decide) ?_
            refine lv_aload_n hx hb dX9_tidied_62 rfl (lv_at hl 1 rfl) ?_
            refine fz_get (D := (dC, dI)) (ci := 9) (v := .ref (h0 + 12)) (C := RX9) (T := TX9) (N := 15) hx hb hts inG9 hown hK hP (k := 0) (by decide) (F := (sF0 h0)) sE_0 rfl 4 (by decide) (hts _ k336) (fun _ h9 => h9) rfl dX9_tidied_63 ?_
            refine fz_get (D := (dC, dI)) (ci := 4) (v := .int (iZ (μl 12 6))) (C := RX4) (T := TX4) (N := 8) hx hb hts inG4 hown hK hP (k := 12) (by decide) (F := (sRF h0 12)) (sE_rowO rowB_12) rfl 6 (by decide) (hts _ k101) (fun _ h9 => h9) rfl dX9_tidied_66 ?_
            exact W_widen (Nat.le_of_ble_eq_true rfl) (Nat.le_of_ble_eq_true rfl) (vx_ret (W.iret (v := iZ (μl 12 6)) hx hb hr (fun t9 ht9 hW9 => ⟨⟨iZ (μl 12 6), (μl, μl 12 6), rfl, ⟨rfl, (by
                                dsimp only
                                exact cz_)⟩, by rw [ht9]; exact hP, va_K.moved hW9.alike hK⟩, hS.F ht9⟩) hS.2.2 dX9_tidied_69))
          · skip
            refine lv_tableOut (tgt := 70) hx hb dX9_tidied_24 (by rw [iZ_toInt (by first | assumption | (constructor <;> omega) | decide)]; omega) (by decide) ?_
            refine lv_aload_n hx hb dX9_tidied_70 rfl (lv_at hl 1 rfl) ?_
            refine lv_aload_n hx hb dX9_tidied_71 rfl (lv_at hl 1 rfl) ?_
            refine fz_get (D := (dC, dI)) (ci := 9) (v := .ref (h0 + 12)) (C := RX9) (T := TX9) (N := 15) hx hb hts inG9 hown hK hP (k := 0) (by decide) (F := (sF0 h0)) sE_0 rfl 4 (by decide) (hts _ k336) (fun _ h9 => h9) rfl dX9_tidied_72 ?_
            refine va_calli (va_runV (As := [.ref (h0 + 12)]) (rest := []) ⟨hx, hb, hml, hown, hts⟩ (s_countFitting l dC dI cI cZ cII cIII h0 H.size μl (T) (by exact cz_.1)) (cwV 1 hts (gV_G k844 k846 ks_yX9_countFitting k1 k847) rfl rfl rfl (by decide +kernel) ⟨Nat.le_of_ble_eq_true rfl, Nat.le_of_ble_eq_true rfl⟩) ⟨fun a U g mk q => by obtain ⟨q0, q1, qP, qK, qM⟩ := q; exact ⟨q0, q1, qP, va_K.moved (u := U) (U := U.calling g mk a) (Vm.Alike.refl U.vm) qK, qM⟩, va_recv hK hP (ci := 9) (q0 := 0) rfl ((fw_get (by decide)).trans (by rw [sE_0]; rfl)), fun U hU hW => ⟨rfl, by rw [hU], by rw [hU]; exact hP, va_K.moved hW.alike hK, xM_warm hW hM⟩⟩ rfl rfl hl.1 rfl (lv_room (Nat.le_of_ble_eq_true rfl)) dX9_tidied_75 ⟨Nat.le_of_ble_eq_true rfl, Nat.le_of_ble_eq_true rfl⟩) hS (fun q _ h => fA_le hS.1 q h) (fA_le hS.1) (fun r9 u9 t9 H1 locs ht9 hvm9 hw9 hB9 hz9 hk9 hS => ?_)
            obtain ⟨μg, rg⟩ := u9
            obtain ⟨hP, -⟩ := hB9
            rw [ht9] at hP
            generalize H1 = H at hP hS ⊢
            obtain ⟨e9, hw9⟩ := hw9
            have e9 : r9 = iZ rg := e9
            subst e9
            simp only at hP hw9
            have hμg := hw9; clear hw9
            obtain ⟨f2_, a2_⟩ := hμg
            have cw_ := CZ_wk cz_.1 f2_ a2_
            exact W_widen (Nat.le_of_ble_eq_true rfl) (Nat.le_of_ble_eq_true rfl) (vx_ret (W.iret (v := iZ (rg)) hx hb hr (fun t9 ht9 hW9 => ⟨⟨iZ (rg), (μg, rg), rfl, ⟨rfl, (by
                                dsimp only
                                exact ⟨cw_.1, SZ_tr cz_.2 cw_.2⟩)⟩, by rw [ht9]; exact hP, va_K.moved hW9.alike hK⟩, hS.F ht9⟩) hS.2.2 dX9_tidied_78))

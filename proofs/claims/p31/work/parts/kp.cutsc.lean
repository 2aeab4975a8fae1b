
/-! cuts of the class, told whole -/
set_option maxHeartbeats 4000000 in
set_option maxRecDepth 100000 in
theorem t_cuts (l : Launch) (hfl : l.stackTraces = false) (dC : Nat → ClassId) (dI : Nat → Nat → Nat) (cI cZ cII cIII : ClassId) (h0 sz : Nat) (μ : va_M) (pg : Int) (T : List Tk) (Wk : Rw) (hI : CI T μ) (h_pg : inR pg) (hWr : rowS μ 6 Wk) (hWw : rWF Wk) (hOF : rOF Wk) : vx_Met l yX9_cuts (Cond.code yX9_cuts cX9_cuts 3 (some .int) :: wsG) ({ frames := 8, cells := 1, slots := 6, locals := 131 } : Room) (va_Pc [.ref h0, .int (iZ (pg))] (fun U => U.heap.size = sz ∧ va_P (dC, dI) vwCl (fw (sE cI cZ cII cIII h0) h0 233 μ) U.heap ∧ va_K (dC, dI) vwCl (sT cI cZ cII cIII) U ∧ xM U ∧ xX (fA h0 233 sz) U)) (va_Qi (fun (r9 : Int32) (u : va_M × Int) => r9 = iZ u.2 ∧ (fun (u : va_M) (r : Int) => CI T u ∧ SZ μ u ∧ (0 ≤ pg ∧ pg < μ 0 2) ∧ cuR Wk (μ ((113 + (pg).toNat * 15) + 2)) (μ (113 + (pg).toNat * 15) 2).toNat r) u.1 u.2) (fun u t => va_P (dC, dI) vwCl (fw (sE cI cZ cII cIII h0) h0 233 u.1) t.heap ∧ va_K (dC, dI) vwCl (sT cI cZ cII cIII) t) (fA h0 233 sz)) (vx_X (fun (u : va_M) => CI T u ∧ SZ μ u) (fun E u t => E ∈ (["java/util/NoSuchElementException"] : List String) ∧ va_P (dC, dI) vwCl (fw (sE cI cZ cII cIII h0) h0 233 u) t.heap ∧ va_K (dC, dI) vwCl (sT cI cZ cII cIII) t ∧ ((E = "java/util/NoSuchElementException" → cd2 (0 ≤ pg ∧ pg < μ 0 2) (True) = 1) ∧ (E = "-" → cd2 (0 ≤ pg ∧ pg < μ 0 2) (True) = 2))) (fA h0 233 sz)) 1 6 (fA h0 233 sz) := by
  refine vx_ofW (cc := cX9_cuts) (maxL := 3) (ret := (some .int)) (by decide) rfl ?_
  intro p e s m args below meth c s₁ B hml hnt hv
  obtain ⟨rfl, hsz, hP, hK, hM, hEx⟩ := hv
  have hx := B.exec
  have hb := B.bytes
  have hr := B.returns
  have hts : ∀ w ∈ wsG, w.before _ s = true := hG_of (atoms_spec (ws := (Cond.code yX9_cuts cX9_cuts 3 (some .int) :: wsG)) B.pre)
  have hown : s.vm.findClass RX9 = some m.cls := findClass_of_methodNamed B.named
  have hlocks := B.notSynchronized
  subst hsz
  have hS : va_S (fA h0 233 s.heap.size) s.heap s.heap [] := va_S.rf
  have hl := lv_entry ([.ref h0, .int (iZ (pg))]) (n := 3) (Nat.le_of_ble_eq_true rfl)
  rw [lg_entry_eq]
  generalize (lg_sl ([.ref h0, .int (iZ (pg))]) ++ List.replicate (3 - (lg_sl ([.ref h0, .int (iZ (pg))])).length) Slot.unset).toArray = ls at hl ⊢
  have hl : lv_has ls 3 [(0, .ref h0), (1, .int (iZ (pg)))] := hl
  have hlc := CI_lc hI
  have h66 := CI_n6 hI
  refine lv_aload_n hx hb dX9_cuts_0 rfl (lv_at hl 0 rfl) ?_
  refine lv_iload_n hx hb dX9_cuts_1 rfl (lv_at hl 1 rfl) ?_
  by_cases hn2_ : 0 ≤ pg ∧ pg < μ 0 2
  · refine va_callv (va_runV (As := [.int (iZ (pg))]) (rest := []) ⟨hx, hb, hml, hown, hts⟩ (s_needPage l dC dI cI cZ cII cIII h0 s.heap.size μ (pg) (by first | assumption | omega | exact CI_lc hI | exact CI_cn hI | exact (CI_n6 hI).1 | decide) (by first | assumption | omega | exact CI_lc hI | exact CI_cn hI | exact (CI_n6 hI).1 | decide) (by exact hn2_)) (cwV 1 hts (gV_G k735 k737 ks_yX9_needPage k1 k738) rfl rfl rfl (by decide +kernel) ⟨Nat.le_of_ble_eq_true rfl, Nat.le_of_ble_eq_true rfl⟩) ⟨fun a U g mk q => by obtain ⟨q0, q1, qP, qK, qM⟩ := q; exact ⟨q0, q1, qP, va_K.moved (u := U) (U := U.calling g mk a) (Vm.Alike.refl U.vm) qK, qM⟩, va_recv hK hP (ci := 9) (q0 := 0) rfl ((fw_get (by decide)).trans (by rw [sE_0]; rfl)), fun U hU hW => ⟨rfl, by rw [hU], by rw [hU]; exact hP, va_K.moved hW.alike hK, xM_warm hW hM⟩⟩ rfl rfl hl.1 rfl (lv_room (Nat.le_of_ble_eq_true rfl)) dX9_cuts_2 ⟨Nat.le_of_ble_eq_true rfl, Nat.le_of_ble_eq_true rfl⟩) hS (fun q _ h => fA_le hS.1 q h) (fA_le hS.1) (fun u9 t9 H1 locs ht9 hvm9 hw9 hB9 hz9 hk9 hS => ?_)
    obtain ⟨hP, -⟩ := hB9
    rw [ht9] at hP
    generalize H1 = H at hP hS ⊢
    obtain ⟨μ1, eμ1⟩ : ∃ x : va_M, x = u9 := ⟨_, rfl⟩
    rw [← eμ1] at hP hw9
    have hμ1 := hw9; clear hw9
    rw [hμ1] at hP
    obtain ⟨hl1, hl2⟩ := CI_lf hI pg (by omega) (by omega)
    have hn9 := hl1.1.1
    refine lv_aload_n hx hb dX9_cuts_5 rfl (lv_at hl 0 rfl) ?_
    refine fz_get (D := (dC, dI)) (ci := 9) (v := .ref (h0 + 45)) (C := RX9) (T := TX9) (N := 15) hx hb hts inG9 hown hK hP (k := 0) (by decide) (F := (sF0 h0)) sE_0 rfl 10 (by decide) (hts _ k342) (fun _ h9 => h9) rfl dX9_cuts_6 ?_
    refine lv_aload_n hx hb dX9_cuts_9 rfl (lv_at hl 0 rfl) ?_
    refine fz_get (D := (dC, dI)) (ci := 9) (v := .ref (h0 + 6)) (C := RX9) (T := TX9) (N := 15) hx hb hts inG9 hown hK hP (k := 0) (by decide) (F := (sF0 h0)) sE_0 rfl 3 (by decide) (hts _ k335) (fun _ h9 => h9) rfl dX9_cuts_10 ?_
    refine lv_aload_n hx hb dX9_cuts_13 rfl (lv_at hl 0 rfl) ?_
    refine fz_get (D := (dC, dI)) (ci := 9) (v := .ref (h0 + 5)) (C := RX9) (T := TX9) (N := 15) hx hb hts inG9 hown hK hP (k := 0) (by decide) (F := (sF0 h0)) sE_0 rfl 1 (by decide) (hts _ k333) (fun _ h9 => h9) rfl dX9_cuts_14 ?_
    refine lv_iload_n hx hb dX9_cuts_17 rfl (lv_at hl 1 rfl) ?_
    refine fz_ald (k := 5) (n := 8) (k2 := (113 + (pg).toNat * 15)) hx hb hK hP 1 rfl (by decide) sE_5 rfl ⟨by omega, by omega⟩ (by decide) (if_pos (by omega)) dX9_cuts_18 ?_
    refine fz_get (D := (dC, dI)) (ci := 1) (v := .ref (h0 + ((113 + (pg).toNat * 15) + 2))) (C := RX1) (T := TX1) (N := 8) hx hb hts inG1 hown hK hP (k := (113 + (pg).toNat * 15)) (by omega) (F := (sLF h0 (113 + (pg).toNat * 15))) (sE_leafO (show (pg).toNat < 8 by omega) rfl) rfl 1 (by decide) (hts _ k299) (fun _ h9 => h9) rfl dX9_cuts_19 ?_
    refine lv_aload_n hx hb dX9_cuts_22 rfl (lv_at hl 0 rfl) ?_
    refine fz_get (D := (dC, dI)) (ci := 9) (v := .ref (h0 + 5)) (C := RX9) (T := TX9) (N := 15) hx hb hts inG9 hown hK hP (k := 0) (by decide) (F := (sF0 h0)) sE_0 rfl 1 (by decide) (hts _ k333) (fun _ h9 => h9) rfl dX9_cuts_23 ?_
    refine lv_iload_n hx hb dX9_cuts_26 rfl (lv_at hl 1 rfl) ?_
    refine fz_ald (k := 5) (n := 8) (k2 := (113 + (pg).toNat * 15)) hx hb hK hP 1 rfl (by decide) sE_5 rfl ⟨by omega, by omega⟩ (by decide) (if_pos (by omega)) dX9_cuts_27 ?_
    refine fz_get (D := (dC, dI)) (ci := 1) (v := .int (iZ (μ (113 + (pg).toNat * 15) 2))) (C := RX1) (T := TX1) (N := 8) hx hb hts inG1 hown hK hP (k := (113 + (pg).toNat * 15)) (by omega) (F := (sLF h0 (113 + (pg).toNat * 15))) (sE_leafO (show (pg).toNat < 8 by omega) rfl) rfl 2 (by decide) (hts _ k301) (fun _ h9 => h9) rfl dX9_cuts_28 ?_
    refine lv_iconst (v := iZ 1) hx hb dX9_cuts_31 rfl ?_
    refine va_calli (va_runV (As := [.ref (h0 + 6), .ref (h0 + ((113 + (pg).toNat * 15) + 2)), .int (iZ (μ (113 + (pg).toNat * 15) 2)), .int (iZ (1))]) (rest := []) ⟨hx, hb, hml, hown, hts⟩ (s_WgoThrough2 l dC dI cI cZ cII cIII h0 H.size μ (6) (1100) (((113 + (pg).toNat * 15) + 2)) (60) (μ (113 + (pg).toNat * 15) 2) (1) (Wk) (rowB_6) (by exact hI.1.2.2.1) (by exact hI.1.2.2.2.2.2.1) (by omega) ((sE_leafA 2 60 (show (pg).toNat < 8 by omega) rfl (by decide))) (by
                intro j
                have := hl1.2.2.1 j
                constructor <;> omega) (by
                have := hl1.1.1
                omega) (by decide) (by exact hWr) (by exact rWF_0 _ hWw) (by exact hOF)) (cwV 4 hts (gV_G k848 k544 k545 k8 k546) rfl rfl rfl (by decide +kernel) ⟨Nat.le_of_ble_eq_true rfl, Nat.le_of_ble_eq_true rfl⟩) ⟨fun a U g mk q => by obtain ⟨q0, q1, qP, qK, qM⟩ := q; exact ⟨q0, q1, qP, va_K.moved (u := U) (U := U.calling g mk a) (Vm.Alike.refl U.vm) qK, qM⟩, va_recv hK hP (ci := 8) (q0 := 45) rfl ((fw_get (by decide)).trans (by rw [sE_45])), fun U hU hW => ⟨rfl, by rw [hU], by rw [hU]; exact hP, va_K.moved hW.alike hK, xM_warm hW hM⟩⟩ rfl rfl hl.1 rfl (lv_room (Nat.le_of_ble_eq_true rfl)) dX9_cuts_32 ⟨Nat.le_of_ble_eq_true rfl, Nat.le_of_ble_eq_true rfl⟩) hS (fun q _ h => fA_le hS.1 q h) (fA_le hS.1) (fun r9 u9 t9 H1 locs ht9 hvm9 hw9 hB9 hz9 hk9 hS => ?_)
    obtain ⟨μg, rg⟩ := u9
    obtain ⟨hP, -⟩ := hB9
    rw [ht9] at hP
    generalize H1 = H at hP hS ⊢
    obtain ⟨e9, hw9⟩ := hw9
    have e9 : r9 = iZ rg := e9
    subst e9
    simp only at hP hw9
    have hμg := hw9; clear hw9
    obtain ⟨f1_, a1_, r1_, r2_, w1_, hH_⟩ := hμg
    refine lv_istore_n (lv' := [(2, .int (iZ (rg))), (0, .ref h0), (1, .int (iZ (pg)))]) hx hb dX9_cuts_35 rfl hl (by decide) rfl (fun ls hl => ?_)
    refine lv_iload_n hx hb dX9_cuts_36 rfl (lv_at hl 0 rfl) ?_
    refine lv_ldc (v := iZ 1000000) hx hb hown (hts _ k1037) dX9_cuts_37 ?_
    refine fz_icmp_lt (tgt := 46) (by first | assumption | (constructor <;> omega) | decide) (by decide) hx hb dX9_cuts_39 (by decide) (fun c39_ => ?_) (fun c39_ => ?_)
    · refine lv_iload_n hx hb dX9_cuts_46 rfl (lv_at hl 0 rfl) ?_
      exact W_widen (Nat.le_of_ble_eq_true rfl) (Nat.le_of_ble_eq_true rfl) (vx_ret (W.iret (v := iZ (rg)) hx hb hr (fun t9 ht9 hW9 => ⟨⟨iZ (rg), (μg, rg), rfl, ⟨rfl, (by
                    dsimp only
                    obtain ⟨z1_, z2_⟩ := CZ_wk hI f1_ a1_
                    refine ⟨z1_, z2_, ⟨by omega, by omega⟩, ?_⟩
                    have ek : μg ((113 + (pg).toNat * 15) + 2) = μ ((113 + (pg).toNat * 15) + 2) := funext fun y => f1_ _ _ (by omega)
                    have en : μ (113 + (pg).toNat * 15) 2 = ((μ (113 + (pg).toNat * 15) 2).toNat : Int) := by omega
                    rw [en] at hH_
                    have hc9 := cu_cls (q := 6) (kc := (113 + (pg).toNat * 15) + 2) (n := (μ (113 + (pg).toNat * 15) 2).toNat) (by omega) (rowS_fr9 hWr (fun x y q1 q2 => f1_ _ _ (by omega))) (rWF_0 _ hWw) hH_ (fun c x => (a1_ _).1.1)
                    rw [ek, ← w1_, if_neg (by omega)] at hc9
                    exact hc9)⟩, by rw [ht9]; exact hP, va_K.moved hW9.alike hK⟩, hS.F ht9⟩) hS.2.2 dX9_cuts_47))
    · refine lv_iconst (v := iZ (-1)) hx hb dX9_cuts_42 rfl ?_
      refine lv_goto (tgt := 47) hx hb dX9_cuts_43 (by decide) ?_
      exact W_widen (Nat.le_of_ble_eq_true rfl) (Nat.le_of_ble_eq_true rfl) (vx_ret (W.iret (v := iZ ((-1))) hx hb hr (fun t9 ht9 hW9 => ⟨⟨iZ ((-1)), (μg, (-1)), rfl, ⟨rfl, (by
                    dsimp only
                    obtain ⟨z1_, z2_⟩ := CZ_wk hI f1_ a1_
                    refine ⟨z1_, z2_, ⟨by omega, by omega⟩, ?_⟩
                    have ek : μg ((113 + (pg).toNat * 15) + 2) = μ ((113 + (pg).toNat * 15) + 2) := funext fun y => f1_ _ _ (by omega)
                    have en : μ (113 + (pg).toNat * 15) 2 = ((μ (113 + (pg).toNat * 15) 2).toNat : Int) := by omega
                    rw [en] at hH_
                    have hc9 := cu_cls (q := 6) (kc := (113 + (pg).toNat * 15) + 2) (n := (μ (113 + (pg).toNat * 15) 2).toNat) (by omega) (rowS_fr9 hWr (fun x y q1 q2 => f1_ _ _ (by omega))) (rWF_0 _ hWw) hH_ (fun c x => (a1_ _).1.1)
                    rw [ek, ← w1_, if_pos (by omega)] at hc9
                    exact hc9)⟩, by rw [ht9]; exact hP, va_K.moved hW9.alike hK⟩, hS.F ht9⟩) hS.2.2 dX9_cuts_47))
  · refine vx_callv (vx_runV (As := [.int (iZ (pg))]) (rest := []) ⟨hx, hb, hml, hown, hts⟩ (x_needPage l hfl dC dI cI cZ cII cIII h0 s.heap.size μ (pg) (by first | assumption | omega | exact CI_lc hI | exact CI_cn hI | exact (CI_n6 hI).1 | decide) (by first | assumption | omega | exact CI_lc hI | exact CI_cn hI | exact (CI_n6 hI).1 | decide) (hn2_)) (cwV 1 hts (gV_G k735 k737 ks_yX9_needPage k1 k738) rfl rfl rfl (by decide +kernel) ⟨Nat.le_of_ble_eq_true rfl, Nat.le_of_ble_eq_true rfl⟩) ⟨fun a U g mk q => by obtain ⟨q0, q1, qP, qK, qM, qE⟩ := q; exact ⟨q0, q1, qP, va_K.moved (u := U) (U := U.calling g mk a) (Vm.Alike.refl U.vm) qK, qM, xX_call qE⟩, va_recv hK hP (ci := 9) (q0 := 0) rfl ((fw_get (by decide)).trans (by rw [sE_0]; rfl)), fun U hU hW => ⟨rfl, by rw [hU], by rw [hU]; exact hP, va_K.moved hW.alike hK, xM_warm hW hM, xX_at hEx hS (fun q h => fA_le hS.1 q h) hU hW⟩⟩ rfl rfl hl.1 rfl (lv_room (Nat.le_of_ble_eq_true rfl)) dX9_cuts_2 ⟨Nat.le_of_ble_eq_true rfl, Nat.le_of_ble_eq_true rfl⟩) hS (fun q _ h => fA_le hS.1 q h) (fA_le hS.1) (fun q _ h => fA_le hS.1 q h) (fun E9 ce9 q9 u9 t9 H1 locs ht9 hvm9 hpx9 hBX9 hz9 hk9 hS hce9 hcv9 hcl9 => ?_) (fun u9 t9 H1 locs ht9 hvm9 hw9 hB9 hz9 hk9 hS => hw9.elim)
    obtain ⟨hE9, hP9, hK9⟩ := hBX9
    exact vx_out (fun x hx9 => (hnt x hx9).elim) hlocks hce9 hcv9 hcl9 (fun t8 ht8 hW8 => ⟨u9, (by
                show CI T u9 ∧ SZ μ u9
                exact CZ_thr hI hpx9), ⟨hE9, by rw [ht8, ← ht9]; exact hP9, va_K.moved hW8 hK, (by have hE8 := List.mem_singleton.mp hE9; rw [hE8]; exact ⟨fun _ => cd2_1 (by omega), fun h => absurd h (by decide +kernel)⟩)⟩, hS.F ht8⟩) hS.2.2 (Nat.le_of_ble_eq_true rfl) (Nat.le_of_ble_eq_true rfl)

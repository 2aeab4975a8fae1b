theorem k37 : (Cond.fieldLink "PageSkeleton" (96 : Nat) "PageSkeleton$Texts" "bytes" "I") ∈ wsG := wsG_at 37 (by decide +kernel) (by decide +kernel)
theorem k382 : (Cond.methodLink "PageSkeleton" (99 : Nat) ({ cls := "PageSkeleton$Texts", name := "feedNumber", desc := "(I)V" } : MethodName)) ∈ wsG := wsG_at 382 (by decide +kernel) (by decide +kernel)
theorem k383 : (Cond.instanceMethod ({ cls := "PageSkeleton$Texts", name := "feedNumber", desc := "(I)V" } : MethodName)) ∈ wsG := wsG_at 383 (by decide +kernel) (by decide +kernel)
theorem k384 : (Cond.selects "PageSkeleton$Texts" ({ cls := "PageSkeleton$Texts", name := "feedNumber", desc := "(I)V" } : MethodName) ({ cls := "PageSkeleton$Texts", name := "feedNumber", desc := "(I)V" } : MethodName)) ∈ wsG := wsG_at 384 (by decide +kernel) (by decide +kernel)
theorem k385 : (Cond.code ({ cls := "PageSkeleton$Texts", name := "feedNumber", desc := "(I)V" } : MethodName) prog_7_method_2_code (3 : Nat) (Option.none : Option Jvm.ClassFile.FieldType)) ∈ wsG := wsG_at 385 (by decide +kernel) (by decide +kernel)
theorem dX9_feed_0 : decode cX9_feed 0 = .ok (.aload_n 0, 1) := by decide +kernel
theorem dX9_feed_1 : decode cX9_feed 1 = .ok (.getfield 10, 3) := by decide +kernel
theorem dX9_feed_4 : decode cX9_feed 4 = .ok (.getfield 96, 3) := by decide +kernel
theorem dX9_feed_7 : decode cX9_feed 7 = .ok (.bipush 20, 2) := by decide +kernel
theorem dX9_feed_9 : decode cX9_feed 9 = .ok (.iadd, 1) := by decide +kernel
theorem dX9_feed_10 : decode cX9_feed 10 = .ok (.sipush 400, 3) := by decide +kernel
theorem dX9_feed_13 : decode cX9_feed 13 = .ok (.if_icmp .le 5, 3) := by decide +kernel
theorem dX9_feed_16 : decode cX9_feed 16 = .ok (.iconst (-1), 1) := by decide +kernel
theorem dX9_feed_17 : decode cX9_feed 17 = .ok (.ireturn, 1) := by decide +kernel
theorem dX9_feed_18 : decode cX9_feed 18 = .ok (.aload_n 0, 1) := by decide +kernel
theorem dX9_feed_19 : decode cX9_feed 19 = .ok (.getfield 10, 3) := by decide +kernel
theorem dX9_feed_22 : decode cX9_feed 22 = .ok (.iload_n 1, 1) := by decide +kernel
theorem dX9_feed_23 : decode cX9_feed 23 = .ok (.invokevirtual 99, 3) := by decide +kernel
theorem dX9_feed_26 : decode cX9_feed 26 = .ok (.aload_n 0, 1) := by decide +kernel
theorem dX9_feed_27 : decode cX9_feed 27 = .ok (.getfield 10, 3) := by decide +kernel
theorem dX9_feed_30 : decode cX9_feed 30 = .ok (.iload_n 2, 1) := by decide +kernel
theorem dX9_feed_31 : decode cX9_feed 31 = .ok (.invokevirtual 99, 3) := by decide +kernel
theorem dX9_feed_34 : decode cX9_feed 34 = .ok (.aload_n 0, 1) := by decide +kernel
theorem dX9_feed_35 : decode cX9_feed 35 = .ok (.getfield 10, 3) := by decide +kernel
theorem dX9_feed_38 : decode cX9_feed 38 = .ok (.iload_n 3, 1) := by decide +kernel
theorem dX9_feed_39 : decode cX9_feed 39 = .ok (.invokevirtual 99, 3) := by decide +kernel
theorem dX9_feed_42 : decode cX9_feed 42 = .ok (.aload_n 0, 1) := by decide +kernel
theorem dX9_feed_43 : decode cX9_feed 43 = .ok (.getfield 10, 3) := by decide +kernel
theorem dX9_feed_46 : decode cX9_feed 46 = .ok (.iload 4, 2) := by decide +kernel
theorem dX9_feed_48 : decode cX9_feed 48 = .ok (.invokevirtual 99, 3) := by decide +kernel
theorem dX9_feed_51 : decode cX9_feed 51 = .ok (.aload_n 0, 1) := by decide +kernel
theorem dX9_feed_52 : decode cX9_feed 52 = .ok (.getfield 10, 3) := by decide +kernel
theorem dX9_feed_55 : decode cX9_feed 55 = .ok (.iload 5, 2) := by decide +kernel
theorem dX9_feed_57 : decode cX9_feed 57 = .ok (.invokevirtual 99, 3) := by decide +kernel
theorem dX9_feed_60 : decode cX9_feed 60 = .ok (.aload_n 0, 1) := by decide +kernel
theorem dX9_feed_61 : decode cX9_feed 61 = .ok (.getfield 10, 3) := by decide +kernel
theorem dX9_feed_64 : decode cX9_feed 64 = .ok (.getfield 96, 3) := by decide +kernel
theorem dX9_feed_67 : decode cX9_feed 67 = .ok (.ireturn, 1) := by decide +kernel
/-! the class: feed -/
set_option maxHeartbeats 4000000 in
set_option maxRecDepth 100000 in
theorem s_feed (l : Launch) (dC : Nat → ClassId) (dI : Nat → Nat → Nat) (cI cZ cII cIII : ClassId) (h0 sz : Nat) (μ : va_M) (a1 : Int) (a2 : Int) (a3 : Int) (a4 : Int) (a5 : Int) (hra1 : inR a1) (hra2 : inR a2) (hra3 : inR a3) (hra4 : inR a4) (hra5 : inR a5) (htp : 0 ≤ μ 1 1 ∧ μ 1 1 ≤ 400) : Met l yX9_feed (Cond.code yX9_feed cX9_feed 6 (some .int) :: wsG) ({ frames := 2, cells := 0, slots := 0, locals := 36 } : Room) (va_Pc [.ref h0, .int (iZ (a1)), .int (iZ (a2)), .int (iZ (a3)), .int (iZ (a4)), .int (iZ (a5))] (fun U => U.heap.size = sz ∧ va_P (dC, dI) vwCl (fw (sE cI cZ cII cIII h0) h0 233 μ) U.heap ∧ va_K (dC, dI) vwCl (sT cI cZ cII cIII) U ∧ xM U)) (va_Qi (fun (r9 : Int32) (u : va_M × Int) => r9 = iZ u.2 ∧ (fun (u : va_M) (r : Int) => (μ 1 1 + 20 > 400 → u = μ ∧ r = -1) ∧ (μ 1 1 + 20 ≤ 400 → u 1 1 = μ 1 1 + 20 ∧ r = μ 1 1 + 20 ∧ fr (fun x y => (x = 1 ∧ y = 1) ∨ x = 2) μ u ∧ ∀ j : Nat, j < 400 → u 2 j = if μ 1 1 ≤ j ∧ (j : Int) < μ 1 1 + 20 then bz (argO a1 a2 a3 a4 a5 (j - μ 1 1)) ((j - μ 1 1) % 4) else μ 2 j)) u.1 u.2) (fun u t => va_P (dC, dI) vwCl (fw (sE cI cZ cII cIII h0) h0 233 u.1) t.heap ∧ va_K (dC, dI) vwCl (sT cI cZ cII cIII) t) (fA h0 233 sz)) 0 0 (fA h0 233 sz) := by
  refine Met.ofW (cc := cX9_feed) (maxL := 6) (ret := (some .int)) (by decide) rfl ?_
  intro p e s m args below meth c s₁ B hml hv
  obtain ⟨rfl, hsz, hP, hK, hM⟩ := hv
  have hx := B.exec
  have hb := B.bytes
  have hr := B.returns
  have hts : ∀ w ∈ wsG, w.before _ s = true := hG_of (atoms_spec (ws := (Cond.code yX9_feed cX9_feed 6 (some .int) :: wsG)) B.pre)
  have hown : s.vm.findClass RX9 = some m.cls := findClass_of_methodNamed B.named
  have hlocks := B.notSynchronized
  subst hsz
  have hS : va_S (fA h0 233 s.heap.size) s.heap s.heap [] := va_S.rf
  have hl := lv_entry ([.ref h0, .int (iZ (a1)), .int (iZ (a2)), .int (iZ (a3)), .int (iZ (a4)), .int (iZ (a5))]) (n := 6) (Nat.le_of_ble_eq_true rfl)
  rw [lg_entry_eq]
  generalize (lg_sl ([.ref h0, .int (iZ (a1)), .int (iZ (a2)), .int (iZ (a3)), .int (iZ (a4)), .int (iZ (a5))]) ++ List.replicate (6 - (lg_sl ([.ref h0, .int (iZ (a1)), .int (iZ (a2)), .int (iZ (a3)), .int (iZ (a4)), .int (iZ (a5))])).length) Slot.unset).toArray = ls at hl ⊢
  have hl : lv_has ls 6 [(0, .ref h0), (1, .int (iZ (a1))), (2, .int (iZ (a2))), (3, .int (iZ (a3))), (4, .int (iZ (a4))), (5, .int (iZ (a5)))] := hl
  refine lv_aload_n hx hb dX9_feed_0 rfl (lv_at hl 0 rfl) ?_
  refine fz_get (D := (dC, dI)) (ci := 9) (v := .ref (h0 + 1)) (C := RX9) (T := TX9) (N := 15) hx hb hts inG9 hown hK hP (k := 0) (by decide) (F := (sF0 h0)) sE_0 rfl 0 (by decide) (hts _ k332) (fun _ h9 => h9) rfl dX9_feed_1 ?_
  refine fz_get (D := (dC, dI)) (ci := 5) (v := .int (iZ (μ 1 1))) (C := RX5) (T := TX5) (N := 8) hx hb hts inG5 hown hK hP (k := 1) (by decide) (F := (sF1 h0)) sE_1 rfl 1 (by decide) (hts _ k37) (fun _ h9 => h9) rfl dX9_feed_4 ?_
  refine lv_bipush (v := iZ 20) hx hb dX9_feed_7 rfl ?_
  refine lv_iadd hx hb dX9_feed_9 ?_
  refine lv_topi (fun x9 ex9 => ?_)
  obtain rfl : x9 = iZ ((μ 1 1) + 20) := ex9.trans (iZ_add _ _)
  refine lv_sipush (v := iZ 400) hx hb dX9_feed_10 rfl ?_
  refine fz_icmp_le (tgt := 18) (by constructor <;> omega) (by decide) hx hb dX9_feed_13 (by decide) (fun c13_ => ?_) (fun c13_ => ?_)
  · refine lv_aload_n hx hb dX9_feed_18 rfl (lv_at hl 0 rfl) ?_
    refine fz_get (D := (dC, dI)) (ci := 9) (v := .ref (h0 + 1)) (C := RX9) (T := TX9) (N := 15) hx hb hts inG9 hown hK hP (k := 0) (by decide) (F := (sF0 h0)) sE_0 rfl 0 (by decide) (hts _ k332) (fun _ h9 => h9) rfl dX9_feed_19 ?_
    refine lv_iload_n hx hb dX9_feed_22 rfl (lv_at hl 1 rfl) ?_
    refine va_callv (va_runV (As := [.int (iZ (a1))]) (rest := []) ⟨hx, hb, hml, hown, hts⟩ (s_feedNumber l dC dI cI cZ cII cIII h0 s.heap.size μ (a1) (by first | assumption | omega | exact ⟨by omega, by omega⟩) (by first | assumption | omega | exact ⟨by omega, by omega⟩)) (cwV 1 hts (gV_G k382 k383 k384 k2 k385) rfl rfl rfl (by decide +kernel) ⟨Nat.le_of_ble_eq_true rfl, Nat.le_of_ble_eq_true rfl⟩) ⟨fun a U g mk q => by obtain ⟨q0, q1, qP, qK, qM⟩ := q; exact ⟨q0, q1, qP, va_K.moved (u := U) (U := U.calling g mk a) (Vm.Alike.refl U.vm) qK, qM⟩, va_recv hK hP (ci := 5) (q0 := 1) rfl ((fw_get (by decide)).trans (by rw [sE_1])), fun U hU hW => ⟨rfl, by rw [hU], by rw [hU]; exact hP, va_K.moved hW.alike hK, xM_warm hW hM⟩⟩ rfl rfl hl.1 rfl (lv_room (Nat.le_of_ble_eq_true rfl)) dX9_feed_23 ⟨Nat.le_of_ble_eq_true rfl, Nat.le_of_ble_eq_true rfl⟩) hS (fun q _ h => fA_le hS.1 q h) (fA_le hS.1) (fun u9 t9 H1 locs ht9 hvm9 hw9 hB9 hz9 hk9 hS => ?_)
    obtain ⟨hP, -⟩ := hB9
    rw [ht9] at hP
    generalize H1 = H at hP hS ⊢
    obtain ⟨μ1c, eμ1c⟩ : ∃ x : va_M, x = u9 := ⟨_, rfl⟩
    rw [← eμ1c] at hP hw9
    have hμ1c := hw9; clear hw9
    obtain ⟨t1_, f1_, b1_⟩ := hμ1c
    refine lv_aload_n hx hb dX9_feed_26 rfl (lv_at hl 0 rfl) ?_
    refine fz_get (D := (dC, dI)) (ci := 9) (v := .ref (h0 + 1)) (C := RX9) (T := TX9) (N := 15) hx hb hts inG9 hown hK hP (k := 0) (by decide) (F := (sF0 h0)) sE_0 rfl 0 (by decide) (hts _ k332) (fun _ h9 => h9) rfl dX9_feed_27 ?_
    refine lv_iload_n hx hb dX9_feed_30 rfl (lv_at hl 2 rfl) ?_
    refine va_callv (va_runV (As := [.int (iZ (a2))]) (rest := []) ⟨hx, hb, hml, hown, hts⟩ (s_feedNumber l dC dI cI cZ cII cIII h0 H.size μ1c (a2) (by first | assumption | omega | exact ⟨by omega, by omega⟩) (by first | assumption | omega | exact ⟨by omega, by omega⟩)) (cwV 1 hts (gV_G k382 k383 k384 k2 k385) rfl rfl rfl (by decide +kernel) ⟨Nat.le_of_ble_eq_true rfl, Nat.le_of_ble_eq_true rfl⟩) ⟨fun a U g mk q => by obtain ⟨q0, q1, qP, qK, qM⟩ := q; exact ⟨q0, q1, qP, va_K.moved (u := U) (U := U.calling g mk a) (Vm.Alike.refl U.vm) qK, qM⟩, va_recv hK hP (ci := 5) (q0 := 1) rfl ((fw_get (by decide)).trans (by rw [sE_1])), fun U hU hW => ⟨rfl, by rw [hU], by rw [hU]; exact hP, va_K.moved hW.alike hK, xM_warm hW hM⟩⟩ rfl rfl hl.1 rfl (lv_room (Nat.le_of_ble_eq_true rfl)) dX9_feed_31 ⟨Nat.le_of_ble_eq_true rfl, Nat.le_of_ble_eq_true rfl⟩) hS (fun q _ h => fA_le hS.1 q h) (fA_le hS.1) (fun u9 t9 H1 locs ht9 hvm9 hw9 hB9 hz9 hk9 hS => ?_)
    obtain ⟨hP, -⟩ := hB9
    rw [ht9] at hP
    generalize H1 = H at hP hS ⊢
    obtain ⟨μ2c, eμ2c⟩ : ∃ x : va_M, x = u9 := ⟨_, rfl⟩
    rw [← eμ2c] at hP hw9
    have hμ2c := hw9; clear hw9
    obtain ⟨t2_, f2_, b2_⟩ := hμ2c
    refine lv_aload_n hx hb dX9_feed_34 rfl (lv_at hl 0 rfl) ?_
    refine fz_get (D := (dC, dI)) (ci := 9) (v := .ref (h0 + 1)) (C := RX9) (T := TX9) (N := 15) hx hb hts inG9 hown hK hP (k := 0) (by decide) (F := (sF0 h0)) sE_0 rfl 0 (by decide) (hts _ k332) (fun _ h9 => h9) rfl dX9_feed_35 ?_
    refine lv_iload_n hx hb dX9_feed_38 rfl (lv_at hl 3 rfl) ?_
    refine va_callv (va_runV (As := [.int (iZ (a3))]) (rest := []) ⟨hx, hb, hml, hown, hts⟩ (s_feedNumber l dC dI cI cZ cII cIII h0 H.size μ2c (a3) (by first | assumption | omega | exact ⟨by omega, by omega⟩) (by first | assumption | omega | exact ⟨by omega, by omega⟩)) (cwV 1 hts (gV_G k382 k383 k384 k2 k385) rfl rfl rfl (by decide +kernel) ⟨Nat.le_of_ble_eq_true rfl, Nat.le_of_ble_eq_true rfl⟩) ⟨fun a U g mk q => by obtain ⟨q0, q1, qP, qK, qM⟩ := q; exact ⟨q0, q1, qP, va_K.moved (u := U) (U := U.calling g mk a) (Vm.Alike.refl U.vm) qK, qM⟩, va_recv hK hP (ci := 5) (q0 := 1) rfl ((fw_get (by decide)).trans (by rw [sE_1])), fun U hU hW => ⟨rfl, by rw [hU], by rw [hU]; exact hP, va_K.moved hW.alike hK, xM_warm hW hM⟩⟩ rfl rfl hl.1 rfl (lv_room (Nat.le_of_ble_eq_true rfl)) dX9_feed_39 ⟨Nat.le_of_ble_eq_true rfl, Nat.le_of_ble_eq_true rfl⟩) hS (fun q _ h => fA_le hS.1 q h) (fA_le hS.1) (fun u9 t9 H1 locs ht9 hvm9 hw9 hB9 hz9 hk9 hS => ?_)
    obtain ⟨hP, -⟩ := hB9
    rw [ht9] at hP
    generalize H1 = H at hP hS ⊢
    obtain ⟨μ3c, eμ3c⟩ : ∃ x : va_M, x = u9 := ⟨_, rfl⟩
    rw [← eμ3c] at hP hw9
    have hμ3c := hw9; clear hw9
    obtain ⟨t3_, f3_, b3_⟩ := hμ3c
    refine lv_aload_n hx hb dX9_feed_42 rfl (lv_at hl 0 rfl) ?_
    refine fz_get (D := (dC, dI)) (ci := 9) (v := .ref (h0 + 1)) (C := RX9) (T := TX9) (N := 15) hx hb hts inG9 hown hK hP (k := 0) (by decide) (F := (sF0 h0)) sE_0 rfl 0 (by decide) (hts _ k332) (fun _ h9 => h9) rfl dX9_feed_43 ?_
    refine lv_iload hx hb dX9_feed_46 (lv_at hl 4 rfl) ?_
    refine va_callv (va_runV (As := [.int (iZ (a4))]) (rest := []) ⟨hx, hb, hml, hown, hts⟩ (s_feedNumber l dC dI cI cZ cII cIII h0 H.size μ3c (a4) (by first | assumption | omega | exact ⟨by omega, by omega⟩) (by first | assumption | omega | exact ⟨by omega, by omega⟩)) (cwV 1 hts (gV_G k382 k383 k384 k2 k385) rfl rfl rfl (by decide +kernel) ⟨Nat.le_of_ble_eq_true rfl, Nat.le_of_ble_eq_true rfl⟩) ⟨fun a U g mk q => by obtain ⟨q0, q1, qP, qK, qM⟩ := q; exact ⟨q0, q1, qP, va_K.moved (u := U) (U := U.calling g mk a) (Vm.Alike.refl U.vm) qK, qM⟩, va_recv hK hP (ci := 5) (q0 := 1) rfl ((fw_get (by decide)).trans (by rw [sE_1])), fun U hU hW => ⟨rfl, by rw [hU], by rw [hU]; exact hP, va_K.moved hW.alike hK, xM_warm hW hM⟩⟩ rfl rfl hl.1 rfl (lv_room (Nat.le_of_ble_eq_true rfl)) dX9_feed_48 ⟨Nat.le_of_ble_eq_true rfl, Nat.le_of_ble_eq_true rfl⟩) hS (fun q _ h => fA_le hS.1 q h) (fA_le hS.1) (fun u9 t9 H1 locs ht9 hvm9 hw9 hB9 hz9 hk9 hS => ?_)
    obtain ⟨hP, -⟩ := hB9
    rw [ht9] at hP
    generalize H1 = H at hP hS ⊢
    obtain ⟨μ4c, eμ4c⟩ : ∃ x : va_M, x = u9 := ⟨_, rfl⟩
    rw [← eμ4c] at hP hw9
    have hμ4c := hw9; clear hw9
    obtain ⟨t4_, f4_, b4_⟩ := hμ4c
    refine lv_aload_n hx hb dX9_feed_51 rfl (lv_at hl 0 rfl) ?_
    refine fz_get (D := (dC, dI)) (ci := 9) (v := .ref (h0 + 1)) (C := RX9) (T := TX9) (N := 15) hx hb hts inG9 hown hK hP (k := 0) (by decide) (F := (sF0 h0)) sE_0 rfl 0 (by decide) (hts _ k332) (fun _ h9 => h9) rfl dX9_feed_52 ?_
    refine lv_iload hx hb dX9_feed_55 (lv_at hl 5 rfl) ?_
    refine va_callv (va_runV (As := [.int (iZ (a5))]) (rest := []) ⟨hx, hb, hml, hown, hts⟩ (s_feedNumber l dC dI cI cZ cII cIII h0 H.size μ4c (a5) (by first | assumption | omega | exact ⟨by omega, by omega⟩) (by first | assumption | omega | exact ⟨by omega, by omega⟩)) (cwV 1 hts (gV_G k382 k383 k384 k2 k385) rfl rfl rfl (by decide +kernel) ⟨Nat.le_of_ble_eq_true rfl, Nat.le_of_ble_eq_true rfl⟩) ⟨fun a U g mk q => by obtain ⟨q0, q1, qP, qK, qM⟩ := q; exact ⟨q0, q1, qP, va_K.moved (u := U) (U := U.calling g mk a) (Vm.Alike.refl U.vm) qK, qM⟩, va_recv hK hP (ci := 5) (q0 := 1) rfl ((fw_get (by decide)).trans (by rw [sE_1])), fun U hU hW => ⟨rfl, by rw [hU], by rw [hU]; exact hP, va_K.moved hW.alike hK, xM_warm hW hM⟩⟩ rfl rfl hl.1 rfl (lv_room (Nat.le_of_ble_eq_true rfl)) dX9_feed_57 ⟨Nat.le_of_ble_eq_true rfl, Nat.le_of_ble_eq_true rfl⟩) hS (fun q _ h => fA_le hS.1 q h) (fA_le hS.1) (fun u9 t9 H1 locs ht9 hvm9 hw9 hB9 hz9 hk9 hS => ?_)
    obtain ⟨hP, -⟩ := hB9
    rw [ht9] at hP
    generalize H1 = H at hP hS ⊢
    obtain ⟨μ5c, eμ5c⟩ : ∃ x : va_M, x = u9 := ⟨_, rfl⟩
    rw [← eμ5c] at hP hw9
    have hμ5c := hw9; clear hw9
    obtain ⟨t5_, f5_, b5_⟩ := hμ5c
    refine lv_aload_n hx hb dX9_feed_60 rfl (lv_at hl 0 rfl) ?_
    refine fz_get (D := (dC, dI)) (ci := 9) (v := .ref (h0 + 1)) (C := RX9) (T := TX9) (N := 15) hx hb hts inG9 hown hK hP (k := 0) (by decide) (F := (sF0 h0)) sE_0 rfl 0 (by decide) (hts _ k332) (fun _ h9 => h9) rfl dX9_feed_61 ?_
    refine fz_get (D := (dC, dI)) (ci := 5) (v := .int (iZ (μ5c 1 1))) (C := RX5) (T := TX5) (N := 8) hx hb hts inG5 hown hK hP (k := 1) (by decide) (F := (sF1 h0)) sE_1 rfl 1 (by decide) (hts _ k37) (fun _ h9 => h9) rfl dX9_feed_64 ?_
    exact W.iret (v := iZ (μ5c 1 1)) hx hb hr (fun t9 ht9 hW9 => ⟨⟨iZ (μ5c 1 1), (μ5c, μ5c 1 1), rfl, ⟨rfl, (by
                dsimp only
                refine ⟨fun h => absurd h (by omega), fun _ => ⟨by omega, by omega, fr_trans (fr_trans (fr_trans (fr_trans f1_ f2_) f3_) f4_) f5_, fun j hj => ?_⟩⟩
                rw [b5_ j hj, b4_ j hj, b3_ j hj, b2_ j hj, b1_ j hj]
                unfold argO
                clear f1_ f2_ f3_ f4_ f5_ b1_ b2_ b3_ b4_ b5_
                repeat' split
                all_goals first | (exfalso; omega) | rfl | (congr 1; omega))⟩, by rw [ht9]; exact hP, va_K.moved hW9.alike hK⟩, hS.F ht9⟩) hS.2.2 dX9_feed_67
  · refine lv_iconst (v := iZ (-1)) hx hb dX9_feed_16 rfl ?_
    exact W.iret (v := iZ ((-1))) hx hb hr (fun t9 ht9 hW9 => ⟨⟨iZ ((-1)), (μ, (-1)), rfl, ⟨rfl, (by
                dsimp only
                exact ⟨fun _ => ⟨rfl, rfl⟩, fun h => absurd h (by omega)⟩)⟩, by rw [ht9]; exact hP, va_K.moved hW9.alike hK⟩, hS.F ht9⟩) hS.2.2 dX9_feed_17

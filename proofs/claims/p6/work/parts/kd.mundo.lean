
/-! undo, clear, tidy, tidied of the reference, told whole -/
set_option maxHeartbeats 40000000 in
set_option maxRecDepth 100000 in
theorem f_undo (l : Launch) (dC : Nat → ClassId) (dI : Nat → Nat → Nat) (cI cZ cII cIII : ClassId) (h0 sz : Nat) (μ : va_M) (J : Rw → Prop) (Wk : Rw) (Bs : List Rw) (hR : RI J μ) (hJK : JOK J) (hSK : SKJ J Wk Bs μ) : Met l yX10_undo (Cond.code yX10_undo cX10_undo 1 (some .int) :: wsG) ({ frames := 4, cells := 0, slots := 0, locals := 86 } : Room) (va_Pc [.ref h0] (fun U => U.heap.size = sz ∧ va_P (dC, dI) vwCl (fw (mE cI cZ cII cIII h0) h0 6325 μ) U.heap ∧ va_K (dC, dI) vwCl (mT cI cZ cII cIII) U)) (va_Qi (fun (r9 : Int32) (u : va_M × Int) => r9 = iZ u.2 ∧ (fun (u : va_M) (r : Int) => GE J μ u ∧ u 0 0 = 0 ∧ r = udR Bs ∧ SKr (udW Wk Bs) Bs.tail u) u.1 u.2) (fun u t => va_P (dC, dI) vwCl (fw (mE cI cZ cII cIII h0) h0 6325 u.1) t.heap ∧ va_K (dC, dI) vwCl (mT cI cZ cII cIII) t) (fA h0 6325 sz)) 0 0 (fA h0 6325 sz) := by
  refine Met.ofW (cc := cX10_undo) (maxL := 1) (ret := (some .int)) (by decide) rfl ?_
  intro p e s m args below meth c s₁ B hml hv
  obtain ⟨rfl, hsz, hP, hK⟩ := hv
  have hx := B.exec
  have hb := B.bytes
  have hr := B.returns
  have hts : ∀ w ∈ wsG, w.before _ s = true := hG_of (atoms_spec (ws := (Cond.code yX10_undo cX10_undo 1 (some .int) :: wsG)) B.pre)
  have hown : s.vm.findClass RX10 = some m.cls := findClass_of_methodNamed B.named
  have hlocks := B.notSynchronized
  subst hsz
  have hS : va_S (fA h0 6325 s.heap.size) s.heap s.heap [] := va_S.rf
  have hl := lv_entry ([.ref h0]) (n := 1) (Nat.le_of_ble_eq_true rfl)
  rw [lg_entry_eq]
  generalize (lg_sl ([.ref h0]) ++ List.replicate (1 - (lg_sl ([.ref h0])).length) Slot.unset).toArray = ls at hl ⊢
  have hl : lv_has ls 1 [(0, .ref h0)] := hl
  have hRc := hR
  obtain ⟨r1, -, ⟨r5, r6, r7, r8⟩⟩ := hRc
  obtain ⟨⟨s1, s2, s3⟩, s4, s5, s6⟩ := id hSK
  have s3n := s3.1
  have s2h := hid_i s2
  clear s2
  refine lv_aload_n hx hb dX10_undo_0 rfl (lv_at hl 0 rfl) ?_
  refine lv_iconst (v := iZ 0) hx hb dX10_undo_1 rfl ?_
  refine fz_put (D := (dC, dI)) (ci := 10) (ty := .int) (z := 0) (C := RX10) (T := TX10) (N := 53) hx hb hts inG10 tyX10 tyX10_ok nmX10 hown hK hP fA_in hS (k := 0) (by decide) (F := mF h0) mE_obj rfl 0 (by decide) (hts _ k1166) (fun _ h9 => h9) rfl (by decide +kernel) rfl rfl (fun _ => Nat.le_of_ble_eq_true rfl) (fun _ _ => rfl) dX10_undo_2 (fun H locs hP hS => ?_)
  obtain ⟨μ1, eμ1⟩ : ∃ x : va_M, x = uz μ 0 0 (0) := ⟨_, rfl⟩
  rw [← eμ1] at hP
  have hz : fr (fun x y => x = 0 ∧ y = 0) μ μ1 := by rw [eμ1]; exact fr_uz fr_rfl ⟨rfl, rfl⟩
  have h00 : μ1 0 0 = 0 := by rw [eμ1, uz_s]
  have hPS : fr PS μ μ1 := fr_mono hz (fun x y h => by unfold PS; omega)
  refine lv_aload_n hx hb dX10_undo_5 rfl (lv_at hl 0 rfl) ?_
  refine fz_get (D := (dC, dI)) (ci := 10) (v := .int (iZ (μ1 0 23))) (C := RX10) (T := TX10) (N := 53) hx hb hts inG10 hown hK hP (k := 0) (by decide) (F := mF h0) mE_obj rfl 23 (by decide) (hts _ k1189) (fun _ h9 => h9) rfl dX10_undo_6 ?_
  rw [show μ1 0 23 = μ 0 23 from by rw [eμ1, uz_n (by omega)]]
  refine fz_if_ne (tgt := 14) (by constructor <;> omega) hx hb dX10_undo_9 (by decide) (fun c9_ => ?_) (fun c9_ => ?_)
  · obtain ⟨B, Bt, eB⟩ : ∃ (B : Rw) (Bt : List Rw), Bs = B :: Bt := by
      cases Bs with
      | nil => exact absurd s3n (by rw [List.length_nil]; omega)
      | cons B Bt => exact ⟨B, Bt, rfl⟩
    subst eB
    rw [List.length_cons] at s3n s6
    obtain ⟨k3, k5⟩ := s3.2 0 B rfl
    rw [List.length_cons, show Bt.length + 1 - 0 = (μ 0 23).toNat by omega] at k3
    rw [List.length_cons, show Bt.length + 1 - 1 - 0 = (μ 0 23 - 1).toNat by omega] at k5
    have k1 := s5 0 B rfl
    have k2 := (hJK.2.1 B k1).1
    have k5h := hid_i k5
    clear k5
    have k4 : TR μ1 (μ 0 23).toNat B := TR_fr k3 hz (fun x => by omega) (by omega)
    refine lv_aload_n hx hb dX10_undo_14 rfl (lv_at hl 0 rfl) ?_
    refine lv_aload_n hx hb dX10_undo_15 rfl (lv_at hl 0 rfl) ?_
    refine fz_get (D := (dC, dI)) (ci := 10) (v := .int (iZ (μ1 0 23))) (C := RX10) (T := TX10) (N := 53) hx hb hts inG10 hown hK hP (k := 0) (by decide) (F := mF h0) mE_obj rfl 23 (by decide) (hts _ k1189) (fun _ h9 => h9) rfl dX10_undo_16 ?_
    rw [show μ1 0 23 = μ 0 23 from by rw [eμ1, uz_n (by omega)]]
    refine lv_iconst (v := iZ 0) hx hb dX10_undo_19 rfl ?_
    refine va_callv (va_runV (As := [.int (iZ (μ 0 23)), .int (iZ (0))]) (rest := []) ⟨hx, hb, hml, hown, hts⟩ (m_copiesAll l dC dI cI cZ cII cIII h0 H.size μ1 (μ 0 23) (0) (B) (by omega) (by omega) (by omega) (by exact k4) (by exact k2.2.1)) (cwV 2 hts (gV_G k1424 k1426 ks_yX10_copiesAll k13 k1427) rfl rfl rfl (by decide +kernel) ⟨Nat.le_of_ble_eq_true rfl, Nat.le_of_ble_eq_true rfl⟩) ⟨fun a U g mk q => by obtain ⟨q0, q1, qP, qK⟩ := q; exact ⟨q0, q1, qP, va_K.moved (u := U) (U := U.calling g mk a) (Vm.Alike.refl U.vm) qK⟩, va_recv hK hP (ci := 10) (q0 := 0) rfl ((fw_get (by decide)).trans (by rw [mE_obj]; rfl)), fun U hU hW => ⟨rfl, by rw [hU], by rw [hU]; exact hP, va_K.moved hW.alike hK⟩⟩ rfl rfl hl.1 rfl (lv_room (Nat.le_of_ble_eq_true rfl)) dX10_undo_20 ⟨Nat.le_of_ble_eq_true rfl, Nat.le_of_ble_eq_true rfl⟩) hS (fun q _ h => fA_le hS.1 q h) (fA_le hS.1) (fun u9 t9 H1 locs ht9 hvm9 hw9 hB9 hz9 hk9 hS => ?_)
    obtain ⟨hP, -⟩ := hB9
    rw [ht9] at hP
    generalize H1 = H at hP hS ⊢
    obtain ⟨μa, eμa⟩ : ∃ x : va_M, x = u9 := ⟨_, rfl⟩
    rw [← eμa] at hP hw9
    have hμa := hw9; clear hw9
    obtain ⟨c1, c2⟩ := hμa
    rw [show (0 : Int).toNat = 0 from rfl] at c1 c2
    have a23 : μa 0 23 = μ 0 23 := (c2 0 23 (by unfold PT; omega)).trans (hz 0 23 (by omega))
    have a00 : μa 0 0 = 0 := (c2 0 0 (by unfold PT; omega)).trans h00
    have a721 : ∀ j, μa 721 j = μ 721 j := fun j => (c2 721 j (by unfold PT; omega)).trans (hz 721 j (by omega))
    have a72 := a721 (μ 0 23 - 1).toNat
    have r7k := r7 (μ 0 23 - 1).toNat (by omega)
    refine lv_aload_n hx hb dX10_undo_23 rfl (lv_at hl 0 rfl) ?_
    refine lv_dup hx hb dX10_undo_24 rfl ?_
    refine fz_get (D := (dC, dI)) (ci := 10) (v := .int (iZ (μa 0 23))) (C := RX10) (T := TX10) (N := 53) hx hb hts inG10 hown hK hP (k := 0) (by decide) (F := mF h0) mE_obj rfl 23 (by decide) (hts _ k1189) (fun _ h9 => h9) rfl dX10_undo_25 ?_
    rw [show μa 0 23 = μ 0 23 from (by exact a23)]
    refine lv_iconst (v := iZ 1) hx hb dX10_undo_28 rfl ?_
    refine lv_isub hx hb dX10_undo_29 ?_
    refine lv_topi (fun x9 ex9 => ?_)
    obtain rfl : x9 = iZ ((μ 0 23) - 1) := ex9.trans (iZ_sub _ _)
    refine fz_put (D := (dC, dI)) (ci := 10) (ty := .int) (z := ((μ 0 23) - 1)) (C := RX10) (T := TX10) (N := 53) hx hb hts inG10 tyX10 tyX10_ok nmX10 hown hK hP fA_in hS (k := 0) (by decide) (F := mF h0) mE_obj rfl 23 (by decide) (hts _ k1189) (fun _ h9 => h9) rfl (by decide +kernel) rfl rfl (fun _ => Nat.le_of_ble_eq_true rfl) (fun _ _ => rfl) dX10_undo_30 (fun H locs hP hS => ?_)
    obtain ⟨μ2, eμ2⟩ : ∃ x : va_M, x = uz μa 0 23 ((μ 0 23) - 1) := ⟨_, rfl⟩
    rw [← eμ2] at hP
    refine lv_aload_n hx hb dX10_undo_33 rfl (lv_at hl 0 rfl) ?_
    refine lv_aload_n hx hb dX10_undo_34 rfl (lv_at hl 0 rfl) ?_
    refine fz_get (D := (dC, dI)) (ci := 10) (v := .ref (h0 + 721)) (C := RX10) (T := TX10) (N := 53) hx hb hts inG10 hown hK hP (k := 0) (by decide) (F := mF h0) mE_obj rfl 26 (by decide) (hts _ k1192) (fun _ h9 => h9) rfl dX10_undo_35 ?_
    refine lv_aload_n hx hb dX10_undo_38 rfl (lv_at hl 0 rfl) ?_
    refine fz_get (D := (dC, dI)) (ci := 10) (v := .int (iZ (μ2 0 23))) (C := RX10) (T := TX10) (N := 53) hx hb hts inG10 hown hK hP (k := 0) (by decide) (F := mF h0) mE_obj rfl 23 (by decide) (hts _ k1189) (fun _ h9 => h9) rfl dX10_undo_39 ?_
    rw [show μ2 0 23 = (μ 0 23) - 1 from by rw [eμ2, uz_s]]
    refine fz_zld (k := 721) (n := 16) hx hb hK hP 1 (by decide) mE_backHad rfl ⟨by omega, by omega⟩ (by decide) dX10_undo_42 ?_
    rw [show μ2 721 ((μ 0 23) - 1).toNat = μa 721 ((μ 0 23) - 1).toNat from by rw [eμ2, uz_n (by omega)]]
    refine fz_put (D := (dC, dI)) (ci := 10) (ty := .boolean) (z := (μa 721 ((μ 0 23) - 1).toNat)) (C := RX10) (T := TX10) (N := 53) hx hb hts inG10 tyX10 tyX10_ok nmX10 hown hK hP fA_in hS (k := 0) (by decide) (F := mF h0) mE_obj rfl 22 (by decide) (hts _ k1188) (fun _ h9 => h9) rfl (by decide +kernel) (fz_narZ (by omega)) (fits_b (by omega)) (fun _ => Nat.le_of_ble_eq_true rfl) (fun _ _ => rfl) dX10_undo_43 (fun H locs hP hS => ?_)
    obtain ⟨μ3, eμ3⟩ : ∃ x : va_M, x = uz μ2 0 22 (μa 721 ((μ 0 23) - 1).toNat) := ⟨_, rfl⟩
    rw [← eμ3] at hP
    refine lv_aload_n hx hb dX10_undo_46 rfl (lv_at hl 0 rfl) ?_
    refine lv_dup hx hb dX10_undo_47 rfl ?_
    refine fz_get (D := (dC, dI)) (ci := 10) (v := .int (iZ (μ3 0 24))) (C := RX10) (T := TX10) (N := 53) hx hb hts inG10 hown hK hP (k := 0) (by decide) (F := mF h0) mE_obj rfl 24 (by decide) (hts _ k1190) (fun _ h9 => h9) rfl dX10_undo_48 ?_
    rw [show μ3 0 24 = μa 0 24 from by rw [eμ3, uz_n (by omega), eμ2, uz_n (by omega)]]
    refine lv_aload_n hx hb dX10_undo_51 rfl (lv_at hl 0 rfl) ?_
    refine fz_get (D := (dC, dI)) (ci := 10) (v := .ref (h0 + 720)) (C := RX10) (T := TX10) (N := 53) hx hb hts inG10 hown hK hP (k := 0) (by decide) (F := mF h0) mE_obj rfl 25 (by decide) (hts _ k1191) (fun _ h9 => h9) rfl dX10_undo_52 ?_
    refine lv_aload_n hx hb dX10_undo_55 rfl (lv_at hl 0 rfl) ?_
    refine fz_get (D := (dC, dI)) (ci := 10) (v := .int (iZ (μ3 0 23))) (C := RX10) (T := TX10) (N := 53) hx hb hts inG10 hown hK hP (k := 0) (by decide) (F := mF h0) mE_obj rfl 23 (by decide) (hts _ k1189) (fun _ h9 => h9) rfl dX10_undo_56 ?_
    rw [show μ3 0 23 = (μ 0 23) - 1 from by rw [eμ3, uz_n (by omega), eμ2, uz_s]]
    refine fz_ld (k := 720) (n := 16) hx hb hK hP 0 (by decide) mE_backCost rfl ⟨by omega, by omega⟩ (by decide) dX10_undo_59 ?_
    rw [show μ3 720 ((μ 0 23) - 1).toNat = μa 720 ((μ 0 23) - 1).toNat from by rw [eμ3, uz_n (by omega), eμ2, uz_n (by omega)]]
    refine lv_isub hx hb dX10_undo_60 ?_
    refine lv_topi (fun x9 ex9 => ?_)
    obtain rfl : x9 = iZ ((μa 0 24) - (μa 720 ((μ 0 23) - 1).toNat)) := ex9.trans (iZ_sub _ _)
    refine fz_put (D := (dC, dI)) (ci := 10) (ty := .int) (z := ((μa 0 24) - (μa 720 ((μ 0 23) - 1).toNat))) (C := RX10) (T := TX10) (N := 53) hx hb hts inG10 tyX10 tyX10_ok nmX10 hown hK hP fA_in hS (k := 0) (by decide) (F := mF h0) mE_obj rfl 24 (by decide) (hts _ k1190) (fun _ h9 => h9) rfl (by decide +kernel) rfl rfl (fun _ => Nat.le_of_ble_eq_true rfl) (fun _ _ => rfl) dX10_undo_61 (fun H locs hP hS => ?_)
    obtain ⟨μ4, eμ4⟩ : ∃ x : va_M, x = uz μ3 0 24 ((μa 0 24) - (μa 720 ((μ 0 23) - 1).toNat)) := ⟨_, rfl⟩
    rw [← eμ4] at hP
    refine lv_aload_n hx hb dX10_undo_64 rfl (lv_at hl 0 rfl) ?_
    refine lv_iconst (v := iZ 0) hx hb dX10_undo_65 rfl ?_
    refine va_calli (va_runV (As := [.int (iZ (0))]) (rest := []) ⟨hx, hb, hml, hown, hts⟩ (m_sizeOfAll2 l dC dI cI cZ cII cIII h0 H.size μ4 (0) (by decide) (by
                have ff : fr (fun x y => x = 0 ∧ (y = 22 ∨ y = 23 ∨ y = 24)) μa μ4 := by rw [eμ4, eμ3, eμ2]; exact fr_uz (fr_uz (fr_uz fr_rfl ⟨rfl, by omega⟩) ⟨rfl, by omega⟩) ⟨rfl, by omega⟩
                exact TR_tok (TR_fr c1 ff (fun x => by omega) (by omega)) k2.1 k2.2.1)) (cwV 1 hts (gV_G k1484 k1486 ks_yX10_sizeOfAll k13 k1487) rfl rfl rfl (by decide +kernel) ⟨Nat.le_of_ble_eq_true rfl, Nat.le_of_ble_eq_true rfl⟩) ⟨fun a U g mk q => by obtain ⟨q0, q1, qP, qK⟩ := q; exact ⟨q0, q1, qP, va_K.moved (u := U) (U := U.calling g mk a) (Vm.Alike.refl U.vm) qK⟩, va_recv hK hP (ci := 10) (q0 := 0) rfl ((fw_get (by decide)).trans (by rw [mE_obj]; rfl)), fun U hU hW => ⟨rfl, by rw [hU], by rw [hU]; exact hP, va_K.moved hW.alike hK⟩⟩ rfl rfl hl.1 rfl (lv_room (Nat.le_of_ble_eq_true rfl)) dX10_undo_66 ⟨Nat.le_of_ble_eq_true rfl, Nat.le_of_ble_eq_true rfl⟩) hS (fun q _ h => fA_le hS.1 q h) (fA_le hS.1) (fun r9 u9 t9 H1 locs ht9 hvm9 hw9 hB9 hz9 hk9 hS => ?_)
    obtain ⟨μ5, rs⟩ := u9
    obtain ⟨hP, -⟩ := hB9
    rw [ht9] at hP
    generalize H1 = H at hP hS ⊢
    obtain ⟨e9, hw9⟩ := hw9
    have e9 : r9 = iZ rs := e9
    subst e9
    simp only at hP hw9
    have hμ5 := hw9; clear hw9
    rw [hμ5.1] at hP; have hμ5 := hμ5.2
    exact W.iret (v := iZ (rs)) hx hb hr (fun t9 ht9 hW9 => ⟨⟨iZ (rs), (μ4, rs), rfl, ⟨rfl, (by
                dsimp only
                have ff : fr (fun x y => x = 0 ∧ (y = 22 ∨ y = 23 ∨ y = 24)) μa μ4 := by rw [eμ4, eμ3, eμ2]; exact fr_uz (fr_uz (fr_uz fr_rfl ⟨rfl, by omega⟩) ⟨rfl, by omega⟩) ⟨rfl, by omega⟩
                have gT : TR μ4 0 B := TR_fr c1 ff (fun x => by omega) (by omega)
                have gx : fr (fun x y => (x = 0 ∧ (y = 0 ∨ y = 22 ∨ y = 23 ∨ y = 24)) ∨ PT 0 x y) μ μ4 := fr_trans (fr_trans (fr_mono hz (fun x y h => by omega)) (fr_mono c2 (fun x y h => Or.inr h))) (fr_mono ff (fun x y h => by omega))
                have gf : fr KF μ μ4 := fr_mono gx (fun x y h => by unfold KF BF PS; exact h.elim (fun h => by omega) (fun h => Or.inr (Or.inl h)))
                have g23 : μ4 0 23 = μ 0 23 - 1 := by rw [eμ4, eμ3, eμ2, uz_n (by omega), uz_n (by omega), uz_s]
                have g22 : μ4 0 22 = μ 721 (μ 0 23 - 1).toNat := by rw [eμ4, eμ3, eμ2, uz_n (by omega), uz_s]; exact a72
                have g00 := ff 0 0 (by omega)
                have hS9 : SKJ J B Bt μ4 := ⟨⟨gT, by rw [g22]; exact hid_e k5h, bkX_tail s3 (by omega) gx g23⟩, k1, fun i C hC => s5 (i + 1) C hC, by omega⟩
                have hrs : rs = (rL B : Int) := by
                  have h9 := hμ5
                  rw [show (0 : Int).toNat = 0 from rfl, gT.1, Int.toNat_natCast, cS_row _ 0 gT.2] at h9
                  exact h9
                exact ⟨⟨gf, RI_SK hJK hR gf (by rw [g22]; exact r7k) (fun j hj => by rw [gx 721 j (by unfold PT; omega)]; exact r7 j hj) hS9, by omega⟩, by omega, hrs, hS9.1⟩)⟩, by rw [ht9]; exact hP, va_K.moved hW9.alike hK⟩, hS.F ht9⟩) hS.2.2 dX10_undo_69
  · refine lv_iconst (v := iZ (-1)) hx hb dX10_undo_12 rfl ?_
    exact W.iret (v := iZ ((-1))) hx hb hr (fun t9 ht9 hW9 => ⟨⟨iZ ((-1)), (μ1, (-1)), rfl, ⟨rfl, (by
                dsimp only
                have hB0 : Bs = [] := List.eq_nil_of_length_eq_zero (by omega)
                subst hB0
                exact ⟨GE_PS hR ⟨hPS, by omega⟩, by omega, rfl, SKr_PS hSK.1 hSK.2.2.2 hPS⟩)⟩, by rw [ht9]; exact hP, va_K.moved hW9.alike hK⟩, hS.F ht9⟩) hS.2.2 dX10_undo_13
set_option maxHeartbeats 40000000 in
set_option maxRecDepth 100000 in
theorem f_clear (l : Launch) (dC : Nat → ClassId) (dI : Nat → Nat → Nat) (cI cZ cII cIII : ClassId) (h0 sz : Nat) (μ : va_M) (J : Rw → Prop) (Wk : Rw) (Bs : List Rw) (hR : RI J μ) (hJK : JOK J) (hSK : SKJ J Wk Bs μ) : Met l yX10_clear (Cond.code yX10_clear cX10_clear 2 (some .int) :: wsG) ({ frames := 3, cells := 0, slots := 0, locals := 60 } : Room) (va_Pc [.ref h0] (fun U => U.heap.size = sz ∧ va_P (dC, dI) vwCl (fw (mE cI cZ cII cIII h0) h0 6325 μ) U.heap ∧ va_K (dC, dI) vwCl (mT cI cZ cII cIII) U)) (va_Qi (fun (r9 : Int32) (u : va_M × Int) => r9 = iZ u.2 ∧ (fun (u : va_M) (r : Int) => GE J μ u ∧ u 0 0 = 0 ∧ r = rL Wk ∧ SKr .leaf [] u) u.1 u.2) (fun u t => va_P (dC, dI) vwCl (fw (mE cI cZ cII cIII h0) h0 6325 u.1) t.heap ∧ va_K (dC, dI) vwCl (mT cI cZ cII cIII) t) (fA h0 6325 sz)) 0 0 (fA h0 6325 sz) := by
  refine Met.ofW (cc := cX10_clear) (maxL := 2) (ret := (some .int)) (by decide) rfl ?_
  intro p e s m args below meth c s₁ B hml hv
  obtain ⟨rfl, hsz, hP, hK⟩ := hv
  have hx := B.exec
  have hb := B.bytes
  have hr := B.returns
  have hts : ∀ w ∈ wsG, w.before _ s = true := hG_of (atoms_spec (ws := (Cond.code yX10_clear cX10_clear 2 (some .int) :: wsG)) B.pre)
  have hown : s.vm.findClass RX10 = some m.cls := findClass_of_methodNamed B.named
  have hlocks := B.notSynchronized
  subst hsz
  have hS : va_S (fA h0 6325 s.heap.size) s.heap s.heap [] := va_S.rf
  have hl := lv_entry ([.ref h0]) (n := 2) (Nat.le_of_ble_eq_true rfl)
  rw [lg_entry_eq]
  generalize (lg_sl ([.ref h0]) ++ List.replicate (2 - (lg_sl ([.ref h0])).length) Slot.unset).toArray = ls at hl ⊢
  have hl : lv_has ls 2 [(0, .ref h0)] := hl
  have hRc := hR
  obtain ⟨r1, -, ⟨r5, r6, r7, r8⟩⟩ := hRc
  obtain ⟨⟨s1, s2, s3⟩, s4, s5, s6⟩ := id hSK
  have s3n := s3.1
  have s2h := hid_i s2
  clear s2
  refine lv_aload_n hx hb dX10_clear_0 rfl (lv_at hl 0 rfl) ?_
  refine lv_iconst (v := iZ 0) hx hb dX10_clear_1 rfl ?_
  refine fz_put (D := (dC, dI)) (ci := 10) (ty := .int) (z := 0) (C := RX10) (T := TX10) (N := 53) hx hb hts inG10 tyX10 tyX10_ok nmX10 hown hK hP fA_in hS (k := 0) (by decide) (F := mF h0) mE_obj rfl 0 (by decide) (hts _ k1166) (fun _ h9 => h9) rfl (by decide +kernel) rfl rfl (fun _ => Nat.le_of_ble_eq_true rfl) (fun _ _ => rfl) dX10_clear_2 (fun H locs hP hS => ?_)
  obtain ⟨μ1, eμ1⟩ : ∃ x : va_M, x = uz μ 0 0 (0) := ⟨_, rfl⟩
  rw [← eμ1] at hP
  have hz : fr (fun x y => x = 0 ∧ y = 0) μ μ1 := by rw [eμ1]; exact fr_uz fr_rfl ⟨rfl, rfl⟩
  have h00 : μ1 0 0 = 0 := by rw [eμ1, uz_s]
  have hPS : fr PS μ μ1 := fr_mono hz (fun x y h => by unfold PS; omega)
  have sB := hJK.2.1 Wk s4
  have zT : TR μ1 0 Wk := TR_fr s1 hz (fun x => by omega) (by omega)
  refine lv_aload_n hx hb dX10_clear_5 rfl (lv_at hl 0 rfl) ?_
  refine lv_iconst (v := iZ 0) hx hb dX10_clear_6 rfl ?_
  refine va_calli (va_runV (As := [.int (iZ (0))]) (rest := []) ⟨hx, hb, hml, hown, hts⟩ (m_sizeOfAll2 l dC dI cI cZ cII cIII h0 H.size μ1 (0) (by decide) (by exact TR_tok zT sB.1.1 sB.1.2.1)) (cwV 1 hts (gV_G k1484 k1486 ks_yX10_sizeOfAll k13 k1487) rfl rfl rfl (by decide +kernel) ⟨Nat.le_of_ble_eq_true rfl, Nat.le_of_ble_eq_true rfl⟩) ⟨fun a U g mk q => by obtain ⟨q0, q1, qP, qK⟩ := q; exact ⟨q0, q1, qP, va_K.moved (u := U) (U := U.calling g mk a) (Vm.Alike.refl U.vm) qK⟩, va_recv hK hP (ci := 10) (q0 := 0) rfl ((fw_get (by decide)).trans (by rw [mE_obj]; rfl)), fun U hU hW => ⟨rfl, by rw [hU], by rw [hU]; exact hP, va_K.moved hW.alike hK⟩⟩ rfl rfl hl.1 rfl (lv_room (Nat.le_of_ble_eq_true rfl)) dX10_clear_7 ⟨Nat.le_of_ble_eq_true rfl, Nat.le_of_ble_eq_true rfl⟩) hS (fun q _ h => fA_le hS.1 q h) (fA_le hS.1) (fun r9 u9 t9 H1 locs ht9 hvm9 hw9 hB9 hz9 hk9 hS => ?_)
  obtain ⟨μ2, rs⟩ := u9
  obtain ⟨hP, -⟩ := hB9
  rw [ht9] at hP
  generalize H1 = H at hP hS ⊢
  obtain ⟨e9, hw9⟩ := hw9
  have e9 : r9 = iZ rs := e9
  subst e9
  simp only at hP hw9
  have hμ2 := hw9; clear hw9
  rw [hμ2.1] at hP; have hμ2 := hμ2.2
  have hrs : rs = (rL Wk : Int) := by
    have h9 := hμ2
    rw [show (0 : Int).toNat = 0 from rfl, zT.1, Int.toNat_natCast, cS_row _ 0 zT.2] at h9
    exact h9
  refine lv_istore_n (lv' := [(1, .int (iZ (rs))), (0, .ref h0)]) hx hb dX10_clear_10 rfl hl (by decide) rfl (fun ls hl => ?_)
  refine lv_aload_n hx hb dX10_clear_11 rfl (lv_at hl 1 rfl) ?_
  refine lv_iconst (v := iZ 0) hx hb dX10_clear_12 rfl ?_
  refine va_callv (va_runV (As := [.int (iZ (0))]) (rest := []) ⟨hx, hb, hml, hown, hts⟩ (m_empties l dC dI cI cZ cII cIII h0 H.size μ1 (0) (by decide)) (cwV 1 hts (gV_G k1373 k1375 ks_yX10_empties k13 k1376) rfl rfl rfl (by decide +kernel) ⟨Nat.le_of_ble_eq_true rfl, Nat.le_of_ble_eq_true rfl⟩) ⟨fun a U g mk q => by obtain ⟨q0, q1, qP, qK⟩ := q; exact ⟨q0, q1, qP, va_K.moved (u := U) (U := U.calling g mk a) (Vm.Alike.refl U.vm) qK⟩, va_recv hK hP (ci := 10) (q0 := 0) rfl ((fw_get (by decide)).trans (by rw [mE_obj]; rfl)), fun U hU hW => ⟨rfl, by rw [hU], by rw [hU]; exact hP, va_K.moved hW.alike hK⟩⟩ rfl rfl hl.1 rfl (lv_room (Nat.le_of_ble_eq_true rfl)) dX10_clear_13 ⟨Nat.le_of_ble_eq_true rfl, Nat.le_of_ble_eq_true rfl⟩) hS (fun q _ h => fA_le hS.1 q h) (fA_le hS.1) (fun u9 t9 H1 locs ht9 hvm9 hw9 hB9 hz9 hk9 hS => ?_)
  obtain ⟨hP, -⟩ := hB9
  rw [ht9] at hP
  generalize H1 = H at hP hS ⊢
  obtain ⟨μa, eμa⟩ : ∃ x : va_M, x = u9 := ⟨_, rfl⟩
  rw [← eμa] at hP hw9
  have hμa := hw9; clear hw9
  rw [show (0 : Int).toNat = 0 from rfl] at hμa
  have hy : fr (fun x y => (x = 0 ∧ y = 0) ∨ (x = 719 ∧ y = 0)) μ μa := by rw [hμa]; exact fr_uz (fr_mono hz (fun x y h => Or.inl h)) (Or.inr ⟨rfl, rfl⟩)
  have hn0 : μa 719 0 = 0 := by rw [hμa, uz_s]
  have h0a : μa 0 0 = 0 := by rw [hμa, uz_n (by omega)]; exact h00
  refine lv_aload_n hx hb dX10_clear_16 rfl (lv_at hl 1 rfl) ?_
  refine lv_iconst (v := iZ 0) hx hb dX10_clear_17 rfl ?_
  refine fz_put (D := (dC, dI)) (ci := 10) (ty := .boolean) (z := 0) (C := RX10) (T := TX10) (N := 53) hx hb hts inG10 tyX10 tyX10_ok nmX10 hown hK hP fA_in hS (k := 0) (by decide) (F := mF h0) mE_obj rfl 22 (by decide) (hts _ k1188) (fun _ h9 => h9) rfl (by decide +kernel) (fz_narZ (by decide)) rfl (fun _ => Nat.le_of_ble_eq_true rfl) (fun _ _ => rfl) dX10_clear_18 (fun H locs hP hS => ?_)
  obtain ⟨μ3, eμ3⟩ : ∃ x : va_M, x = uz μa 0 22 (0) := ⟨_, rfl⟩
  rw [← eμ3] at hP
  refine lv_aload_n hx hb dX10_clear_21 rfl (lv_at hl 1 rfl) ?_
  refine lv_iconst (v := iZ 0) hx hb dX10_clear_22 rfl ?_
  refine fz_put (D := (dC, dI)) (ci := 10) (ty := .int) (z := 0) (C := RX10) (T := TX10) (N := 53) hx hb hts inG10 tyX10 tyX10_ok nmX10 hown hK hP fA_in hS (k := 0) (by decide) (F := mF h0) mE_obj rfl 23 (by decide) (hts _ k1189) (fun _ h9 => h9) rfl (by decide +kernel) rfl rfl (fun _ => Nat.le_of_ble_eq_true rfl) (fun _ _ => rfl) dX10_clear_23 (fun H locs hP hS => ?_)
  obtain ⟨μ4, eμ4⟩ : ∃ x : va_M, x = uz μ3 0 23 (0) := ⟨_, rfl⟩
  rw [← eμ4] at hP
  refine lv_aload_n hx hb dX10_clear_26 rfl (lv_at hl 1 rfl) ?_
  refine lv_iconst (v := iZ 0) hx hb dX10_clear_27 rfl ?_
  refine fz_put (D := (dC, dI)) (ci := 10) (ty := .int) (z := 0) (C := RX10) (T := TX10) (N := 53) hx hb hts inG10 tyX10 tyX10_ok nmX10 hown hK hP fA_in hS (k := 0) (by decide) (F := mF h0) mE_obj rfl 24 (by decide) (hts _ k1190) (fun _ h9 => h9) rfl (by decide +kernel) rfl rfl (fun _ => Nat.le_of_ble_eq_true rfl) (fun _ _ => rfl) dX10_clear_28 (fun H locs hP hS => ?_)
  obtain ⟨μ5, eμ5⟩ : ∃ x : va_M, x = uz μ4 0 24 (0) := ⟨_, rfl⟩
  rw [← eμ5] at hP
  refine lv_iload_n hx hb dX10_clear_31 rfl (lv_at hl 0 rfl) ?_
  exact W.iret (v := iZ (rs)) hx hb hr (fun t9 ht9 hW9 => ⟨⟨iZ (rs), (μ5, rs), rfl, ⟨rfl, (by
            dsimp only
            have ff : fr (fun x y => x = 0 ∧ (y = 22 ∨ y = 23 ∨ y = 24)) μa μ5 := by rw [eμ5, eμ4, eμ3]; exact fr_uz (fr_uz (fr_uz fr_rfl ⟨rfl, by omega⟩) ⟨rfl, by omega⟩) ⟨rfl, by omega⟩
            have fz : fr (fun x y => (x = 0 ∧ (y = 0 ∨ y = 22 ∨ y = 23 ∨ y = 24)) ∨ (x = 719 ∧ y = 0)) μ μ5 := fr_trans (fr_mono hy (fun x y h => by omega)) (fr_mono ff (fun x y h => by omega))
            have gT : TR μ5 0 Std.DTreeMap.Internal.Impl.leaf := ⟨by rw [ff 719 0 (by omega)]; exact hn0, trivial⟩
            have gf : fr KF μ μ5 := fr_mono fz (fun x y h => by unfold KF PS PT BF; omega)
            have g23 : μ5 0 23 = 0 := by rw [eμ5, eμ4, eμ3, uz_n (by omega), uz_s]
            have g22 : μ5 0 22 = 0 := by rw [eμ5, eμ4, eμ3, uz_n (by omega), uz_n (by omega), uz_s]
            have g00 := ff 0 0 (by omega)
            have hS9 : SKJ J .leaf [] μ5 := ⟨⟨gT, ⟨fun _ => rfl, fun _ => g22⟩, g23, fun i B hB => by simp at hB⟩, hJK.1, fun i B hB => by simp at hB, Nat.zero_le _⟩
            exact ⟨⟨gf, RI_SK hJK hR gf (Or.inl g22) (fun j hj => by rw [fz 721 j (by omega)]; exact r7 j hj) hS9, by omega⟩, by omega, hrs, hS9.1⟩)⟩, by rw [ht9]; exact hP, va_K.moved hW9.alike hK⟩, hS.F ht9⟩) hS.2.2 dX10_clear_32
set_option maxHeartbeats 40000000 in
set_option maxRecDepth 100000 in
theorem f_tidy (l : Launch) (dC : Nat → ClassId) (dI : Nat → Nat → Nat) (cI cZ cII cIII : ClassId) (h0 sz : Nat) (μ : va_M) (J : Rw → Prop) (Wk : Rw) (Bs : List Rw) (hR : RI J μ) (hJK : JOK J) (hJT : JTD J) (hSK : SKJ J Wk Bs μ) (hJA : ∀ w : Rw, J w → rAd w) : Met l yX10_tidy (Cond.code yX10_tidy cX10_tidy 2 (some .int) :: wsG) ({ frames := 49, cells := 0, slots := 0, locals := 1678 } : Room) (va_Pc [.ref h0] (fun U => U.heap.size = sz ∧ va_P (dC, dI) vwCl (fw (mE cI cZ cII cIII h0) h0 6325 μ) U.heap ∧ va_K (dC, dI) vwCl (mT cI cZ cII cIII) U)) (va_Qi (fun (r9 : Int32) (u : va_M × Int) => r9 = iZ u.2 ∧ (fun (u : va_M) (r : Int) => GE J μ u ∧ u 0 0 = 0 ∧ ∃ (w2 : Rw) (n : Nat), tdy Wk w2 n ∧ r = n ∧ ((r = 0 ∧ SKr Wk Bs u) ∨ (¬ r = 0 ∧ SKr w2 (Wk :: Bs.take 15) u ∧ J w2))) u.1 u.2) (fun u t => va_P (dC, dI) vwCl (fw (mE cI cZ cII cIII h0) h0 6325 u.1) t.heap ∧ va_K (dC, dI) vwCl (mT cI cZ cII cIII) t) (fA h0 6325 sz)) 0 0 (fA h0 6325 sz) := by
  refine Met.ofW (cc := cX10_tidy) (maxL := 2) (ret := (some .int)) (by decide) rfl ?_
  intro p e s m args below meth c s₁ B hml hv
  obtain ⟨rfl, hsz, hP, hK⟩ := hv
  have hx := B.exec
  have hb := B.bytes
  have hr := B.returns
  have hts : ∀ w ∈ wsG, w.before _ s = true := hG_of (atoms_spec (ws := (Cond.code yX10_tidy cX10_tidy 2 (some .int) :: wsG)) B.pre)
  have hown : s.vm.findClass RX10 = some m.cls := findClass_of_methodNamed B.named
  have hlocks := B.notSynchronized
  subst hsz
  have hS : va_S (fA h0 6325 s.heap.size) s.heap s.heap [] := va_S.rf
  have hl := lv_entry ([.ref h0]) (n := 2) (Nat.le_of_ble_eq_true rfl)
  rw [lg_entry_eq]
  generalize (lg_sl ([.ref h0]) ++ List.replicate (2 - (lg_sl ([.ref h0])).length) Slot.unset).toArray = ls at hl ⊢
  have hl : lv_has ls 2 [(0, .ref h0)] := hl
  have hQ := hR.1
  refine lv_aload_n hx hb dX10_tidy_0 rfl (lv_at hl 0 rfl) ?_
  refine lv_iconst (v := iZ 0) hx hb dX10_tidy_1 rfl ?_
  refine fz_put (D := (dC, dI)) (ci := 10) (ty := .int) (z := 0) (C := RX10) (T := TX10) (N := 53) hx hb hts inG10 tyX10 tyX10_ok nmX10 hown hK hP fA_in hS (k := 0) (by decide) (F := mF h0) mE_obj rfl 0 (by decide) (hts _ k1166) (fun _ h9 => h9) rfl (by decide +kernel) rfl rfl (fun _ => Nat.le_of_ble_eq_true rfl) (fun _ _ => rfl) dX10_tidy_2 (fun H locs hP hS => ?_)
  obtain ⟨μ1, eμ1⟩ : ∃ x : va_M, x = uz μ 0 0 (0) := ⟨_, rfl⟩
  rw [← eμ1] at hP
  have hfr : fr PS μ μ1 := by rw [eμ1]; exact fr_uz fr_rfl (by unfold PS; omega)
  have ht0 : μ1 0 0 = 0 := by rw [eμ1, uz_s]
  have e10 := hfr 0 10 (PS_n (by omega))
  have e9 := hfr 0 9 (PS_n (by omega))
  have e71 := hfr 719 0 (PS_n (by omega))
  have hQ1 := RQ_fr hQ hfr
  have hQc := hQ
  obtain ⟨f10, ⟨fT, fTb, fTw⟩, fS3, fPg, fw9, fwB, fwT⟩ := hQc
  obtain ⟨g10, ⟨gT, gTb, gTw⟩, gS3, gPg, gw, gwB, gwT⟩ := hQ1
  have gtk := TR_tok gwT gwB.1 gwB.2.1
  have gt1 := gtk.1
  have gt2 := gtk.2.1
  have hSKu := SKr_PS hSK.1 hSK.2.2.2 hfr
  have sB := hJK.2.1 Wk hSK.2.1
  refine lv_aload_n hx hb dX10_tidy_5 rfl (lv_at hl 0 rfl) ?_
  refine va_calli (va_runV (As := []) (rest := []) ⟨hx, hb, hml, hown, hts⟩ (m_tidiesAll2 l dC dI cI cZ cII cIII h0 H.size μ1 (Wk) (by exact hSKu.1) (by exact hJT.1 Wk hSK.2.1)) (cwV 0 hts (gV_G k1436 k1438 ks_yX10_tidiesAll k13 k1439) rfl rfl rfl (by decide +kernel) ⟨Nat.le_of_ble_eq_true rfl, Nat.le_of_ble_eq_true rfl⟩) ⟨fun a U g mk q => by obtain ⟨q0, q1, qP, qK⟩ := q; exact ⟨q0, q1, qP, va_K.moved (u := U) (U := U.calling g mk a) (Vm.Alike.refl U.vm) qK⟩, va_recv hK hP (ci := 10) (q0 := 0) rfl ((fw_get (by decide)).trans (by rw [mE_obj]; rfl)), fun U hU hW => ⟨rfl, by rw [hU], by rw [hU]; exact hP, va_K.moved hW.alike hK⟩⟩ rfl rfl hl.1 rfl (lv_room (Nat.le_of_ble_eq_true rfl)) dX10_tidy_6 ⟨Nat.le_of_ble_eq_true rfl, Nat.le_of_ble_eq_true rfl⟩) hS (fun q _ h => fA_le hS.1 q h) (fA_le hS.1) (fun r9 u9 t9 H1 locs ht9 hvm9 hw9 hB9 hz9 hk9 hS => ?_)
  obtain ⟨μt, rt⟩ := u9
  obtain ⟨hP, -⟩ := hB9
  rw [ht9] at hP
  generalize H1 = H at hP hS ⊢
  obtain ⟨e9, hw9⟩ := hw9
  have e9 : r9 = iZ rt := e9
  subst e9
  simp only at hP hw9
  have hμt := hw9; clear hw9
  obtain ⟨⟨w2, c9, y1, y2, y2b, y2c⟩, y3, y4, y5⟩ := hμt
  have hfr := fr_trans hfr (fr_mono y3 (fun x y h => TC_PS h))
  have h00z := y3 0 0 (TC_00 (by omega))
  have jw2 := hJT.2 Wk w2 hSK.2.1 y2
  have bw2 := (hJK.2.1 w2 jw2).1
  have ytk := TR_tok y1 bw2.1 bw2.2.1
  refine lv_istore_n (lv' := [(1, .int (iZ (rt))), (0, .ref h0)]) hx hb dX10_tidy_9 rfl hl (by decide) rfl (fun ls hl => ?_)
  refine lv_iload_n hx hb dX10_tidy_10 rfl (lv_at hl 0 rfl) ?_
  refine fz_if_ne (tgt := 16) (by constructor <;> omega) hx hb dX10_tidy_11 (by decide) (fun c11_ => ?_) (fun c11_ => ?_)
  · have hRb := RI_PS hR hfr
    have hSK2 := SKr_PS hSK.1 hSK.2.2.2 hfr
    refine lv_aload_n hx hb dX10_tidy_16 rfl (lv_at hl 1 rfl) ?_
    refine lv_iconst (v := iZ 0) hx hb dX10_tidy_17 rfl ?_
    refine va_callv (va_runV (As := [.int (iZ (0))]) (rest := []) ⟨hx, hb, hml, hown, hts⟩ (f_remembers l dC dI cI cZ cII cIII h0 H.size μt (0) (Wk) (Bs) (by exact hRb.2.2.2.2.1) (by exact hSK2.2.2) (by exact hSK.2.2.2) (by exact fun i B hB => (hJK.2.1 B (hSK.2.2.1 i B hB)).1) (by exact hSK2.1) (by exact sB.1) (by exact hRb.2.2.2.1) (by exact hSK2.2.1)) (cwV 1 hts (gV_G k1472 k1474 ks_yX10_remembers k13 k1475) rfl rfl rfl (by decide +kernel) ⟨Nat.le_of_ble_eq_true rfl, Nat.le_of_ble_eq_true rfl⟩) ⟨fun a U g mk q => by obtain ⟨q0, q1, qP, qK⟩ := q; exact ⟨q0, q1, qP, va_K.moved (u := U) (U := U.calling g mk a) (Vm.Alike.refl U.vm) qK⟩, va_recv hK hP (ci := 10) (q0 := 0) rfl ((fw_get (by decide)).trans (by rw [mE_obj]; rfl)), fun U hU hW => ⟨rfl, by rw [hU], by rw [hU]; exact hP, va_K.moved hW.alike hK⟩⟩ rfl rfl hl.1 rfl (lv_room (Nat.le_of_ble_eq_true rfl)) dX10_tidy_18 ⟨Nat.le_of_ble_eq_true rfl, Nat.le_of_ble_eq_true rfl⟩) hS (fun q _ h => fA_le hS.1 q h) (fA_le hS.1) (fun u9 t9 H1 locs ht9 hvm9 hw9 hB9 hz9 hk9 hS => ?_)
    obtain ⟨hP, -⟩ := hB9
    rw [ht9] at hP
    generalize H1 = H at hP hS ⊢
    obtain ⟨μr, eμr⟩ : ∃ x : va_M, x = u9 := ⟨_, rfl⟩
    rw [← eμr] at hP hw9
    have hμr := hw9; clear hw9
    obtain ⟨z1, z2, z3⟩ := hμr
    have y1c : TR μr 54 w2 := TR_fr y1 z1 (fun x => by unfold BF; omega) (by unfold BF; omega)
    refine lv_aload_n hx hb dX10_tidy_21 rfl (lv_at hl 1 rfl) ?_
    refine lv_bipush (v := iZ 54) hx hb dX10_tidy_22 rfl ?_
    refine lv_iconst (v := iZ 0) hx hb dX10_tidy_24 rfl ?_
    refine va_callv (va_runV (As := [.int (iZ (54)), .int (iZ (0))]) (rest := []) ⟨hx, hb, hml, hown, hts⟩ (m_copiesAll l dC dI cI cZ cII cIII h0 H.size μr (54) (0) (w2) (by decide) (by decide) (by decide) (by exact y1c) (by exact bw2.2.1)) (cwV 2 hts (gV_G k1424 k1426 ks_yX10_copiesAll k13 k1427) rfl rfl rfl (by decide +kernel) ⟨Nat.le_of_ble_eq_true rfl, Nat.le_of_ble_eq_true rfl⟩) ⟨fun a U g mk q => by obtain ⟨q0, q1, qP, qK⟩ := q; exact ⟨q0, q1, qP, va_K.moved (u := U) (U := U.calling g mk a) (Vm.Alike.refl U.vm) qK⟩, va_recv hK hP (ci := 10) (q0 := 0) rfl ((fw_get (by decide)).trans (by rw [mE_obj]; rfl)), fun U hU hW => ⟨rfl, by rw [hU], by rw [hU]; exact hP, va_K.moved hW.alike hK⟩⟩ rfl rfl hl.1 rfl (lv_room (Nat.le_of_ble_eq_true rfl)) dX10_tidy_25 ⟨Nat.le_of_ble_eq_true rfl, Nat.le_of_ble_eq_true rfl⟩) hS (fun q _ h => fA_le hS.1 q h) (fA_le hS.1) (fun u9 t9 H1 locs ht9 hvm9 hw9 hB9 hz9 hk9 hS => ?_)
    obtain ⟨hP, -⟩ := hB9
    rw [ht9] at hP
    generalize H1 = H at hP hS ⊢
    obtain ⟨μk, eμk⟩ : ∃ x : va_M, x = u9 := ⟨_, rfl⟩
    rw [← eμk] at hP hw9
    have hμk := hw9; clear hw9
    obtain ⟨x1, x2⟩ := hμk
    rw [show (0 : Int).toNat = 0 from rfl] at x1 x2
    refine lv_iload_n hx hb dX10_tidy_28 rfl (lv_at hl 0 rfl) ?_
    exact W.iret (v := iZ (rt)) hx hb hr (fun t9 ht9 hW9 => ⟨⟨iZ (rt), (μk, rt), rfl, ⟨rfl, (by
                dsimp only
                have gk := fr_trans (fr_mono (P2 := KF) z1 (fun x y h => Or.inr (Or.inr (Or.inl h)))) (fr_mono (P2 := KF) x2 (fun x y h => Or.inr (Or.inl h)))
                have gf : fr KF μ μk := fr_trans (fr_mono hfr (fun x y h => Or.inl h)) gk
                have g0b := x2 0 0 (by unfold PT; omega)
                have g0c := z1 0 0 (by unfold BF; omega)
                have g22 : μk 0 22 = μt 0 22 := (x2 0 22 (by unfold PT; omega)).trans (z1 0 22 (by unfold BF; omega))
                have h22 := hRb.2.2.2.1
                have hne : Wk = .leaf ↔ w2 = .leaf := ⟨fun e => tdy_0 (by rw [e] at y2b; exact y2b), fun e => by
                  by_cases h9 : Wk = .leaf
                  · exact h9
                  · exact absurd e ((y2 sB.1.1 (hJA Wk hSK.2.1)).2.2.2.2.2.2.1 h9)⟩
                have hS9 : SKJ J w2 (Wk :: Bs.take 15) μk := ⟨⟨x1, by rw [g22]; exact hSK2.2.1.trans hne, bkX_fr (P := PT 0) z3 (len_cons Wk Bs) x2 (fun x y h => by unfold PT; omega)⟩, jw2, JBs_cons hSK.2.1 hSK.2.2.1, len_cons Wk Bs⟩
                exact ⟨⟨gf, RI_SK hJK hR gf (by rw [g22]; exact h22) (fun j hj => by rw [x2 721 j (by unfold PT; omega)]; exact z2 j hj) hS9, by omega⟩, by omega, w2, c9, y2b, by omega, Or.inr ⟨by omega, hS9.1, jw2⟩⟩)⟩, by rw [ht9]; exact hP, va_K.moved hW9.alike hK⟩, hS.F ht9⟩) hS.2.2 dX10_tidy_29
  · refine lv_iconst (v := iZ 0) hx hb dX10_tidy_14 rfl ?_
    exact W.iret (v := iZ (0)) hx hb hr (fun t9 ht9 hW9 => ⟨⟨iZ (0), (μt, 0), rfl, ⟨rfl, (by
                dsimp only
                exact ⟨GE_PS hR ⟨hfr, by omega⟩, by omega, w2, c9, y2b, by omega, Or.inl ⟨rfl, SKr_PS hSK.1 hSK.2.2.2 hfr⟩⟩)⟩, by rw [ht9]; exact hP, va_K.moved hW9.alike hK⟩, hS.F ht9⟩) hS.2.2 dX10_tidy_15
set_option maxHeartbeats 40000000 in
set_option maxRecDepth 100000 in
theorem f_tidiedK (l : Launch) (dC : Nat → ClassId) (dI : Nat → Nat → Nat) (cI cZ cII cIII : ClassId) (h0 sz : Nat) (μ : va_M) (w : Int) (J : Rw → Prop) (Wk : Rw) (Bs : List Rw) (hR : RI J μ) (hJK : JOK J) (hJT : JTD J) (hSK : SKJ J Wk Bs μ) (hw9 : inR w) : Met l yX10_tidied (Cond.code yX10_tidied cX10_tidied 3 (some .int) :: wsG) ({ frames := 49, cells := 0, slots := 0, locals := 1678 } : Room) (va_Pc [.ref h0, .int (iZ (w))] (fun U => U.heap.size = sz ∧ va_P (dC, dI) vwCl (fw (mE cI cZ cII cIII h0) h0 6325 μ) U.heap ∧ va_K (dC, dI) vwCl (mT cI cZ cII cIII) U)) (va_Qi (fun (r9 : Int32) (u : va_M × Int) => r9 = iZ u.2 ∧ (fun (u : va_M) (r : Int) => GE J μ u ∧ SKr Wk Bs u) u.1 u.2) (fun u t => va_P (dC, dI) vwCl (fw (mE cI cZ cII cIII h0) h0 6325 u.1) t.heap ∧ va_K (dC, dI) vwCl (mT cI cZ cII cIII) t) (fA h0 6325 sz)) 0 0 (fA h0 6325 sz) := by
  refine Met.ofW (cc := cX10_tidied) (maxL := 3) (ret := (some .int)) (by decide) rfl ?_
  intro p e s m args below meth c s₁ B hml hv
  obtain ⟨rfl, hsz, hP, hK⟩ := hv
  have hx := B.exec
  have hb := B.bytes
  have hr := B.returns
  have hts : ∀ w ∈ wsG, w.before _ s = true := hG_of (atoms_spec (ws := (Cond.code yX10_tidied cX10_tidied 3 (some .int) :: wsG)) B.pre)
  have hown : s.vm.findClass RX10 = some m.cls := findClass_of_methodNamed B.named
  have hlocks := B.notSynchronized
  subst hsz
  have hS : va_S (fA h0 6325 s.heap.size) s.heap s.heap [] := va_S.rf
  have hl := lv_entry ([.ref h0, .int (iZ (w))]) (n := 3) (Nat.le_of_ble_eq_true rfl)
  rw [lg_entry_eq]
  generalize (lg_sl ([.ref h0, .int (iZ (w))]) ++ List.replicate (3 - (lg_sl ([.ref h0, .int (iZ (w))])).length) Slot.unset).toArray = ls at hl ⊢
  have hl : lv_has ls 3 [(0, .ref h0), (1, .int (iZ (w)))] := hl
  have hQ := hR.1
  refine lv_aload_n hx hb dX10_tidied_0 rfl (lv_at hl 0 rfl) ?_
  refine lv_iconst (v := iZ 0) hx hb dX10_tidied_1 rfl ?_
  refine fz_put (D := (dC, dI)) (ci := 10) (ty := .int) (z := 0) (C := RX10) (T := TX10) (N := 53) hx hb hts inG10 tyX10 tyX10_ok nmX10 hown hK hP fA_in hS (k := 0) (by decide) (F := mF h0) mE_obj rfl 0 (by decide) (hts _ k1166) (fun _ h9 => h9) rfl (by decide +kernel) rfl rfl (fun _ => Nat.le_of_ble_eq_true rfl) (fun _ _ => rfl) dX10_tidied_2 (fun H locs hP hS => ?_)
  obtain ⟨μ1, eμ1⟩ : ∃ x : va_M, x = uz μ 0 0 (0) := ⟨_, rfl⟩
  rw [← eμ1] at hP
  have hfr : fr PS μ μ1 := by rw [eμ1]; exact fr_uz fr_rfl (by unfold PS; omega)
  have ht0 : μ1 0 0 = 0 := by rw [eμ1, uz_s]
  have e10 := hfr 0 10 (PS_n (by omega))
  have e9 := hfr 0 9 (PS_n (by omega))
  have e71 := hfr 719 0 (PS_n (by omega))
  have hQ1 := RQ_fr hQ hfr
  have hQc := hQ
  obtain ⟨f10, ⟨fT, fTb, fTw⟩, fS3, fPg, fw9, fwB, fwT⟩ := hQc
  obtain ⟨g10, ⟨gT, gTb, gTw⟩, gS3, gPg, gw, gwB, gwT⟩ := hQ1
  have gtk := TR_tok gwT gwB.1 gwB.2.1
  have gt1 := gtk.1
  have gt2 := gtk.2.1
  refine lv_aload_n hx hb dX10_tidied_5 rfl (lv_at hl 0 rfl) ?_
  refine lv_iload_n hx hb dX10_tidied_6 rfl (lv_at hl 1 rfl) ?_
  refine lv_iconst (v := iZ 0) hx hb dX10_tidied_7 rfl ?_
  refine lv_iconst (v := iZ 3) hx hb dX10_tidied_8 rfl ?_
  refine va_calli (va_runS (As := [.int (iZ (w)), .int (iZ (0)), .int (iZ (3))]) (rest := [.ref h0]) ⟨hx, hb, hml, hown, hts⟩ (m_in l dC dI cI cZ cII cIII h0 H.size μ1 (w) (0) (3) (by first | assumption | omega | exact ⟨by omega, by omega⟩) (by first | assumption | omega | exact ⟨by omega, by omega⟩) (by first | assumption | omega | exact ⟨by omega, by omega⟩)) (cwS 3 hts (gS_G k1335 k1336 k13 k1337) rfl rfl rfl (by decide +kernel) ⟨Nat.le_of_ble_eq_true rfl, Nat.le_of_ble_eq_true rfl⟩) ⟨fun a U g mk q => by obtain ⟨q0, q1, qP, qK⟩ := q; exact ⟨q0, q1, qP, va_K.moved (u := U) (U := U.calling g mk a) (Vm.Alike.refl U.vm) qK⟩, fun U hU hW => ⟨rfl, by rw [hU], by rw [hU]; exact hP, va_K.moved hW.alike hK⟩⟩ rfl rfl hl.1 rfl (lv_room (Nat.le_of_ble_eq_true rfl)) dX10_tidied_9 ⟨Nat.le_of_ble_eq_true rfl, Nat.le_of_ble_eq_true rfl⟩) hS (fun q _ h => fA_le hS.1 q h) (fA_le hS.1) (fun r9 u9 t9 H1 locs ht9 hvm9 hw9 hB9 hz9 hk9 hS => ?_)
  obtain ⟨μ2, r3⟩ := u9
  obtain ⟨hP, -⟩ := hB9
  rw [ht9] at hP
  generalize H1 = H at hP hS ⊢
  obtain ⟨e9, hw9⟩ := hw9
  have e9 : r9 = iZ r3 := e9
  subst e9
  simp only at hP hw9
  have hμ2 := hw9; clear hw9
  rw [hμ2.1] at hP; have hμ2 := hμ2.2
  have hin := hμ2
  have hin2 := if_01 hμ2
  refine fz_if_ne (tgt := 19) (by constructor <;> omega) hx hb dX10_tidied_12 (by decide) (fun c12_ => ?_) (fun c12_ => ?_)
  · refine lv_iconst (v := iZ 0) hx hb dX10_tidied_19 rfl ?_
    refine lv_iconst (v := iZ 1) hx hb dX10_tidied_20 rfl ?_
    refine lv_iconst (v := iZ 1) hx hb dX10_tidied_21 rfl ?_
    refine va_calli (va_runV (As := [.int (iZ (0)), .int (iZ (1)), .int (iZ (1))]) (rest := []) ⟨hx, hb, hml, hown, hts⟩ (m_bad2 l dC dI cI cZ cII cIII h0 H.size μ1 (0) (1) (1) (by first | assumption | omega | exact ⟨by omega, by omega⟩) (by first | assumption | omega | exact ⟨by omega, by omega⟩) (by first | assumption | omega | exact ⟨by omega, by omega⟩) (by first | assumption | omega | exact ⟨by omega, by omega⟩)) (cwV 3 hts (gV_G k1338 k1340 ks_yX10_bad k13 k1341) rfl rfl rfl (by decide +kernel) ⟨Nat.le_of_ble_eq_true rfl, Nat.le_of_ble_eq_true rfl⟩) ⟨fun a U g mk q => by obtain ⟨q0, q1, qP, qK⟩ := q; exact ⟨q0, q1, qP, va_K.moved (u := U) (U := U.calling g mk a) (Vm.Alike.refl U.vm) qK⟩, va_recv hK hP (ci := 10) (q0 := 0) rfl ((fw_get (by decide)).trans (by rw [mE_obj]; rfl)), fun U hU hW => ⟨rfl, by rw [hU], by rw [hU]; exact hP, va_K.moved hW.alike hK⟩⟩ rfl rfl hl.1 rfl (lv_room (Nat.le_of_ble_eq_true rfl)) dX10_tidied_22 ⟨Nat.le_of_ble_eq_true rfl, Nat.le_of_ble_eq_true rfl⟩) hS (fun q _ h => fA_le hS.1 q h) (fA_le hS.1) (fun r9 u9 t9 H1 locs ht9 hvm9 hw9 hB9 hz9 hk9 hS => ?_)
    obtain ⟨μ4, r5⟩ := u9
    obtain ⟨hP, -⟩ := hB9
    rw [ht9] at hP
    generalize H1 = H at hP hS ⊢
    obtain ⟨e9, hw9⟩ := hw9
    have e9 : r9 = iZ r5 := e9
    subst e9
    simp only at hP hw9
    have hμ4 := hw9; clear hw9
    have hfr := fr_trans hfr (badP_fr hμ4)
    have hrb := badP_r hμ4
    obtain rfl : r5 = 0 := by omega
    refine fz_if_eq (tgt := 30) (by decide) hx hb dX10_tidied_25 (by decide) (fun c25_ => ?_) (fun h9 => absurd h9 (by decide))
    have hQ2 := RQ_fr hQ hfr
    obtain ⟨k10, ⟨kT, kTb, kTw⟩, kS3, kPg, kw, kwB, kwT⟩ := hQ2
    have e10k := hfr 0 10 (PS_n (by omega))
    have e9k := hfr 0 9 (PS_n (by omega))
    have e71k := hfr 719 0 (PS_n (by omega))
    have ktk := TR_tok kwT kwB.1 kwB.2.1
    have kt1 := ktk.1
    have kt2 := ktk.2.1
    have hSKu := SKr_PS hSK.1 hSK.2.2.2 hfr
    have sB := hJK.2.1 Wk hSK.2.1
    refine lv_aload_n hx hb dX10_tidied_30 rfl (lv_at hl 0 rfl) ?_
    refine va_calli (va_runV (As := []) (rest := []) ⟨hx, hb, hml, hown, hts⟩ (m_tidiesAll2 l dC dI cI cZ cII cIII h0 H.size μ4 (Wk) (by exact hSKu.1) (by exact hJT.1 Wk hSK.2.1)) (cwV 0 hts (gV_G k1436 k1438 ks_yX10_tidiesAll k13 k1439) rfl rfl rfl (by decide +kernel) ⟨Nat.le_of_ble_eq_true rfl, Nat.le_of_ble_eq_true rfl⟩) ⟨fun a U g mk q => by obtain ⟨q0, q1, qP, qK⟩ := q; exact ⟨q0, q1, qP, va_K.moved (u := U) (U := U.calling g mk a) (Vm.Alike.refl U.vm) qK⟩, va_recv hK hP (ci := 10) (q0 := 0) rfl ((fw_get (by decide)).trans (by rw [mE_obj]; rfl)), fun U hU hW => ⟨rfl, by rw [hU], by rw [hU]; exact hP, va_K.moved hW.alike hK⟩⟩ rfl rfl hl.1 rfl (lv_room (Nat.le_of_ble_eq_true rfl)) dX10_tidied_31 ⟨Nat.le_of_ble_eq_true rfl, Nat.le_of_ble_eq_true rfl⟩) hS (fun q _ h => fA_le hS.1 q h) (fA_le hS.1) (fun r9 u9 t9 H1 locs ht9 hvm9 hw9 hB9 hz9 hk9 hS => ?_)
    obtain ⟨μt, rt⟩ := u9
    obtain ⟨hP, -⟩ := hB9
    rw [ht9] at hP
    generalize H1 = H at hP hS ⊢
    obtain ⟨e9, hw9⟩ := hw9
    have e9 : r9 = iZ rt := e9
    subst e9
    simp only at hP hw9
    have hμt := hw9; clear hw9
    obtain ⟨⟨w2, c9, y1, y2, y2b, y2c⟩, y3, y4, y5⟩ := hμt
    have hfr := fr_trans hfr (fr_mono y3 (fun x y h => TC_PS h))
    have h00z := y3 0 0 (TC_00 (by omega))
    have jw2 := hJT.2 Wk w2 hSK.2.1 y2
    have bw2 := (hJK.2.1 w2 jw2).1
    have ytk := TR_tok y1 bw2.1 bw2.2.1
    refine lv_istore_n (lv' := [(2, .int (iZ (rt))), (0, .ref h0), (1, .int (iZ (w)))]) hx hb dX10_tidied_34 rfl hl (by decide) rfl (fun ls hl => ?_)
    refine lv_iload_n hx hb dX10_tidied_35 rfl (lv_at hl 2 rfl) ?_
    refine lv_iconst (v := iZ 3) hx hb dX10_tidied_36 rfl ?_
    refine fz_icmp_ge (tgt := 70) (by constructor <;> omega) (by decide) hx hb dX10_tidied_37 (by decide) (fun c37_ => ?_) (fun c37_ => ?_)
    · have sw9 : TR μt 0 Wk := TR_fr hSKu.1 y3 TC_t0 TC_n0
      have sw2 := sB.1
      refine lv_aload_n hx hb dX10_tidied_70 rfl (lv_at hl 1 rfl) ?_
      refine lv_iconst (v := iZ 0) hx hb dX10_tidied_71 rfl ?_
      refine lv_bipush (v := iZ 50) hx hb dX10_tidied_72 rfl ?_
      refine va_callv (va_runV (As := [.int (iZ (0)), .int (iZ (50))]) (rest := []) ⟨hx, hb, hml, hown, hts⟩ (m_copiesAll l dC dI cI cZ cII cIII h0 H.size μt (0) (50) (Wk) (by decide) (by decide) (by decide) (by exact sw9) (by exact sw2.2.1)) (cwV 2 hts (gV_G k1424 k1426 ks_yX10_copiesAll k13 k1427) rfl rfl rfl (by decide +kernel) ⟨Nat.le_of_ble_eq_true rfl, Nat.le_of_ble_eq_true rfl⟩) ⟨fun a U g mk q => by obtain ⟨q0, q1, qP, qK⟩ := q; exact ⟨q0, q1, qP, va_K.moved (u := U) (U := U.calling g mk a) (Vm.Alike.refl U.vm) qK⟩, va_recv hK hP (ci := 10) (q0 := 0) rfl ((fw_get (by decide)).trans (by rw [mE_obj]; rfl)), fun U hU hW => ⟨rfl, by rw [hU], by rw [hU]; exact hP, va_K.moved hW.alike hK⟩⟩ rfl rfl hl.1 rfl (lv_room (Nat.le_of_ble_eq_true rfl)) dX10_tidied_74 ⟨Nat.le_of_ble_eq_true rfl, Nat.le_of_ble_eq_true rfl⟩) hS (fun q _ h => fA_le hS.1 q h) (fA_le hS.1) (fun u9 t9 H1 locs ht9 hvm9 hw9 hB9 hz9 hk9 hS => ?_)
      obtain ⟨hP, -⟩ := hB9
      rw [ht9] at hP
      generalize H1 = H at hP hS ⊢
      obtain ⟨μa, eμa⟩ : ∃ x : va_M, x = u9 := ⟨_, rfl⟩
      rw [← eμa] at hP hw9
      have hμa := hw9; clear hw9
      obtain ⟨a1_, a2_⟩ := hμa
      rw [show (50 : Int).toNat = 50 from rfl] at a1_ a2_
      have y1a : TR μa 54 w2 := TR_fr y1 a2_ (fun x => by unfold PT; omega) (by unfold PT; omega)
      refine lv_aload_n hx hb dX10_tidied_77 rfl (lv_at hl 1 rfl) ?_
      refine lv_bipush (v := iZ 54) hx hb dX10_tidied_78 rfl ?_
      refine lv_iconst (v := iZ 0) hx hb dX10_tidied_80 rfl ?_
      refine va_callv (va_runV (As := [.int (iZ (54)), .int (iZ (0))]) (rest := []) ⟨hx, hb, hml, hown, hts⟩ (m_copiesAll l dC dI cI cZ cII cIII h0 H.size μa (54) (0) (w2) (by decide) (by decide) (by decide) (by exact y1a) (by exact bw2.2.1)) (cwV 2 hts (gV_G k1424 k1426 ks_yX10_copiesAll k13 k1427) rfl rfl rfl (by decide +kernel) ⟨Nat.le_of_ble_eq_true rfl, Nat.le_of_ble_eq_true rfl⟩) ⟨fun a U g mk q => by obtain ⟨q0, q1, qP, qK⟩ := q; exact ⟨q0, q1, qP, va_K.moved (u := U) (U := U.calling g mk a) (Vm.Alike.refl U.vm) qK⟩, va_recv hK hP (ci := 10) (q0 := 0) rfl ((fw_get (by decide)).trans (by rw [mE_obj]; rfl)), fun U hU hW => ⟨rfl, by rw [hU], by rw [hU]; exact hP, va_K.moved hW.alike hK⟩⟩ rfl rfl hl.1 rfl (lv_room (Nat.le_of_ble_eq_true rfl)) dX10_tidied_81 ⟨Nat.le_of_ble_eq_true rfl, Nat.le_of_ble_eq_true rfl⟩) hS (fun q _ h => fA_le hS.1 q h) (fA_le hS.1) (fun u9 t9 H1 locs ht9 hvm9 hw9 hB9 hz9 hk9 hS => ?_)
      obtain ⟨hP, -⟩ := hB9
      rw [ht9] at hP
      generalize H1 = H at hP hS ⊢
      obtain ⟨μb, eμb⟩ : ∃ x : va_M, x = u9 := ⟨_, rfl⟩
      rw [← eμb] at hP hw9
      have hμb := hw9; clear hw9
      obtain ⟨b1_, b2_⟩ := hμb
      rw [show (0 : Int).toNat = 0 from rfl] at b1_ b2_
      have hfa : fr PS μ μa := fr_trans hfr (fr_mono a2_ (fun x y h => by unfold PT at h; unfold PS; omega))
      have hkb : fr KF μ μb := fr_trans (fr_mono hfa (fun x y h => Or.inl h)) (fr_mono b2_ (fun x y h => Or.inr (Or.inl h)))
      have s50 : TR μb 50 Wk := TR_fr a1_ b2_ (fun x => by unfold PT; omega) (by unfold PT; omega)
      have hQb : RQ μb := RQ_to hR.1 hkb ⟨w2, bw2, b1_⟩
      refine lv_aload_n hx hb dX10_tidied_84 rfl (lv_at hl 1 rfl) ?_
      refine va_calli (va_runV (As := []) (rest := []) ⟨hx, hb, hml, hown, hts⟩ (m_fitMany l dC dI cI cZ cII cIII h0 H.size μb  (by exact hQb)) (cwV 0 hts (gV_G k1492 k1494 ks_yX10_fitMany k13 k1495) rfl rfl rfl (by decide +kernel) ⟨Nat.le_of_ble_eq_true rfl, Nat.le_of_ble_eq_true rfl⟩) ⟨fun a U g mk q => by obtain ⟨q0, q1, qP, qK⟩ := q; exact ⟨q0, q1, qP, va_K.moved (u := U) (U := U.calling g mk a) (Vm.Alike.refl U.vm) qK⟩, va_recv hK hP (ci := 10) (q0 := 0) rfl ((fw_get (by decide)).trans (by rw [mE_obj]; rfl)), fun U hU hW => ⟨rfl, by rw [hU], by rw [hU]; exact hP, va_K.moved hW.alike hK⟩⟩ rfl rfl hl.1 rfl (lv_room (Nat.le_of_ble_eq_true rfl)) dX10_tidied_85 ⟨Nat.le_of_ble_eq_true rfl, Nat.le_of_ble_eq_true rfl⟩) hS (fun q _ h => fA_le hS.1 q h) (fA_le hS.1) (fun r9 u9 t9 H1 locs ht9 hvm9 hw9 hB9 hz9 hk9 hS => ?_)
      obtain ⟨μc, rc⟩ := u9
      obtain ⟨hP, -⟩ := hB9
      rw [ht9] at hP
      generalize H1 = H at hP hS ⊢
      obtain ⟨e9, hw9⟩ := hw9
      have e9 : r9 = iZ rc := e9
      subst e9
      simp only at hP hw9
      have hμc := hw9; clear hw9
      have c1_ := hμc
      have s50c : TR μc 50 Wk := TR_fr s50 c1_ (fun x => by unfold SW SF CF; omega) (by unfold SW SF CF; omega)
      have hbc : fr PS μb μc := fr_mono c1_ (fun x y h => SW_PS h)
      refine lv_istore_n (lv' := [(2, .int (iZ (rc))), (0, .ref h0), (1, .int (iZ (w)))]) hx hb dX10_tidied_88 rfl hl (by decide) rfl (fun ls hl => ?_)
      refine lv_aload_n hx hb dX10_tidied_89 rfl (lv_at hl 1 rfl) ?_
      refine lv_bipush (v := iZ 50) hx hb dX10_tidied_90 rfl ?_
      refine lv_iconst (v := iZ 0) hx hb dX10_tidied_92 rfl ?_
      refine va_callv (va_runV (As := [.int (iZ (50)), .int (iZ (0))]) (rest := []) ⟨hx, hb, hml, hown, hts⟩ (m_copiesAll l dC dI cI cZ cII cIII h0 H.size μc (50) (0) (Wk) (by decide) (by decide) (by decide) (by exact s50c) (by exact sw2.2.1)) (cwV 2 hts (gV_G k1424 k1426 ks_yX10_copiesAll k13 k1427) rfl rfl rfl (by decide +kernel) ⟨Nat.le_of_ble_eq_true rfl, Nat.le_of_ble_eq_true rfl⟩) ⟨fun a U g mk q => by obtain ⟨q0, q1, qP, qK⟩ := q; exact ⟨q0, q1, qP, va_K.moved (u := U) (U := U.calling g mk a) (Vm.Alike.refl U.vm) qK⟩, va_recv hK hP (ci := 10) (q0 := 0) rfl ((fw_get (by decide)).trans (by rw [mE_obj]; rfl)), fun U hU hW => ⟨rfl, by rw [hU], by rw [hU]; exact hP, va_K.moved hW.alike hK⟩⟩ rfl rfl hl.1 rfl (lv_room (Nat.le_of_ble_eq_true rfl)) dX10_tidied_93 ⟨Nat.le_of_ble_eq_true rfl, Nat.le_of_ble_eq_true rfl⟩) hS (fun q _ h => fA_le hS.1 q h) (fA_le hS.1) (fun u9 t9 H1 locs ht9 hvm9 hw9 hB9 hz9 hk9 hS => ?_)
      obtain ⟨hP, -⟩ := hB9
      rw [ht9] at hP
      generalize H1 = H at hP hS ⊢
      obtain ⟨μd, eμd⟩ : ∃ x : va_M, x = u9 := ⟨_, rfl⟩
      rw [← eμd] at hP hw9
      have hμd := hw9; clear hw9
      obtain ⟨d1_, d2_⟩ := hμd
      rw [show (0 : Int).toNat = 0 from rfl] at d1_ d2_
      refine lv_iload_n hx hb dX10_tidied_96 rfl (lv_at hl 0 rfl) ?_
      exact W.iret (v := iZ (rc)) hx hb hr (fun t9 ht9 hW9 => ⟨⟨iZ (rc), (μd, rc), rfl, ⟨rfl, (by
                    dsimp only
                    have gq : fr (fun x y => PS x y ∨ PT 0 x y) μ μd := fr_trans (fr_trans (fr_trans (fr_mono hfa (fun x y h => Or.inl h)) (fr_mono b2_ (fun x y h => Or.inr h))) (fr_mono hbc (fun x y h => Or.inl h))) (fr_mono d2_ (fun x y h => Or.inr h))
                    have gf : fr KF μ μd := fr_mono gq (fun x y h => h.elim Or.inl (fun h => Or.inr (Or.inl h)))
                    have g22 : μd 0 22 = μ 0 22 := gq 0 22 (by unfold PS PT; omega)
                    have g00a := d2_ 0 0 (by unfold PT; omega)
                    have g00b := c1_ 0 0 (by unfold SW SF CF; omega)
                    have g00c := b2_ 0 0 (by unfold PT; omega)
                    have g00d := a2_ 0 0 (by unfold PT; omega)
                    have hS9 : SKJ J Wk Bs μd := ⟨⟨d1_, by rw [g22]; exact hSK.1.2.1, bkX_fr hSK.1.2.2 hSK.2.2.2 gq (fun x y h => by unfold PS PT; omega)⟩, hSK.2⟩
                    exact ⟨⟨gf, RI_SK hJK hR gf (by rw [g22]; exact hR.2.2.2.1) (fun j hj => by rw [gq 721 j (by unfold PS PT; omega)]; exact hR.2.2.2.2.1 j hj) hS9, by omega⟩, hS9.1⟩)⟩, by rw [ht9]; exact hP, va_K.moved hW9.alike hK⟩, hS.F ht9⟩) hS.2.2 dX10_tidied_97
    · refine lv_iload_n hx hb dX10_tidied_40 rfl (lv_at hl 2 rfl) ?_
      refine fz_if_ne (tgt := 48) (by constructor <;> omega) hx hb dX10_tidied_41 (by decide) (fun c41_ => ?_) (fun c41_ => ?_)
      · refine lv_iload_n hx hb dX10_tidied_48 rfl (lv_at hl 2 rfl) ?_
        refine lv_iconst (v := iZ 1) hx hb dX10_tidied_49 rfl ?_
        refine fz_icmp_ne (tgt := 62) (by constructor <;> omega) (by decide) hx hb dX10_tidied_50 (by decide) (fun c50_ => ?_) (fun c50_ => ?_)
        · refine lv_aload_n hx hb dX10_tidied_62 rfl (lv_at hl 1 rfl) ?_
          refine fz_get (D := (dC, dI)) (ci := 10) (v := .ref (h0 + 719)) (C := RX10) (T := TX10) (N := 53) hx hb hts inG10 hown hK hP (k := 0) (by decide) (F := mF h0) mE_obj rfl 21 (by decide) (hts _ k1187) (fun _ h9 => h9) rfl dX10_tidied_63 ?_
          refine lv_bipush (v := iZ 54) hx hb dX10_tidied_66 rfl ?_
          refine fz_ld (k := 719) (n := 70) hx hb hK hP 0 (by decide) mE_nodes rfl ⟨by omega, by omega⟩ (by decide) dX10_tidied_68 ?_
          rw [show (54 : Int).toNat = 54 from rfl]
          exact W.iret (v := iZ (μt 719 54)) hx hb hr (fun t9 ht9 hW9 => ⟨⟨iZ (μt 719 54), (μt, μt 719 54), rfl, ⟨rfl, (by
                            dsimp only
                            exact ⟨GE_PS hR ⟨hfr, by omega⟩, SKr_PS hSK.1 hSK.2.2.2 hfr⟩)⟩, by rw [ht9]; exact hP, va_K.moved hW9.alike hK⟩, hS.F ht9⟩) hS.2.2 dX10_tidied_69
        · refine lv_aload_n hx hb dX10_tidied_53 rfl (lv_at hl 1 rfl) ?_
          refine lv_bipush (v := iZ 54) hx hb dX10_tidied_54 rfl ?_
          refine va_calli (va_runV (As := [.int (iZ (54))]) (rest := []) ⟨hx, hb, hml, hown, hts⟩ (m_sizeOfAll2 l dC dI cI cZ cII cIII h0 H.size μt (54) (by decide) (by exact ytk)) (cwV 1 hts (gV_G k1484 k1486 ks_yX10_sizeOfAll k13 k1487) rfl rfl rfl (by decide +kernel) ⟨Nat.le_of_ble_eq_true rfl, Nat.le_of_ble_eq_true rfl⟩) ⟨fun a U g mk q => by obtain ⟨q0, q1, qP, qK⟩ := q; exact ⟨q0, q1, qP, va_K.moved (u := U) (U := U.calling g mk a) (Vm.Alike.refl U.vm) qK⟩, va_recv hK hP (ci := 10) (q0 := 0) rfl ((fw_get (by decide)).trans (by rw [mE_obj]; rfl)), fun U hU hW => ⟨rfl, by rw [hU], by rw [hU]; exact hP, va_K.moved hW.alike hK⟩⟩ rfl rfl hl.1 rfl (lv_room (Nat.le_of_ble_eq_true rfl)) dX10_tidied_56 ⟨Nat.le_of_ble_eq_true rfl, Nat.le_of_ble_eq_true rfl⟩) hS (fun q _ h => fA_le hS.1 q h) (fA_le hS.1) (fun r9 u9 t9 H1 locs ht9 hvm9 hw9 hB9 hz9 hk9 hS => ?_)
          obtain ⟨μ6, r7⟩ := u9
          obtain ⟨hP, -⟩ := hB9
          rw [ht9] at hP
          generalize H1 = H at hP hS ⊢
          obtain ⟨e9, hw9⟩ := hw9
          have e9 : r9 = iZ r7 := e9
          subst e9
          simp only at hP hw9
          have hμ6 := hw9; clear hw9
          rw [hμ6.1] at hP; have hμ6 := hμ6.2
          refine lv_goto (tgt := 69) hx hb dX10_tidied_59 (by decide) ?_
          exact W.iret (v := iZ (r7)) hx hb hr (fun t9 ht9 hW9 => ⟨⟨iZ (r7), (μt, r7), rfl, ⟨rfl, (by
                            dsimp only
                            exact ⟨GE_PS hR ⟨hfr, by omega⟩, SKr_PS hSK.1 hSK.2.2.2 hfr⟩)⟩, by rw [ht9]; exact hP, va_K.moved hW9.alike hK⟩, hS.F ht9⟩) hS.2.2 dX10_tidied_69
      · refine lv_iload_n hx hb dX10_tidied_44 rfl (lv_at hl 0 rfl) ?_
        refine lv_goto (tgt := 69) hx hb dX10_tidied_45 (by decide) ?_
        exact W.iret (v := iZ (rt)) hx hb hr (fun t9 ht9 hW9 => ⟨⟨iZ (rt), (μt, rt), rfl, ⟨rfl, (by
                        dsimp only
                        exact ⟨GE_PS hR ⟨hfr, by omega⟩, SKr_PS hSK.1 hSK.2.2.2 hfr⟩)⟩, by rw [ht9]; exact hP, va_K.moved hW9.alike hK⟩, hS.F ht9⟩) hS.2.2 dX10_tidied_69
  · refine lv_iconst (v := iZ 1) hx hb dX10_tidied_15 rfl ?_
    refine lv_goto (tgt := 20) hx hb dX10_tidied_16 (by decide) ?_
    refine lv_iconst (v := iZ 1) hx hb dX10_tidied_20 rfl ?_
    refine lv_iconst (v := iZ 1) hx hb dX10_tidied_21 rfl ?_
    refine va_calli (va_runV (As := [.int (iZ (1)), .int (iZ (1)), .int (iZ (1))]) (rest := []) ⟨hx, hb, hml, hown, hts⟩ (m_bad2 l dC dI cI cZ cII cIII h0 H.size μ1 (1) (1) (1) (by first | assumption | omega | exact ⟨by omega, by omega⟩) (by first | assumption | omega | exact ⟨by omega, by omega⟩) (by first | assumption | omega | exact ⟨by omega, by omega⟩) (by first | assumption | omega | exact ⟨by omega, by omega⟩)) (cwV 3 hts (gV_G k1338 k1340 ks_yX10_bad k13 k1341) rfl rfl rfl (by decide +kernel) ⟨Nat.le_of_ble_eq_true rfl, Nat.le_of_ble_eq_true rfl⟩) ⟨fun a U g mk q => by obtain ⟨q0, q1, qP, qK⟩ := q; exact ⟨q0, q1, qP, va_K.moved (u := U) (U := U.calling g mk a) (Vm.Alike.refl U.vm) qK⟩, va_recv hK hP (ci := 10) (q0 := 0) rfl ((fw_get (by decide)).trans (by rw [mE_obj]; rfl)), fun U hU hW => ⟨rfl, by rw [hU], by rw [hU]; exact hP, va_K.moved hW.alike hK⟩⟩ rfl rfl hl.1 rfl (lv_room (Nat.le_of_ble_eq_true rfl)) dX10_tidied_22 ⟨Nat.le_of_ble_eq_true rfl, Nat.le_of_ble_eq_true rfl⟩) hS (fun q _ h => fA_le hS.1 q h) (fA_le hS.1) (fun r9 u9 t9 H1 locs ht9 hvm9 hw9 hB9 hz9 hk9 hS => ?_)
    obtain ⟨μ8, r10⟩ := u9
    obtain ⟨hP, -⟩ := hB9
    rw [ht9] at hP
    generalize H1 = H at hP hS ⊢
    obtain ⟨e9, hw9⟩ := hw9
    have e9 : r9 = iZ r10 := e9
    subst e9
    simp only at hP hw9
    have hμ8 := hw9; clear hw9
    have hfr := fr_trans hfr (badP_fr hμ8)
    have hrb := badP_r hμ8
    obtain rfl : r10 = 1 := by omega
    refine fz_if_eq (tgt := 30) (by decide) hx hb dX10_tidied_25 (by decide) (fun h9 => absurd h9 (by decide)) (fun c25_ => ?_)
    refine lv_iconst (v := iZ 0) hx hb dX10_tidied_28 rfl ?_
    exact W.iret (v := iZ (0)) hx hb hr (fun t9 ht9 hW9 => ⟨⟨iZ (0), (μ8, 0), rfl, ⟨rfl, (by
                dsimp only
                exact ⟨GE_PS hR ⟨hfr, by omega⟩, SKr_PS hSK.1 hSK.2.2.2 hfr⟩)⟩, by rw [ht9]; exact hP, va_K.moved hW9.alike hK⟩, hS.F ht9⟩) hS.2.2 dX10_tidied_29

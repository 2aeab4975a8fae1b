
/-! the class's trial row, told whole -/
theorem rwL_row9 {μ : va_M} {q : Nat} {w : Rw} (hw : rWF w) (h : rowS μ q w) : rwL μ q w := ⟨rWF_0 _ hw, h.2.1, h.1.1⟩
theorem rw_fr9 {μ u : va_M} {q : Nat} {w : Rw} (h : rwL μ q w) (hf : ∀ x y, q ≤ x → x < q + 6 → u x y = μ x y) : rwL u q w := ⟨h.1, SA_fr (fun y => hf _ _ (by omega) (by omega)) w 0 h.2.1, (hf _ _ (by omega) (by omega)).trans h.2.2⟩
set_option maxHeartbeats 4000000 in
set_option maxRecDepth 100000 in
theorem s_tryToLay2 (l : Launch) (dC : Nat → ClassId) (dI : Nat → Nat → Nat) (cI cZ cII cIII : ClassId) (h0 sz : Nat) (μ : va_M) (pg : Int) (T : List Tk) (Wk : Rw) (b : Rw) (hI : CI T μ) (hpg : 0 ≤ pg ∧ pg < μ 0 2) (hWr : rowS μ 6 Wk) (hWw : rWF Wk) (hbr : rowS μ ((113 + (pg).toNat * 15) + 3) b) (hbp : rWF b ∧ rPg b ∧ rN Wk + rN b ≤ 1800) : Met l yX9_tryToLay (Cond.code yX9_tryToLay cX9_tryToLay 4 (some .int) :: wsG) ({ frames := 6, cells := 0, slots := 0, locals := 139 } : Room) (va_Pc [.ref h0, .int (iZ (pg))] (fun U => U.heap.size = sz ∧ va_P (dC, dI) vwCl (fw (sE cI cZ cII cIII h0) h0 233 μ) U.heap ∧ va_K (dC, dI) vwCl (sT cI cZ cII cIII) U ∧ xM U)) (va_Qi (fun (r9 : Int32) (u : va_M × Int) => r9 = iZ u.2 ∧ (fun (u : va_M) (r : Int) => CI0 T u ∧ fr (fun x y => (12 ≤ x ∧ x < 18) ∨ (41 ≤ x ∧ x ≤ 44)) μ u ∧ 0 ≤ r ∧ r ≤ 2000 ∧ r = lyC Wk b ∧ rowS u 12 (rcut 1100 (lyW Wk b)) ∧ (sL (lyW Wk b) ≤ 1100 → u 12 7 = 0) ∧ (1100 < sL (lyW Wk b) → u 12 7 = 1)) u.1 u.2) (fun u t => va_P (dC, dI) vwCl (fw (sE cI cZ cII cIII h0) h0 233 u.1) t.heap ∧ va_K (dC, dI) vwCl (sT cI cZ cII cIII) t) (fA h0 233 sz)) 0 0 (fA h0 233 sz) := by
  refine Met.ofW (cc := cX9_tryToLay) (maxL := 4) (ret := (some .int)) (by decide) rfl ?_
  intro p e s m args below meth c s₁ B hml hv
  obtain ⟨rfl, hsz, hP, hK, hM⟩ := hv
  have hx := B.exec
  have hb := B.bytes
  have hr := B.returns
  have hts : ∀ w ∈ wsG, w.before _ s = true := hG_of (atoms_spec (ws := (Cond.code yX9_tryToLay cX9_tryToLay 4 (some .int) :: wsG)) B.pre)
  have hown : s.vm.findClass RX9 = some m.cls := findClass_of_methodNamed B.named
  have hlocks := B.notSynchronized
  subst hsz
  have hS : va_S (fA h0 233 s.heap.size) s.heap s.heap [] := va_S.rf
  have hl := lv_entry ([.ref h0, .int (iZ (pg))]) (n := 4) (Nat.le_of_ble_eq_true rfl)
  rw [lg_entry_eq]
  generalize (lg_sl ([.ref h0, .int (iZ (pg))]) ++ List.replicate (4 - (lg_sl ([.ref h0, .int (iZ (pg))])).length) Slot.unset).toArray = ls at hl ⊢
  have hl : lv_has ls 4 [(0, .ref h0), (1, .int (iZ (pg)))] := hl
  have hlc := CI_lc hI
  obtain ⟨hl1, hl2⟩ := CI_lf hI pg hpg.1 (by omega)
  have hg2 := hl1.2.2.2
  have hr6 := hI.1.2.2.1
  have hr12 := hI.1.2.2.2.1
  have hln := rG_len hr6
  have eL6 := hWr.1.1
  have e0W := hid_i (sL_0 (rWF_0 _ hWw))
  have lnB := (rG_len hg2).2
  have eLb := hbr.1.1
  refine lv_aload_n hx hb dX9_tryToLay_0 rfl (lv_at hl 0 rfl) ?_
  refine fz_get (D := (dC, dI)) (ci := 9) (v := .ref (h0 + 5)) (C := RX9) (T := TX9) (N := 15) hx hb hts inG9 hown hK hP (k := 0) (by decide) (F := (sF0 h0)) sE_0 rfl 1 (by decide) (hts _ k333) (fun _ h9 => h9) rfl dX9_tryToLay_1 ?_
  refine lv_iload_n hx hb dX9_tryToLay_4 rfl (lv_at hl 1 rfl) ?_
  refine fz_ald (k := 5) (n := 8) (k2 := (113 + (pg).toNat * 15)) hx hb hK hP 1 rfl (by decide) sE_5 rfl ⟨by omega, by omega⟩ (by decide) (if_pos (by omega)) dX9_tryToLay_5 ?_
  refine fz_get (D := (dC, dI)) (ci := 1) (v := .ref (h0 + ((113 + (pg).toNat * 15) + 3))) (C := RX1) (T := TX1) (N := 8) hx hb hts inG1 hown hK hP (k := (113 + (pg).toNat * 15)) (by omega) (F := (sLF h0 (113 + (pg).toNat * 15))) (sE_leafO (show (pg).toNat < 8 by omega) rfl) rfl 3 (by decide) (hts _ k304) (fun _ h9 => h9) rfl dX9_tryToLay_6 ?_
  refine lv_astore_n (lv' := [(2, .ref (h0 + ((113 + (pg).toNat * 15) + 3))), (0, .ref h0), (1, .int (iZ (pg)))]) hx hb dX9_tryToLay_9 rfl hl (by decide) rfl (fun ls hl => ?_)
  refine lv_aload_n hx hb dX9_tryToLay_10 rfl (lv_at hl 1 rfl) ?_
  refine fz_get (D := (dC, dI)) (ci := 9) (v := .ref (h0 + 6)) (C := RX9) (T := TX9) (N := 15) hx hb hts inG9 hown hK hP (k := 0) (by decide) (F := (sF0 h0)) sE_0 rfl 3 (by decide) (hts _ k335) (fun _ h9 => h9) rfl dX9_tryToLay_11 ?_
  refine fz_get (D := (dC, dI)) (ci := 4) (v := .int (iZ (μ 6 5))) (C := RX4) (T := TX4) (N := 8) hx hb hts inG4 hown hK hP (k := 6) (by decide) (F := (sRF h0 6)) (sE_rowO rowB_6) rfl 5 (by decide) (hts _ k99) (fun _ h9 => h9) rfl dX9_tryToLay_14 ?_
  refine fz_if_ne (tgt := 30) (by constructor <;> omega) hx hb dX9_tryToLay_17 (by decide) (fun c17_ => ?_) (fun c17_ => ?_)
  · have hW1 : Wk ≠ .leaf := fun h9 => by have := (hid_e e0W).mpr h9; omega
    refine lv_aload_n hx hb dX9_tryToLay_30 rfl (lv_at hl 1 rfl) ?_
    refine fz_get (D := (dC, dI)) (ci := 9) (v := .ref (h0 + 41)) (C := RX9) (T := TX9) (N := 15) hx hb hts inG9 hown hK hP (k := 0) (by decide) (F := (sF0 h0)) sE_0 rfl 9 (by decide) (hts _ k341) (fun _ h9 => h9) rfl dX9_tryToLay_31 ?_
    refine lv_aload_n hx hb dX9_tryToLay_34 rfl (lv_at hl 1 rfl) ?_
    refine fz_get (D := (dC, dI)) (ci := 9) (v := .ref (h0 + 6)) (C := RX9) (T := TX9) (N := 15) hx hb hts inG9 hown hK hP (k := 0) (by decide) (F := (sF0 h0)) sE_0 rfl 3 (by decide) (hts _ k335) (fun _ h9 => h9) rfl dX9_tryToLay_35 ?_
    refine lv_aload_n hx hb dX9_tryToLay_38 rfl (lv_at hl 0 rfl) ?_
    refine va_calli (va_runV (As := [.ref (h0 + 6), .ref (h0 + ((113 + (pg).toNat * 15) + 3))]) (rest := []) ⟨hx, hb, hml, hown, hts⟩ (s_VleastCost l dC dI cI cZ cII cIII h0 s.heap.size μ (6) (1100) (((113 + (pg).toNat * 15) + 3)) (96) (Wk) (b) (rowB_6) ((rowB_L (show (pg).toNat < 8 by omega) rfl)) (by exact hr6) (by exact hg2) (by rfl) (by exact rwL_row9 hWw hWr) (by exact rwL_row9 hbp.1 hbr)) (cwV 2 hts (gV_G k762 k763 k764 k7 k765) rfl rfl rfl (by decide +kernel) ⟨Nat.le_of_ble_eq_true rfl, Nat.le_of_ble_eq_true rfl⟩) ⟨fun a U g mk q => by obtain ⟨q0, q1, qP, qK, qM⟩ := q; exact ⟨q0, q1, qP, va_K.moved (u := U) (U := U.calling g mk a) (Vm.Alike.refl U.vm) qK, qM⟩, va_recv hK hP (ci := 0) (q0 := 41) rfl ((fw_get (by decide)).trans (by rw [sE_41])), fun U hU hW => ⟨rfl, by rw [hU], by rw [hU]; exact hP, va_K.moved hW.alike hK, xM_warm hW hM⟩⟩ rfl rfl hl.1 rfl (lv_room (Nat.le_of_ble_eq_true rfl)) dX9_tryToLay_39 ⟨Nat.le_of_ble_eq_true rfl, Nat.le_of_ble_eq_true rfl⟩) hS (fun q _ h => fA_le hS.1 q h) (fA_le hS.1) (fun r9 u9 t9 H1 locs ht9 hvm9 hw9 hB9 hz9 hk9 hS => ?_)
    obtain ⟨μl, rl⟩ := u9
    obtain ⟨hP, -⟩ := hB9
    rw [ht9] at hP
    generalize H1 = H at hP hS ⊢
    obtain ⟨e9, hw9⟩ := hw9
    have e9 : r9 = iZ rl := e9
    subst e9
    simp only at hP hw9
    have hμl := hw9; clear hw9
    obtain ⟨f1_, k1_, r1_⟩ := hμl
    have y1_ : rwL μl 6 Wk := rw_fr9 (rwL_row9 hWw hWr) (fun x y q1 q2 => f1_ _ _ (by omega))
    have y2_ : rwL μl ((113 + (pg).toNat * 15) + 3) b := rw_fr9 (rwL_row9 hbp.1 hbr) (fun x y q1 q2 => f1_ _ _ (by omega))
    have lw8 : μl 6 5 ≤ 1100 ∧ μl ((113 + (pg).toNat * 15) + 3) 5 ≤ 1100 := by
      rw [f1_ 6 5 (by omega), f1_ ((113 + (pg).toNat * 15) + 3) 5 (by omega)]
      omega
    refine lv_istore_n (lv' := [(3, .int (iZ (rl))), (2, .ref (h0 + ((113 + (pg).toNat * 15) + 3))), (0, .ref h0), (1, .int (iZ (pg)))]) hx hb dX9_tryToLay_42 rfl hl (by decide) rfl (fun ls hl => ?_)
    refine lv_aload_n hx hb dX9_tryToLay_43 rfl (lv_at hl 2 rfl) ?_
    refine fz_get (D := (dC, dI)) (ci := 9) (v := .ref (h0 + 41)) (C := RX9) (T := TX9) (N := 15) hx hb hts inG9 hown hK hP (k := 0) (by decide) (F := (sF0 h0)) sE_0 rfl 9 (by decide) (hts _ k341) (fun _ h9 => h9) rfl dX9_tryToLay_44 ?_
    refine lv_aload_n hx hb dX9_tryToLay_47 rfl (lv_at hl 2 rfl) ?_
    refine fz_get (D := (dC, dI)) (ci := 9) (v := .ref (h0 + 6)) (C := RX9) (T := TX9) (N := 15) hx hb hts inG9 hown hK hP (k := 0) (by decide) (F := (sF0 h0)) sE_0 rfl 3 (by decide) (hts _ k335) (fun _ h9 => h9) rfl dX9_tryToLay_48 ?_
    refine lv_aload_n hx hb dX9_tryToLay_51 rfl (lv_at hl 1 rfl) ?_
    refine lv_aload_n hx hb dX9_tryToLay_52 rfl (lv_at hl 2 rfl) ?_
    refine fz_get (D := (dC, dI)) (ci := 9) (v := .ref (h0 + 12)) (C := RX9) (T := TX9) (N := 15) hx hb hts inG9 hown hK hP (k := 0) (by decide) (F := (sF0 h0)) sE_0 rfl 4 (by decide) (hts _ k336) (fun _ h9 => h9) rfl dX9_tryToLay_53 ?_
    refine va_callv (va_runV (As := [.ref (h0 + 6), .ref (h0 + ((113 + (pg).toNat * 15) + 3)), .ref (h0 + 12)]) (rest := []) ⟨hx, hb, hml, hown, hts⟩ (s_YbuildT l dC dI cI cZ cII cIII h0 H.size μl (6) (1100) (((113 + (pg).toNat * 15) + 3)) (96) (12) (1100) (Wk) (b) (rowB_6) ((rowB_L (show (pg).toNat < 8 by omega) rfl)) (rowB_12) (by unfold apart; omega) (by unfold apart; omega) (by exact rG_fr hr6 (fun x y q1 q2 => f1_ _ _ (by omega))) (by exact rG_fr hg2 (fun x y q1 q2 => f1_ _ _ (by omega))) (by rfl) (by exact LK_v (rG_fr hr6 (fun x y q1 q2 => f1_ _ _ (by omega))) (rG_fr hg2 (fun x y q1 q2 => f1_ _ _ (by omega))) y1_ y2_ lw8 k1_) (by exact rG_fr hr12 (fun x y q1 q2 => f1_ _ _ (by omega))) (by exact k1_) (by exact y1_) (by exact y2_) (by exact ⟨hWw, hbp.1, hbp.2.1, hbp.2.2⟩)) (cwV 3 hts (gV_G k813 k814 k815 k7 k816) rfl rfl rfl (by decide +kernel) ⟨Nat.le_of_ble_eq_true rfl, Nat.le_of_ble_eq_true rfl⟩) ⟨fun a U g mk q => by obtain ⟨q0, q1, qP, qK, qM⟩ := q; exact ⟨q0, q1, qP, va_K.moved (u := U) (U := U.calling g mk a) (Vm.Alike.refl U.vm) qK, qM⟩, va_recv hK hP (ci := 0) (q0 := 41) rfl ((fw_get (by decide)).trans (by rw [sE_41])), fun U hU hW => ⟨rfl, by rw [hU], by rw [hU]; exact hP, va_K.moved hW.alike hK, xM_warm hW hM⟩⟩ rfl rfl hl.1 rfl (lv_room (Nat.le_of_ble_eq_true rfl)) dX9_tryToLay_56 ⟨Nat.le_of_ble_eq_true rfl, Nat.le_of_ble_eq_true rfl⟩) hS (fun q _ h => fA_le hS.1 q h) (fA_le hS.1) (fun u9 t9 H1 locs ht9 hvm9 hw9 hB9 hz9 hk9 hS => ?_)
    obtain ⟨hP, -⟩ := hB9
    rw [ht9] at hP
    generalize H1 = H at hP hS ⊢
    obtain ⟨μb, eμb⟩ : ∃ x : va_M, x = u9 := ⟨_, rfl⟩
    rw [← eμb] at hP hw9
    have hμb := hw9; clear hw9
    obtain ⟨G9, g2_, g3_, g4_, g5_⟩ := hμb
    have F9 : fr (fun x y => (12 ≤ x ∧ x < 18) ∨ (41 ≤ x ∧ x ≤ 44)) μ μb := fr_trans (fr_mono f1_ (fun x y h => by omega)) (fr_mono g2_ (fun x y h => by unfold LEq at h; omega))
    refine lv_iload_n hx hb dX9_tryToLay_59 rfl (lv_at hl 0 rfl) ?_
    exact W.iret (v := iZ (rl)) hx hb hr (fun t9 ht9 hW9 => ⟨⟨iZ (rl), (μb, rl), rfl, ⟨rfl, (by
                dsimp only
                refine ⟨CI_ch hI.1 (fun x y q => F9 _ _ (by omega)) (Or.inr (fun x y q1 q2 => F9 _ _ (by omega))) (Or.inr (fun x y q1 q2 => F9 _ _ (by omega))) (Or.inl G9) (Or.inr (fun x y q1 q2 => F9 _ _ (by omega))) (Or.inr (fun x y q => F9 _ _ (by omega))) (Or.inr (fun x y q1 q2 => F9 _ _ (by omega))), F9, by omega, by omega, by rw [lyC_n hW1]; exact r1_.1, by rw [lyW_n hW1]; exact g3_, fun h9 => g4_ (by rw [lyW_n hW1] at h9; exact h9), fun h9 => g5_ (by rw [lyW_n hW1] at h9; exact h9)⟩)⟩, by rw [ht9]; exact hP, va_K.moved hW9.alike hK⟩, hS.F ht9⟩) hS.2.2 dX9_tryToLay_60
  · have hW0 : Wk = .leaf := (hid_e e0W).mp (by omega)
    have w1_ := rWF_0 b hbp.1
    refine lv_aload_n hx hb dX9_tryToLay_20 rfl (lv_at hl 1 rfl) ?_
    refine fz_get (D := (dC, dI)) (ci := 9) (v := .ref (h0 + 12)) (C := RX9) (T := TX9) (N := 15) hx hb hts inG9 hown hK hP (k := 0) (by decide) (F := (sF0 h0)) sE_0 rfl 4 (by decide) (hts _ k336) (fun _ h9 => h9) rfl dX9_tryToLay_21 ?_
    refine lv_aload_n hx hb dX9_tryToLay_24 rfl (lv_at hl 0 rfl) ?_
    refine va_callv (va_runV (As := [.ref (h0 + ((113 + (pg).toNat * 15) + 3))]) (rest := []) ⟨hx, hb, hml, hown, hts⟩ (s_Rtake3 l dC dI cI cZ cII cIII h0 s.heap.size μ (12) (1100) (((113 + (pg).toNat * 15) + 3)) (96) (b) (rowB_12) ((rowB_L (show (pg).toNat < 8 by omega) rfl)) (by omega) (by exact w1_) (by exact hbr) (by exact (rG_len hg2).2)) (cwV 1 hts (gV_G k398 k399 k400 k3 k401) rfl rfl rfl (by decide +kernel) ⟨Nat.le_of_ble_eq_true rfl, Nat.le_of_ble_eq_true rfl⟩) ⟨fun a U g mk q => by obtain ⟨q0, q1, qP, qK, qM⟩ := q; exact ⟨q0, q1, qP, va_K.moved (u := U) (U := U.calling g mk a) (Vm.Alike.refl U.vm) qK, qM⟩, va_recv hK hP (ci := 4) (q0 := 12) rfl ((fw_get (by decide)).trans (by rw [(sE_rowO rowB_12)])), fun U hU hW => ⟨rfl, by rw [hU], by rw [hU]; exact hP, va_K.moved hW.alike hK, xM_warm hW hM⟩⟩ rfl rfl hl.1 rfl (lv_room (Nat.le_of_ble_eq_true rfl)) dX9_tryToLay_25 ⟨Nat.le_of_ble_eq_true rfl, Nat.le_of_ble_eq_true rfl⟩) hS (fun q _ h => fA_le hS.1 q h) (fA_le hS.1) (fun u9 t9 H1 locs ht9 hvm9 hw9 hB9 hz9 hk9 hS => ?_)
    obtain ⟨hP, -⟩ := hB9
    rw [ht9] at hP
    generalize H1 = H at hP hS ⊢
    obtain ⟨μt, eμt⟩ : ∃ x : va_M, x = u9 := ⟨_, rfl⟩
    rw [← eμt] at hP hw9
    have hμt := hw9; clear hw9
    obtain ⟨⟨a1_, a2_, a3_⟩, a4_, a5_⟩ := hμt
    have G9 := rG_load hr12 w1_ hg2.1 a4_ a1_ a2_ a3_
    have F9 : fr (fun x y => (12 ≤ x ∧ x < 18) ∨ (41 ≤ x ∧ x ≤ 44)) μ μt := fr_mono a2_ (fun x y h => by have := h.1; unfold LEq at this; omega)
    refine lv_iconst (v := iZ 0) hx hb dX9_tryToLay_28 rfl ?_
    exact W.iret (v := iZ (0)) hx hb hr (fun t9 ht9 hW9 => ⟨⟨iZ (0), (μt, 0), rfl, ⟨rfl, (by
                dsimp only
                refine ⟨CI_ch hI.1 (fun x y q => F9 _ _ (by omega)) (Or.inr (fun x y q1 q2 => F9 _ _ (by omega))) (Or.inr (fun x y q1 q2 => F9 _ _ (by omega))) (Or.inl G9) (Or.inr (fun x y q1 q2 => F9 _ _ (by omega))) (Or.inr (fun x y q => F9 _ _ (by omega))) (Or.inr (fun x y q1 q2 => F9 _ _ (by omega))), F9, by omega, by omega, by rw [hW0]; rfl, by rw [hW0]; exact a1_, fun h9 => a5_ (by rw [hW0] at h9; exact h9), fun h9 => absurd h9 (by rw [hW0]; show ¬ 1100 < sL b; omega)⟩)⟩, by rw [ht9]; exact hP, va_K.moved hW9.alike hK⟩, hS.F ht9⟩) hS.2.2 dX9_tryToLay_29
set_option maxHeartbeats 4000000 in
set_option maxRecDepth 100000 in
theorem s_tryToTidy2 (l : Launch) (dC : Nat → ClassId) (dI : Nat → Nat → Nat) (cI cZ cII cIII : ClassId) (h0 sz : Nat) (μ : va_M) (T : List Tk) (Wk : Rw) (hI : CI T μ) (hWr : rowS μ 6 Wk) (hWw : rWF Wk) (hWd : rAd Wk) (hcapW : ∀ y : Rw, TQ Wk y → (sL y : Int) ≤ (1100 : Nat)) : Met l yX9_tryToTidy (Cond.code yX9_tryToTidy cX9_tryToTidy 1 (some .int) :: wsG) ({ frames := 7, cells := 0, slots := 0, locals := 177 } : Room) (va_Pc [.ref h0] (fun U => U.heap.size = sz ∧ va_P (dC, dI) vwCl (fw (sE cI cZ cII cIII h0) h0 233 μ) U.heap ∧ va_K (dC, dI) vwCl (sT cI cZ cII cIII) U ∧ xM U)) (va_Qi (fun (r9 : Int32) (u : va_M × Int) => r9 = iZ u.2 ∧ (fun (u : va_M) (r : Int) => CI0 T u ∧ fr (fun x y => (12 ≤ x ∧ x < 18) ∨ (38 ≤ x ∧ x ≤ 44)) μ u ∧ ∃ (w2 : Rw) (n : Nat), tdy Wk w2 n ∧ r = n ∧ rowS u 12 w2 ∧ u 12 7 = 0) u.1 u.2) (fun u t => va_P (dC, dI) vwCl (fw (sE cI cZ cII cIII h0) h0 233 u.1) t.heap ∧ va_K (dC, dI) vwCl (sT cI cZ cII cIII) t) (fA h0 233 sz)) 0 0 (fA h0 233 sz) := by
  refine Met.ofW (cc := cX9_tryToTidy) (maxL := 1) (ret := (some .int)) (by decide) rfl ?_
  intro p e s m args below meth c s₁ B hml hv
  obtain ⟨rfl, hsz, hP, hK, hM⟩ := hv
  have hx := B.exec
  have hb := B.bytes
  have hr := B.returns
  have hts : ∀ w ∈ wsG, w.before _ s = true := hG_of (atoms_spec (ws := (Cond.code yX9_tryToTidy cX9_tryToTidy 1 (some .int) :: wsG)) B.pre)
  have hown : s.vm.findClass RX9 = some m.cls := findClass_of_methodNamed B.named
  have hlocks := B.notSynchronized
  subst hsz
  have hS : va_S (fA h0 233 s.heap.size) s.heap s.heap [] := va_S.rf
  have hl := lv_entry ([.ref h0]) (n := 1) (Nat.le_of_ble_eq_true rfl)
  rw [lg_entry_eq]
  generalize (lg_sl ([.ref h0]) ++ List.replicate (1 - (lg_sl ([.ref h0])).length) Slot.unset).toArray = ls at hl ⊢
  have hl : lv_has ls 1 [(0, .ref h0)] := hl
  have hr6 := hI.1.2.2.1
  have hr12 := hI.1.2.2.2.1
  have w1_ := rWF_0 Wk hWw
  have eL6 := hWr.1.1
  have lnW := (rG_len hr6).2
  refine lv_aload_n hx hb dX9_tryToTidy_0 rfl (lv_at hl 0 rfl) ?_
  refine fz_get (D := (dC, dI)) (ci := 9) (v := .ref (h0 + 12)) (C := RX9) (T := TX9) (N := 15) hx hb hts inG9 hown hK hP (k := 0) (by decide) (F := (sF0 h0)) sE_0 rfl 4 (by decide) (hts _ k336) (fun _ h9 => h9) rfl dX9_tryToTidy_1 ?_
  refine lv_aload_n hx hb dX9_tryToTidy_4 rfl (lv_at hl 0 rfl) ?_
  refine fz_get (D := (dC, dI)) (ci := 9) (v := .ref (h0 + 6)) (C := RX9) (T := TX9) (N := 15) hx hb hts inG9 hown hK hP (k := 0) (by decide) (F := (sF0 h0)) sE_0 rfl 3 (by decide) (hts _ k335) (fun _ h9 => h9) rfl dX9_tryToTidy_5 ?_
  refine va_callv (va_runV (As := [.ref (h0 + 6)]) (rest := []) ⟨hx, hb, hml, hown, hts⟩ (s_Rtake3 l dC dI cI cZ cII cIII h0 s.heap.size μ (12) (1100) (6) (1100) (Wk) (rowB_12) (rowB_6) (by omega) (by exact w1_) (by exact hWr) (by exact (rG_len hr6).2)) (cwV 1 hts (gV_G k398 k399 k400 k3 k401) rfl rfl rfl (by decide +kernel) ⟨Nat.le_of_ble_eq_true rfl, Nat.le_of_ble_eq_true rfl⟩) ⟨fun a U g mk q => by obtain ⟨q0, q1, qP, qK, qM⟩ := q; exact ⟨q0, q1, qP, va_K.moved (u := U) (U := U.calling g mk a) (Vm.Alike.refl U.vm) qK, qM⟩, va_recv hK hP (ci := 4) (q0 := 12) rfl ((fw_get (by decide)).trans (by rw [(sE_rowO rowB_12)])), fun U hU hW => ⟨rfl, by rw [hU], by rw [hU]; exact hP, va_K.moved hW.alike hK, xM_warm hW hM⟩⟩ rfl rfl hl.1 rfl (lv_room (Nat.le_of_ble_eq_true rfl)) dX9_tryToTidy_8 ⟨Nat.le_of_ble_eq_true rfl, Nat.le_of_ble_eq_true rfl⟩) hS (fun q _ h => fA_le hS.1 q h) (fA_le hS.1) (fun u9 t9 H1 locs ht9 hvm9 hw9 hB9 hz9 hk9 hS => ?_)
  obtain ⟨hP, -⟩ := hB9
  rw [ht9] at hP
  generalize H1 = H at hP hS ⊢
  obtain ⟨μt, eμt⟩ : ∃ x : va_M, x = u9 := ⟨_, rfl⟩
  rw [← eμt] at hP hw9
  have hμt := hw9; clear hw9
  obtain ⟨⟨a1_, a2_, a3_⟩, a4_, a5_⟩ := hμt
  have G8 := rG_load hr12 w1_ hr6.1 a4_ a1_ a2_ a3_
  have hsW : sL Wk ≤ 1100 := by omega
  have a9_ : rowS μt 12 Wk := by
    have h9 := a1_
    unfold rcut at h9
    rw [if_pos hsW] at h9
    exact h9
  refine lv_aload_n hx hb dX9_tryToTidy_11 rfl (lv_at hl 0 rfl) ?_
  refine fz_get (D := (dC, dI)) (ci := 9) (v := .ref (h0 + 38)) (C := RX9) (T := TX9) (N := 15) hx hb hts inG9 hown hK hP (k := 0) (by decide) (F := (sF0 h0)) sE_0 rfl 8 (by decide) (hts _ k340) (fun _ h9 => h9) rfl dX9_tryToTidy_12 ?_
  refine lv_aload_n hx hb dX9_tryToTidy_15 rfl (lv_at hl 0 rfl) ?_
  refine fz_get (D := (dC, dI)) (ci := 9) (v := .ref (h0 + 12)) (C := RX9) (T := TX9) (N := 15) hx hb hts inG9 hown hK hP (k := 0) (by decide) (F := (sF0 h0)) sE_0 rfl 4 (by decide) (hts _ k336) (fun _ h9 => h9) rfl dX9_tryToTidy_16 ?_
  refine va_calli (va_runV (As := [.ref (h0 + 12)]) (rest := []) ⟨hx, hb, hml, hown, hts⟩ (s_TtidyAll2 l dC dI cI cZ cII cIII h0 H.size μt (12) (1100) (Wk) (rowB_12) (by exact G8) (by omega) (by exact hWw) (by exact hWd) (by exact a9_) (by exact a5_ hsW) (by exact hcapW)) (cwV 1 hts (gV_G k424 k425 k426 k6 k427) rfl rfl rfl (by decide +kernel) ⟨Nat.le_of_ble_eq_true rfl, Nat.le_of_ble_eq_true rfl⟩) ⟨fun a U g mk q => by obtain ⟨q0, q1, qP, qK, qM⟩ := q; exact ⟨q0, q1, qP, va_K.moved (u := U) (U := U.calling g mk a) (Vm.Alike.refl U.vm) qK, qM⟩, va_recv hK hP (ci := 6) (q0 := 38) rfl ((fw_get (by decide)).trans (by rw [sE_38])), fun U hU hW => ⟨rfl, by rw [hU], by rw [hU]; exact hP, va_K.moved hW.alike hK, xM_warm hW hM⟩⟩ rfl rfl hl.1 rfl (lv_room (Nat.le_of_ble_eq_true rfl)) dX9_tryToTidy_19 ⟨Nat.le_of_ble_eq_true rfl, Nat.le_of_ble_eq_true rfl⟩) hS (fun q _ h => fA_le hS.1 q h) (fA_le hS.1) (fun r9 u9 t9 H1 locs ht9 hvm9 hw9 hB9 hz9 hk9 hS => ?_)
  obtain ⟨μz, rz⟩ := u9
  obtain ⟨hP, -⟩ := hB9
  rw [ht9] at hP
  generalize H1 = H at hP hS ⊢
  obtain ⟨e9, hw9⟩ := hw9
  have e9 : r9 = iZ rz := e9
  subst e9
  simp only at hP hw9
  have hμz := hw9; clear hw9
  obtain ⟨b1_, G9, t9_⟩ := hμz
  have F9 : fr (fun x y => (12 ≤ x ∧ x < 18) ∨ (38 ≤ x ∧ x ≤ 44)) μ μz := fr_trans (fr_mono a2_ (fun x y h => by have := h.1; unfold LEq at this; omega)) (fr_mono b1_ (fun x y h => by unfold LTq LEq at h; omega))
  exact W.iret (v := iZ (rz)) hx hb hr (fun t9 ht9 hW9 => ⟨⟨iZ (rz), (μz, rz), rfl, ⟨rfl, (by
            dsimp only
            refine ⟨CI_ch hI.1 (fun x y q => F9 _ _ (by omega)) (Or.inr (fun x y q1 q2 => F9 _ _ (by omega))) (Or.inr (fun x y q1 q2 => F9 _ _ (by omega))) (Or.inl G9) (Or.inr (fun x y q1 q2 => F9 _ _ (by omega))) (Or.inr (fun x y q => F9 _ _ (by omega))) (Or.inr (fun x y q1 q2 => F9 _ _ (by omega))), F9, t9_⟩)⟩, by rw [ht9]; exact hP, va_K.moved hW9.alike hK⟩, hS.F ht9⟩) hS.2.2 dX9_tryToTidy_22

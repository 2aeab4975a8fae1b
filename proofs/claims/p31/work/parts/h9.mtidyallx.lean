
set_option maxHeartbeats 40000000 in
set_option maxRecDepth 100000 in
theorem m_tidiesAll2 (l : Launch) (dC : Nat → ClassId) (dI : Nat → Nat → Nat) (cI cZ cII cIII : ClassId) (h0 sz : Nat) (μ : va_M) (w : Rw) (hT : TR μ 0 w) (hO : OKr w) : Met l yX10_tidiesAll (Cond.code yX10_tidiesAll cX10_tidiesAll 1 (some .int) :: wsG) ({ frames := 48, cells := 0, slots := 0, locals := 1658 } : Room) (va_Pc [.ref h0] (fun U => U.heap.size = sz ∧ va_P (dC, dI) vwCl (fw (mE cI cZ cII cIII h0) h0 6325 μ) U.heap ∧ va_K (dC, dI) vwCl (mT cI cZ cII cIII) U)) (va_Qi (fun (r9 : Int32) (u : va_M × Int) => r9 = iZ u.2 ∧ (fun (u : va_M) (r : Int) => (∃ (w2 : Rw) (c9 : Nat), TR u 54 w2 ∧ TDr w w2 ∧ tdy w w2 c9 ∧ r = c9) ∧ fr (TC 0) μ u ∧ 0 ≤ r ∧ r ≤ 900) u.1 u.2) (fun u t => va_P (dC, dI) vwCl (fw (mE cI cZ cII cIII h0) h0 6325 u.1) t.heap ∧ va_K (dC, dI) vwCl (mT cI cZ cII cIII) t) (fA h0 6325 sz)) 0 0 (fA h0 6325 sz) := by
  refine Met.ofW (cc := cX10_tidiesAll) (maxL := 1) (ret := (some .int)) (by decide) rfl ?_
  intro p e s m args below meth c s₁ B hml hv
  obtain ⟨rfl, hsz, hP, hK⟩ := hv
  have hx := B.exec
  have hb := B.bytes
  have hr := B.returns
  have hts : ∀ w ∈ wsG, w.before _ s = true := hG_of (atoms_spec (ws := (Cond.code yX10_tidiesAll cX10_tidiesAll 1 (some .int) :: wsG)) B.pre)
  have hown : s.vm.findClass RX10 = some m.cls := findClass_of_methodNamed B.named
  have hlocks := B.notSynchronized
  subst hsz
  have hS : va_S (fA h0 6325 s.heap.size) s.heap s.heap [] := va_S.rf
  have hl := lv_entry ([.ref h0]) (n := 1) (Nat.le_of_ble_eq_true rfl)
  rw [lg_entry_eq]
  generalize (lg_sl ([.ref h0]) ++ List.replicate (1 - (lg_sl ([.ref h0])).length) Slot.unset).toArray = ls at hl ⊢
  have hl : lv_has ls 1 [(0, .ref h0)] := hl
  refine lv_aload_n hx hb dX10_tidiesAll_0 rfl (lv_at hl 0 rfl) ?_
  refine lv_iconst (v := iZ 0) hx hb dX10_tidiesAll_1 rfl ?_
  refine fz_put (D := (dC, dI)) (ci := 10) (ty := .int) (z := 0) (C := RX10) (T := TX10) (N := 53) hx hb hts inG10 tyX10 tyX10_ok nmX10 hown hK hP fA_in hS (k := 0) (by decide) (F := mF h0) mE_obj rfl 38 (by decide) (hts _ k1204) (fun _ h9 => h9) rfl (by decide +kernel) rfl rfl (fun _ => Nat.le_of_ble_eq_true rfl) (fun _ _ => rfl) dX10_tidiesAll_2 (fun H locs hP hS => ?_)
  obtain ⟨μ1, eμ1⟩ : ∃ x : va_M, x = uz μ 0 38 (0) := ⟨_, rfl⟩
  rw [← eμ1] at hP
  have hb9 := OKr_b hO
  have hz : fr (fun x y => x = 0 ∧ y = 38) μ μ1 := by rw [eμ1]; exact fr_uz fr_rfl ⟨rfl, rfl⟩
  have h38 : μ1 0 38 = 0 := by rw [eμ1, uz_s]
  refine lv_aload_n hx hb dX10_tidiesAll_5 rfl (lv_at hl 0 rfl) ?_
  refine lv_iconst (v := iZ 0) hx hb dX10_tidiesAll_6 rfl ?_
  refine lv_iconst (v := iZ 0) hx hb dX10_tidiesAll_7 rfl ?_
  refine lv_aload_n hx hb dX10_tidiesAll_8 rfl (lv_at hl 0 rfl) ?_
  refine fz_get (D := (dC, dI)) (ci := 10) (v := .ref (h0 + 719)) (C := RX10) (T := TX10) (N := 53) hx hb hts inG10 hown hK hP (k := 0) (by decide) (F := mF h0) mE_obj rfl 21 (by decide) (hts _ k1187) (fun _ h9 => h9) rfl dX10_tidiesAll_9 ?_
  refine lv_iconst (v := iZ 0) hx hb dX10_tidiesAll_12 rfl ?_
  refine fz_ld (k := 719) (n := 70) hx hb hK hP 0 (by decide) mE_nodes rfl ⟨by omega, by omega⟩ (by decide) dX10_tidiesAll_13 ?_
  rw [show (0 : Int).toNat = 0 from rfl]
  rw [show μ1 719 0 = μ 719 0 from by rw [eμ1, uz_n (by omega)]]
  rw [show μ 719 0 = (rN w : Int) from (by exact hT.1)]
  refine lv_iconst (v := iZ 0) hx hb dX10_tidiesAll_14 rfl ?_
  refine va_callv (va_runV (As := [.int (iZ (0)), .int (iZ (0)), .int (iZ ((rN w : Int))), .int (iZ (0))]) (rest := []) ⟨hx, hb, hml, hown, hts⟩ (m_tidies2 l dC dI cI cZ cII cIII h0 (17) H.size μ1 (0) ((rN w : Int)) (0) (w) (by omega) (by omega) (by exact RA_fr hT.2 hz (fun x => by omega)) (by exact hO) (by omega)) (cwV 4 hts (gV_G k1444 k1446 ks_yX10_tidies k13 k1447) rfl rfl rfl (by decide +kernel) ⟨Nat.le_of_ble_eq_true rfl, Nat.le_of_ble_eq_true rfl⟩) ⟨fun a U g mk q => by obtain ⟨q0, q1, qP, qK⟩ := q; exact ⟨q0, q1, qP, va_K.moved (u := U) (U := U.calling g mk a) (Vm.Alike.refl U.vm) qK⟩, va_recv hK hP (ci := 10) (q0 := 0) rfl ((fw_get (by decide)).trans (by rw [mE_obj]; rfl)), fun U hU hW => ⟨rfl, by rw [hU], by rw [hU]; exact hP, va_K.moved hW.alike hK⟩⟩ rfl rfl hl.1 rfl (lv_room (Nat.le_of_ble_eq_true rfl)) dX10_tidiesAll_15 ⟨Nat.le_of_ble_eq_true rfl, Nat.le_of_ble_eq_true rfl⟩) hS (fun q _ h => fA_le hS.1 q h) (fA_le hS.1) (fun u9 t9 H1 locs ht9 hvm9 hw9 hB9 hz9 hk9 hS => ?_)
  obtain ⟨hP, -⟩ := hB9
  rw [ht9] at hP
  generalize H1 = H at hP hS ⊢
  obtain ⟨μt, eμt⟩ : ∃ x : va_M, x = u9 := ⟨_, rfl⟩
  rw [← eμt] at hP hw9
  have hμt := hw9; clear hw9
  obtain ⟨⟨w9, c9, y1, y1b, y1c, y1d⟩, y2, y3, y4⟩ := hμt
  refine lv_aload_n hx hb dX10_tidiesAll_18 rfl (lv_at hl 0 rfl) ?_
  refine fz_get (D := (dC, dI)) (ci := 10) (v := .int (iZ (μt 0 38))) (C := RX10) (T := TX10) (N := 53) hx hb hts inG10 hown hK hP (k := 0) (by decide) (F := mF h0) mE_obj rfl 38 (by decide) (hts _ k1204) (fun _ h9 => h9) rfl dX10_tidiesAll_19 ?_
  exact W.iret (v := iZ (μt 0 38)) hx hb hr (fun t9 ht9 hW9 => ⟨⟨iZ (μt 0 38), (μt, μt 0 38), rfl, ⟨rfl, (by
            dsimp only
            refine ⟨⟨w9, c9, y1, y1b, y1c, by omega⟩, fr_trans (fr_mono hz (fun x y h => ?_)) y2, by omega, by omega⟩
            obtain ⟨rfl, rfl⟩ := h
            exact Or.inr (Or.inr (Or.inr (Or.inr (Or.inr (Or.inr (Or.inr ⟨rfl, rfl⟩)))))))⟩, by rw [ht9]; exact hP, va_K.moved hW9.alike hK⟩, hS.F ht9⟩) hS.2.2 dX10_tidiesAll_22

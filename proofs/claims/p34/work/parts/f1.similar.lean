
/-! similar of the class, told by the rows -/
/-- two lines, equally long and alike in each sign, are alike rows -/
theorem sim_mat {μ : va_M} {q q2 : Nat} {w b : Rw} (h1 : rowS μ q w) (h2 : rowS μ q2 b) (hw : rW0 w) (hb : rW0 b) (he : μ q 5 = μ q2 5) : sMat μ (q + 1) 0 (μ q 5) (q2 + 1) 0 (μ q2 5) (μ q 5) ↔ ralk w b := by
  obtain ⟨⟨l1, -, -⟩, s1, -⟩ := h1
  obtain ⟨⟨l2, -, -⟩, s2, -⟩ := h2
  have hL : sL w = sL b := by omega
  constructor
  · intro hm
    have ht : ∀ t : Nat, t < sL w → sAl (μ (q + 1) (0 + t)) (μ (q2 + 1) (0 + t)) := fun t ht => by
      have h9 := hm.2 t (by omega)
      exact h9
    obtain ⟨a1, a2⟩ := (al_line (so := rI w) hw hb rfl s1 s2).mp ⟨Nat.le_of_eq hL, ht⟩
    obtain ⟨b1, -⟩ := (al_line (so := rI b) hb hw rfl s2 s1).mp ⟨Nat.le_of_eq hL.symm, fun t h9 => sAl_sy (ht t (by omega))⟩
    rw [rpre_all b (rI w) b1] at a2
    exact a2
  · intro hk
    refine ⟨by omega, fun t ht => ?_⟩
    have h9 := ralk_sA w b 0 0 hw hb hk s1 s2 t (by omega)
    exact h9
/-- 1 where two rows are alike -/
def simV (w b : Rw) : Int := if ralkB w b = true then 1 else 0
theorem simV_1 {w b : Rw} (h : ralk w b) : simV w b = 1 := if_pos ((ralkB_is w b).mpr h)
theorem simV_0 {w b : Rw} (h : ¬ ralk w b) : simV w b = 0 := if_neg (fun h9 => h ((ralkB_is w b).mp h9))
theorem simV_c (w b : Rw) : simV w b = 0 ∨ simV w b = 1 := by
  unfold simV
  split
  · exact Or.inr rfl
  · exact Or.inl rfl
set_option maxHeartbeats 4000000 in
set_option maxRecDepth 100000 in
theorem t_similar (l : Launch) (hfl : l.stackTraces = false) (dC : Nat → ClassId) (dI : Nat → Nat → Nat) (cI cZ cII cIII : ClassId) (h0 sz : Nat) (μ : va_M) (pg : Int) (ot : Int) (T : List Tk) (wp : Rw) (wq : Rw) (hI : CI T μ) (h_pg : inR pg) (h_ot : inR ot) (hwp : 0 ≤ pg ∧ pg < μ 0 2 → rowS μ (113 + (pg).toNat * 15 + 3) wp ∧ rWF wp) (hwq : 0 ≤ ot ∧ ot < μ 0 2 → rowS μ (113 + (ot).toNat * 15 + 3) wq ∧ rWF wq) : vx_Met l yX9_similar (Cond.code yX9_similar cX9_similar 5 (some .boolean) :: wsG) ({ frames := 8, cells := 1, slots := 6, locals := 131 } : Room) (va_Pc [.ref h0, .int (iZ (pg)), .int (iZ (ot))] (fun U => U.heap.size = sz ∧ va_P (dC, dI) vwCl (fw (sE cI cZ cII cIII h0) h0 233 μ) U.heap ∧ va_K (dC, dI) vwCl (sT cI cZ cII cIII) U ∧ xM U ∧ xX (fA h0 233 sz) U)) (va_Qi (fun (r9 : Int32) (u : va_M × Int) => r9 = iZ u.2 ∧ (fun (u : va_M) (r : Int) => CI T u ∧ SZ μ u ∧ ((0 ≤ pg ∧ pg < μ 0 2) ∧ 0 ≤ ot ∧ ot < μ 0 2) ∧ r = simV wp wq) u.1 u.2) (fun u t => va_P (dC, dI) vwCl (fw (sE cI cZ cII cIII h0) h0 233 u.1) t.heap ∧ va_K (dC, dI) vwCl (sT cI cZ cII cIII) t) (fA h0 233 sz)) (vx_X (fun (u : va_M) => CI T u ∧ SZ μ u) (fun E u t => E ∈ (["java/util/NoSuchElementException"] : List String) ∧ va_P (dC, dI) vwCl (fw (sE cI cZ cII cIII h0) h0 233 u) t.heap ∧ va_K (dC, dI) vwCl (sT cI cZ cII cIII) t ∧ ((E = "java/util/NoSuchElementException" → cd2 ((0 ≤ pg ∧ pg < μ 0 2) ∧ 0 ≤ ot ∧ ot < μ 0 2) (True) = 1) ∧ (E = "-" → cd2 ((0 ≤ pg ∧ pg < μ 0 2) ∧ 0 ≤ ot ∧ ot < μ 0 2) (True) = 2))) (fA h0 233 sz)) 1 6 (fA h0 233 sz) := by
  refine vx_ofW (cc := cX9_similar) (maxL := 5) (ret := (some .boolean)) (by decide) rfl ?_
  intro p e s m args below meth c s₁ B hml hnt hv
  obtain ⟨rfl, hsz, hP, hK, hM, hEx⟩ := hv
  have hx := B.exec
  have hb := B.bytes
  have hr := B.returns
  have hts : ∀ w ∈ wsG, w.before _ s = true := hG_of (atoms_spec (ws := (Cond.code yX9_similar cX9_similar 5 (some .boolean) :: wsG)) B.pre)
  have hown : s.vm.findClass RX9 = some m.cls := findClass_of_methodNamed B.named
  have hlocks := B.notSynchronized
  subst hsz
  have hS : va_S (fA h0 233 s.heap.size) s.heap s.heap [] := va_S.rf
  have hl := lv_entry ([.ref h0, .int (iZ (pg)), .int (iZ (ot))]) (n := 5) (Nat.le_of_ble_eq_true rfl)
  rw [lg_entry_eq]
  generalize (lg_sl ([.ref h0, .int (iZ (pg)), .int (iZ (ot))]) ++ List.replicate (5 - (lg_sl ([.ref h0, .int (iZ (pg)), .int (iZ (ot))])).length) Slot.unset).toArray = ls at hl ⊢
  have hl : lv_has ls 5 [(0, .ref h0), (1, .int (iZ (pg))), (2, .int (iZ (ot)))] := hl
  have hlc := CI_lc hI
  have h66 := CI_n6 hI
  refine lv_aload_n hx hb dX9_similar_0 rfl (lv_at hl 0 rfl) ?_
  refine lv_iload_n hx hb dX9_similar_1 rfl (lv_at hl 1 rfl) ?_
  by_cases hn2_ : 0 ≤ pg ∧ pg < μ 0 2
  · refine va_callv (va_runV (As := [.int (iZ (pg))]) (rest := []) ⟨hx, hb, hml, hown, hts⟩ (s_needPage l dC dI cI cZ cII cIII h0 s.heap.size μ (pg) (by first | assumption | omega | exact CI_lc hI | exact CI_cn hI | exact (CI_n6 hI).1 | decide) (by first | assumption | omega | exact CI_lc hI | exact CI_cn hI | exact (CI_n6 hI).1 | decide) (by exact hn2_)) (cwV 1 hts (gV_G k735 k737 ks_yX9_needPage k1 k738) rfl rfl rfl (by decide +kernel) ⟨Nat.le_of_ble_eq_true rfl, Nat.le_of_ble_eq_true rfl⟩) ⟨fun a U g mk q => by obtain ⟨q0, q1, qP, qK, qM⟩ := q; exact ⟨q0, q1, qP, va_K.moved (u := U) (U := U.calling g mk a) (Vm.Alike.refl U.vm) qK, qM⟩, va_recv hK hP (ci := 9) (q0 := 0) rfl ((fw_get (by decide)).trans (by rw [sE_0]; rfl)), fun U hU hW => ⟨rfl, by rw [hU], by rw [hU]; exact hP, va_K.moved hW.alike hK, xM_warm hW hM⟩⟩ rfl rfl hl.1 rfl (lv_room (Nat.le_of_ble_eq_true rfl)) dX9_similar_2 ⟨Nat.le_of_ble_eq_true rfl, Nat.le_of_ble_eq_true rfl⟩) hS (fun q _ h => fA_le hS.1 q h) (fA_le hS.1) (fun u9 t9 H1 locs ht9 hvm9 hw9 hB9 hz9 hk9 hS => ?_)
    obtain ⟨hP, -⟩ := hB9
    rw [ht9] at hP
    generalize H1 = H at hP hS ⊢
    obtain ⟨μ1, eμ1⟩ : ∃ x : va_M, x = u9 := ⟨_, rfl⟩
    rw [← eμ1] at hP hw9
    have hμ1 := hw9; clear hw9
    rw [hμ1] at hP
    refine lv_aload_n hx hb dX9_similar_5 rfl (lv_at hl 0 rfl) ?_
    refine lv_iload_n hx hb dX9_similar_6 rfl (lv_at hl 2 rfl) ?_
    by_cases hn7_ : 0 ≤ ot ∧ ot < μ 0 2
    · refine va_callv (va_runV (As := [.int (iZ (ot))]) (rest := []) ⟨hx, hb, hml, hown, hts⟩ (s_needPage l dC dI cI cZ cII cIII h0 H.size μ (ot) (by first | assumption | omega | exact CI_lc hI | exact CI_cn hI | exact (CI_n6 hI).1 | decide) (by first | assumption | omega | exact CI_lc hI | exact CI_cn hI | exact (CI_n6 hI).1 | decide) (by exact hn7_)) (cwV 1 hts (gV_G k735 k737 ks_yX9_needPage k1 k738) rfl rfl rfl (by decide +kernel) ⟨Nat.le_of_ble_eq_true rfl, Nat.le_of_ble_eq_true rfl⟩) ⟨fun a U g mk q => by obtain ⟨q0, q1, qP, qK, qM⟩ := q; exact ⟨q0, q1, qP, va_K.moved (u := U) (U := U.calling g mk a) (Vm.Alike.refl U.vm) qK, qM⟩, va_recv hK hP (ci := 9) (q0 := 0) rfl ((fw_get (by decide)).trans (by rw [sE_0]; rfl)), fun U hU hW => ⟨rfl, by rw [hU], by rw [hU]; exact hP, va_K.moved hW.alike hK, xM_warm hW hM⟩⟩ rfl rfl hl.1 rfl (lv_room (Nat.le_of_ble_eq_true rfl)) dX9_similar_7 ⟨Nat.le_of_ble_eq_true rfl, Nat.le_of_ble_eq_true rfl⟩) hS (fun q _ h => fA_le hS.1 q h) (fA_le hS.1) (fun u9 t9 H1 locs ht9 hvm9 hw9 hB9 hz9 hk9 hS => ?_)
      obtain ⟨hP, -⟩ := hB9
      rw [ht9] at hP
      generalize H1 = H at hP hS ⊢
      obtain ⟨μ2, eμ2⟩ : ∃ x : va_M, x = u9 := ⟨_, rfl⟩
      rw [← eμ2] at hP hw9
      have hμ2 := hw9; clear hw9
      rw [hμ2] at hP
      obtain ⟨hl1, hl2⟩ := CI_lf hI pg (by omega) (by omega)
      obtain ⟨hm1, hm2⟩ := CI_lf hI ot (by omega) (by omega)
      have hg1 := hl1.2.2.2
      have hg2 := hm1.2.2.2
      have la := rG_len hg1
      have lb := rG_len hg2
      obtain ⟨w1_, w2_⟩ := hwp (by omega)
      obtain ⟨b1_, b2_⟩ := hwq (by omega)
      have w3_ := rWF_0 _ w2_
      have b3_ := rWF_0 _ b2_
      have w4_ := w1_.1.1
      have b4_ := b1_.1.1
      refine lv_aload_n hx hb dX9_similar_10 rfl (lv_at hl 0 rfl) ?_
      refine fz_get (D := (dC, dI)) (ci := 9) (v := .ref (h0 + 5)) (C := RX9) (T := TX9) (N := 15) hx hb hts inG9 hown hK hP (k := 0) (by decide) (F := (sF0 h0)) sE_0 rfl 1 (by decide) (hts _ k333) (fun _ h9 => h9) rfl dX9_similar_11 ?_
      refine lv_iload_n hx hb dX9_similar_14 rfl (lv_at hl 1 rfl) ?_
      refine fz_ald (k := 5) (n := 8) (k2 := (113 + (pg).toNat * 15)) hx hb hK hP 1 rfl (by decide) sE_5 rfl ⟨by omega, by omega⟩ (by decide) (if_pos (by omega)) dX9_similar_15 ?_
      refine fz_get (D := (dC, dI)) (ci := 1) (v := .ref (h0 + ((113 + (pg).toNat * 15) + 3))) (C := RX1) (T := TX1) (N := 8) hx hb hts inG1 hown hK hP (k := (113 + (pg).toNat * 15)) (by omega) (F := (sLF h0 (113 + (pg).toNat * 15))) (sE_leafO (show (pg).toNat < 8 by omega) rfl) rfl 3 (by decide) (hts _ k304) (fun _ h9 => h9) rfl dX9_similar_16 ?_
      refine lv_astore_n (lv' := [(3, .ref (h0 + ((113 + (pg).toNat * 15) + 3))), (0, .ref h0), (1, .int (iZ (pg))), (2, .int (iZ (ot)))]) hx hb dX9_similar_19 rfl hl (by decide) rfl (fun ls hl => ?_)
      refine lv_aload_n hx hb dX9_similar_20 rfl (lv_at hl 1 rfl) ?_
      refine fz_get (D := (dC, dI)) (ci := 9) (v := .ref (h0 + 5)) (C := RX9) (T := TX9) (N := 15) hx hb hts inG9 hown hK hP (k := 0) (by decide) (F := (sF0 h0)) sE_0 rfl 1 (by decide) (hts _ k333) (fun _ h9 => h9) rfl dX9_similar_21 ?_
      refine lv_iload_n hx hb dX9_similar_24 rfl (lv_at hl 3 rfl) ?_
      refine fz_ald (k := 5) (n := 8) (k2 := (113 + (ot).toNat * 15)) hx hb hK hP 1 rfl (by decide) sE_5 rfl ⟨by omega, by omega⟩ (by decide) (if_pos (by omega)) dX9_similar_25 ?_
      refine fz_get (D := (dC, dI)) (ci := 1) (v := .ref (h0 + ((113 + (ot).toNat * 15) + 3))) (C := RX1) (T := TX1) (N := 8) hx hb hts inG1 hown hK hP (k := (113 + (ot).toNat * 15)) (by omega) (F := (sLF h0 (113 + (ot).toNat * 15))) (sE_leafO (show (ot).toNat < 8 by omega) rfl) rfl 3 (by decide) (hts _ k304) (fun _ h9 => h9) rfl dX9_similar_26 ?_
      refine lv_astore (lv' := [(4, .ref (h0 + ((113 + (ot).toNat * 15) + 3))), (3, .ref (h0 + ((113 + (pg).toNat * 15) + 3))), (0, .ref h0), (1, .int (iZ (pg))), (2, .int (iZ (ot)))]) hx hb dX9_similar_29 hl (by decide) rfl (fun ls hl => ?_)
      refine lv_aload_n hx hb dX9_similar_31 rfl (lv_at hl 1 rfl) ?_
      refine fz_get (D := (dC, dI)) (ci := 4) (v := .int (iZ (μ ((113 + (pg).toNat * 15) + 3) 5))) (C := RX4) (T := TX4) (N := 8) hx hb hts inG4 hown hK hP (k := ((113 + (pg).toNat * 15) + 3)) (by omega) (F := (sRF h0 ((113 + (pg).toNat * 15) + 3))) (sE_rowO (rowB_L (show (pg).toNat < 8 by omega) rfl)) rfl 5 (by decide) (hts _ k99) (fun _ h9 => h9) rfl dX9_similar_32 ?_
      refine lv_aload hx hb dX9_similar_35 (lv_at hl 0 rfl) ?_
      refine fz_get (D := (dC, dI)) (ci := 4) (v := .int (iZ (μ ((113 + (ot).toNat * 15) + 3) 5))) (C := RX4) (T := TX4) (N := 8) hx hb hts inG4 hown hK hP (k := ((113 + (ot).toNat * 15) + 3)) (by omega) (F := (sRF h0 ((113 + (ot).toNat * 15) + 3))) (sE_rowO (rowB_L (show (ot).toNat < 8 by omega) rfl)) rfl 5 (by decide) (hts _ k99) (fun _ h9 => h9) rfl dX9_similar_37 ?_
      refine fz_icmp_ne (tgt := 62) (by first | assumption | (constructor <;> omega) | decide) (by first | assumption | (constructor <;> omega) | decide) hx hb dX9_similar_40 (by decide) (fun c40_ => ?_) (fun c40_ => ?_)
      · refine lv_iconst (v := iZ 0) hx hb dX9_similar_62 rfl ?_
        exact W_widen (Nat.le_of_ble_eq_true rfl) (Nat.le_of_ble_eq_true rfl) (vx_ret (W.zret (v := iZ (0)) hx hb hr (by decide +kernel) (fun t9 ht9 hW9 => ⟨⟨iZ (0), (μ, 0), rfl, ⟨rfl, (by
                        dsimp only
                        refine ⟨hI, SZ_rf, ⟨⟨by omega, by omega⟩, by omega, by omega⟩, ?_⟩
                        exact (simV_0 (fun hk => by have := ralk_sL _ _ w3_ b3_ hk; omega)).symm)⟩, by rw [ht9]; exact hP, va_K.moved hW9.alike hK⟩, hS.F ht9⟩) hS.2.2 dX9_similar_63))
      · refine lv_aload_n hx hb dX9_similar_43 rfl (lv_at hl 1 rfl) ?_
        refine lv_iconst (v := iZ 0) hx hb dX9_similar_44 rfl ?_
        refine lv_aload hx hb dX9_similar_45 (lv_at hl 0 rfl) ?_
        refine lv_iconst (v := iZ 0) hx hb dX9_similar_47 rfl ?_
        refine lv_aload_n hx hb dX9_similar_48 rfl (lv_at hl 1 rfl) ?_
        refine fz_get (D := (dC, dI)) (ci := 4) (v := .int (iZ (μ ((113 + (pg).toNat * 15) + 3) 5))) (C := RX4) (T := TX4) (N := 8) hx hb hts inG4 hown hK hP (k := ((113 + (pg).toNat * 15) + 3)) (by omega) (F := (sRF h0 ((113 + (pg).toNat * 15) + 3))) (sE_rowO (rowB_L (show (pg).toNat < 8 by omega) rfl)) rfl 5 (by decide) (hts _ k99) (fun _ h9 => h9) rfl dX9_similar_49 ?_
        refine va_calli (va_runV (As := [.int (iZ (0)), .ref (h0 + ((113 + (ot).toNat * 15) + 3)), .int (iZ (0)), .int (iZ (μ ((113 + (pg).toNat * 15) + 3) 5))]) (rest := []) ⟨hx, hb, hml, hown, hts⟩ (s_Rmatches l dC dI cI cZ cII cIII h0 H.size μ (((113 + (pg).toNat * 15) + 3)) (96) (((113 + (ot).toNat * 15) + 3)) (96) (0) (0) (μ ((113 + (pg).toNat * 15) + 3) 5) ((rowB_L (show (pg).toNat < 8 by omega) rfl)) ((rowB_L (show (ot).toNat < 8 by omega) rfl)) (by exact hg1.1) (by exact hg2.1) (by first | assumption | omega | exact CI_lc hI | exact CI_cn hI | exact (CI_n6 hI).1 | decide) (by first | assumption | omega | exact CI_lc hI | exact CI_cn hI | exact (CI_n6 hI).1 | decide) (by first | assumption | omega | exact CI_lc hI | exact CI_cn hI | exact (CI_n6 hI).1 | decide) (by first | assumption | omega | exact CI_lc hI | exact CI_cn hI | exact (CI_n6 hI).1 | decide) (by first | assumption | omega | exact CI_lc hI | exact CI_cn hI | exact (CI_n6 hI).1 | decide) (by first | assumption | omega | exact CI_lc hI | exact CI_cn hI | exact (CI_n6 hI).1 | decide)) (cwV 4 hts (gV_G k1100 k442 k443 k3 k444) rfl rfl rfl (by decide +kernel) ⟨Nat.le_of_ble_eq_true rfl, Nat.le_of_ble_eq_true rfl⟩) ⟨fun a U g mk q => by obtain ⟨q0, q1, qP, qK, qM⟩ := q; exact ⟨q0, q1, qP, va_K.moved (u := U) (U := U.calling g mk a) (Vm.Alike.refl U.vm) qK, qM⟩, va_recv hK hP (ci := 4) (q0 := ((113 + (pg).toNat * 15) + 3)) rfl ((fw_get (by omega)).trans (by rw [(sE_rowO (rowB_L (show (pg).toNat < 8 by omega) rfl))])), fun U hU hW => ⟨rfl, by rw [hU], by rw [hU]; exact hP, va_K.moved hW.alike hK, xM_warm hW hM⟩⟩ rfl rfl hl.1 rfl (lv_room (Nat.le_of_ble_eq_true rfl)) dX9_similar_52 ⟨Nat.le_of_ble_eq_true rfl, Nat.le_of_ble_eq_true rfl⟩) hS (fun q _ h => fA_le hS.1 q h) (fA_le hS.1) (fun r9 u9 t9 H1 locs ht9 hvm9 hw9 hB9 hz9 hk9 hS => ?_)
        obtain ⟨μq, rq⟩ := u9
        obtain ⟨hP, -⟩ := hB9
        rw [ht9] at hP
        generalize H1 = H at hP hS ⊢
        obtain ⟨e9, hw9⟩ := hw9
        have e9 : r9 = iZ rq := e9
        subst e9
        simp only at hP hw9
        have hμq := hw9; clear hw9
        rw [hμq.1] at hP; have hμq := hμq.2
        have hrq := hμq
        have hr01 : rq = 0 ∨ rq = 1 := hrq.elim (fun h => Or.inr h.1) (fun h => Or.inl h.1)
        refine fz_if_eq (tgt := 62) (by first | assumption | (constructor <;> omega) | decide) hx hb dX9_similar_55 (by decide) (fun c55_ => ?_) (fun c55_ => ?_)
        · refine lv_iconst (v := iZ 0) hx hb dX9_similar_62 rfl ?_
          exact W_widen (Nat.le_of_ble_eq_true rfl) (Nat.le_of_ble_eq_true rfl) (vx_ret (W.zret (v := iZ (0)) hx hb hr (by decide +kernel) (fun t9 ht9 hW9 => ⟨⟨iZ (0), (μ, 0), rfl, ⟨rfl, (by
                            dsimp only
                            refine ⟨hI, SZ_rf, ⟨⟨by omega, by omega⟩, by omega, by omega⟩, ?_⟩
                            exact (simV_0 (fun hk => by
                              have h9 := (sim_mat w1_ b1_ w3_ b3_ (by omega)).mpr hk
                              rcases hrq with ⟨h8, -⟩ | ⟨-, h8⟩
                              · omega
                              · exact h8 h9)).symm)⟩, by rw [ht9]; exact hP, va_K.moved hW9.alike hK⟩, hS.F ht9⟩) hS.2.2 dX9_similar_63))
        · refine lv_iconst (v := iZ 1) hx hb dX9_similar_58 rfl ?_
          refine lv_goto (tgt := 63) hx hb dX9_similar_59 (by decide) ?_
          exact W_widen (Nat.le_of_ble_eq_true rfl) (Nat.le_of_ble_eq_true rfl) (vx_ret (W.zret (v := iZ (1)) hx hb hr (by decide +kernel) (fun t9 ht9 hW9 => ⟨⟨iZ (1), (μ, 1), rfl, ⟨rfl, (by
                            dsimp only
                            refine ⟨hI, SZ_rf, ⟨⟨by omega, by omega⟩, by omega, by omega⟩, ?_⟩
                            exact (simV_1 ((sim_mat w1_ b1_ w3_ b3_ (by omega)).mp (by
                              rcases hrq with ⟨-, h8⟩ | ⟨h8, -⟩
                              · exact h8
                              · omega))).symm)⟩, by rw [ht9]; exact hP, va_K.moved hW9.alike hK⟩, hS.F ht9⟩) hS.2.2 dX9_similar_63))
    · refine vx_callv (vx_runV (As := [.int (iZ (ot))]) (rest := []) ⟨hx, hb, hml, hown, hts⟩ (x_needPage l hfl dC dI cI cZ cII cIII h0 H.size μ (ot) (by first | assumption | omega | exact CI_lc hI | exact CI_cn hI | exact (CI_n6 hI).1 | decide) (by first | assumption | omega | exact CI_lc hI | exact CI_cn hI | exact (CI_n6 hI).1 | decide) (hn7_)) (cwV 1 hts (gV_G k735 k737 ks_yX9_needPage k1 k738) rfl rfl rfl (by decide +kernel) ⟨Nat.le_of_ble_eq_true rfl, Nat.le_of_ble_eq_true rfl⟩) ⟨fun a U g mk q => by obtain ⟨q0, q1, qP, qK, qM, qE⟩ := q; exact ⟨q0, q1, qP, va_K.moved (u := U) (U := U.calling g mk a) (Vm.Alike.refl U.vm) qK, qM, xX_call qE⟩, va_recv hK hP (ci := 9) (q0 := 0) rfl ((fw_get (by decide)).trans (by rw [sE_0]; rfl)), fun U hU hW => ⟨rfl, by rw [hU], by rw [hU]; exact hP, va_K.moved hW.alike hK, xM_warm hW hM, xX_at hEx hS (fun q h => fA_le hS.1 q h) hU hW⟩⟩ rfl rfl hl.1 rfl (lv_room (Nat.le_of_ble_eq_true rfl)) dX9_similar_7 ⟨Nat.le_of_ble_eq_true rfl, Nat.le_of_ble_eq_true rfl⟩) hS (fun q _ h => fA_le hS.1 q h) (fA_le hS.1) (fun q _ h => fA_le hS.1 q h) (fun E9 ce9 q9 u9 t9 H1 locs ht9 hvm9 hpx9 hBX9 hz9 hk9 hS hce9 hcv9 hcl9 => ?_) (fun u9 t9 H1 locs ht9 hvm9 hw9 hB9 hz9 hk9 hS => hw9.elim)
      obtain ⟨hE9, hP9, hK9⟩ := hBX9
      exact vx_out (fun x hx9 => (hnt x hx9).elim) hlocks hce9 hcv9 hcl9 (fun t8 ht8 hW8 => ⟨u9, (by
                    show CI T u9 ∧ SZ μ u9
                    exact CZ_thr hI hpx9), ⟨hE9, by rw [ht8, ← ht9]; exact hP9, va_K.moved hW8 hK, (by have hE8 := List.mem_singleton.mp hE9; rw [hE8]; exact ⟨fun _ => cd2_1 (by omega), fun h => absurd h (by decide +kernel)⟩)⟩, hS.F ht8⟩) hS.2.2 (Nat.le_of_ble_eq_true rfl) (Nat.le_of_ble_eq_true rfl)
  · refine vx_callv (vx_runV (As := [.int (iZ (pg))]) (rest := []) ⟨hx, hb, hml, hown, hts⟩ (x_needPage l hfl dC dI cI cZ cII cIII h0 s.heap.size μ (pg) (by first | assumption | omega | exact CI_lc hI | exact CI_cn hI | exact (CI_n6 hI).1 | decide) (by first | assumption | omega | exact CI_lc hI | exact CI_cn hI | exact (CI_n6 hI).1 | decide) (hn2_)) (cwV 1 hts (gV_G k735 k737 ks_yX9_needPage k1 k738) rfl rfl rfl (by decide +kernel) ⟨Nat.le_of_ble_eq_true rfl, Nat.le_of_ble_eq_true rfl⟩) ⟨fun a U g mk q => by obtain ⟨q0, q1, qP, qK, qM, qE⟩ := q; exact ⟨q0, q1, qP, va_K.moved (u := U) (U := U.calling g mk a) (Vm.Alike.refl U.vm) qK, qM, xX_call qE⟩, va_recv hK hP (ci := 9) (q0 := 0) rfl ((fw_get (by decide)).trans (by rw [sE_0]; rfl)), fun U hU hW => ⟨rfl, by rw [hU], by rw [hU]; exact hP, va_K.moved hW.alike hK, xM_warm hW hM, xX_at hEx hS (fun q h => fA_le hS.1 q h) hU hW⟩⟩ rfl rfl hl.1 rfl (lv_room (Nat.le_of_ble_eq_true rfl)) dX9_similar_2 ⟨Nat.le_of_ble_eq_true rfl, Nat.le_of_ble_eq_true rfl⟩) hS (fun q _ h => fA_le hS.1 q h) (fA_le hS.1) (fun q _ h => fA_le hS.1 q h) (fun E9 ce9 q9 u9 t9 H1 locs ht9 hvm9 hpx9 hBX9 hz9 hk9 hS hce9 hcv9 hcl9 => ?_) (fun u9 t9 H1 locs ht9 hvm9 hw9 hB9 hz9 hk9 hS => hw9.elim)
    obtain ⟨hE9, hP9, hK9⟩ := hBX9
    exact vx_out (fun x hx9 => (hnt x hx9).elim) hlocks hce9 hcv9 hcl9 (fun t8 ht8 hW8 => ⟨u9, (by
                show CI T u9 ∧ SZ μ u9
                exact CZ_thr hI hpx9), ⟨hE9, by rw [ht8, ← ht9]; exact hP9, va_K.moved hW8 hK, (by have hE8 := List.mem_singleton.mp hE9; rw [hE8]; exact ⟨fun _ => cd2_1 (by omega), fun h => absurd h (by decide +kernel)⟩)⟩, hS.F ht8⟩) hS.2.2 (Nat.le_of_ble_eq_true rfl) (Nat.le_of_ble_eq_true rfl)

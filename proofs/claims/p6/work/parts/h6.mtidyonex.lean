
set_option maxHeartbeats 40000000 in
set_option maxRecDepth 100000 in
theorem LX10_tidiesOne_21x {p : Program} {l : Launch} {e : Env} {R : Room} {s : State} {m : MethodId} {args : Array Value} {below : List Frame} {meth : Method} {c : Code} {cells slots : Nat} {Q : State → Prop} {dC : Nat → ClassId} {dI : Nat → Nat → Nat} {h0 : Nat} {cI cZ cII cIII : ClassId} (hx : p.tables.exec = Jvm.exec) (hb : c.code = cX10_tidiesOne) (hml : c.maxLocals = 4) (hown : s.vm.findClass RX10 = some m.cls) (hts : ∀ w ∈ wsG, w.before args s = true) (hK : va_K (dC, dI) vwCl (mT cI cZ cII cIII) s) (hRf : 27 ≤ R.frames) (hRl : 860 ≤ R.locals) (hRc : cells ≤ R.cells) (hRs : slots ≤ R.slots) (μ0 : va_M) (t : Int) (m9 : Int) (w : Rw) (ht : 0 ≤ t ∧ t < 70) (hR : RA μ0 t.toNat w 0) (hN : rN w ≤ 900) (hwf : rWF w) (hHH : rH w ≤ 20) (hrow : rowIs μ0 723 w 0) (h260 : rI w ≤ 260) (ht3 : t ≠ 50 ∧ t ≠ 51 ∧ t ≠ 52) (hm9 : m9 = rI w) (hexit81 : ∀ (k : Int) (μ : va_M) (H : Heap) (locs : List Loc) (ls : Array Slot), (∃ w2 : Rw, TR μ t.toNat w2 ∧ ts1 w w2 ∧ rI w2 < rI w ∧ fr (FQ t.toNat) μ0 μ) → va_P (dC, dI) vwCl (fw (mE cI cZ cII cIII h0) h0 6325 μ) H → va_S (fA h0 6325 s.heap.size) s.heap H locs → lv_has ls 4 [] → W p l e R s m args below meth c H locs cells slots Q (F0 m 81 ls [])) (hexit89 : ∀ (k : Int) (μ : va_M) (H : Heap) (locs : List Loc) (ls : Array Slot), (μ = μ0) → (tw0 w) → va_P (dC, dI) vwCl (fw (mE cI cZ cII cIII h0) h0 6325 μ) H → va_S (fA h0 6325 s.heap.size) s.heap H locs → lv_has ls 4 [(2, .int (iZ (m9))), (1, .int (iZ (t))), (0, .ref h0)] → W p l e R s m args below meth c H locs cells slots Q (F0 m 89 ls [])) :
    ∀ (n9 : Nat) (k : Int) (μ : va_M) (H : Heap) (locs : List Loc) (ls : Array Slot), (μ = μ0) → (0 ≤ k ∧ k ≤ rI w) → (∀ j : Nat, j < k.toNat → ¬ twn w j) → (300 - k).toNat < n9 → va_P (dC, dI) vwCl (fw (mE cI cZ cII cIII h0) h0 6325 μ) H → va_S (fA h0 6325 s.heap.size) s.heap H locs → lv_has ls 4 [(3, .int (iZ (k))), (2, .int (iZ (m9))), (1, .int (iZ (t))), (0, .ref h0)] → W p l e R s m args below meth c H locs cells slots Q (F0 m 21 ls []) := by
  intro n9
  induction n9 with
  | zero => intro k μ H locs ls hm hk hno hm9 hP hS hl; exact absurd hm9 (Nat.not_lt_zero _)
  | succ n9 ih =>
    intro k μ H locs ls hm hk hno hm9 hP hS hl
    subst hm
    refine lv_iload_n hx hb dX10_tidiesOne_21 rfl (lv_at hl 0 rfl) ?_
    refine lv_iconst (v := iZ 1) hx hb dX10_tidiesOne_22 rfl ?_
    refine lv_iadd hx hb dX10_tidiesOne_23 ?_
    refine lv_topi (fun x9 ex9 => ?_)
    obtain rfl : x9 = iZ (k + 1) := ex9.trans (iZ_add _ _)
    refine lv_iload_n hx hb dX10_tidiesOne_24 rfl (lv_at hl 1 rfl) ?_
    refine fz_icmp_ge (tgt := 89) (by constructor <;> omega) (by constructor <;> omega) hx hb dX10_tidiesOne_25 (by decide) (fun c25_ => ?_) (fun c25_ => ?_)
    · exact hexit89 (k) μ H locs ls (by rfl) (by
                    exact fun j h9 => by
                      by_cases h8 : j < k.toNat
                      · exact hno j h8 h9
                      · have := twn_I h9
                        omega) hP hS (lv_sub hl [1, 2, 3] rfl)
    · have hIx := rdrop_I (k.toNat) w
      have hNx := rdrop_N (k.toNat) w
      have hHx := rdrop_H (k.toNat) w
      have hFx := rdrop_WF (k.toNat) w hwf
      have hRx := RA_drop (k.toNat) w 0 hR
      obtain ⟨zx, kx, vx, lx, wx, hex⟩ := rI_pos (w := rdrop (k.toNat) w) (by omega)
      rw [hex] at hIx hNx hHx hFx hRx
      rw [rN_in] at hNx; rw [rI_in] at hIx; rw [rH_in] at hHx
      obtain ⟨rx1, rx2, rx3, rx4, rx5⟩ := hRx
      rw [Nat.zero_add] at rx1 rx2 rx3 rx4
      have fxA : iWF kx vx lx := ⟨hFx.1, hFx.2.1, hFx.2.2.1, hFx.2.2.2.1, hFx.2.2.2.2.1, hFx.2.2.2.2.2.1, hFx.2.2.2.2.2.2.1⟩
      have hIy := rdrop_I (k.toNat + 1) w
      have hNy := rdrop_N (k.toNat + 1) w
      have hHy := rdrop_H (k.toNat + 1) w
      have hFy := rdrop_WF (k.toNat + 1) w hwf
      have hRy := RA_drop (k.toNat + 1) w 0 hR
      obtain ⟨zy, ky, vy, ly, wy, hey⟩ := rI_pos (w := rdrop (k.toNat + 1) w) (by omega)
      rw [hey] at hIy hNy hHy hFy hRy
      rw [rN_in] at hNy; rw [rI_in] at hIy; rw [rH_in] at hHy
      obtain ⟨ry1, ry2, ry3, ry4, ry5⟩ := hRy
      rw [Nat.zero_add] at ry1 ry2 ry3 ry4
      have fyA : iWF ky vy ly := ⟨hFy.1, hFy.2.1, hFy.2.2.1, hFy.2.2.2.1, hFy.2.2.2.2.1, hFy.2.2.2.2.2.1, hFy.2.2.2.2.2.2.1⟩
      refine lv_aload_n hx hb dX10_tidiesOne_28 rfl (lv_at hl 3 rfl) ?_
      refine lv_iload_n hx hb dX10_tidiesOne_29 rfl (lv_at hl 2 rfl) ?_
      refine lv_aload_n hx hb dX10_tidiesOne_30 rfl (lv_at hl 3 rfl) ?_
      refine fz_get (D := (dC, dI)) (ci := 10) (v := .ref (h0 + 722)) (C := RX10) (T := TX10) (N := 53) hx hb hts inG10 hown hK hP (k := 0) (by decide) (F := mF h0) mE_obj rfl 29 (by decide) (hts _ k1195) (fun _ h9 => h9) rfl dX10_tidiesOne_31 ?_
      refine lv_iconst (v := iZ 0) hx hb dX10_tidiesOne_34 rfl ?_
      refine fz_ald (k := 722) (n := 14) (k2 := (723 + 0)) hx hb hK hP 2 rfl (by decide) mE_rowS rfl ⟨by omega, by omega⟩ (by decide) (if_pos (by omega)) dX10_tidiesOne_35 ?_
      refine lv_iload_n hx hb dX10_tidiesOne_36 rfl (lv_at hl 0 rfl) ?_
      refine fz_ld (k := (723 + 0)) (n := 260) hx hb hK hP 0 (by omega) (mE_rowSR (by omega)) rfl ⟨by omega, by omega⟩ (by decide) dX10_tidiesOne_37 ?_
      rw [show μ (723 + 0) (k).toNat = (rO w k.toNat : Int) from (by rw [hrow _ (by omega)]; omega)]
      refine va_calli (va_runV (As := [.int (iZ (t)), .int (iZ ((rO w k.toNat : Int)))]) (rest := []) ⟨hx, hb, hml, hown, hts⟩ (m_isRepeat l dC dI cI cZ cII cIII h0 H.size μ (t) ((rO w k.toNat : Int)) (by first | assumption | omega | exact ⟨by omega, by omega⟩) (by omega) (by rw [show ((rO w k.toNat : Nat) : Int).toNat = rO w k.toNat from rfl, rx1]; have h9 := fxA.1; constructor <;> omega)) (cwV 2 hts (gV_G k1448 k1450 ks_yX10_isRepeat k13 k1451) rfl rfl rfl (by decide +kernel) ⟨by show 1 + 1 ≤ _; omega, by show 8 + (3 + 11) + (14) ≤ _; omega⟩) ⟨fun a U g mk q => by obtain ⟨q0, q1, qP, qK⟩ := q; exact ⟨q0, q1, qP, va_K.moved (u := U) (U := U.calling g mk a) (Vm.Alike.refl U.vm) qK⟩, va_recv hK hP (ci := 10) (q0 := 0) rfl ((fw_get (by decide)).trans (by rw [mE_obj]; rfl)), fun U hU hW => ⟨rfl, by rw [hU], by rw [hU]; exact hP, va_K.moved hW.alike hK⟩⟩ rfl rfl hl.1 rfl (lv_room (Nat.le_of_ble_eq_true rfl)) dX10_tidiesOne_38 ⟨hRc, hRs⟩) hS (fun q _ h => fA_le hS.1 q h) (fA_le hS.1) (fun r9 u9 t9 H1 locs ht9 hvm9 hw9 hB9 hz9 hk9 hS => ?_)
      obtain ⟨μ1, r2⟩ := u9
      obtain ⟨hP, -⟩ := hB9
      rw [ht9] at hP
      generalize H1 = H at hP hS ⊢
      obtain ⟨e9, hw9⟩ := hw9
      have e9 : r9 = iZ r2 := e9
      subst e9
      simp only at hP hw9
      have hμ1 := hw9; clear hw9
      rw [hμ1.1] at hP; have hμ1 := hμ1.2
      rw [show ((rO w k.toNat : Nat) : Int).toNat = rO w k.toNat from rfl, rx1] at hμ1
      refine fz_if_eq (tgt := 83) (by constructor <;> omega) hx hb dX10_tidiesOne_41 (by decide) (fun c41_ => ?_) (fun c41_ => ?_)
      · have hk9 : ¬ kx = 4 := fun h => by
          subst h
          split at hμ1
          · omega
          · omega
        refine lv_iinc (v := iZ (k + 1)) (lv' := [(3, .int (iZ (k + 1))), (2, .int (iZ (m9))), (1, .int (iZ (t))), (0, .ref h0)]) hx hb dX10_tidiesOne_83 hl (k := 0) rfl (iZ_add _ _) (by decide) rfl (fun ls hl => ?_)
        refine lv_goto (tgt := 21) hx hb dX10_tidiesOne_86 (by decide) ?_
        exact ih (k + 1) μ H locs ls (by rfl) (by omega) (by
                        exact fun j hj h9 => by
                          by_cases h8 : j < k.toNat
                          · exact hno j h8 h9
                          · obtain rfl : j = k.toNat := by omega
                            obtain ⟨za, va, la, ra, zb, vb, lb, rb, e1, e2, e3⟩ := h9
                            rw [hex] at e1
                            cases e1
                            first
                              | exact absurd rfl hk9
                              | (rw [hey] at e2; cases e2; exact hna (Or.inr ⟨by unfold isTx; omega, rfl, fun h => by omega, e3⟩))) (by omega) hP hS (lv_sub hl [0, 1, 2, 3] rfl)
      · obtain rfl : kx = 4 := by
          split at hμ1
          · omega
          · omega
        refine lv_aload_n hx hb dX10_tidiesOne_44 rfl (lv_at hl 3 rfl) ?_
        refine lv_iload_n hx hb dX10_tidiesOne_45 rfl (lv_at hl 2 rfl) ?_
        refine lv_aload_n hx hb dX10_tidiesOne_46 rfl (lv_at hl 3 rfl) ?_
        refine fz_get (D := (dC, dI)) (ci := 10) (v := .ref (h0 + 722)) (C := RX10) (T := TX10) (N := 53) hx hb hts inG10 hown hK hP (k := 0) (by decide) (F := mF h0) mE_obj rfl 29 (by decide) (hts _ k1195) (fun _ h9 => h9) rfl dX10_tidiesOne_47 ?_
        refine lv_iconst (v := iZ 0) hx hb dX10_tidiesOne_50 rfl ?_
        refine fz_ald (k := 722) (n := 14) (k2 := (723 + 0)) hx hb hK hP 2 rfl (by decide) mE_rowS rfl ⟨by omega, by omega⟩ (by decide) (if_pos (by omega)) dX10_tidiesOne_51 ?_
        refine lv_iload_n hx hb dX10_tidiesOne_52 rfl (lv_at hl 0 rfl) ?_
        refine fz_ld (k := (723 + 0)) (n := 260) hx hb hK hP 0 (by omega) (mE_rowSR (by omega)) rfl ⟨by omega, by omega⟩ (by decide) dX10_tidiesOne_53 ?_
        rw [show μ (723 + 0) (k).toNat = (rO w k.toNat : Int) from (by rw [hrow _ (by omega)]; omega)]
        refine lv_iload_n hx hb dX10_tidiesOne_54 rfl (lv_at hl 2 rfl) ?_
        refine lv_aload_n hx hb dX10_tidiesOne_55 rfl (lv_at hl 3 rfl) ?_
        refine fz_get (D := (dC, dI)) (ci := 10) (v := .ref (h0 + 722)) (C := RX10) (T := TX10) (N := 53) hx hb hts inG10 hown hK hP (k := 0) (by decide) (F := mF h0) mE_obj rfl 29 (by decide) (hts _ k1195) (fun _ h9 => h9) rfl dX10_tidiesOne_56 ?_
        refine lv_iconst (v := iZ 0) hx hb dX10_tidiesOne_59 rfl ?_
        refine fz_ald (k := 722) (n := 14) (k2 := (723 + 0)) hx hb hK hP 2 rfl (by decide) mE_rowS rfl ⟨by omega, by omega⟩ (by decide) (if_pos (by omega)) dX10_tidiesOne_60 ?_
        refine lv_iload_n hx hb dX10_tidiesOne_61 rfl (lv_at hl 0 rfl) ?_
        refine lv_iconst (v := iZ 1) hx hb dX10_tidiesOne_62 rfl ?_
        refine lv_iadd hx hb dX10_tidiesOne_63 ?_
        refine lv_topi (fun x9 ex9 => ?_)
        obtain rfl : x9 = iZ (k + 1) := ex9.trans (iZ_add _ _)
        refine fz_ld (k := (723 + 0)) (n := 260) hx hb hK hP 0 (by omega) (mE_rowSR (by omega)) rfl ⟨by omega, by omega⟩ (by decide) dX10_tidiesOne_64 ?_
        rw [show μ (723 + 0) (k + 1).toNat = (rO w (k.toNat + 1) : Int) from (by rw [show (k + 1).toNat = k.toNat + 1 by omega, hrow _ (by omega)]; omega)]
        refine va_calli (va_runV (As := [.int (iZ (t)), .int (iZ ((rO w k.toNat : Int))), .int (iZ (t)), .int (iZ ((rO w (k.toNat + 1) : Int)))]) (rest := []) ⟨hx, hb, hml, hown, hts⟩ (m_areAlike l dC dI cI cZ cII cIII h0 (20) H.size μ (t) ((rO w k.toNat : Int)) (t) ((rO w (k.toNat + 1) : Int)) (4) (vx) (lx) (ky) (vy) (ly) (by first | assumption | omega | exact ⟨by omega, by omega⟩) (by first | assumption | omega | exact ⟨by omega, by omega⟩) (by omega) (by omega) (by exact ⟨rx1, rx2, rx3, rx4⟩) (by exact ⟨ry1, ry2, ry3, ry4⟩) (by exact fxA) (by exact fyA) (by omega)) (cwV 4 hts (gV_G k1393 k1395 ks_yX10_areAlike k13 k1396) rfl rfl rfl (by decide +kernel) ⟨by show 23 + 1 ≤ _; omega, by show 8 + (8 + 11) + (700) ≤ _; omega⟩) ⟨fun a U g mk q => by obtain ⟨q0, q1, qP, qK⟩ := q; exact ⟨q0, q1, qP, va_K.moved (u := U) (U := U.calling g mk a) (Vm.Alike.refl U.vm) qK⟩, va_recv hK hP (ci := 10) (q0 := 0) rfl ((fw_get (by decide)).trans (by rw [mE_obj]; rfl)), fun U hU hW => ⟨rfl, by rw [hU], by rw [hU]; exact hP, va_K.moved hW.alike hK⟩⟩ rfl rfl hl.1 rfl (lv_room (Nat.le_of_ble_eq_true rfl)) dX10_tidiesOne_65 ⟨hRc, hRs⟩) hS (fun q _ h => fA_le hS.1 q h) (fA_le hS.1) (fun r9 u9 t9 H1 locs ht9 hvm9 hw9 hB9 hz9 hk9 hS => ?_)
        obtain ⟨μ3, r4⟩ := u9
        obtain ⟨hP, -⟩ := hB9
        rw [ht9] at hP
        generalize H1 = H at hP hS ⊢
        obtain ⟨e9, hw9⟩ := hw9
        have e9 : r9 = iZ r4 := e9
        subst e9
        simp only at hP hw9
        have hμ3 := hw9; clear hw9
        rw [hμ3.1] at hP; have hμ3 := hμ3.2
        refine fz_if_ne (tgt := 74) (by constructor <;> omega) hx hb dX10_tidiesOne_68 (by decide) (fun c68_ => ?_) (fun c68_ => ?_)
        · have hal : ialk 4 vx lx ky vy ly := by
            rcases hμ3 with ⟨_, h⟩ | ⟨h, _⟩
            · exact h
            · omega
          obtain rfl : ky = 4 := (alk_k hal).2.2.2.1.mp rfl
          have hral : ralk lx ly := by
            rcases hal with ⟨h, _⟩ | ⟨_, _, _, h⟩
            · unfold isTx at h; omega
            · exact h
          refine lv_aload_n hx hb dX10_tidiesOne_74 rfl (lv_at hl 3 rfl) ?_
          refine lv_iload_n hx hb dX10_tidiesOne_75 rfl (lv_at hl 2 rfl) ?_
          refine lv_iload_n hx hb dX10_tidiesOne_76 rfl (lv_at hl 1 rfl) ?_
          refine lv_iload_n hx hb dX10_tidiesOne_77 rfl (lv_at hl 0 rfl) ?_
          refine va_callv (va_runV (As := [.int (iZ (t)), .int (iZ (m9)), .int (iZ (k))]) (rest := []) ⟨hx, hb, hml, hown, hts⟩ (m_joinsTwo l dC dI cI cZ cII cIII h0 H.size μ (t) (m9) (w) (k) (zx) (vx) (lx) (wx) (zy) (vy) (ly) (wy) (by first | assumption | omega | exact ⟨by omega, by omega⟩) (by first | assumption | omega | exact ⟨by omega, by omega⟩) (by first | assumption | omega | exact ⟨by omega, by omega⟩) (by first | assumption | omega | exact ⟨by omega, by omega⟩) (by first | assumption | omega | exact ⟨by omega, by omega⟩) (by first | assumption | omega | exact ⟨by omega, by omega⟩) (by first | assumption | omega | exact ⟨by omega, by omega⟩) (by first | assumption | omega | exact ⟨by omega, by omega⟩) (by first | assumption | omega | exact ⟨by omega, by omega⟩) (by first | assumption | omega | exact ⟨by omega, by omega⟩) (by exact ⟨hex, hey, hral⟩)) (cwV 3 hts (gV_G k1452 k1454 ks_yX10_joinsTwo k13 k1455) rfl rfl rfl (by decide +kernel) ⟨by show 24 + 1 ≤ _; omega, by show 8 + (5 + 11) + (760) ≤ _; omega⟩) ⟨fun a U g mk q => by obtain ⟨q0, q1, qP, qK⟩ := q; exact ⟨q0, q1, qP, va_K.moved (u := U) (U := U.calling g mk a) (Vm.Alike.refl U.vm) qK⟩, va_recv hK hP (ci := 10) (q0 := 0) rfl ((fw_get (by decide)).trans (by rw [mE_obj]; rfl)), fun U hU hW => ⟨rfl, by rw [hU], by rw [hU]; exact hP, va_K.moved hW.alike hK⟩⟩ rfl rfl hl.1 rfl (lv_room (Nat.le_of_ble_eq_true rfl)) dX10_tidiesOne_78 ⟨hRc, hRs⟩) hS (fun q _ h => fA_le hS.1 q h) (fA_le hS.1) (fun u9 t9 H1 locs ht9 hvm9 hw9 hB9 hz9 hk9 hS => ?_)
          obtain ⟨hP, -⟩ := hB9
          rw [ht9] at hP
          generalize H1 = H at hP hS ⊢
          obtain ⟨μj, eμj⟩ : ∃ x : va_M, x = u9 := ⟨_, rfl⟩
          rw [← eμj] at hP hw9
          have hμj := hw9; clear hw9
          exact hexit81 (0) μj H locs ls (by exact ⟨_, hμj.1, Or.inl ⟨k.toNat, zx, vx, lx, wx, zy, vy, ly, wy, hex, hey, hral, hno, rfl⟩, by rw [rtk_I (by omega) (by omega)]; omega, fr_mono (P2 := FQ t.toNat) hμj.2 (fun x y h => by unfold PK at h; unfold FQ FP P8; rcases h with h | h; exact Or.inr (Or.inl (Or.inr (Or.inr h))); exact Or.inr (Or.inr (Or.inl h)))⟩) hP hS (lv_sub hl [] rfl)
        · have hna : ¬ ialk 4 vx lx ky vy ly := by
            rcases hμ3 with ⟨h, _⟩ | ⟨_, h⟩
            · omega
            · exact h
          refine lv_goto (tgt := 83) hx hb dX10_tidiesOne_71 (by decide) ?_
          refine lv_iinc (v := iZ (k + 1)) (lv' := [(3, .int (iZ (k + 1))), (2, .int (iZ (m9))), (1, .int (iZ (t))), (0, .ref h0)]) hx hb dX10_tidiesOne_83 hl (k := 0) rfl (iZ_add _ _) (by decide) rfl (fun ls hl => ?_)
          refine lv_goto (tgt := 21) hx hb dX10_tidiesOne_86 (by decide) ?_
          exact ih (k + 1) μ H locs ls (by rfl) (by omega) (by
                            exact fun j hj h9 => by
                              by_cases h8 : j < k.toNat
                              · exact hno j h8 h9
                              · obtain rfl : j = k.toNat := by omega
                                obtain ⟨za, va, la, ra, zb, vb, lb, rb, e1, e2, e3⟩ := h9
                                rw [hex] at e1
                                cases e1
                                first
                                  | exact absurd rfl hk9
                                  | (rw [hey] at e2; cases e2; exact hna (Or.inr ⟨by unfold isTx; omega, rfl, fun h => by omega, e3⟩))) (by omega) hP hS (lv_sub hl [0, 1, 2, 3] rfl)
set_option maxHeartbeats 40000000 in
set_option maxRecDepth 100000 in
theorem LX10_tidiesOne_91x {p : Program} {l : Launch} {e : Env} {R : Room} {s : State} {m : MethodId} {args : Array Value} {below : List Frame} {meth : Method} {c : Code} {cells slots : Nat} {Q : State → Prop} {dC : Nat → ClassId} {dI : Nat → Nat → Nat} {h0 : Nat} {cI cZ cII cIII : ClassId} (hx : p.tables.exec = Jvm.exec) (hb : c.code = cX10_tidiesOne) (hml : c.maxLocals = 4) (hown : s.vm.findClass RX10 = some m.cls) (hts : ∀ w ∈ wsG, w.before args s = true) (hK : va_K (dC, dI) vwCl (mT cI cZ cII cIII) s) (hRf : 27 ≤ R.frames) (hRl : 860 ≤ R.locals) (hRc : cells ≤ R.cells) (hRs : slots ≤ R.slots) (μ0 : va_M) (t : Int) (m9 : Int) (w : Rw) (ht : 0 ≤ t ∧ t < 70) (hR : RA μ0 t.toNat w 0) (hN : rN w ≤ 900) (hwf : rWF w) (hHH : rH w ≤ 20) (hrow : rowIs μ0 723 w 0) (h260 : rI w ≤ 260) (ht3 : t ≠ 50 ∧ t ≠ 51 ∧ t ≠ 52) (hm9 : m9 = rI w) (hw0 : tw0 w) (hexit145 : ∀ (k : Int) (μ : va_M) (H : Heap) (locs : List Loc) (ls : Array Slot), (∃ w2 : Rw, TR μ t.toNat w2 ∧ ts1 w w2 ∧ rI w2 < rI w ∧ fr (FQ t.toNat) μ0 μ) → va_P (dC, dI) vwCl (fw (mE cI cZ cII cIII h0) h0 6325 μ) H → va_S (fA h0 6325 s.heap.size) s.heap H locs → lv_has ls 4 [] → W p l e R s m args below meth c H locs cells slots Q (F0 m 145 ls [.int (iZ (1))])) (hexit152 : ∀ (k : Int) (μ : va_M) (H : Heap) (locs : List Loc) (ls : Array Slot), (μ = μ0) → (ta0 w) → va_P (dC, dI) vwCl (fw (mE cI cZ cII cIII h0) h0 6325 μ) H → va_S (fA h0 6325 s.heap.size) s.heap H locs → lv_has ls 4 [(2, .int (iZ (m9))), (1, .int (iZ (t))), (0, .ref h0)] → W p l e R s m args below meth c H locs cells slots Q (F0 m 152 ls [])) :
    ∀ (n9 : Nat) (k : Int) (μ : va_M) (H : Heap) (locs : List Loc) (ls : Array Slot), (μ = μ0) → (0 ≤ k ∧ k ≤ rI w) → (∀ j : Nat, j < k.toNat → ¬ tka w j) → (300 - k).toNat < n9 → va_P (dC, dI) vwCl (fw (mE cI cZ cII cIII h0) h0 6325 μ) H → va_S (fA h0 6325 s.heap.size) s.heap H locs → lv_has ls 4 [(3, .int (iZ (k))), (2, .int (iZ (m9))), (1, .int (iZ (t))), (0, .ref h0)] → W p l e R s m args below meth c H locs cells slots Q (F0 m 91 ls []) := by
  intro n9
  induction n9 with
  | zero => intro k μ H locs ls hm hk hno hm9 hP hS hl; exact absurd hm9 (Nat.not_lt_zero _)
  | succ n9 ih =>
    intro k μ H locs ls hm hk hno hm9 hP hS hl
    subst hm
    refine lv_iload_n hx hb dX10_tidiesOne_91 rfl (lv_at hl 0 rfl) ?_
    refine lv_iload_n hx hb dX10_tidiesOne_92 rfl (lv_at hl 1 rfl) ?_
    refine fz_icmp_ge (tgt := 152) (by constructor <;> omega) (by constructor <;> omega) hx hb dX10_tidiesOne_93 (by decide) (fun c93_ => ?_) (fun c93_ => ?_)
    · exact hexit152 (k) μ H locs ls (by rfl) (by
                    exact fun j h9 => by
                      by_cases h8 : j < k.toNat
                      · exact hno j h8 h9
                      · have := tka_I h9
                        omega) hP hS (lv_sub hl [1, 2, 3] rfl)
    · have hIx := rdrop_I (k.toNat) w
      have hNx := rdrop_N (k.toNat) w
      have hHx := rdrop_H (k.toNat) w
      have hFx := rdrop_WF (k.toNat) w hwf
      have hRx := RA_drop (k.toNat) w 0 hR
      obtain ⟨zx, kx, vx, lx, wx, hex⟩ := rI_pos (w := rdrop (k.toNat) w) (by omega)
      rw [hex] at hIx hNx hHx hFx hRx
      rw [rN_in] at hNx; rw [rI_in] at hIx; rw [rH_in] at hHx
      obtain ⟨rx1, rx2, rx3, rx4, rx5⟩ := hRx
      rw [Nat.zero_add] at rx1 rx2 rx3 rx4
      have fxA : iWF kx vx lx := ⟨hFx.1, hFx.2.1, hFx.2.2.1, hFx.2.2.2.1, hFx.2.2.2.2.1, hFx.2.2.2.2.2.1, hFx.2.2.2.2.2.2.1⟩
      refine lv_aload_n hx hb dX10_tidiesOne_96 rfl (lv_at hl 3 rfl) ?_
      refine lv_iload_n hx hb dX10_tidiesOne_97 rfl (lv_at hl 2 rfl) ?_
      refine lv_aload_n hx hb dX10_tidiesOne_98 rfl (lv_at hl 3 rfl) ?_
      refine fz_get (D := (dC, dI)) (ci := 10) (v := .ref (h0 + 722)) (C := RX10) (T := TX10) (N := 53) hx hb hts inG10 hown hK hP (k := 0) (by decide) (F := mF h0) mE_obj rfl 29 (by decide) (hts _ k1195) (fun _ h9 => h9) rfl dX10_tidiesOne_99 ?_
      refine lv_iconst (v := iZ 0) hx hb dX10_tidiesOne_102 rfl ?_
      refine fz_ald (k := 722) (n := 14) (k2 := (723 + 0)) hx hb hK hP 2 rfl (by decide) mE_rowS rfl ⟨by omega, by omega⟩ (by decide) (if_pos (by omega)) dX10_tidiesOne_103 ?_
      refine lv_iload_n hx hb dX10_tidiesOne_104 rfl (lv_at hl 0 rfl) ?_
      refine fz_ld (k := (723 + 0)) (n := 260) hx hb hK hP 0 (by omega) (mE_rowSR (by omega)) rfl ⟨by omega, by omega⟩ (by decide) dX10_tidiesOne_105 ?_
      rw [show μ (723 + 0) (k).toNat = (rO w k.toNat : Int) from (by rw [hrow _ (by omega)]; omega)]
      refine va_calli (va_runV (As := [.int (iZ (t)), .int (iZ ((rO w k.toNat : Int)))]) (rest := []) ⟨hx, hb, hml, hown, hts⟩ (m_isRepeat l dC dI cI cZ cII cIII h0 H.size μ (t) ((rO w k.toNat : Int)) (by first | assumption | omega | exact ⟨by omega, by omega⟩) (by omega) (by rw [show ((rO w k.toNat : Nat) : Int).toNat = rO w k.toNat from rfl, rx1]; have h9 := fxA.1; constructor <;> omega)) (cwV 2 hts (gV_G k1448 k1450 ks_yX10_isRepeat k13 k1451) rfl rfl rfl (by decide +kernel) ⟨by show 1 + 1 ≤ _; omega, by show 8 + (3 + 11) + (14) ≤ _; omega⟩) ⟨fun a U g mk q => by obtain ⟨q0, q1, qP, qK⟩ := q; exact ⟨q0, q1, qP, va_K.moved (u := U) (U := U.calling g mk a) (Vm.Alike.refl U.vm) qK⟩, va_recv hK hP (ci := 10) (q0 := 0) rfl ((fw_get (by decide)).trans (by rw [mE_obj]; rfl)), fun U hU hW => ⟨rfl, by rw [hU], by rw [hU]; exact hP, va_K.moved hW.alike hK⟩⟩ rfl rfl hl.1 rfl (lv_room (Nat.le_of_ble_eq_true rfl)) dX10_tidiesOne_106 ⟨hRc, hRs⟩) hS (fun q _ h => fA_le hS.1 q h) (fA_le hS.1) (fun r9 u9 t9 H1 locs ht9 hvm9 hw9 hB9 hz9 hk9 hS => ?_)
      obtain ⟨μ5, r6⟩ := u9
      obtain ⟨hP, -⟩ := hB9
      rw [ht9] at hP
      generalize H1 = H at hP hS ⊢
      obtain ⟨e9, hw9⟩ := hw9
      have e9 : r9 = iZ r6 := e9
      subst e9
      simp only at hP hw9
      have hμ5 := hw9; clear hw9
      rw [hμ5.1] at hP; have hμ5 := hμ5.2
      rw [show ((rO w k.toNat : Nat) : Int).toNat = rO w k.toNat from rfl, rx1] at hμ5
      refine fz_if_eq (tgt := 146) (by constructor <;> omega) hx hb dX10_tidiesOne_109 (by decide) (fun c109_ => ?_) (fun c109_ => ?_)
      · have hk9 : ¬ kx = 4 := fun h => by
          subst h
          split at hμ5
          · omega
          · omega
        refine lv_iinc (v := iZ (k + 1)) (lv' := [(3, .int (iZ (k + 1))), (2, .int (iZ (m9))), (1, .int (iZ (t))), (0, .ref h0)]) hx hb dX10_tidiesOne_146 hl (k := 0) rfl (iZ_add _ _) (by decide) rfl (fun ls hl => ?_)
        refine lv_goto (tgt := 91) hx hb dX10_tidiesOne_149 (by decide) ?_
        exact ih (k + 1) μ H locs ls (by rfl) (by omega) (by
                        exact fun j hj h9 => by
                          by_cases h8 : j < k.toNat
                          · exact hno j h8 h9
                          · obtain rfl : j = k.toNat := by omega
                            obtain ⟨z9, v9, l9, r9, e1, e2, e3⟩ := h9
                            rw [hex] at e1
                            cases e1
                            first
                              | exact absurd rfl hk9
                              | (exact hna ⟨by omega, by rw [show (k - ri).toNat = k.toNat - rI lx by omega]; exact e3⟩)) (by omega) hP hS (lv_sub hl [0, 1, 2, 3] rfl)
      · obtain rfl : kx = 4 := by
          split at hμ5
          · omega
          · omega
        refine lv_aload_n hx hb dX10_tidiesOne_112 rfl (lv_at hl 3 rfl) ?_
        refine lv_iload_n hx hb dX10_tidiesOne_113 rfl (lv_at hl 2 rfl) ?_
        refine lv_iload_n hx hb dX10_tidiesOne_114 rfl (lv_at hl 0 rfl) ?_
        refine lv_iload_n hx hb dX10_tidiesOne_115 rfl (lv_at hl 0 rfl) ?_
        refine lv_aload_n hx hb dX10_tidiesOne_116 rfl (lv_at hl 3 rfl) ?_
        refine lv_iload_n hx hb dX10_tidiesOne_117 rfl (lv_at hl 2 rfl) ?_
        refine lv_aload_n hx hb dX10_tidiesOne_118 rfl (lv_at hl 3 rfl) ?_
        refine fz_get (D := (dC, dI)) (ci := 10) (v := .ref (h0 + 722)) (C := RX10) (T := TX10) (N := 53) hx hb hts inG10 hown hK hP (k := 0) (by decide) (F := mF h0) mE_obj rfl 29 (by decide) (hts _ k1195) (fun _ h9 => h9) rfl dX10_tidiesOne_119 ?_
        refine lv_iconst (v := iZ 0) hx hb dX10_tidiesOne_122 rfl ?_
        refine fz_ald (k := 722) (n := 14) (k2 := (723 + 0)) hx hb hK hP 2 rfl (by decide) mE_rowS rfl ⟨by omega, by omega⟩ (by decide) (if_pos (by omega)) dX10_tidiesOne_123 ?_
        refine lv_iload_n hx hb dX10_tidiesOne_124 rfl (lv_at hl 0 rfl) ?_
        refine fz_ld (k := (723 + 0)) (n := 260) hx hb hK hP 0 (by omega) (mE_rowSR (by omega)) rfl ⟨by omega, by omega⟩ (by decide) dX10_tidiesOne_125 ?_
        rw [show μ (723 + 0) (k).toNat = (rO w k.toNat : Int) from (by rw [hrow _ (by omega)]; omega)]
        refine va_calli (va_runV (As := [.int (iZ (t)), .int (iZ ((rO w k.toNat : Int)))]) (rest := [.int (iZ (k)), .int (iZ (k)), .int (iZ (t)), .ref h0]) ⟨hx, hb, hml, hown, hts⟩ (m_itemsIn l dC dI cI cZ cII cIII h0 H.size μ (t) ((rO w k.toNat : Int)) (lx) (by first | assumption | omega | exact ⟨by omega, by omega⟩) (by omega) (by exact rx3) (by exact rx4)) (cwV 2 hts (gV_G k1400 k1402 ks_yX10_itemsIn k13 k1403) rfl rfl rfl (by decide +kernel) ⟨by show 1 + 1 ≤ _; omega, by show 8 + (5 + 11) + (14) ≤ _; omega⟩) ⟨fun a U g mk q => by obtain ⟨q0, q1, qP, qK⟩ := q; exact ⟨q0, q1, qP, va_K.moved (u := U) (U := U.calling g mk a) (Vm.Alike.refl U.vm) qK⟩, va_recv hK hP (ci := 10) (q0 := 0) rfl ((fw_get (by decide)).trans (by rw [mE_obj]; rfl)), fun U hU hW => ⟨rfl, by rw [hU], by rw [hU]; exact hP, va_K.moved hW.alike hK⟩⟩ rfl rfl hl.1 rfl (lv_room (Nat.le_of_ble_eq_true rfl)) dX10_tidiesOne_126 ⟨hRc, hRs⟩) hS (fun q _ h => fA_le hS.1 q h) (fA_le hS.1) (fun r9 u9 t9 H1 locs ht9 hvm9 hw9 hB9 hz9 hk9 hS => ?_)
        obtain ⟨μ7, ri⟩ := u9
        obtain ⟨hP, -⟩ := hB9
        rw [ht9] at hP
        generalize H1 = H at hP hS ⊢
        obtain ⟨e9, hw9⟩ := hw9
        have e9 : r9 = iZ ri := e9
        subst e9
        simp only at hP hw9
        have hμ7 := hw9; clear hw9
        rw [hμ7.1] at hP; have hμ7 := hμ7.2
        have hri : ri = rI lx := hμ7
        have hriN := rI_N2 lx
        refine lv_isub hx hb dX10_tidiesOne_129 ?_
        refine lv_topi (fun x9 ex9 => ?_)
        obtain rfl : x9 = iZ (k - ri) := ex9.trans (iZ_sub _ _)
        refine lv_iload_n hx hb dX10_tidiesOne_130 rfl (lv_at hl 1 rfl) ?_
        refine va_calli (va_runV (As := [.int (iZ (t)), .int (iZ (k)), .int (iZ (k - ri)), .int (iZ (m9))]) (rest := []) ⟨hx, hb, hml, hown, hts⟩ (m_hasAt l dC dI cI cZ cII cIII h0 H.size μ (t) (k) (k - ri) (m9) (w) (zx) (vx) (lx) (wx) (by first | assumption | omega | exact ⟨by omega, by omega⟩) (by first | assumption | omega | exact ⟨by omega, by omega⟩) (by first | assumption | omega | exact ⟨by omega, by omega⟩) (by first | assumption | omega | exact ⟨by omega, by omega⟩) (by first | assumption | omega | exact ⟨by omega, by omega⟩) (by first | assumption | omega | exact ⟨by omega, by omega⟩) (by first | assumption | omega | exact ⟨by omega, by omega⟩) (by first | assumption | omega | exact ⟨by omega, by omega⟩) (by first | assumption | omega | exact ⟨by omega, by omega⟩) (by first | assumption | omega | exact ⟨by omega, by omega⟩) (by omega) (by exact hex)) (cwV 4 hts (gV_G k1456 k1458 ks_yX10_hasAt k13 k1459) rfl rfl rfl (by decide +kernel) ⟨by show 26 + 1 ≤ _; omega, by show 8 + (5 + 11) + (790) ≤ _; omega⟩) ⟨fun a U g mk q => by obtain ⟨q0, q1, qP, qK⟩ := q; exact ⟨q0, q1, qP, va_K.moved (u := U) (U := U.calling g mk a) (Vm.Alike.refl U.vm) qK⟩, va_recv hK hP (ci := 10) (q0 := 0) rfl ((fw_get (by decide)).trans (by rw [mE_obj]; rfl)), fun U hU hW => ⟨rfl, by rw [hU], by rw [hU]; exact hP, va_K.moved hW.alike hK⟩⟩ rfl rfl hl.1 rfl (lv_room (Nat.le_of_ble_eq_true rfl)) dX10_tidiesOne_131 ⟨hRc, hRs⟩) hS (fun q _ h => fA_le hS.1 q h) (fA_le hS.1) (fun r9 u9 t9 H1 locs ht9 hvm9 hw9 hB9 hz9 hk9 hS => ?_)
        obtain ⟨μ8, r10⟩ := u9
        obtain ⟨hP, -⟩ := hB9
        rw [ht9] at hP
        generalize H1 = H at hP hS ⊢
        obtain ⟨e9, hw9⟩ := hw9
        have e9 : r9 = iZ r10 := e9
        subst e9
        simp only at hP hw9
        have hμ8 := hw9; clear hw9
        rw [hμ8.1] at hP; have hμ8 := hμ8.2
        refine fz_if_eq (tgt := 146) (by constructor <;> omega) hx hb dX10_tidiesOne_134 (by decide) (fun c134_ => ?_) (fun c134_ => ?_)
        · have hna : ¬ (0 ≤ k - ri ∧ nxt lx (rdrop (k - ri).toNat w)) := by
            rcases hμ8 with ⟨h, _⟩ | ⟨_, h⟩
            · omega
            · exact h
          refine lv_iinc (v := iZ (k + 1)) (lv' := [(3, .int (iZ (k + 1))), (2, .int (iZ (m9))), (1, .int (iZ (t))), (0, .ref h0)]) hx hb dX10_tidiesOne_146 hl (k := 0) rfl (iZ_add _ _) (by decide) rfl (fun ls hl => ?_)
          refine lv_goto (tgt := 91) hx hb dX10_tidiesOne_149 (by decide) ?_
          exact ih (k + 1) μ H locs ls (by rfl) (by omega) (by
                            exact fun j hj h9 => by
                              by_cases h8 : j < k.toNat
                              · exact hno j h8 h9
                              · obtain rfl : j = k.toNat := by omega
                                obtain ⟨z9, v9, l9, r9, e1, e2, e3⟩ := h9
                                rw [hex] at e1
                                cases e1
                                first
                                  | exact absurd rfl hk9
                                  | (exact hna ⟨by omega, by rw [show (k - ri).toNat = k.toNat - rI lx by omega]; exact e3⟩)) (by omega) hP hS (lv_sub hl [0, 1, 2, 3] rfl)
        · have hhA : 0 ≤ k - ri ∧ nxt lx (rdrop (k - ri).toNat w) := by
            rcases hμ8 with ⟨_, h⟩ | ⟨h, _⟩
            · exact h
            · omega
          refine lv_aload_n hx hb dX10_tidiesOne_137 rfl (lv_at hl 3 rfl) ?_
          refine lv_iload_n hx hb dX10_tidiesOne_138 rfl (lv_at hl 2 rfl) ?_
          refine lv_iload_n hx hb dX10_tidiesOne_139 rfl (lv_at hl 1 rfl) ?_
          refine lv_iload_n hx hb dX10_tidiesOne_140 rfl (lv_at hl 0 rfl) ?_
          refine lv_iconst (v := iZ 1) hx hb dX10_tidiesOne_141 rfl ?_
          refine va_calli (va_runV (As := [.int (iZ (t)), .int (iZ (m9)), .int (iZ (k)), .int (iZ (1))]) (rest := []) ⟨hx, hb, hml, hown, hts⟩ (m_takesIn1 l dC dI cI cZ cII cIII h0 H.size μ (t) (m9) (w) (k) (ri) ((k - ri)) (zx) (vx) (lx) (wx) (by first | assumption | omega | exact ⟨by omega, by omega⟩) (by first | assumption | omega | exact ⟨by omega, by omega⟩) (by first | assumption | omega | exact ⟨by omega, by omega⟩) (by first | assumption | omega | exact ⟨by omega, by omega⟩) (by first | assumption | omega | exact ⟨by omega, by omega⟩) (by first | assumption | omega | exact ⟨by omega, by omega⟩) (by first | assumption | omega | exact ⟨by omega, by omega⟩) (by first | assumption | omega | exact ⟨by omega, by omega⟩) (by first | assumption | omega | exact ⟨by omega, by omega⟩) (by omega) (by exact hri) (by rfl) (by exact ⟨hex, hhA.2⟩)) (cwV 4 hts (gV_G k1464 k1466 ks_yX10_takesIn k13 k1467) rfl rfl rfl (by decide +kernel) ⟨by show 25 + 1 ≤ _; omega, by show 8 + (8 + 11) + (770) ≤ _; omega⟩) ⟨fun a U g mk q => by obtain ⟨q0, q1, qP, qK⟩ := q; exact ⟨q0, q1, qP, va_K.moved (u := U) (U := U.calling g mk a) (Vm.Alike.refl U.vm) qK⟩, va_recv hK hP (ci := 10) (q0 := 0) rfl ((fw_get (by decide)).trans (by rw [mE_obj]; rfl)), fun U hU hW => ⟨rfl, by rw [hU], by rw [hU]; exact hP, va_K.moved hW.alike hK⟩⟩ rfl rfl hl.1 rfl (lv_room (Nat.le_of_ble_eq_true rfl)) dX10_tidiesOne_142 ⟨hRc, hRs⟩) hS (fun q _ h => fA_le hS.1 q h) (fA_le hS.1) (fun r9 u9 t9 H1 locs ht9 hvm9 hw9 hB9 hz9 hk9 hS => ?_)
          obtain ⟨μj, rj⟩ := u9
          obtain ⟨hP, -⟩ := hB9
          rw [ht9] at hP
          generalize H1 = H at hP hS ⊢
          obtain ⟨e9, hw9⟩ := hw9
          have e9 : r9 = iZ rj := e9
          subst e9
          simp only at hP hw9
          have hμj := hw9; clear hw9
          have hr1 : rj = 1 := hμj.1
          obtain rfl : rj = 1 := by omega
          exact hexit145 (0) μj H locs ls (by
                            have h8 : lx ≠ .leaf := fxA.2.2.1 (by omega)
                            have h7 : 0 < rI lx := by
                              cases lx with
                              | leaf => exact absurd rfl h8
                              | inner _ _ _ _ _ => rw [rI_in]; omega
                            exact ⟨_, hμj.2.1, Or.inr (Or.inl ⟨hw0, k.toNat, zx, vx, lx, wx, hex, by omega, by rw [show k.toNat - rI lx = (k - ri).toNat by omega]; exact hhA.2, hno, by rw [show k.toNat - rI lx = (k - ri).toNat by omega]⟩), by rw [rtk_I (by omega) (by omega)]; omega, fr_mono (P2 := FQ t.toNat) hμj.2.2 (fun x y h => by unfold PK at h; unfold FQ FP P8; rcases h with h | h; exact Or.inr (Or.inl (Or.inr (Or.inr h))); exact Or.inr (Or.inr (Or.inl h)))⟩) hP hS (lv_sub hl [] rfl)
set_option maxHeartbeats 40000000 in
set_option maxRecDepth 100000 in
theorem LX10_tidiesOne_154x {p : Program} {l : Launch} {e : Env} {R : Room} {s : State} {m : MethodId} {args : Array Value} {below : List Frame} {meth : Method} {c : Code} {cells slots : Nat} {Q : State → Prop} {dC : Nat → ClassId} {dI : Nat → Nat → Nat} {h0 : Nat} {cI cZ cII cIII : ClassId} (hx : p.tables.exec = Jvm.exec) (hb : c.code = cX10_tidiesOne) (hml : c.maxLocals = 4) (hown : s.vm.findClass RX10 = some m.cls) (hts : ∀ w ∈ wsG, w.before args s = true) (hK : va_K (dC, dI) vwCl (mT cI cZ cII cIII) s) (hRf : 27 ≤ R.frames) (hRl : 860 ≤ R.locals) (hRc : cells ≤ R.cells) (hRs : slots ≤ R.slots) (μ0 : va_M) (t : Int) (m9 : Int) (w : Rw) (ht : 0 ≤ t ∧ t < 70) (hR : RA μ0 t.toNat w 0) (hN : rN w ≤ 900) (hwf : rWF w) (hHH : rH w ≤ 20) (hrow : rowIs μ0 723 w 0) (h260 : rI w ≤ 260) (ht3 : t ≠ 50 ∧ t ≠ 51 ∧ t ≠ 52) (hm9 : m9 = rI w) (hw0 : tw0 w) (ha0 : ta0 w) (hexit196 : ∀ (k : Int) (μ : va_M) (H : Heap) (locs : List Loc) (ls : Array Slot), (∃ w2 : Rw, TR μ t.toNat w2 ∧ ts1 w w2 ∧ rI w2 < rI w ∧ fr (FQ t.toNat) μ0 μ) → va_P (dC, dI) vwCl (fw (mE cI cZ cII cIII h0) h0 6325 μ) H → va_S (fA h0 6325 s.heap.size) s.heap H locs → lv_has ls 4 [] → W p l e R s m args below meth c H locs cells slots Q (F0 m 196 ls [.int (iZ (1))])) (hexit203 : ∀ (k : Int) (μ : va_M) (H : Heap) (locs : List Loc) (ls : Array Slot), (μ = μ0) → (tb0 w) → va_P (dC, dI) vwCl (fw (mE cI cZ cII cIII h0) h0 6325 μ) H → va_S (fA h0 6325 s.heap.size) s.heap H locs → lv_has ls 4 [(2, .int (iZ (m9))), (1, .int (iZ (t))), (0, .ref h0)] → W p l e R s m args below meth c H locs cells slots Q (F0 m 203 ls [])) :
    ∀ (n9 : Nat) (k : Int) (μ : va_M) (H : Heap) (locs : List Loc) (ls : Array Slot), (μ = μ0) → (0 ≤ k ∧ k ≤ rI w) → (∀ j : Nat, j < k.toNat → ¬ tkb w j) → (300 - k).toNat < n9 → va_P (dC, dI) vwCl (fw (mE cI cZ cII cIII h0) h0 6325 μ) H → va_S (fA h0 6325 s.heap.size) s.heap H locs → lv_has ls 4 [(3, .int (iZ (k))), (2, .int (iZ (m9))), (1, .int (iZ (t))), (0, .ref h0)] → W p l e R s m args below meth c H locs cells slots Q (F0 m 154 ls []) := by
  intro n9
  induction n9 with
  | zero => intro k μ H locs ls hm hk hno hm9 hP hS hl; exact absurd hm9 (Nat.not_lt_zero _)
  | succ n9 ih =>
    intro k μ H locs ls hm hk hno hm9 hP hS hl
    subst hm
    refine lv_iload_n hx hb dX10_tidiesOne_154 rfl (lv_at hl 0 rfl) ?_
    refine lv_iload_n hx hb dX10_tidiesOne_155 rfl (lv_at hl 1 rfl) ?_
    refine fz_icmp_ge (tgt := 203) (by constructor <;> omega) (by constructor <;> omega) hx hb dX10_tidiesOne_156 (by decide) (fun c156_ => ?_) (fun c156_ => ?_)
    · exact hexit203 (k) μ H locs ls (by rfl) (by
                    exact fun j h9 => by
                      by_cases h8 : j < k.toNat
                      · exact hno j h8 h9
                      · have := tkb_I h9
                        omega) hP hS (lv_sub hl [1, 2, 3] rfl)
    · have hIx := rdrop_I (k.toNat) w
      have hNx := rdrop_N (k.toNat) w
      have hHx := rdrop_H (k.toNat) w
      have hFx := rdrop_WF (k.toNat) w hwf
      have hRx := RA_drop (k.toNat) w 0 hR
      obtain ⟨zx, kx, vx, lx, wx, hex⟩ := rI_pos (w := rdrop (k.toNat) w) (by omega)
      rw [hex] at hIx hNx hHx hFx hRx
      rw [rN_in] at hNx; rw [rI_in] at hIx; rw [rH_in] at hHx
      obtain ⟨rx1, rx2, rx3, rx4, rx5⟩ := hRx
      rw [Nat.zero_add] at rx1 rx2 rx3 rx4
      have fxA : iWF kx vx lx := ⟨hFx.1, hFx.2.1, hFx.2.2.1, hFx.2.2.2.1, hFx.2.2.2.2.1, hFx.2.2.2.2.2.1, hFx.2.2.2.2.2.2.1⟩
      refine lv_aload_n hx hb dX10_tidiesOne_159 rfl (lv_at hl 3 rfl) ?_
      refine lv_iload_n hx hb dX10_tidiesOne_160 rfl (lv_at hl 2 rfl) ?_
      refine lv_aload_n hx hb dX10_tidiesOne_161 rfl (lv_at hl 3 rfl) ?_
      refine fz_get (D := (dC, dI)) (ci := 10) (v := .ref (h0 + 722)) (C := RX10) (T := TX10) (N := 53) hx hb hts inG10 hown hK hP (k := 0) (by decide) (F := mF h0) mE_obj rfl 29 (by decide) (hts _ k1195) (fun _ h9 => h9) rfl dX10_tidiesOne_162 ?_
      refine lv_iconst (v := iZ 0) hx hb dX10_tidiesOne_165 rfl ?_
      refine fz_ald (k := 722) (n := 14) (k2 := (723 + 0)) hx hb hK hP 2 rfl (by decide) mE_rowS rfl ⟨by omega, by omega⟩ (by decide) (if_pos (by omega)) dX10_tidiesOne_166 ?_
      refine lv_iload_n hx hb dX10_tidiesOne_167 rfl (lv_at hl 0 rfl) ?_
      refine fz_ld (k := (723 + 0)) (n := 260) hx hb hK hP 0 (by omega) (mE_rowSR (by omega)) rfl ⟨by omega, by omega⟩ (by decide) dX10_tidiesOne_168 ?_
      rw [show μ (723 + 0) (k).toNat = (rO w k.toNat : Int) from (by rw [hrow _ (by omega)]; omega)]
      refine va_calli (va_runV (As := [.int (iZ (t)), .int (iZ ((rO w k.toNat : Int)))]) (rest := []) ⟨hx, hb, hml, hown, hts⟩ (m_isRepeat l dC dI cI cZ cII cIII h0 H.size μ (t) ((rO w k.toNat : Int)) (by first | assumption | omega | exact ⟨by omega, by omega⟩) (by omega) (by rw [show ((rO w k.toNat : Nat) : Int).toNat = rO w k.toNat from rfl, rx1]; have h9 := fxA.1; constructor <;> omega)) (cwV 2 hts (gV_G k1448 k1450 ks_yX10_isRepeat k13 k1451) rfl rfl rfl (by decide +kernel) ⟨by show 1 + 1 ≤ _; omega, by show 8 + (3 + 11) + (14) ≤ _; omega⟩) ⟨fun a U g mk q => by obtain ⟨q0, q1, qP, qK⟩ := q; exact ⟨q0, q1, qP, va_K.moved (u := U) (U := U.calling g mk a) (Vm.Alike.refl U.vm) qK⟩, va_recv hK hP (ci := 10) (q0 := 0) rfl ((fw_get (by decide)).trans (by rw [mE_obj]; rfl)), fun U hU hW => ⟨rfl, by rw [hU], by rw [hU]; exact hP, va_K.moved hW.alike hK⟩⟩ rfl rfl hl.1 rfl (lv_room (Nat.le_of_ble_eq_true rfl)) dX10_tidiesOne_169 ⟨hRc, hRs⟩) hS (fun q _ h => fA_le hS.1 q h) (fA_le hS.1) (fun r9 u9 t9 H1 locs ht9 hvm9 hw9 hB9 hz9 hk9 hS => ?_)
      obtain ⟨μ11, r12⟩ := u9
      obtain ⟨hP, -⟩ := hB9
      rw [ht9] at hP
      generalize H1 = H at hP hS ⊢
      obtain ⟨e9, hw9⟩ := hw9
      have e9 : r9 = iZ r12 := e9
      subst e9
      simp only at hP hw9
      have hμ11 := hw9; clear hw9
      rw [hμ11.1] at hP; have hμ11 := hμ11.2
      rw [show ((rO w k.toNat : Nat) : Int).toNat = rO w k.toNat from rfl, rx1] at hμ11
      refine fz_if_eq (tgt := 197) (by constructor <;> omega) hx hb dX10_tidiesOne_172 (by decide) (fun c172_ => ?_) (fun c172_ => ?_)
      · have hk9 : ¬ kx = 4 := fun h => by
          subst h
          split at hμ11
          · omega
          · omega
        refine lv_iinc (v := iZ (k + 1)) (lv' := [(3, .int (iZ (k + 1))), (2, .int (iZ (m9))), (1, .int (iZ (t))), (0, .ref h0)]) hx hb dX10_tidiesOne_197 hl (k := 0) rfl (iZ_add _ _) (by decide) rfl (fun ls hl => ?_)
        refine lv_goto (tgt := 154) hx hb dX10_tidiesOne_200 (by decide) ?_
        exact ih (k + 1) μ H locs ls (by rfl) (by omega) (by
                        exact fun j hj h9 => by
                          by_cases h8 : j < k.toNat
                          · exact hno j h8 h9
                          · obtain rfl : j = k.toNat := by omega
                            obtain ⟨z9, v9, l9, r9, e1, e3⟩ := h9
                            rw [hex] at e1
                            cases e1
                            first
                              | exact absurd rfl hk9
                              | (exact hna ⟨by omega, by rw [show (k + 1).toNat = k.toNat + 1 by omega]; exact e3⟩)) (by omega) hP hS (lv_sub hl [0, 1, 2, 3] rfl)
      · obtain rfl : kx = 4 := by
          split at hμ11
          · omega
          · omega
        refine lv_aload_n hx hb dX10_tidiesOne_175 rfl (lv_at hl 3 rfl) ?_
        refine lv_iload_n hx hb dX10_tidiesOne_176 rfl (lv_at hl 2 rfl) ?_
        refine lv_iload_n hx hb dX10_tidiesOne_177 rfl (lv_at hl 0 rfl) ?_
        refine lv_iload_n hx hb dX10_tidiesOne_178 rfl (lv_at hl 0 rfl) ?_
        refine lv_iconst (v := iZ 1) hx hb dX10_tidiesOne_179 rfl ?_
        refine lv_iadd hx hb dX10_tidiesOne_180 ?_
        refine lv_topi (fun x9 ex9 => ?_)
        obtain rfl : x9 = iZ (k + 1) := ex9.trans (iZ_add _ _)
        refine lv_iload_n hx hb dX10_tidiesOne_181 rfl (lv_at hl 1 rfl) ?_
        refine va_calli (va_runV (As := [.int (iZ (t)), .int (iZ (k)), .int (iZ (k + 1)), .int (iZ (m9))]) (rest := []) ⟨hx, hb, hml, hown, hts⟩ (m_hasAt l dC dI cI cZ cII cIII h0 H.size μ (t) (k) (k + 1) (m9) (w) (zx) (vx) (lx) (wx) (by first | assumption | omega | exact ⟨by omega, by omega⟩) (by first | assumption | omega | exact ⟨by omega, by omega⟩) (by first | assumption | omega | exact ⟨by omega, by omega⟩) (by first | assumption | omega | exact ⟨by omega, by omega⟩) (by first | assumption | omega | exact ⟨by omega, by omega⟩) (by first | assumption | omega | exact ⟨by omega, by omega⟩) (by first | assumption | omega | exact ⟨by omega, by omega⟩) (by first | assumption | omega | exact ⟨by omega, by omega⟩) (by first | assumption | omega | exact ⟨by omega, by omega⟩) (by first | assumption | omega | exact ⟨by omega, by omega⟩) (by omega) (by exact hex)) (cwV 4 hts (gV_G k1456 k1458 ks_yX10_hasAt k13 k1459) rfl rfl rfl (by decide +kernel) ⟨by show 26 + 1 ≤ _; omega, by show 8 + (5 + 11) + (790) ≤ _; omega⟩) ⟨fun a U g mk q => by obtain ⟨q0, q1, qP, qK⟩ := q; exact ⟨q0, q1, qP, va_K.moved (u := U) (U := U.calling g mk a) (Vm.Alike.refl U.vm) qK⟩, va_recv hK hP (ci := 10) (q0 := 0) rfl ((fw_get (by decide)).trans (by rw [mE_obj]; rfl)), fun U hU hW => ⟨rfl, by rw [hU], by rw [hU]; exact hP, va_K.moved hW.alike hK⟩⟩ rfl rfl hl.1 rfl (lv_room (Nat.le_of_ble_eq_true rfl)) dX10_tidiesOne_182 ⟨hRc, hRs⟩) hS (fun q _ h => fA_le hS.1 q h) (fA_le hS.1) (fun r9 u9 t9 H1 locs ht9 hvm9 hw9 hB9 hz9 hk9 hS => ?_)
        obtain ⟨μ13, r14⟩ := u9
        obtain ⟨hP, -⟩ := hB9
        rw [ht9] at hP
        generalize H1 = H at hP hS ⊢
        obtain ⟨e9, hw9⟩ := hw9
        have e9 : r9 = iZ r14 := e9
        subst e9
        simp only at hP hw9
        have hμ13 := hw9; clear hw9
        rw [hμ13.1] at hP; have hμ13 := hμ13.2
        refine fz_if_eq (tgt := 197) (by constructor <;> omega) hx hb dX10_tidiesOne_185 (by decide) (fun c185_ => ?_) (fun c185_ => ?_)
        · have hna : ¬ (0 ≤ k + 1 ∧ nxt lx (rdrop (k + 1).toNat w)) := by
            rcases hμ13 with ⟨h, _⟩ | ⟨_, h⟩
            · omega
            · exact h
          refine lv_iinc (v := iZ (k + 1)) (lv' := [(3, .int (iZ (k + 1))), (2, .int (iZ (m9))), (1, .int (iZ (t))), (0, .ref h0)]) hx hb dX10_tidiesOne_197 hl (k := 0) rfl (iZ_add _ _) (by decide) rfl (fun ls hl => ?_)
          refine lv_goto (tgt := 154) hx hb dX10_tidiesOne_200 (by decide) ?_
          exact ih (k + 1) μ H locs ls (by rfl) (by omega) (by
                            exact fun j hj h9 => by
                              by_cases h8 : j < k.toNat
                              · exact hno j h8 h9
                              · obtain rfl : j = k.toNat := by omega
                                obtain ⟨z9, v9, l9, r9, e1, e3⟩ := h9
                                rw [hex] at e1
                                cases e1
                                first
                                  | exact absurd rfl hk9
                                  | (exact hna ⟨by omega, by rw [show (k + 1).toNat = k.toNat + 1 by omega]; exact e3⟩)) (by omega) hP hS (lv_sub hl [0, 1, 2, 3] rfl)
        · have hhA : 0 ≤ k + 1 ∧ nxt lx (rdrop (k + 1).toNat w) := by
            rcases hμ13 with ⟨_, h⟩ | ⟨h, _⟩
            · exact h
            · omega
          have hnI := nxt_I _ _ hhA.2
          rw [rdrop_I] at hnI
          refine lv_aload_n hx hb dX10_tidiesOne_188 rfl (lv_at hl 3 rfl) ?_
          refine lv_iload_n hx hb dX10_tidiesOne_189 rfl (lv_at hl 2 rfl) ?_
          refine lv_iload_n hx hb dX10_tidiesOne_190 rfl (lv_at hl 1 rfl) ?_
          refine lv_iload_n hx hb dX10_tidiesOne_191 rfl (lv_at hl 0 rfl) ?_
          refine lv_iconst (v := iZ 0) hx hb dX10_tidiesOne_192 rfl ?_
          refine va_calli (va_runV (As := [.int (iZ (t)), .int (iZ (m9)), .int (iZ (k)), .int (iZ (0))]) (rest := []) ⟨hx, hb, hml, hown, hts⟩ (m_takesIn0 l dC dI cI cZ cII cIII h0 H.size μ (t) (m9) (w) (k) ((rI lx : Int)) ((k + 1)) (zx) (vx) (lx) (wx) (by first | assumption | omega | exact ⟨by omega, by omega⟩) (by first | assumption | omega | exact ⟨by omega, by omega⟩) (by first | assumption | omega | exact ⟨by omega, by omega⟩) (by first | assumption | omega | exact ⟨by omega, by omega⟩) (by first | assumption | omega | exact ⟨by omega, by omega⟩) (by first | assumption | omega | exact ⟨by omega, by omega⟩) (by first | assumption | omega | exact ⟨by omega, by omega⟩) (by first | assumption | omega | exact ⟨by omega, by omega⟩) (by first | assumption | omega | exact ⟨by omega, by omega⟩) (by omega) (by rfl) (by rfl) (by exact ⟨hex, hhA.2⟩)) (cwV 4 hts (gV_G k1464 k1466 ks_yX10_takesIn k13 k1467) rfl rfl rfl (by decide +kernel) ⟨by show 25 + 1 ≤ _; omega, by show 8 + (8 + 11) + (770) ≤ _; omega⟩) ⟨fun a U g mk q => by obtain ⟨q0, q1, qP, qK⟩ := q; exact ⟨q0, q1, qP, va_K.moved (u := U) (U := U.calling g mk a) (Vm.Alike.refl U.vm) qK⟩, va_recv hK hP (ci := 10) (q0 := 0) rfl ((fw_get (by decide)).trans (by rw [mE_obj]; rfl)), fun U hU hW => ⟨rfl, by rw [hU], by rw [hU]; exact hP, va_K.moved hW.alike hK⟩⟩ rfl rfl hl.1 rfl (lv_room (Nat.le_of_ble_eq_true rfl)) dX10_tidiesOne_193 ⟨hRc, hRs⟩) hS (fun q _ h => fA_le hS.1 q h) (fA_le hS.1) (fun r9 u9 t9 H1 locs ht9 hvm9 hw9 hB9 hz9 hk9 hS => ?_)
          obtain ⟨μj, rj⟩ := u9
          obtain ⟨hP, -⟩ := hB9
          rw [ht9] at hP
          generalize H1 = H at hP hS ⊢
          obtain ⟨e9, hw9⟩ := hw9
          have e9 : r9 = iZ rj := e9
          subst e9
          simp only at hP hw9
          have hμj := hw9; clear hw9
          have hr1 : rj = 1 := hμj.1
          obtain rfl : rj = 1 := by omega
          exact hexit196 (0) μj H locs ls (by
                            have h8 : lx ≠ .leaf := fxA.2.2.1 (by omega)
                            have h7 : 0 < rI lx := by
                              cases lx with
                              | leaf => exact absurd rfl h8
                              | inner _ _ _ _ _ => rw [rI_in]; omega
                            exact ⟨_, hμj.2.1, Or.inr (Or.inr (Or.inl ⟨hw0, ha0, k.toNat, zx, vx, lx, wx, hex, by rw [show k.toNat + 1 = (k + 1).toNat by omega]; exact hhA.2, hno, by rw [show k.toNat + 1 = (k + 1).toNat by omega]⟩)), by rw [rtk_I (by omega) (by omega)]; omega, fr_mono (P2 := FQ t.toNat) hμj.2.2 (fun x y h => by unfold PK at h; unfold FQ FP P8; rcases h with h | h; exact Or.inr (Or.inl (Or.inr (Or.inr h))); exact Or.inr (Or.inr (Or.inl h)))⟩) hP hS (lv_sub hl [] rfl)
set_option maxHeartbeats 40000000 in
set_option maxRecDepth 100000 in
theorem m_tidiesOne2 (l : Launch) (dC : Nat → ClassId) (dI : Nat → Nat → Nat) (cI cZ cII cIII : ClassId) (h0 sz : Nat) (μ : va_M) (t : Int) (w : Rw) (ht : 54 ≤ t ∧ t < 70) (hT : TR μ t.toNat w) (hO : OKr w) : Met l yX10_tidiesOne (Cond.code yX10_tidiesOne cX10_tidiesOne 4 (some .boolean) :: wsG) ({ frames := 27, cells := 0, slots := 0, locals := 860 } : Room) (va_Pc [.ref h0, .int (iZ (t))] (fun U => U.heap.size = sz ∧ va_P (dC, dI) vwCl (fw (mE cI cZ cII cIII h0) h0 6325 μ) U.heap ∧ va_K (dC, dI) vwCl (mT cI cZ cII cIII) U)) (va_Qi (fun (r9 : Int32) (u : va_M × Int) => r9 = iZ u.2 ∧ (fun (u : va_M) (r : Int) => (r = 0 ∧ fr (fun x y => x = 723) μ u ∧ tn1 w) ∨ (r = 1 ∧ ∃ w2 : Rw, TR u t.toNat w2 ∧ ts1 w w2 ∧ rI w2 < rI w ∧ fr (FQ t.toNat) μ u)) u.1 u.2) (fun u t => va_P (dC, dI) vwCl (fw (mE cI cZ cII cIII h0) h0 6325 u.1) t.heap ∧ va_K (dC, dI) vwCl (mT cI cZ cII cIII) t) (fA h0 6325 sz)) 0 0 (fA h0 6325 sz) := by
  refine Met.ofW (cc := cX10_tidiesOne) (maxL := 4) (ret := (some .boolean)) (by decide) rfl ?_
  intro p e s m args below meth c s₁ B hml hv
  obtain ⟨rfl, hsz, hP, hK⟩ := hv
  have hx := B.exec
  have hb := B.bytes
  have hr := B.returns
  have hts : ∀ w ∈ wsG, w.before _ s = true := hG_of (atoms_spec (ws := (Cond.code yX10_tidiesOne cX10_tidiesOne 4 (some .boolean) :: wsG)) B.pre)
  have hown : s.vm.findClass RX10 = some m.cls := findClass_of_methodNamed B.named
  have hlocks := B.notSynchronized
  subst hsz
  have hS : va_S (fA h0 6325 s.heap.size) s.heap s.heap [] := va_S.rf
  have hl := lv_entry ([.ref h0, .int (iZ (t))]) (n := 4) (Nat.le_of_ble_eq_true rfl)
  rw [lg_entry_eq]
  generalize (lg_sl ([.ref h0, .int (iZ (t))]) ++ List.replicate (4 - (lg_sl ([.ref h0, .int (iZ (t))])).length) Slot.unset).toArray = ls at hl ⊢
  have hl : lv_has ls 4 [(0, .ref h0), (1, .int (iZ (t)))] := hl
  have hbd := OKr_b hO
  have hwf := hO.1
  have hR : RA μ t.toNat w 0 := hT.2
  have hn0 : μ 719 t.toNat = rN w := hT.1
  refine lv_aload_n hx hb dX10_tidiesOne_0 rfl (lv_at hl 0 rfl) ?_
  refine lv_iload_n hx hb dX10_tidiesOne_1 rfl (lv_at hl 1 rfl) ?_
  refine lv_iconst (v := iZ 0) hx hb dX10_tidiesOne_2 rfl ?_
  refine lv_aload_n hx hb dX10_tidiesOne_3 rfl (lv_at hl 0 rfl) ?_
  refine fz_get (D := (dC, dI)) (ci := 10) (v := .ref (h0 + 719)) (C := RX10) (T := TX10) (N := 53) hx hb hts inG10 hown hK hP (k := 0) (by decide) (F := mF h0) mE_obj rfl 21 (by decide) (hts _ k1187) (fun _ h9 => h9) rfl dX10_tidiesOne_4 ?_
  refine lv_iload_n hx hb dX10_tidiesOne_7 rfl (lv_at hl 1 rfl) ?_
  refine fz_ld (k := 719) (n := 70) hx hb hK hP 0 (by decide) mE_nodes rfl ⟨by omega, by omega⟩ (by decide) dX10_tidiesOne_8 ?_
  rw [show μ 719 (t).toNat = (rN w : Int) from (by exact hn0)]
  refine lv_aload_n hx hb dX10_tidiesOne_9 rfl (lv_at hl 0 rfl) ?_
  refine fz_get (D := (dC, dI)) (ci := 10) (v := .ref (h0 + 722)) (C := RX10) (T := TX10) (N := 53) hx hb hts inG10 hown hK hP (k := 0) (by decide) (F := mF h0) mE_obj rfl 29 (by decide) (hts _ k1195) (fun _ h9 => h9) rfl dX10_tidiesOne_10 ?_
  refine lv_iconst (v := iZ 0) hx hb dX10_tidiesOne_13 rfl ?_
  refine fz_ald (k := 722) (n := 14) (k2 := (723 + 0)) hx hb hK hP 2 rfl (by decide) mE_rowS rfl ⟨by omega, by omega⟩ (by decide) (if_pos (by omega)) dX10_tidiesOne_14 ?_
  refine va_calli (va_runV (As := [.int (iZ (t)), .int (iZ (0)), .int (iZ ((rN w : Int))), .ref (h0 + (723 + 0))]) (rest := []) ⟨hx, hb, hml, hown, hts⟩ (m_lists l dC dI cI cZ cII cIII h0 s.heap.size μ (t) (0) ((rN w : Int)) ((723 + 0)) (w) (by first | assumption | omega | exact ⟨by omega, by omega⟩) (by omega) (by omega) (by exact hR) (by exact Or.inl (by decide)) (by omega)) (cwV 4 hts (gV_G k1385 k1387 ks_yX10_lists k13 k1388) rfl rfl rfl (by decide +kernel) ⟨Nat.le_of_ble_eq_true rfl, Nat.le_of_ble_eq_true rfl⟩) ⟨fun a U g mk q => by obtain ⟨q0, q1, qP, qK⟩ := q; exact ⟨q0, q1, qP, va_K.moved (u := U) (U := U.calling g mk a) (Vm.Alike.refl U.vm) qK⟩, va_recv hK hP (ci := 10) (q0 := 0) rfl ((fw_get (by decide)).trans (by rw [mE_obj]; rfl)), fun U hU hW => ⟨rfl, by rw [hU], by rw [hU]; exact hP, va_K.moved hW.alike hK⟩⟩ rfl rfl hl.1 rfl (lv_room (Nat.le_of_ble_eq_true rfl)) dX10_tidiesOne_15 ⟨Nat.le_of_ble_eq_true rfl, Nat.le_of_ble_eq_true rfl⟩) hS (fun q _ h => fA_le hS.1 q h) (fA_le hS.1) (fun r9 u9 t9 H1 locs ht9 hvm9 hw9 hB9 hz9 hk9 hS => ?_)
  obtain ⟨μa, ma⟩ := u9
  obtain ⟨hP, -⟩ := hB9
  rw [ht9] at hP
  generalize H1 = H at hP hS ⊢
  obtain ⟨e9, hw9⟩ := hw9
  have e9 : r9 = iZ ma := e9
  subst e9
  simp only at hP hw9
  have hμa := hw9; clear hw9
  have fa : fr (fun x y => x = 723) μ μa := hμa.2.2
  have hka : ∀ x, μa (507 + t.toNat) x = μ (507 + t.toNat) x ∧ μa (578 + t.toNat) x = μ (578 + t.toNat) x ∧ μa (649 + t.toNat) x = μ (649 + t.toNat) x := fun x => ⟨fa _ _ (by show ¬ _ = 723; omega), fa _ _ (by show ¬ _ = 723; omega), fa _ _ (by show ¬ _ = 723; omega)⟩
  have hma : ma = rI w := hμa.1
  have hRa : RA μa t.toNat w 0 := RA_kept hR (fun x _ _ => hka x)
  have hrowa : rowIs μa 723 w 0 := fun m hm => by have := hμa.2.1 m hm; omega
  refine lv_istore_n (lv' := [(2, .int (iZ (ma))), (0, .ref h0), (1, .int (iZ (t)))]) hx hb dX10_tidiesOne_18 rfl hl (by decide) rfl (fun ls hl => ?_)
  refine lv_iconst (v := iZ 0) hx hb dX10_tidiesOne_19 rfl ?_
  refine lv_istore_n (lv' := [(3, .int (iZ (0))), (2, .int (iZ (ma))), (0, .ref h0), (1, .int (iZ (t)))]) hx hb dX10_tidiesOne_20 rfl hl (by decide) rfl (fun ls hl => ?_)
  refine LX10_tidiesOne_21x hx hb hml hown hts hK (Nat.le_of_ble_eq_true rfl) (Nat.le_of_ble_eq_true rfl) (Nat.le_of_ble_eq_true rfl) (Nat.le_of_ble_eq_true rfl) (μa) (t) (ma) (w) (by omega) (by exact hRa) (by omega) (by exact hwf) (by omega) (by exact hrowa) (by omega) (by omega) (by exact hma) ?_ ?_ _ (0) μa H locs ls (by rfl) (by omega) (by exact fun j hj => by omega) (Nat.lt_succ_self _) hP hS (lv_sub hl [0, 1, 3, 2] rfl)
  · intro k_15 μ15_ H locs ls q2_15 hP hS hl
    have hl : lv_has ls 4 [] := hl
    refine lv_iconst (v := iZ 1) hx hb dX10_tidiesOne_81 rfl ?_
    exact W.zret (v := iZ (1)) hx hb hr (by decide +kernel) (fun t9 ht9 hW9 => ⟨⟨iZ (1), (μ15_, 1), rfl, ⟨rfl, (by
                dsimp only
                obtain ⟨w2, y1, y2, y3, y4⟩ := q2_15
                exact Or.inr ⟨rfl, w2, y1, y2, y3, fr_trans (fr_mono fa (fun x y h => Or.inl h)) y4⟩)⟩, by rw [ht9]; exact hP, va_K.moved hW9.alike hK⟩, hS.F ht9⟩) hS.2.2 dX10_tidiesOne_82
  · intro k_16 μ16_ H locs ls q1_16 q3_16 hP hS hl
    have hl : lv_has ls 4 [(2, .int (iZ (ma))), (1, .int (iZ (t))), (0, .ref h0)] := hl
    have hPn89 := hP
    obtain rfl := q1_16
    have hP := hPn89
    have hw0 := q3_16
    refine lv_iconst (v := iZ 0) hx hb dX10_tidiesOne_89 rfl ?_
    refine lv_istore_n (lv' := [(3, .int (iZ (0))), (2, .int (iZ (ma))), (1, .int (iZ (t))), (0, .ref h0)]) hx hb dX10_tidiesOne_90 rfl hl (by decide) rfl (fun ls hl => ?_)
    refine LX10_tidiesOne_91x hx hb hml hown hts hK (Nat.le_of_ble_eq_true rfl) (Nat.le_of_ble_eq_true rfl) (Nat.le_of_ble_eq_true rfl) (Nat.le_of_ble_eq_true rfl) (μ16_) (t) (ma) (w) (by omega) (by exact hRa) (by omega) (by exact hwf) (by omega) (by exact hrowa) (by omega) (by omega) (by exact hma) (by exact hw0) ?_ ?_ _ (0) μ16_ H locs ls (by rfl) (by omega) (by exact fun j hj => by omega) (Nat.lt_succ_self _) hP hS (lv_sub hl [0, 1, 2, 3] rfl)
    · intro k_17 μ17_ H locs ls q2_17 hP hS hl
      have hl : lv_has ls 4 [] := hl
      exact W.zret (v := iZ (1)) hx hb hr (by decide +kernel) (fun t9 ht9 hW9 => ⟨⟨iZ (1), (μ17_, 1), rfl, ⟨rfl, (by
                    dsimp only
                    obtain ⟨w2, y1, y2, y3, y4⟩ := q2_17
                    exact Or.inr ⟨rfl, w2, y1, y2, y3, fr_trans (fr_mono fa (fun x y h => Or.inl h)) y4⟩)⟩, by rw [ht9]; exact hP, va_K.moved hW9.alike hK⟩, hS.F ht9⟩) hS.2.2 dX10_tidiesOne_145
    · intro k_18 μ18_ H locs ls q1_18 q3_18 hP hS hl
      have hl : lv_has ls 4 [(2, .int (iZ (ma))), (1, .int (iZ (t))), (0, .ref h0)] := hl
      have hPn152 := hP
      obtain rfl := q1_18
      have hP := hPn152
      have ha0 := q3_18
      refine lv_iconst (v := iZ 0) hx hb dX10_tidiesOne_152 rfl ?_
      refine lv_istore_n (lv' := [(3, .int (iZ (0))), (2, .int (iZ (ma))), (1, .int (iZ (t))), (0, .ref h0)]) hx hb dX10_tidiesOne_153 rfl hl (by decide) rfl (fun ls hl => ?_)
      refine LX10_tidiesOne_154x hx hb hml hown hts hK (Nat.le_of_ble_eq_true rfl) (Nat.le_of_ble_eq_true rfl) (Nat.le_of_ble_eq_true rfl) (Nat.le_of_ble_eq_true rfl) (μ18_) (t) (ma) (w) (by omega) (by exact hRa) (by omega) (by exact hwf) (by omega) (by exact hrowa) (by omega) (by omega) (by exact hma) (by exact hw0) (by exact ha0) ?_ ?_ _ (0) μ18_ H locs ls (by rfl) (by omega) (by exact fun j hj => by omega) (Nat.lt_succ_self _) hP hS (lv_sub hl [0, 1, 2, 3] rfl)
      · intro k_19 μ19_ H locs ls q2_19 hP hS hl
        have hl : lv_has ls 4 [] := hl
        exact W.zret (v := iZ (1)) hx hb hr (by decide +kernel) (fun t9 ht9 hW9 => ⟨⟨iZ (1), (μ19_, 1), rfl, ⟨rfl, (by
                        dsimp only
                        obtain ⟨w2, y1, y2, y3, y4⟩ := q2_19
                        exact Or.inr ⟨rfl, w2, y1, y2, y3, fr_trans (fr_mono fa (fun x y h => Or.inl h)) y4⟩)⟩, by rw [ht9]; exact hP, va_K.moved hW9.alike hK⟩, hS.F ht9⟩) hS.2.2 dX10_tidiesOne_196
      · intro k_20 μ20_ H locs ls q1_20 q3_20 hP hS hl
        have hl : lv_has ls 4 [(2, .int (iZ (ma))), (1, .int (iZ (t))), (0, .ref h0)] := hl
        have hPn203 := hP
        obtain rfl := q1_20
        have hP := hPn203
        have hb0 := q3_20
        refine lv_aload_n hx hb dX10_tidiesOne_203 rfl (lv_at hl 2 rfl) ?_
        refine lv_iload_n hx hb dX10_tidiesOne_204 rfl (lv_at hl 1 rfl) ?_
        refine va_calli (va_runV (As := [.int (iZ (t))]) (rest := []) ⟨hx, hb, hml, hown, hts⟩ (m_foldsOne2 l dC dI cI cZ cII cIII h0 H.size μ20_ (t) (w) (by omega) (by omega) (by exact ⟨by rw [fa _ _ (by show ¬ 719 = 723; omega)]; exact hn0, hRa⟩) (by omega) (by exact hwf) (by omega) (by omega)) (cwV 1 hts (gV_G k1381 k1383 ks_yX10_foldsOne k13 k1384) rfl rfl rfl (by decide +kernel) ⟨Nat.le_of_ble_eq_true rfl, Nat.le_of_ble_eq_true rfl⟩) ⟨fun a U g mk q => by obtain ⟨q0, q1, qP, qK⟩ := q; exact ⟨q0, q1, qP, va_K.moved (u := U) (U := U.calling g mk a) (Vm.Alike.refl U.vm) qK⟩, va_recv hK hP (ci := 10) (q0 := 0) rfl ((fw_get (by decide)).trans (by rw [mE_obj]; rfl)), fun U hU hW => ⟨rfl, by rw [hU], by rw [hU]; exact hP, va_K.moved hW.alike hK⟩⟩ rfl rfl hl.1 rfl (lv_room (Nat.le_of_ble_eq_true rfl)) dX10_tidiesOne_205 ⟨Nat.le_of_ble_eq_true rfl, Nat.le_of_ble_eq_true rfl⟩) hS (fun q _ h => fA_le hS.1 q h) (fA_le hS.1) (fun r9 u9 t9 H1 locs ht9 hvm9 hw9 hB9 hz9 hk9 hS => ?_)
        obtain ⟨μ21, rf9⟩ := u9
        obtain ⟨hP, -⟩ := hB9
        rw [ht9] at hP
        generalize H1 = H at hP hS ⊢
        obtain ⟨e9, hw9⟩ := hw9
        have e9 : r9 = iZ rf9 := e9
        subst e9
        simp only at hP hw9
        have hμ21 := hw9; clear hw9
        exact W.zret (v := iZ (rf9)) hx hb hr (by exact fz_narZ (by rcases hμ21 with ⟨h, _⟩ | ⟨h, _⟩ <;> omega)) (fun t9 ht9 hW9 => ⟨⟨iZ (rf9), (μ21, rf9), rfl, ⟨rfl, (by
                        dsimp only
                        rcases hμ21 with ⟨h, h2, _, h5⟩ | ⟨h, a1, s1, c1, h2, h3, h4, _, h5⟩
                        · exact Or.inl ⟨h, fr_trans fa h2, hw0, ha0, hb0, h5⟩
                        · exact Or.inr ⟨h, _, h3, Or.inr (Or.inr (Or.inr ⟨hw0, ha0, hb0, s1, a1, c1, h5.1, rfl⟩)), rput_Il h2, fr_trans (fr_mono fa (fun x y h => Or.inl h)) h4⟩)⟩, by rw [ht9]; exact hP, va_K.moved hW9.alike hK⟩, hS.F ht9⟩) hS.2.2 dX10_tidiesOne_208

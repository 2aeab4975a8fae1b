
/-! the walker goes through a row: told whole -/
set_option maxHeartbeats 4000000 in
set_option maxRecDepth 100000 in
theorem s_Wtakes2 (l : Launch) (dC : Nat → ClassId) (dI : Nat → Nat → Nat) (cI cZ cII cIII : ClassId) (h0 sz : Nat) (μ : va_M) (sg : Int) (cd : Int) (h_s : inR sg) (h_c : inR cd) : Met l yX8_takes (Cond.code yX8_takes cX8_takes 2 (some .boolean) :: wsG) ({ frames := 2, cells := 0, slots := 0, locals := 34 } : Room) (va_Pc [.int (iZ (sg)), .int (iZ (cd))] (fun U => U.heap.size = sz ∧ va_P (dC, dI) vwCl (fw (sE cI cZ cII cIII h0) h0 233 μ) U.heap ∧ va_K (dC, dI) vwCl (sT cI cZ cII cIII) U ∧ xM U)) (va_Qi (fun (r9 : Int32) (u : va_M × Int) => r9 = iZ u.2 ∧ (fun (u : va_M) (r : Int) => u = μ ∧ r = tkI sg cd) u.1 u.2) (fun u t => va_P (dC, dI) vwCl (fw (sE cI cZ cII cIII h0) h0 233 u.1) t.heap ∧ va_K (dC, dI) vwCl (sT cI cZ cII cIII) t) (fA h0 233 sz)) 0 0 (fA h0 233 sz) := by
  refine Met.ofW (cc := cX8_takes) (maxL := 2) (ret := (some .boolean)) (by decide) rfl ?_
  intro p e s m args below meth c s₁ B hml hv
  obtain ⟨rfl, hsz, hP, hK, hM⟩ := hv
  have hx := B.exec
  have hb := B.bytes
  have hr := B.returns
  have hts : ∀ w ∈ wsG, w.before _ s = true := hG_of (atoms_spec (ws := (Cond.code yX8_takes cX8_takes 2 (some .boolean) :: wsG)) B.pre)
  have hown : s.vm.findClass RX8 = some m.cls := findClass_of_methodNamed B.named
  have hlocks := B.notSynchronized
  subst hsz
  have hS : va_S (fA h0 233 s.heap.size) s.heap s.heap [] := va_S.rf
  have hl := lv_entry ([.int (iZ (sg)), .int (iZ (cd))]) (n := 2) (Nat.le_of_ble_eq_true rfl)
  rw [lg_entry_eq]
  generalize (lg_sl ([.int (iZ (sg)), .int (iZ (cd))]) ++ List.replicate (2 - (lg_sl ([.int (iZ (sg)), .int (iZ (cd))])).length) Slot.unset).toArray = ls at hl ⊢
  have hl : lv_has ls 2 [(0, .int (iZ (sg))), (1, .int (iZ (cd)))] := hl
  refine lv_iload_n hx hb dX8_takes_0 rfl (lv_at hl 0 rfl) ?_
  refine lv_iload_n hx hb dX8_takes_1 rfl (lv_at hl 1 rfl) ?_
  refine fz_icmp_eq (tgt := 26) (by constructor <;> omega) (by constructor <;> omega) hx hb dX8_takes_2 (by decide) (fun c2_ => ?_) (fun c2_ => ?_)
  · refine lv_iconst (v := iZ 1) hx hb dX8_takes_26 rfl ?_
    refine lv_goto (tgt := 31) hx hb dX8_takes_27 (by decide) ?_
    exact W.zret (v := iZ (1)) hx hb hr (by decide +kernel) (fun t9 ht9 hW9 => ⟨⟨iZ (1), (μ, 1), rfl, ⟨rfl, (by
                dsimp only
                refine ⟨rfl, ?_⟩
                unfold tkI
                rw [if_pos (by omega)])⟩, by rw [ht9]; exact hP, va_K.moved hW9.alike hK⟩, hS.F ht9⟩) hS.2.2 dX8_takes_31
  · refine lv_iload_n hx hb dX8_takes_5 rfl (lv_at hl 1 rfl) ?_
    refine lv_sipush (v := iZ 516) hx hb dX8_takes_6 rfl ?_
    refine fz_icmp_eq (tgt := 26) (by constructor <;> omega) (by decide) hx hb dX8_takes_9 (by decide) (fun c9_ => ?_) (fun c9_ => ?_)
    · refine lv_iconst (v := iZ 1) hx hb dX8_takes_26 rfl ?_
      refine lv_goto (tgt := 31) hx hb dX8_takes_27 (by decide) ?_
      exact W.zret (v := iZ (1)) hx hb hr (by decide +kernel) (fun t9 ht9 hW9 => ⟨⟨iZ (1), (μ, 1), rfl, ⟨rfl, (by
                    dsimp only
                    refine ⟨rfl, ?_⟩
                    unfold tkI
                    rw [if_pos (by omega)])⟩, by rw [ht9]; exact hP, va_K.moved hW9.alike hK⟩, hS.F ht9⟩) hS.2.2 dX8_takes_31
    · refine lv_iload_n hx hb dX8_takes_12 rfl (lv_at hl 0 rfl) ?_
      refine lv_sipush (v := iZ 512) hx hb dX8_takes_13 rfl ?_
      refine fz_icmp_ne (tgt := 30) (by constructor <;> omega) (by decide) hx hb dX8_takes_16 (by decide) (fun c16_ => ?_) (fun c16_ => ?_)
      · refine lv_iconst (v := iZ 0) hx hb dX8_takes_30 rfl ?_
        exact W.zret (v := iZ (0)) hx hb hr (by decide +kernel) (fun t9 ht9 hW9 => ⟨⟨iZ (0), (μ, 0), rfl, ⟨rfl, (by
                        dsimp only
                        refine ⟨rfl, ?_⟩
                        unfold tkI
                        rw [if_neg (by omega)])⟩, by rw [ht9]; exact hP, va_K.moved hW9.alike hK⟩, hS.F ht9⟩) hS.2.2 dX8_takes_31
      · refine lv_iload_n hx hb dX8_takes_19 rfl (lv_at hl 1 rfl) ?_
        refine va_calli (va_runSN (As := [.int (iZ (cd))]) (rest := []) ⟨hx, hb, hml, hown, hts⟩ (s_isWord l dC dI cI cZ cII cIII h0 s.heap.size μ (cd) (by first | assumption | omega | exact ⟨by omega, by omega⟩)) ⟨va_cnB (host := "PageSkeleton") 1 hts (gI_G k569) rfl rfl rfl (xM_nest hM 12 rfl) (hts _ k1) (by decide +kernel) ⟨Nat.le_of_ble_eq_true rfl, Nat.le_of_ble_eq_true rfl⟩, hts _ k568, trivial⟩ ⟨fun a U g mk q => by obtain ⟨q0, q1, qP, qK, qM⟩ := q; exact ⟨q0, q1, qP, va_K.moved (u := U) (U := U.calling g mk a) (Vm.Alike.refl U.vm) qK, qM⟩, fun U hU hW => ⟨rfl, by rw [hU], by rw [hU]; exact hP, va_K.moved hW.alike hK, xM_warm hW hM⟩⟩ rfl rfl hl.1 rfl (lv_room (Nat.le_of_ble_eq_true rfl)) dX8_takes_20 ⟨Nat.le_of_ble_eq_true rfl, Nat.le_of_ble_eq_true rfl⟩) hS (fun q _ h => fA_le hS.1 q h) (fA_le hS.1) (fun r9 u9 t9 H1 locs ht9 hvm9 hw9 hB9 hz9 hk9 hS => ?_)
        obtain ⟨μ1, r2⟩ := u9
        obtain ⟨hP, -⟩ := hB9
        rw [ht9] at hP
        generalize H1 = H at hP hS ⊢
        obtain ⟨e9, hw9⟩ := hw9
        have e9 : r9 = iZ r2 := e9
        subst e9
        simp only at hP hw9
        have hμ1 := hw9; clear hw9
        rw [hμ1.1] at hP; have hμ1 := hμ1.2
        have hlf := if_01 hμ1
        have hlfe := if_el hμ1
        refine fz_if_eq (tgt := 30) (by constructor <;> omega) hx hb dX8_takes_23 (by decide) (fun c23_ => ?_) (fun c23_ => ?_)
        · refine lv_iconst (v := iZ 0) hx hb dX8_takes_30 rfl ?_
          exact W.zret (v := iZ (0)) hx hb hr (by decide +kernel) (fun t9 ht9 hW9 => ⟨⟨iZ (0), (μ, 0), rfl, ⟨rfl, (by
                            dsimp only
                            refine ⟨rfl, ?_⟩
                            unfold tkI
                            rw [if_neg (by omega)])⟩, by rw [ht9]; exact hP, va_K.moved hW9.alike hK⟩, hS.F ht9⟩) hS.2.2 dX8_takes_31
        · refine lv_iconst (v := iZ 1) hx hb dX8_takes_26 rfl ?_
          refine lv_goto (tgt := 31) hx hb dX8_takes_27 (by decide) ?_
          exact W.zret (v := iZ (1)) hx hb hr (by decide +kernel) (fun t9 ht9 hW9 => ⟨⟨iZ (1), (μ, 1), rfl, ⟨rfl, (by
                            dsimp only
                            refine ⟨rfl, ?_⟩
                            unfold tkI
                            rw [if_pos (by omega)])⟩, by rw [ht9]; exact hP, va_K.moved hW9.alike hK⟩, hS.F ht9⟩) hS.2.2 dX8_takes_31
set_option maxHeartbeats 4000000 in
set_option maxRecDepth 100000 in
theorem s_WgoInward2 (l : Launch) (dC : Nat → ClassId) (dI : Nat → Nat → Nat) (cI cZ cII cIII : ClassId) (h0 sz : Nat) (μ : va_M) (q : Nat) (rm : Nat) (kc : Nat) (nc : Nat) (i : Int) (k : Int) (n : Int) (hw : Int) (hq : rowB q rm) (hG : rG μ q rm) (hA : aB μ) (hkc : 110 ≤ kc ∧ kc < 233 ∧ 60 ≤ nc ∧ nc ≤ 1101) (hE : ∀ f, sE cI cZ cII cIII h0 kc f = .inl (cI, nc, .inl f)) (hcr : ∀ j, inR (μ kc j)) (h_i : 0 ≤ i ∧ i < μ q 5) (h_k : 0 ≤ k ∧ k ≤ n ∧ n ≤ 60) (h_w : 0 ≤ hw ∧ hw ≤ 2) : Met l yX8_goInward (Cond.code yX8_goInward cX8_goInward 11 none :: wsG) ({ frames := 3, cells := 0, slots := 0, locals := 55 } : Room) (va_Pc [.ref (h0 + 45), .ref (h0 + q), .int (iZ (i)), .ref (h0 + kc), .int (iZ (k)), .int (iZ (n)), .int (iZ (hw))] (fun U => U.heap.size = sz ∧ va_P (dC, dI) vwCl (fw (sE cI cZ cII cIII h0) h0 233 μ) U.heap ∧ va_K (dC, dI) vwCl (sT cI cZ cII cIII) U ∧ xM U)) (va_Qv (fun (u : va_M) => fr (fun x _ => x = 46 ∨ x = 47) μ u ∧ aB u ∧ gIw μ u q i.toNat (k * (μ q 5 + 1) + i).toNat hw (lfW hw k n (μ (q + 1) i.toNat) (μ kc k.toNat) (μ 46 (k * (μ q 5 + 1) + i + (μ q 5 + 1) + 1).toNat) (μ 46 (k * (μ q 5 + 1) + i + (μ q 5 + 1)).toNat))) (fun u t => va_P (dC, dI) vwCl (fw (sE cI cZ cII cIII h0) h0 233 u) t.heap ∧ va_K (dC, dI) vwCl (sT cI cZ cII cIII) t) (fA h0 233 sz)) 0 0 (fA h0 233 sz) := by
  refine Met.ofW (cc := cX8_goInward) (maxL := 11) (ret := none) (by decide) rfl ?_
  intro p e s m args below meth c s₁ B hml hv
  obtain ⟨rfl, hsz, hP, hK, hM⟩ := hv
  have hx := B.exec
  have hb := B.bytes
  have hr := B.returns
  have hts : ∀ w ∈ wsG, w.before _ s = true := hG_of (atoms_spec (ws := (Cond.code yX8_goInward cX8_goInward 11 none :: wsG)) B.pre)
  have hown : s.vm.findClass RX8 = some m.cls := findClass_of_methodNamed B.named
  have hlocks := B.notSynchronized
  subst hsz
  have hS : va_S (fA h0 233 s.heap.size) s.heap s.heap [] := va_S.rf
  have hl := lv_entry ([.ref (h0 + 45), .ref (h0 + q), .int (iZ (i)), .ref (h0 + kc), .int (iZ (k)), .int (iZ (n)), .int (iZ (hw))]) (n := 11) (Nat.le_of_ble_eq_true rfl)
  rw [lg_entry_eq]
  generalize (lg_sl ([.ref (h0 + 45), .ref (h0 + q), .int (iZ (i)), .ref (h0 + kc), .int (iZ (k)), .int (iZ (n)), .int (iZ (hw))]) ++ List.replicate (11 - (lg_sl ([.ref (h0 + 45), .ref (h0 + q), .int (iZ (i)), .ref (h0 + kc), .int (iZ (k)), .int (iZ (n)), .int (iZ (hw))])).length) Slot.unset).toArray = ls at hl ⊢
  have hl : lv_has ls 11 [(0, .ref (h0 + 45)), (1, .ref (h0 + q)), (2, .int (iZ (i))), (3, .ref (h0 + kc)), (4, .int (iZ (k))), (5, .int (iZ (n))), (6, .int (iZ (hw)))] := hl
  have hqb := rowB_b hq
  have hrm := rG_rm hq hG
  have hqf := rowB_f hq
  have hs1 := hG.1 i.toNat
  have hmi := rG_m hG i h_i.1 h_i.2
  have ei1 : (i + 1).toNat = i.toNat + 1 := by omega
  refine lv_aload_n hx hb dX8_goInward_0 rfl (lv_at hl 1 rfl) ?_
  refine fz_get (D := (dC, dI)) (ci := 4) (v := .ref (h0 + (q + 1))) (C := RX4) (T := TX4) (N := 8) hx hb hts inG4 hown hK hP (k := q) (by omega) (F := (sRF h0 q)) (sE_rowO hq) rfl 0 (by decide) (hts _ k81) (fun _ h9 => h9) rfl dX8_goInward_1 ?_
  refine lv_iload_n hx hb dX8_goInward_4 rfl (lv_at hl 2 rfl) ?_
  refine fz_ld (k := (q + 1)) (n := rm) hx hb hK hP 0 (by omega) (sE_rowA (r := 1) hq (by decide)) rfl ⟨by omega, by omega⟩ (by omega) dX8_goInward_5 ?_
  refine lv_istore (lv' := [(7, .int (iZ (μ (q + 1) (i).toNat))), (0, .ref (h0 + 45)), (1, .ref (h0 + q)), (2, .int (iZ (i))), (3, .ref (h0 + kc)), (4, .int (iZ (k))), (5, .int (iZ (n))), (6, .int (iZ (hw)))]) hx hb dX8_goInward_6 hl (by decide) rfl (fun ls hl => ?_)
  refine lv_iload hx hb dX8_goInward_8 (lv_at hl 0 rfl) ?_
  refine lv_sipush (v := iZ 513) hx hb dX8_goInward_10 rfl ?_
  refine fz_icmp_ne (tgt := 51) (by constructor <;> omega) (by decide) hx hb dX8_goInward_13 (by decide) (fun c13_ => ?_) (fun c13_ => ?_)
  · refine lv_iload hx hb dX8_goInward_51 (lv_at hl 0 rfl) ?_
    refine lv_sipush (v := iZ 514) hx hb dX8_goInward_53 rfl ?_
    refine fz_icmp_ne (tgt := 76) (by constructor <;> omega) (by decide) hx hb dX8_goInward_56 (by decide) (fun c56_ => ?_) (fun c56_ => ?_)
    · refine lv_iload hx hb dX8_goInward_76 (lv_at hl 0 rfl) ?_
      refine lv_sipush (v := iZ 515) hx hb dX8_goInward_78 rfl ?_
      refine fz_icmp_ne (tgt := 100) (by constructor <;> omega) (by decide) hx hb dX8_goInward_81 (by decide) (fun c81_ => ?_) (fun c81_ => ?_)
      · refine lv_aload_n hx hb dX8_goInward_100 rfl (lv_at hl 2 rfl) ?_
        refine fz_get (D := (dC, dI)) (ci := 4) (v := .int (iZ (μ q 5))) (C := RX4) (T := TX4) (N := 8) hx hb hts inG4 hown hK hP (k := q) (by omega) (F := (sRF h0 q)) (sE_rowO hq) rfl 5 (by decide) (hts _ k93) (fun _ h9 => h9) rfl dX8_goInward_101 ?_
        refine lv_iconst (v := iZ 1) hx hb dX8_goInward_104 rfl ?_
        refine lv_iadd hx hb dX8_goInward_105 ?_
        refine lv_topi (fun x9 ex9 => ?_)
        obtain rfl : x9 = iZ ((μ q 5) + 1) := ex9.trans (iZ_add _ _)
        refine lv_istore (lv' := [(8, .int (iZ ((μ q 5) + 1))), (7, .int (iZ (μ (q + 1) (i).toNat))), (0, .ref (h0 + 45)), (1, .ref (h0 + q)), (2, .int (iZ (i))), (3, .ref (h0 + kc)), (4, .int (iZ (k))), (5, .int (iZ (n))), (6, .int (iZ (hw)))]) hx hb dX8_goInward_106 hl (by decide) rfl (fun ls hl => ?_)
        refine lv_iload hx hb dX8_goInward_108 (lv_at hl 6 rfl) ?_
        refine lv_iload hx hb dX8_goInward_110 (lv_at hl 0 rfl) ?_
        refine lv_imul hx hb dX8_goInward_112 ?_
        refine lv_topi (fun x9 ex9 => ?_)
        obtain rfl : x9 = iZ (k * ((μ q 5) + 1)) := ex9.trans (iZ_mul _ _)
        refine lv_iload_n hx hb dX8_goInward_113 rfl (lv_at hl 4 rfl) ?_
        refine lv_iadd hx hb dX8_goInward_114 ?_
        refine lv_topi (fun x9 ex9 => ?_)
        obtain rfl : x9 = iZ ((k * ((μ q 5) + 1)) + i) := ex9.trans (iZ_add _ _)
        refine lv_istore (lv' := [(9, .int (iZ ((k * ((μ q 5) + 1)) + i))), (8, .int (iZ ((μ q 5) + 1))), (7, .int (iZ (μ (q + 1) (i).toNat))), (0, .ref (h0 + 45)), (1, .ref (h0 + q)), (2, .int (iZ (i))), (3, .ref (h0 + kc)), (4, .int (iZ (k))), (5, .int (iZ (n))), (6, .int (iZ (hw)))]) hx hb dX8_goInward_115 hl (by decide) rfl (fun ls hl => ?_)
        refine lv_iload hx hb dX8_goInward_117 (lv_at hl 7 rfl) ?_
        refine lv_iload hx hb dX8_goInward_119 (lv_at hl 9 rfl) ?_
        refine va_calli (va_runS (As := [.int (iZ (k)), .int (iZ (hw))]) (rest := []) ⟨hx, hb, hml, hown, hts⟩ (s_Wnothing l dC dI cI cZ cII cIII h0 s.heap.size μ (k) (hw) (by constructor <;> omega) (by constructor <;> omega)) (cwS 2 hts (gS_G k550 k551 k8 k552) rfl rfl rfl (by decide +kernel) ⟨Nat.le_of_ble_eq_true rfl, Nat.le_of_ble_eq_true rfl⟩) ⟨fun a U g mk q => by obtain ⟨q0, q1, qP, qK, qM⟩ := q; exact ⟨q0, q1, qP, va_K.moved (u := U) (U := U.calling g mk a) (Vm.Alike.refl U.vm) qK, qM⟩, fun U hU hW => ⟨rfl, by rw [hU], by rw [hU]; exact hP, va_K.moved hW.alike hK, xM_warm hW hM⟩⟩ rfl rfl hl.1 rfl (lv_room (Nat.le_of_ble_eq_true rfl)) dX8_goInward_121 ⟨Nat.le_of_ble_eq_true rfl, Nat.le_of_ble_eq_true rfl⟩) hS (fun q _ h => fA_le hS.1 q h) (fA_le hS.1) (fun r9 u9 t9 H1 locs ht9 hvm9 hw9 hB9 hz9 hk9 hS => ?_)
        obtain ⟨μn, rn⟩ := u9
        obtain ⟨hP, -⟩ := hB9
        rw [ht9] at hP
        generalize H1 = H at hP hS ⊢
        obtain ⟨e9, hw9⟩ := hw9
        have e9 : r9 = iZ rn := e9
        subst e9
        simp only at hP hw9
        have hμn := hw9; clear hw9
        rw [hμn.1] at hP; have hμn := hμn.2
        have hrn := nb_b hμn (by omega)
        have mb := mulB k (μ q 5 + 1) (by omega) (by omega) (by omega) (by omega)
        have hno : rn = wNo hw k := hμn
        refine lv_istore (lv' := [(10, .int (iZ (rn))), (9, .int (iZ ((k * ((μ q 5) + 1)) + i))), (8, .int (iZ ((μ q 5) + 1))), (7, .int (iZ (μ (q + 1) (i).toNat))), (0, .ref (h0 + 45)), (1, .ref (h0 + q)), (2, .int (iZ (i))), (3, .ref (h0 + kc)), (4, .int (iZ (k))), (5, .int (iZ (n))), (6, .int (iZ (hw)))]) hx hb dX8_goInward_124 hl (by decide) rfl (fun ls hl => ?_)
        refine lv_iload hx hb dX8_goInward_126 (lv_at hl 8 rfl) ?_
        refine lv_iload hx hb dX8_goInward_128 (lv_at hl 9 rfl) ?_
        refine fz_icmp_ge (tgt := 184) (by constructor <;> omega) (by constructor <;> omega) hx hb dX8_goInward_130 (by decide) (fun c130_ => ?_) (fun c130_ => ?_)
        · refine lv_aload_n hx hb dX8_goInward_184 rfl (lv_at hl 4 rfl) ?_
          refine fz_get (D := (dC, dI)) (ci := 8) (v := .ref (h0 + 46)) (C := RX8) (T := TX8) (N := 2) hx hb hts inG8 hown hK hP (k := 45) (by decide) (F := (sF45 h0)) sE_45 rfl 0 (by decide) (hts _ k211) (fun _ h9 => h9) rfl dX8_goInward_185 ?_
          refine lv_iload hx hb dX8_goInward_188 (lv_at hl 1 rfl) ?_
          refine lv_iload hx hb dX8_goInward_190 (lv_at hl 0 rfl) ?_
          refine fz_st (k := 46) (n := 67161) (i := ((k * ((μ q 5) + 1)) + i)) (z := rn) hx hb hK hP fA_in hS 0 (by decide) sE_46 rfl ⟨by omega, by omega⟩ (by decide) dX8_goInward_192 (fun H locs hP hS => ?_)
          obtain ⟨μ1, eμ1⟩ : ∃ x : va_M, x = uz μ 46 ((k * ((μ q 5) + 1)) + i).toNat (rn) := ⟨_, rfl⟩
          rw [← eμ1] at hP
          refine lv_aload_n hx hb dX8_goInward_193 rfl (lv_at hl 4 rfl) ?_
          refine fz_get (D := (dC, dI)) (ci := 8) (v := .ref (h0 + 47)) (C := RX8) (T := TX8) (N := 2) hx hb hts inG8 hown hK hP (k := 45) (by decide) (F := (sF45 h0)) sE_45 rfl 1 (by decide) (hts _ k212) (fun _ h9 => h9) rfl dX8_goInward_194 ?_
          refine lv_iload_n hx hb dX8_goInward_197 rfl (lv_at hl 6 rfl) ?_
          refine lv_iload hx hb dX8_goInward_198 (lv_at hl 0 rfl) ?_
          refine fz_st (k := 47) (n := 1101) (i := i) (z := rn) hx hb hK hP fA_in hS 0 (by decide) sE_47 rfl ⟨by omega, by omega⟩ (by decide) dX8_goInward_200 (fun H locs hP hS => ?_)
          obtain ⟨μ2, eμ2⟩ : ∃ x : va_M, x = uz μ1 47 (i).toNat (rn) := ⟨_, rfl⟩
          rw [← eμ2] at hP
          exact W.vret hx hb hr (fun t9 ht9 hW9 => ⟨⟨μ2, rfl, (by
                            try dsimp only
                            rw [eμ2, eμ1]
                            exact ⟨fr_uz (fr_uz fr_rfl (Or.inl rfl)) (Or.inr rfl), aB_uz (aB_uz hA (fun _ => by omega)) (fun _ => by omega), gIw_2 (by omega) (by unfold lfW; rw [if_neg (by omega)]; exact hno)⟩), by rw [ht9]; exact hP, va_K.moved hW9.alike hK⟩, hS.F ht9⟩) hS.2.2 dX8_goInward_201
        · have mb3 := mb.2.2 (by omega)
          have hck := hcr k.toNat
          have hb1 := hA (k * (μ q 5 + 1) + i + (μ q 5 + 1) + 1).toNat
          have hb2 := hA (k * (μ q 5 + 1) + i + (μ q 5 + 1)).toNat
          refine lv_iload hx hb dX8_goInward_133 (lv_at hl 3 rfl) ?_
          refine lv_aload_n hx hb dX8_goInward_135 rfl (lv_at hl 7 rfl) ?_
          refine lv_iload hx hb dX8_goInward_136 (lv_at hl 8 rfl) ?_
          refine fz_ld (k := kc) (n := nc) hx hb hK hP 0 (by omega) hE rfl ⟨by omega, by omega⟩ (by omega) dX8_goInward_138 ?_
          refine va_calli (va_runS (As := [.int (iZ (μ (q + 1) (i).toNat)), .int (iZ (μ kc (k).toNat))]) (rest := []) ⟨hx, hb, hml, hown, hts⟩ (s_Wtakes2 l dC dI cI cZ cII cIII h0 H.size μ (μ (q + 1) (i).toNat) (μ kc (k).toNat) (by constructor <;> omega) (by exact hck)) (cwS 2 hts (gS_G k564 k565 k8 k566) rfl rfl rfl (by decide +kernel) ⟨Nat.le_of_ble_eq_true rfl, Nat.le_of_ble_eq_true rfl⟩) ⟨fun a U g mk q => by obtain ⟨q0, q1, qP, qK, qM⟩ := q; exact ⟨q0, q1, qP, va_K.moved (u := U) (U := U.calling g mk a) (Vm.Alike.refl U.vm) qK, qM⟩, fun U hU hW => ⟨rfl, by rw [hU], by rw [hU]; exact hP, va_K.moved hW.alike hK, xM_warm hW hM⟩⟩ rfl rfl hl.1 rfl (lv_room (Nat.le_of_ble_eq_true rfl)) dX8_goInward_139 ⟨Nat.le_of_ble_eq_true rfl, Nat.le_of_ble_eq_true rfl⟩) hS (fun q _ h => fA_le hS.1 q h) (fA_le hS.1) (fun r9 u9 t9 H1 locs ht9 hvm9 hw9 hB9 hz9 hk9 hS => ?_)
          obtain ⟨μk, rk⟩ := u9
          obtain ⟨hP, -⟩ := hB9
          rw [ht9] at hP
          generalize H1 = H at hP hS ⊢
          obtain ⟨e9, hw9⟩ := hw9
          have e9 : r9 = iZ rk := e9
          subst e9
          simp only at hP hw9
          have hμk := hw9; clear hw9
          rw [hμk.1] at hP; have hμk := hμk.2
          have hrk := hμk
          have hr01 := tkI_01 (μ (q + 1) i.toNat) (μ kc k.toNat)
          refine fz_if_eq (tgt := 159) (by constructor <;> omega) hx hb dX8_goInward_142 (by decide) (fun c142_ => ?_) (fun c142_ => ?_)
          · refine lv_iload hx hb dX8_goInward_159 (lv_at hl 10 rfl) ?_
            refine lv_iconst (v := iZ 1) hx hb dX8_goInward_161 rfl ?_
            refine fz_icmp_ne (tgt := 184) (by constructor <;> omega) (by decide) hx hb dX8_goInward_162 (by decide) (fun c162_ => ?_) (fun c162_ => ?_)
            · refine lv_aload_n hx hb dX8_goInward_184 rfl (lv_at hl 4 rfl) ?_
              refine fz_get (D := (dC, dI)) (ci := 8) (v := .ref (h0 + 46)) (C := RX8) (T := TX8) (N := 2) hx hb hts inG8 hown hK hP (k := 45) (by decide) (F := (sF45 h0)) sE_45 rfl 0 (by decide) (hts _ k211) (fun _ h9 => h9) rfl dX8_goInward_185 ?_
              refine lv_iload hx hb dX8_goInward_188 (lv_at hl 1 rfl) ?_
              refine lv_iload hx hb dX8_goInward_190 (lv_at hl 0 rfl) ?_
              refine fz_st (k := 46) (n := 67161) (i := ((k * ((μ q 5) + 1)) + i)) (z := rn) hx hb hK hP fA_in hS 0 (by decide) sE_46 rfl ⟨by omega, by omega⟩ (by decide) dX8_goInward_192 (fun H locs hP hS => ?_)
              obtain ⟨μ3, eμ3⟩ : ∃ x : va_M, x = uz μ 46 ((k * ((μ q 5) + 1)) + i).toNat (rn) := ⟨_, rfl⟩
              rw [← eμ3] at hP
              refine lv_aload_n hx hb dX8_goInward_193 rfl (lv_at hl 4 rfl) ?_
              refine fz_get (D := (dC, dI)) (ci := 8) (v := .ref (h0 + 47)) (C := RX8) (T := TX8) (N := 2) hx hb hts inG8 hown hK hP (k := 45) (by decide) (F := (sF45 h0)) sE_45 rfl 1 (by decide) (hts _ k212) (fun _ h9 => h9) rfl dX8_goInward_194 ?_
              refine lv_iload_n hx hb dX8_goInward_197 rfl (lv_at hl 6 rfl) ?_
              refine lv_iload hx hb dX8_goInward_198 (lv_at hl 0 rfl) ?_
              refine fz_st (k := 47) (n := 1101) (i := i) (z := rn) hx hb hK hP fA_in hS 0 (by decide) sE_47 rfl ⟨by omega, by omega⟩ (by decide) dX8_goInward_200 (fun H locs hP hS => ?_)
              obtain ⟨μ4, eμ4⟩ : ∃ x : va_M, x = uz μ3 47 (i).toNat (rn) := ⟨_, rfl⟩
              rw [← eμ4] at hP
              exact W.vret hx hb hr (fun t9 ht9 hW9 => ⟨⟨μ4, rfl, (by
                                    try dsimp only
                                    rw [eμ4, eμ3]
                                    exact ⟨fr_uz (fr_uz fr_rfl (Or.inl rfl)) (Or.inr rfl), aB_uz (aB_uz hA (fun _ => by omega)) (fun _ => by omega), gIw_2 (by omega) (by
                                      unfold lfW
                                      rw [if_pos (by omega), if_neg (by omega), if_neg (by omega), hno])⟩), by rw [ht9]; exact hP, va_K.moved hW9.alike hK⟩, hS.F ht9⟩) hS.2.2 dX8_goInward_201
            · refine lv_iload hx hb dX8_goInward_165 (lv_at hl 0 rfl) ?_
              refine lv_aload_n hx hb dX8_goInward_167 rfl (lv_at hl 4 rfl) ?_
              refine fz_get (D := (dC, dI)) (ci := 8) (v := .ref (h0 + 46)) (C := RX8) (T := TX8) (N := 2) hx hb hts inG8 hown hK hP (k := 45) (by decide) (F := (sF45 h0)) sE_45 rfl 0 (by decide) (hts _ k211) (fun _ h9 => h9) rfl dX8_goInward_168 ?_
              refine lv_iload hx hb dX8_goInward_171 (lv_at hl 1 rfl) ?_
              refine lv_iload hx hb dX8_goInward_173 (lv_at hl 2 rfl) ?_
              refine lv_iadd hx hb dX8_goInward_175 ?_
              refine lv_topi (fun x9 ex9 => ?_)
              obtain rfl : x9 = iZ (((k * ((μ q 5) + 1)) + i) + ((μ q 5) + 1)) := ex9.trans (iZ_add _ _)
              refine fz_ld (k := 46) (n := 67161) hx hb hK hP 0 (by decide) sE_46 rfl ⟨by omega, by omega⟩ (by decide) dX8_goInward_176 ?_
              refine lv_iconst (v := iZ 1) hx hb dX8_goInward_177 rfl ?_
              refine lv_iadd hx hb dX8_goInward_178 ?_
              refine lv_topi (fun x9 ex9 => ?_)
              obtain rfl : x9 = iZ ((μ 46 (((k * ((μ q 5) + 1)) + i) + ((μ q 5) + 1)).toNat) + 1) := ex9.trans (iZ_add _ _)
              refine va_mmin hx hb (hml.trans hl.1.symm) hown (hts _ k562) (hts _ k501) (hts _ k4) (hts _ k502) (Nat.le_of_ble_eq_true rfl) (Nat.le_of_ble_eq_true rfl) (Nat.le_of_ble_eq_true rfl) (Nat.le_of_ble_eq_true rfl) dX8_goInward_179 ?_
              refine lv_topi (fun x9 ex9 => ?_)
              obtain rfl : x9 = iZ (min rn ((μ 46 (((k * ((μ q 5) + 1)) + i) + ((μ q 5) + 1)).toNat) + 1)) := ex9.trans (iZ_mn (by constructor <;> omega) (by constructor <;> omega))
              refine lv_istore (lv' := [(10, .int (iZ (min rn ((μ 46 (((k * ((μ q 5) + 1)) + i) + ((μ q 5) + 1)).toNat) + 1)))), (9, .int (iZ ((k * ((μ q 5) + 1)) + i))), (8, .int (iZ ((μ q 5) + 1))), (7, .int (iZ (μ (q + 1) (i).toNat))), (0, .ref (h0 + 45)), (1, .ref (h0 + q)), (2, .int (iZ (i))), (3, .ref (h0 + kc)), (4, .int (iZ (k))), (5, .int (iZ (n))), (6, .int (iZ (hw)))]) hx hb dX8_goInward_182 hl (by decide) rfl (fun ls hl => ?_)
              refine lv_aload_n hx hb dX8_goInward_184 rfl (lv_at hl 4 rfl) ?_
              refine fz_get (D := (dC, dI)) (ci := 8) (v := .ref (h0 + 46)) (C := RX8) (T := TX8) (N := 2) hx hb hts inG8 hown hK hP (k := 45) (by decide) (F := (sF45 h0)) sE_45 rfl 0 (by decide) (hts _ k211) (fun _ h9 => h9) rfl dX8_goInward_185 ?_
              refine lv_iload hx hb dX8_goInward_188 (lv_at hl 1 rfl) ?_
              refine lv_iload hx hb dX8_goInward_190 (lv_at hl 0 rfl) ?_
              refine fz_st (k := 46) (n := 67161) (i := ((k * ((μ q 5) + 1)) + i)) (z := (min rn ((μ 46 (((k * ((μ q 5) + 1)) + i) + ((μ q 5) + 1)).toNat) + 1))) hx hb hK hP fA_in hS 0 (by decide) sE_46 rfl ⟨by omega, by omega⟩ (by decide) dX8_goInward_192 (fun H locs hP hS => ?_)
              obtain ⟨μ5, eμ5⟩ : ∃ x : va_M, x = uz μ 46 ((k * ((μ q 5) + 1)) + i).toNat (min rn ((μ 46 (((k * ((μ q 5) + 1)) + i) + ((μ q 5) + 1)).toNat) + 1)) := ⟨_, rfl⟩
              rw [← eμ5] at hP
              refine lv_aload_n hx hb dX8_goInward_193 rfl (lv_at hl 4 rfl) ?_
              refine fz_get (D := (dC, dI)) (ci := 8) (v := .ref (h0 + 47)) (C := RX8) (T := TX8) (N := 2) hx hb hts inG8 hown hK hP (k := 45) (by decide) (F := (sF45 h0)) sE_45 rfl 1 (by decide) (hts _ k212) (fun _ h9 => h9) rfl dX8_goInward_194 ?_
              refine lv_iload_n hx hb dX8_goInward_197 rfl (lv_at hl 6 rfl) ?_
              refine lv_iload hx hb dX8_goInward_198 (lv_at hl 0 rfl) ?_
              refine fz_st (k := 47) (n := 1101) (i := i) (z := (min rn ((μ 46 (((k * ((μ q 5) + 1)) + i) + ((μ q 5) + 1)).toNat) + 1))) hx hb hK hP fA_in hS 0 (by decide) sE_47 rfl ⟨by omega, by omega⟩ (by decide) dX8_goInward_200 (fun H locs hP hS => ?_)
              obtain ⟨μ6, eμ6⟩ : ∃ x : va_M, x = uz μ5 47 (i).toNat (min rn ((μ 46 (((k * ((μ q 5) + 1)) + i) + ((μ q 5) + 1)).toNat) + 1)) := ⟨_, rfl⟩
              rw [← eμ6] at hP
              exact W.vret hx hb hr (fun t9 ht9 hW9 => ⟨⟨μ6, rfl, (by
                                    try dsimp only
                                    rw [eμ6, eμ5]
                                    exact ⟨fr_uz (fr_uz fr_rfl (Or.inl rfl)) (Or.inr rfl), aB_uz (aB_uz hA (fun _ => by omega)) (fun _ => by omega), gIw_2 (by omega) (by
                                      unfold lfW
                                      rw [if_pos (by omega), if_pos (by omega), if_neg (by omega), hno])⟩), by rw [ht9]; exact hP, va_K.moved hW9.alike hK⟩, hS.F ht9⟩) hS.2.2 dX8_goInward_201
          · refine lv_aload_n hx hb dX8_goInward_145 rfl (lv_at hl 4 rfl) ?_
            refine fz_get (D := (dC, dI)) (ci := 8) (v := .ref (h0 + 46)) (C := RX8) (T := TX8) (N := 2) hx hb hts inG8 hown hK hP (k := 45) (by decide) (F := (sF45 h0)) sE_45 rfl 0 (by decide) (hts _ k211) (fun _ h9 => h9) rfl dX8_goInward_146 ?_
            refine lv_iload hx hb dX8_goInward_149 (lv_at hl 1 rfl) ?_
            refine lv_iload hx hb dX8_goInward_151 (lv_at hl 2 rfl) ?_
            refine lv_iadd hx hb dX8_goInward_153 ?_
            refine lv_topi (fun x9 ex9 => ?_)
            obtain rfl : x9 = iZ (((k * ((μ q 5) + 1)) + i) + ((μ q 5) + 1)) := ex9.trans (iZ_add _ _)
            refine lv_iconst (v := iZ 1) hx hb dX8_goInward_154 rfl ?_
            refine lv_iadd hx hb dX8_goInward_155 ?_
            refine lv_topi (fun x9 ex9 => ?_)
            obtain rfl : x9 = iZ ((((k * ((μ q 5) + 1)) + i) + ((μ q 5) + 1)) + 1) := ex9.trans (iZ_add _ _)
            refine fz_ld (k := 46) (n := 67161) hx hb hK hP 0 (by decide) sE_46 rfl ⟨by omega, by omega⟩ (by decide) dX8_goInward_156 ?_
            refine lv_istore (lv' := [(10, .int (iZ (μ 46 ((((k * ((μ q 5) + 1)) + i) + ((μ q 5) + 1)) + 1).toNat))), (9, .int (iZ ((k * ((μ q 5) + 1)) + i))), (8, .int (iZ ((μ q 5) + 1))), (7, .int (iZ (μ (q + 1) (i).toNat))), (0, .ref (h0 + 45)), (1, .ref (h0 + q)), (2, .int (iZ (i))), (3, .ref (h0 + kc)), (4, .int (iZ (k))), (5, .int (iZ (n))), (6, .int (iZ (hw)))]) hx hb dX8_goInward_157 hl (by decide) rfl (fun ls hl => ?_)
            refine lv_iload hx hb dX8_goInward_159 (lv_at hl 10 rfl) ?_
            refine lv_iconst (v := iZ 1) hx hb dX8_goInward_161 rfl ?_
            refine fz_icmp_ne (tgt := 184) (by constructor <;> omega) (by decide) hx hb dX8_goInward_162 (by decide) (fun c162_ => ?_) (fun c162_ => ?_)
            · refine lv_aload_n hx hb dX8_goInward_184 rfl (lv_at hl 4 rfl) ?_
              refine fz_get (D := (dC, dI)) (ci := 8) (v := .ref (h0 + 46)) (C := RX8) (T := TX8) (N := 2) hx hb hts inG8 hown hK hP (k := 45) (by decide) (F := (sF45 h0)) sE_45 rfl 0 (by decide) (hts _ k211) (fun _ h9 => h9) rfl dX8_goInward_185 ?_
              refine lv_iload hx hb dX8_goInward_188 (lv_at hl 1 rfl) ?_
              refine lv_iload hx hb dX8_goInward_190 (lv_at hl 0 rfl) ?_
              refine fz_st (k := 46) (n := 67161) (i := ((k * ((μ q 5) + 1)) + i)) (z := (μ 46 ((((k * ((μ q 5) + 1)) + i) + ((μ q 5) + 1)) + 1).toNat)) hx hb hK hP fA_in hS 0 (by decide) sE_46 rfl ⟨by omega, by omega⟩ (by decide) dX8_goInward_192 (fun H locs hP hS => ?_)
              obtain ⟨μ7, eμ7⟩ : ∃ x : va_M, x = uz μ 46 ((k * ((μ q 5) + 1)) + i).toNat (μ 46 ((((k * ((μ q 5) + 1)) + i) + ((μ q 5) + 1)) + 1).toNat) := ⟨_, rfl⟩
              rw [← eμ7] at hP
              refine lv_aload_n hx hb dX8_goInward_193 rfl (lv_at hl 4 rfl) ?_
              refine fz_get (D := (dC, dI)) (ci := 8) (v := .ref (h0 + 47)) (C := RX8) (T := TX8) (N := 2) hx hb hts inG8 hown hK hP (k := 45) (by decide) (F := (sF45 h0)) sE_45 rfl 1 (by decide) (hts _ k212) (fun _ h9 => h9) rfl dX8_goInward_194 ?_
              refine lv_iload_n hx hb dX8_goInward_197 rfl (lv_at hl 6 rfl) ?_
              refine lv_iload hx hb dX8_goInward_198 (lv_at hl 0 rfl) ?_
              refine fz_st (k := 47) (n := 1101) (i := i) (z := (μ 46 ((((k * ((μ q 5) + 1)) + i) + ((μ q 5) + 1)) + 1).toNat)) hx hb hK hP fA_in hS 0 (by decide) sE_47 rfl ⟨by omega, by omega⟩ (by decide) dX8_goInward_200 (fun H locs hP hS => ?_)
              obtain ⟨μ8, eμ8⟩ : ∃ x : va_M, x = uz μ7 47 (i).toNat (μ 46 ((((k * ((μ q 5) + 1)) + i) + ((μ q 5) + 1)) + 1).toNat) := ⟨_, rfl⟩
              rw [← eμ8] at hP
              exact W.vret hx hb hr (fun t9 ht9 hW9 => ⟨⟨μ8, rfl, (by
                                    try dsimp only
                                    rw [eμ8, eμ7]
                                    exact ⟨fr_uz (fr_uz fr_rfl (Or.inl rfl)) (Or.inr rfl), aB_uz (aB_uz hA (fun _ => by omega)) (fun _ => by omega), gIw_2 (by omega) (by
                                      unfold lfW
                                      rw [if_pos (by omega), if_neg (by omega), if_pos (by omega)])⟩), by rw [ht9]; exact hP, va_K.moved hW9.alike hK⟩, hS.F ht9⟩) hS.2.2 dX8_goInward_201
            · refine lv_iload hx hb dX8_goInward_165 (lv_at hl 0 rfl) ?_
              refine lv_aload_n hx hb dX8_goInward_167 rfl (lv_at hl 4 rfl) ?_
              refine fz_get (D := (dC, dI)) (ci := 8) (v := .ref (h0 + 46)) (C := RX8) (T := TX8) (N := 2) hx hb hts inG8 hown hK hP (k := 45) (by decide) (F := (sF45 h0)) sE_45 rfl 0 (by decide) (hts _ k211) (fun _ h9 => h9) rfl dX8_goInward_168 ?_
              refine lv_iload hx hb dX8_goInward_171 (lv_at hl 1 rfl) ?_
              refine lv_iload hx hb dX8_goInward_173 (lv_at hl 2 rfl) ?_
              refine lv_iadd hx hb dX8_goInward_175 ?_
              refine lv_topi (fun x9 ex9 => ?_)
              obtain rfl : x9 = iZ (((k * ((μ q 5) + 1)) + i) + ((μ q 5) + 1)) := ex9.trans (iZ_add _ _)
              refine fz_ld (k := 46) (n := 67161) hx hb hK hP 0 (by decide) sE_46 rfl ⟨by omega, by omega⟩ (by decide) dX8_goInward_176 ?_
              refine lv_iconst (v := iZ 1) hx hb dX8_goInward_177 rfl ?_
              refine lv_iadd hx hb dX8_goInward_178 ?_
              refine lv_topi (fun x9 ex9 => ?_)
              obtain rfl : x9 = iZ ((μ 46 (((k * ((μ q 5) + 1)) + i) + ((μ q 5) + 1)).toNat) + 1) := ex9.trans (iZ_add _ _)
              refine va_mmin hx hb (hml.trans hl.1.symm) hown (hts _ k562) (hts _ k501) (hts _ k4) (hts _ k502) (Nat.le_of_ble_eq_true rfl) (Nat.le_of_ble_eq_true rfl) (Nat.le_of_ble_eq_true rfl) (Nat.le_of_ble_eq_true rfl) dX8_goInward_179 ?_
              refine lv_topi (fun x9 ex9 => ?_)
              obtain rfl : x9 = iZ (min (μ 46 ((((k * ((μ q 5) + 1)) + i) + ((μ q 5) + 1)) + 1).toNat) ((μ 46 (((k * ((μ q 5) + 1)) + i) + ((μ q 5) + 1)).toNat) + 1)) := ex9.trans (iZ_mn (by constructor <;> omega) (by constructor <;> omega))
              refine lv_istore (lv' := [(10, .int (iZ (min (μ 46 ((((k * ((μ q 5) + 1)) + i) + ((μ q 5) + 1)) + 1).toNat) ((μ 46 (((k * ((μ q 5) + 1)) + i) + ((μ q 5) + 1)).toNat) + 1)))), (9, .int (iZ ((k * ((μ q 5) + 1)) + i))), (8, .int (iZ ((μ q 5) + 1))), (7, .int (iZ (μ (q + 1) (i).toNat))), (0, .ref (h0 + 45)), (1, .ref (h0 + q)), (2, .int (iZ (i))), (3, .ref (h0 + kc)), (4, .int (iZ (k))), (5, .int (iZ (n))), (6, .int (iZ (hw)))]) hx hb dX8_goInward_182 hl (by decide) rfl (fun ls hl => ?_)
              refine lv_aload_n hx hb dX8_goInward_184 rfl (lv_at hl 4 rfl) ?_
              refine fz_get (D := (dC, dI)) (ci := 8) (v := .ref (h0 + 46)) (C := RX8) (T := TX8) (N := 2) hx hb hts inG8 hown hK hP (k := 45) (by decide) (F := (sF45 h0)) sE_45 rfl 0 (by decide) (hts _ k211) (fun _ h9 => h9) rfl dX8_goInward_185 ?_
              refine lv_iload hx hb dX8_goInward_188 (lv_at hl 1 rfl) ?_
              refine lv_iload hx hb dX8_goInward_190 (lv_at hl 0 rfl) ?_
              refine fz_st (k := 46) (n := 67161) (i := ((k * ((μ q 5) + 1)) + i)) (z := (min (μ 46 ((((k * ((μ q 5) + 1)) + i) + ((μ q 5) + 1)) + 1).toNat) ((μ 46 (((k * ((μ q 5) + 1)) + i) + ((μ q 5) + 1)).toNat) + 1))) hx hb hK hP fA_in hS 0 (by decide) sE_46 rfl ⟨by omega, by omega⟩ (by decide) dX8_goInward_192 (fun H locs hP hS => ?_)
              obtain ⟨μ10, eμ10⟩ : ∃ x : va_M, x = uz μ 46 ((k * ((μ q 5) + 1)) + i).toNat (min (μ 46 ((((k * ((μ q 5) + 1)) + i) + ((μ q 5) + 1)) + 1).toNat) ((μ 46 (((k * ((μ q 5) + 1)) + i) + ((μ q 5) + 1)).toNat) + 1)) := ⟨_, rfl⟩
              rw [← eμ10] at hP
              refine lv_aload_n hx hb dX8_goInward_193 rfl (lv_at hl 4 rfl) ?_
              refine fz_get (D := (dC, dI)) (ci := 8) (v := .ref (h0 + 47)) (C := RX8) (T := TX8) (N := 2) hx hb hts inG8 hown hK hP (k := 45) (by decide) (F := (sF45 h0)) sE_45 rfl 1 (by decide) (hts _ k212) (fun _ h9 => h9) rfl dX8_goInward_194 ?_
              refine lv_iload_n hx hb dX8_goInward_197 rfl (lv_at hl 6 rfl) ?_
              refine lv_iload hx hb dX8_goInward_198 (lv_at hl 0 rfl) ?_
              refine fz_st (k := 47) (n := 1101) (i := i) (z := (min (μ 46 ((((k * ((μ q 5) + 1)) + i) + ((μ q 5) + 1)) + 1).toNat) ((μ 46 (((k * ((μ q 5) + 1)) + i) + ((μ q 5) + 1)).toNat) + 1))) hx hb hK hP fA_in hS 0 (by decide) sE_47 rfl ⟨by omega, by omega⟩ (by decide) dX8_goInward_200 (fun H locs hP hS => ?_)
              obtain ⟨μ11, eμ11⟩ : ∃ x : va_M, x = uz μ10 47 (i).toNat (min (μ 46 ((((k * ((μ q 5) + 1)) + i) + ((μ q 5) + 1)) + 1).toNat) ((μ 46 (((k * ((μ q 5) + 1)) + i) + ((μ q 5) + 1)).toNat) + 1)) := ⟨_, rfl⟩
              rw [← eμ11] at hP
              exact W.vret hx hb hr (fun t9 ht9 hW9 => ⟨⟨μ11, rfl, (by
                                    try dsimp only
                                    rw [eμ11, eμ10]
                                    exact ⟨fr_uz (fr_uz fr_rfl (Or.inl rfl)) (Or.inr rfl), aB_uz (aB_uz hA (fun _ => by omega)) (fun _ => by omega), gIw_2 (by omega) (by
                                      unfold lfW
                                      rw [if_pos (by omega), if_pos (by omega), if_pos (by omega)])⟩), by rw [ht9]; exact hP, va_K.moved hW9.alike hK⟩, hS.F ht9⟩) hS.2.2 dX8_goInward_201
      · refine lv_aload_n hx hb dX8_goInward_84 rfl (lv_at hl 1 rfl) ?_
        refine fz_get (D := (dC, dI)) (ci := 8) (v := .ref (h0 + 47)) (C := RX8) (T := TX8) (N := 2) hx hb hts inG8 hown hK hP (k := 45) (by decide) (F := (sF45 h0)) sE_45 rfl 1 (by decide) (hts _ k212) (fun _ h9 => h9) rfl dX8_goInward_85 ?_
        refine lv_iload_n hx hb dX8_goInward_88 rfl (lv_at hl 3 rfl) ?_
        refine lv_iload hx hb dX8_goInward_89 (lv_at hl 5 rfl) ?_
        refine lv_iload hx hb dX8_goInward_91 (lv_at hl 7 rfl) ?_
        refine va_calli (va_runS (As := [.int (iZ (k)), .int (iZ (hw))]) (rest := [.int (iZ (i)), .ref (h0 + 47)]) ⟨hx, hb, hml, hown, hts⟩ (s_Wnothing l dC dI cI cZ cII cIII h0 s.heap.size μ (k) (hw) (by constructor <;> omega) (by constructor <;> omega)) (cwS 2 hts (gS_G k550 k551 k8 k552) rfl rfl rfl (by decide +kernel) ⟨Nat.le_of_ble_eq_true rfl, Nat.le_of_ble_eq_true rfl⟩) ⟨fun a U g mk q => by obtain ⟨q0, q1, qP, qK, qM⟩ := q; exact ⟨q0, q1, qP, va_K.moved (u := U) (U := U.calling g mk a) (Vm.Alike.refl U.vm) qK, qM⟩, fun U hU hW => ⟨rfl, by rw [hU], by rw [hU]; exact hP, va_K.moved hW.alike hK, xM_warm hW hM⟩⟩ rfl rfl hl.1 rfl (lv_room (Nat.le_of_ble_eq_true rfl)) dX8_goInward_93 ⟨Nat.le_of_ble_eq_true rfl, Nat.le_of_ble_eq_true rfl⟩) hS (fun q _ h => fA_le hS.1 q h) (fA_le hS.1) (fun r9 u9 t9 H1 locs ht9 hvm9 hw9 hB9 hz9 hk9 hS => ?_)
        obtain ⟨μn, rn⟩ := u9
        obtain ⟨hP, -⟩ := hB9
        rw [ht9] at hP
        generalize H1 = H at hP hS ⊢
        obtain ⟨e9, hw9⟩ := hw9
        have e9 : r9 = iZ rn := e9
        subst e9
        simp only at hP hw9
        have hμn := hw9; clear hw9
        rw [hμn.1] at hP; have hμn := hμn.2
        have hrn := nb_b hμn (by omega)
        have hno : rn = wNo hw k := hμn
        refine fz_st (k := 47) (n := 1101) (i := i) (z := rn) hx hb hK hP fA_in hS 0 (by decide) sE_47 rfl ⟨by omega, by omega⟩ (by decide) dX8_goInward_96 (fun H locs hP hS => ?_)
        obtain ⟨μ12, eμ12⟩ : ∃ x : va_M, x = uz μ 47 (i).toNat (rn) := ⟨_, rfl⟩
        rw [← eμ12] at hP
        refine lv_goto (tgt := 201) hx hb dX8_goInward_97 (by decide) ?_
        exact W.vret hx hb hr (fun t9 ht9 hW9 => ⟨⟨μ12, rfl, (by
                        try dsimp only
                        rw [eμ12]
                        exact ⟨fr_uz fr_rfl (Or.inr rfl), aB_uz hA (fun _ => by omega), gIw_1 (by omega) (fun h9 => by omega) (fun h9 => by omega)⟩), by rw [ht9]; exact hP, va_K.moved hW9.alike hK⟩, hS.F ht9⟩) hS.2.2 dX8_goInward_201
    · have ha1 := hA (i + 1).toNat
      refine lv_aload_n hx hb dX8_goInward_59 rfl (lv_at hl 1 rfl) ?_
      refine fz_get (D := (dC, dI)) (ci := 8) (v := .ref (h0 + 47)) (C := RX8) (T := TX8) (N := 2) hx hb hts inG8 hown hK hP (k := 45) (by decide) (F := (sF45 h0)) sE_45 rfl 1 (by decide) (hts _ k212) (fun _ h9 => h9) rfl dX8_goInward_60 ?_
      refine lv_iload_n hx hb dX8_goInward_63 rfl (lv_at hl 3 rfl) ?_
      refine lv_aload_n hx hb dX8_goInward_64 rfl (lv_at hl 1 rfl) ?_
      refine fz_get (D := (dC, dI)) (ci := 8) (v := .ref (h0 + 47)) (C := RX8) (T := TX8) (N := 2) hx hb hts inG8 hown hK hP (k := 45) (by decide) (F := (sF45 h0)) sE_45 rfl 1 (by decide) (hts _ k212) (fun _ h9 => h9) rfl dX8_goInward_65 ?_
      refine lv_iload_n hx hb dX8_goInward_68 rfl (lv_at hl 3 rfl) ?_
      refine lv_iconst (v := iZ 1) hx hb dX8_goInward_69 rfl ?_
      refine lv_iadd hx hb dX8_goInward_70 ?_
      refine lv_topi (fun x9 ex9 => ?_)
      obtain rfl : x9 = iZ (i + 1) := ex9.trans (iZ_add _ _)
      refine fz_ld (k := 47) (n := 1101) hx hb hK hP 0 (by decide) sE_47 rfl ⟨by omega, by omega⟩ (by decide) dX8_goInward_71 ?_
      refine fz_st (k := 47) (n := 1101) (i := i) (z := (μ 47 (i + 1).toNat)) hx hb hK hP fA_in hS 0 (by decide) sE_47 rfl ⟨by omega, by omega⟩ (by decide) dX8_goInward_72 (fun H locs hP hS => ?_)
      obtain ⟨μ13, eμ13⟩ : ∃ x : va_M, x = uz μ 47 (i).toNat (μ 47 (i + 1).toNat) := ⟨_, rfl⟩
      rw [← eμ13] at hP
      refine lv_goto (tgt := 201) hx hb dX8_goInward_73 (by decide) ?_
      exact W.vret hx hb hr (fun t9 ht9 hW9 => ⟨⟨μ13, rfl, (by
                    try dsimp only
                    rw [eμ13]
                    exact ⟨fr_uz fr_rfl (Or.inr rfl), aB_uz hA (fun _ => by omega), gIw_1 (by omega) (fun h9 => by omega) (fun _ => by rw [ei1])⟩), by rw [ht9]; exact hP, va_K.moved hW9.alike hK⟩, hS.F ht9⟩) hS.2.2 dX8_goInward_201
  · have ha1 := hA (i + 1).toNat
    have ha2 := hA (μ (q + 2) i.toNat + 1).toNat
    refine lv_aload_n hx hb dX8_goInward_16 rfl (lv_at hl 1 rfl) ?_
    refine fz_get (D := (dC, dI)) (ci := 8) (v := .ref (h0 + 47)) (C := RX8) (T := TX8) (N := 2) hx hb hts inG8 hown hK hP (k := 45) (by decide) (F := (sF45 h0)) sE_45 rfl 1 (by decide) (hts _ k212) (fun _ h9 => h9) rfl dX8_goInward_17 ?_
    refine lv_iload_n hx hb dX8_goInward_20 rfl (lv_at hl 3 rfl) ?_
    refine lv_aload_n hx hb dX8_goInward_21 rfl (lv_at hl 1 rfl) ?_
    refine fz_get (D := (dC, dI)) (ci := 8) (v := .ref (h0 + 47)) (C := RX8) (T := TX8) (N := 2) hx hb hts inG8 hown hK hP (k := 45) (by decide) (F := (sF45 h0)) sE_45 rfl 1 (by decide) (hts _ k212) (fun _ h9 => h9) rfl dX8_goInward_22 ?_
    refine lv_iload_n hx hb dX8_goInward_25 rfl (lv_at hl 3 rfl) ?_
    refine lv_iconst (v := iZ 1) hx hb dX8_goInward_26 rfl ?_
    refine lv_iadd hx hb dX8_goInward_27 ?_
    refine lv_topi (fun x9 ex9 => ?_)
    obtain rfl : x9 = iZ (i + 1) := ex9.trans (iZ_add _ _)
    refine fz_ld (k := 47) (n := 1101) hx hb hK hP 0 (by decide) sE_47 rfl ⟨by omega, by omega⟩ (by decide) dX8_goInward_28 ?_
    refine lv_aload_n hx hb dX8_goInward_29 rfl (lv_at hl 1 rfl) ?_
    refine fz_get (D := (dC, dI)) (ci := 8) (v := .ref (h0 + 47)) (C := RX8) (T := TX8) (N := 2) hx hb hts inG8 hown hK hP (k := 45) (by decide) (F := (sF45 h0)) sE_45 rfl 1 (by decide) (hts _ k212) (fun _ h9 => h9) rfl dX8_goInward_30 ?_
    refine lv_aload_n hx hb dX8_goInward_33 rfl (lv_at hl 2 rfl) ?_
    refine fz_get (D := (dC, dI)) (ci := 4) (v := .ref (h0 + (q + 2))) (C := RX4) (T := TX4) (N := 8) hx hb hts inG4 hown hK hP (k := q) (by omega) (F := (sRF h0 q)) (sE_rowO hq) rfl 1 (by decide) (hts _ k86) (fun _ h9 => h9) rfl dX8_goInward_34 ?_
    refine lv_iload_n hx hb dX8_goInward_37 rfl (lv_at hl 3 rfl) ?_
    refine fz_ld (k := (q + 2)) (n := rm) hx hb hK hP 0 (by omega) (sE_rowA (r := 2) hq (by decide)) rfl ⟨by omega, by omega⟩ (by omega) dX8_goInward_38 ?_
    refine lv_iconst (v := iZ 1) hx hb dX8_goInward_39 rfl ?_
    refine lv_iadd hx hb dX8_goInward_40 ?_
    refine lv_topi (fun x9 ex9 => ?_)
    obtain rfl : x9 = iZ ((μ (q + 2) (i).toNat) + 1) := ex9.trans (iZ_add _ _)
    refine fz_ld (k := 47) (n := 1101) hx hb hK hP 0 (by decide) sE_47 rfl ⟨by omega, by omega⟩ (by decide) dX8_goInward_41 ?_
    refine lv_iload hx hb dX8_goInward_42 (lv_at hl 7 rfl) ?_
    refine va_calli (va_runS (As := [.int (iZ (μ 47 (i + 1).toNat)), .int (iZ (μ 47 ((μ (q + 2) (i).toNat) + 1).toNat)), .int (iZ (hw))]) (rest := [.int (iZ (i)), .ref (h0 + 47)]) ⟨hx, hb, hml, hown, hts⟩ (s_Weither l dC dI cI cZ cII cIII h0 s.heap.size μ (μ 47 (i + 1).toNat) (μ 47 ((μ (q + 2) (i).toNat) + 1).toNat) (hw) (by constructor <;> omega) (by constructor <;> omega) (by constructor <;> omega) (by omega)) (cwS 3 hts (gS_G k558 k559 k8 k560) rfl rfl rfl (by decide +kernel) ⟨Nat.le_of_ble_eq_true rfl, Nat.le_of_ble_eq_true rfl⟩) ⟨fun a U g mk q => by obtain ⟨q0, q1, qP, qK, qM⟩ := q; exact ⟨q0, q1, qP, va_K.moved (u := U) (U := U.calling g mk a) (Vm.Alike.refl U.vm) qK, qM⟩, fun U hU hW => ⟨rfl, by rw [hU], by rw [hU]; exact hP, va_K.moved hW.alike hK, xM_warm hW hM⟩⟩ rfl rfl hl.1 rfl (lv_room (Nat.le_of_ble_eq_true rfl)) dX8_goInward_44 ⟨Nat.le_of_ble_eq_true rfl, Nat.le_of_ble_eq_true rfl⟩) hS (fun q _ h => fA_le hS.1 q h) (fA_le hS.1) (fun r9 u9 t9 H1 locs ht9 hvm9 hw9 hB9 hz9 hk9 hS => ?_)
    obtain ⟨μe, re⟩ := u9
    obtain ⟨hP, -⟩ := hB9
    rw [ht9] at hP
    generalize H1 = H at hP hS ⊢
    obtain ⟨e9, hw9⟩ := hw9
    have e9 : r9 = iZ re := e9
    subst e9
    simp only at hP hw9
    have hμe := hw9; clear hw9
    rw [hμe.1] at hP; have hμe := hμe.2
    have hre := ei_b hμe ⟨ha1.2.1, ha1.2.2, ha2.2.1, ha2.2.2⟩
    have hre0 : re = wEi hw (μ 47 (i.toNat + 1)) (μ 47 (μ (q + 2) i.toNat + 1).toNat) := by
      have h9 := hμe
      rw [ei1] at h9
      exact h9
    refine fz_st (k := 47) (n := 1101) (i := i) (z := re) hx hb hK hP fA_in hS 0 (by decide) sE_47 rfl ⟨by omega, by omega⟩ (by decide) dX8_goInward_47 (fun H locs hP hS => ?_)
    obtain ⟨μ14, eμ14⟩ : ∃ x : va_M, x = uz μ 47 (i).toNat (re) := ⟨_, rfl⟩
    rw [← eμ14] at hP
    refine lv_goto (tgt := 201) hx hb dX8_goInward_48 (by decide) ?_
    exact W.vret hx hb hr (fun t9 ht9 hW9 => ⟨⟨μ14, rfl, (by
                try dsimp only
                rw [eμ14]
                exact ⟨fr_uz fr_rfl (Or.inr rfl), aB_uz hA (fun _ => by omega), gIw_1 (by omega) (fun _ => hre0) (fun h9 => by omega)⟩), by rw [ht9]; exact hP, va_K.moved hW9.alike hK⟩, hS.F ht9⟩) hS.2.2 dX8_goInward_201
set_option maxHeartbeats 4000000 in
set_option maxRecDepth 100000 in
theorem s_WgoOn2 (l : Launch) (dC : Nat → ClassId) (dI : Nat → Nat → Nat) (cI cZ cII cIII : ClassId) (h0 sz : Nat) (μ : va_M) (q : Nat) (rm : Nat) (i : Int) (bs : Int) (hw : Int) (hq : rowB q rm) (hG : rG μ q rm) (hA : aB μ) (h_i : 0 ≤ i ∧ i < μ q 5) (h_b : 0 ≤ bs ∧ bs ≤ 66060) (h_w : 0 ≤ hw ∧ hw ≤ 2) : Met l yX8_goOn (Cond.code yX8_goOn cX8_goOn 7 none :: wsG) ({ frames := 2, cells := 0, slots := 0, locals := 43 } : Room) (va_Pc [.ref (h0 + 45), .ref (h0 + q), .int (iZ (i)), .int (iZ (bs)), .int (iZ (hw))] (fun U => U.heap.size = sz ∧ va_P (dC, dI) vwCl (fw (sE cI cZ cII cIII h0) h0 233 μ) U.heap ∧ va_K (dC, dI) vwCl (sT cI cZ cII cIII) U ∧ xM U)) (va_Qv (fun (u : va_M) => fr (fun x _ => x = 46 ∨ x = 47) μ u ∧ aB u ∧ gO μ u q i.toNat (bs + i).toNat hw (bs + μ (q + 2) i.toNat + 1).toNat (bs + i + 1).toNat) (fun u t => va_P (dC, dI) vwCl (fw (sE cI cZ cII cIII h0) h0 233 u) t.heap ∧ va_K (dC, dI) vwCl (sT cI cZ cII cIII) t) (fA h0 233 sz)) 0 0 (fA h0 233 sz) := by
  refine Met.ofW (cc := cX8_goOn) (maxL := 7) (ret := none) (by decide) rfl ?_
  intro p e s m args below meth c s₁ B hml hv
  obtain ⟨rfl, hsz, hP, hK, hM⟩ := hv
  have hx := B.exec
  have hb := B.bytes
  have hr := B.returns
  have hts : ∀ w ∈ wsG, w.before _ s = true := hG_of (atoms_spec (ws := (Cond.code yX8_goOn cX8_goOn 7 none :: wsG)) B.pre)
  have hown : s.vm.findClass RX8 = some m.cls := findClass_of_methodNamed B.named
  have hlocks := B.notSynchronized
  subst hsz
  have hS : va_S (fA h0 233 s.heap.size) s.heap s.heap [] := va_S.rf
  have hl := lv_entry ([.ref (h0 + 45), .ref (h0 + q), .int (iZ (i)), .int (iZ (bs)), .int (iZ (hw))]) (n := 7) (Nat.le_of_ble_eq_true rfl)
  rw [lg_entry_eq]
  generalize (lg_sl ([.ref (h0 + 45), .ref (h0 + q), .int (iZ (i)), .int (iZ (bs)), .int (iZ (hw))]) ++ List.replicate (7 - (lg_sl ([.ref (h0 + 45), .ref (h0 + q), .int (iZ (i)), .int (iZ (bs)), .int (iZ (hw))])).length) Slot.unset).toArray = ls at hl ⊢
  have hl : lv_has ls 7 [(0, .ref (h0 + 45)), (1, .ref (h0 + q)), (2, .int (iZ (i))), (3, .int (iZ (bs))), (4, .int (iZ (hw)))] := hl
  have hqb := rowB_b hq
  have hrm := rG_rm hq hG
  have hqf := rowB_f hq
  have hs1 := hG.1 i.toNat
  have hmi := rG_m hG i h_i.1 h_i.2
  have hs2 := hG.1 (μ (q + 2) i.toNat).toNat
  refine lv_aload_n hx hb dX8_goOn_0 rfl (lv_at hl 1 rfl) ?_
  refine fz_get (D := (dC, dI)) (ci := 4) (v := .ref (h0 + (q + 1))) (C := RX4) (T := TX4) (N := 8) hx hb hts inG4 hown hK hP (k := q) (by omega) (F := (sRF h0 q)) (sE_rowO hq) rfl 0 (by decide) (hts _ k81) (fun _ h9 => h9) rfl dX8_goOn_1 ?_
  refine lv_iload_n hx hb dX8_goOn_4 rfl (lv_at hl 2 rfl) ?_
  refine fz_ld (k := (q + 1)) (n := rm) hx hb hK hP 0 (by omega) (sE_rowA (r := 1) hq (by decide)) rfl ⟨by omega, by omega⟩ (by omega) dX8_goOn_5 ?_
  refine lv_istore (lv' := [(5, .int (iZ (μ (q + 1) (i).toNat))), (0, .ref (h0 + 45)), (1, .ref (h0 + q)), (2, .int (iZ (i))), (3, .int (iZ (bs))), (4, .int (iZ (hw)))]) hx hb dX8_goOn_6 hl (by decide) rfl (fun ls hl => ?_)
  refine lv_iload hx hb dX8_goOn_8 (lv_at hl 0 rfl) ?_
  refine va_calli (va_runSN (As := [.int (iZ (μ (q + 1) (i).toNat))]) (rest := []) ⟨hx, hb, hml, hown, hts⟩ (s_isLeaf l dC dI cI cZ cII cIII h0 s.heap.size μ (μ (q + 1) (i).toNat) (by first | assumption | omega | exact ⟨by omega, by omega⟩)) ⟨va_cnB (host := "PageSkeleton") 1 hts (gI_G k420) rfl rfl rfl (xM_nest hM 13 rfl) (hts _ k1) (by decide +kernel) ⟨Nat.le_of_ble_eq_true rfl, Nat.le_of_ble_eq_true rfl⟩, hts _ k419, trivial⟩ ⟨fun a U g mk q => by obtain ⟨q0, q1, qP, qK, qM⟩ := q; exact ⟨q0, q1, qP, va_K.moved (u := U) (U := U.calling g mk a) (Vm.Alike.refl U.vm) qK, qM⟩, fun U hU hW => ⟨rfl, by rw [hU], by rw [hU]; exact hP, va_K.moved hW.alike hK, xM_warm hW hM⟩⟩ rfl rfl hl.1 rfl (lv_room (Nat.le_of_ble_eq_true rfl)) dX8_goOn_10 ⟨Nat.le_of_ble_eq_true rfl, Nat.le_of_ble_eq_true rfl⟩) hS (fun q _ h => fA_le hS.1 q h) (fA_le hS.1) (fun r9 u9 t9 H1 locs ht9 hvm9 hw9 hB9 hz9 hk9 hS => ?_)
  obtain ⟨μ1, r2⟩ := u9
  obtain ⟨hP, -⟩ := hB9
  rw [ht9] at hP
  generalize H1 = H at hP hS ⊢
  obtain ⟨e9, hw9⟩ := hw9
  have e9 : r9 = iZ r2 := e9
  subst e9
  simp only at hP hw9
  have hμ1 := hw9; clear hw9
  rw [hμ1.1] at hP; have hμ1 := hμ1.2
  have hlf := if_01 hμ1
  have hlfe := if_el hμ1
  refine fz_if_eq (tgt := 17) (by constructor <;> omega) hx hb dX8_goOn_13 (by decide) (fun c13_ => ?_) (fun c13_ => ?_)
  · have ha1 := hA (bs + i + 1).toNat
    refine lv_aload_n hx hb dX8_goOn_17 rfl (lv_at hl 1 rfl) ?_
    refine fz_get (D := (dC, dI)) (ci := 8) (v := .ref (h0 + 46)) (C := RX8) (T := TX8) (N := 2) hx hb hts inG8 hown hK hP (k := 45) (by decide) (F := (sF45 h0)) sE_45 rfl 0 (by decide) (hts _ k211) (fun _ h9 => h9) rfl dX8_goOn_18 ?_
    refine lv_iload_n hx hb dX8_goOn_21 rfl (lv_at hl 4 rfl) ?_
    refine lv_iload_n hx hb dX8_goOn_22 rfl (lv_at hl 3 rfl) ?_
    refine lv_iadd hx hb dX8_goOn_23 ?_
    refine lv_topi (fun x9 ex9 => ?_)
    obtain rfl : x9 = iZ (bs + i) := ex9.trans (iZ_add _ _)
    refine lv_iconst (v := iZ 1) hx hb dX8_goOn_24 rfl ?_
    refine lv_iadd hx hb dX8_goOn_25 ?_
    refine lv_topi (fun x9 ex9 => ?_)
    obtain rfl : x9 = iZ ((bs + i) + 1) := ex9.trans (iZ_add _ _)
    refine fz_ld (k := 46) (n := 67161) hx hb hK hP 0 (by decide) sE_46 rfl ⟨by omega, by omega⟩ (by decide) dX8_goOn_26 ?_
    refine lv_istore (lv' := [(6, .int (iZ (μ 46 ((bs + i) + 1).toNat))), (5, .int (iZ (μ (q + 1) (i).toNat))), (0, .ref (h0 + 45)), (1, .ref (h0 + q)), (2, .int (iZ (i))), (3, .int (iZ (bs))), (4, .int (iZ (hw)))]) hx hb dX8_goOn_27 hl (by decide) rfl (fun ls hl => ?_)
    refine lv_iload hx hb dX8_goOn_29 (lv_at hl 1 rfl) ?_
    refine lv_sipush (v := iZ 513) hx hb dX8_goOn_31 rfl ?_
    refine fz_icmp_ne (tgt := 64) (by constructor <;> omega) (by decide) hx hb dX8_goOn_34 (by decide) (fun c34_ => ?_) (fun c34_ => ?_)
    · refine lv_iload hx hb dX8_goOn_64 (lv_at hl 1 rfl) ?_
      refine lv_sipush (v := iZ 515) hx hb dX8_goOn_66 rfl ?_
      refine fz_icmp_ne (tgt := 111) (by constructor <;> omega) (by decide) hx hb dX8_goOn_69 (by decide) (fun c69_ => ?_) (fun c69_ => ?_)
      · refine lv_aload_n hx hb dX8_goOn_111 rfl (lv_at hl 2 rfl) ?_
        refine fz_get (D := (dC, dI)) (ci := 8) (v := .ref (h0 + 46)) (C := RX8) (T := TX8) (N := 2) hx hb hts inG8 hown hK hP (k := 45) (by decide) (F := (sF45 h0)) sE_45 rfl 0 (by decide) (hts _ k211) (fun _ h9 => h9) rfl dX8_goOn_112 ?_
        refine lv_iload_n hx hb dX8_goOn_115 rfl (lv_at hl 5 rfl) ?_
        refine lv_iload_n hx hb dX8_goOn_116 rfl (lv_at hl 4 rfl) ?_
        refine lv_iadd hx hb dX8_goOn_117 ?_
        refine lv_topi (fun x9 ex9 => ?_)
        obtain rfl : x9 = iZ (bs + i) := ex9.trans (iZ_add _ _)
        refine lv_iload hx hb dX8_goOn_118 (lv_at hl 0 rfl) ?_
        refine fz_st (k := 46) (n := 67161) (i := (bs + i)) (z := (μ 46 ((bs + i) + 1).toNat)) hx hb hK hP fA_in hS 0 (by decide) sE_46 rfl ⟨by omega, by omega⟩ (by decide) dX8_goOn_120 (fun H locs hP hS => ?_)
        obtain ⟨μ3, eμ3⟩ : ∃ x : va_M, x = uz μ 46 (bs + i).toNat (μ 46 ((bs + i) + 1).toNat) := ⟨_, rfl⟩
        rw [← eμ3] at hP
        exact W.vret hx hb hr (fun t9 ht9 hW9 => ⟨⟨μ3, rfl, (by
                        try dsimp only
                        rw [eμ3]
                        exact ⟨fr_uz fr_rfl (Or.inl rfl), aB_uz hA (fun _ => by omega), gO_1 (by omega) (fun h9 => by omega) (fun _ => rfl) (fun h9 => by omega)⟩), by rw [ht9]; exact hP, va_K.moved hW9.alike hK⟩, hS.F ht9⟩) hS.2.2 dX8_goOn_121
      · refine lv_aload_n hx hb dX8_goOn_72 rfl (lv_at hl 3 rfl) ?_
        refine fz_get (D := (dC, dI)) (ci := 4) (v := .ref (h0 + (q + 1))) (C := RX4) (T := TX4) (N := 8) hx hb hts inG4 hown hK hP (k := q) (by omega) (F := (sRF h0 q)) (sE_rowO hq) rfl 0 (by decide) (hts _ k81) (fun _ h9 => h9) rfl dX8_goOn_73 ?_
        refine lv_aload_n hx hb dX8_goOn_76 rfl (lv_at hl 3 rfl) ?_
        refine fz_get (D := (dC, dI)) (ci := 4) (v := .ref (h0 + (q + 2))) (C := RX4) (T := TX4) (N := 8) hx hb hts inG4 hown hK hP (k := q) (by omega) (F := (sRF h0 q)) (sE_rowO hq) rfl 1 (by decide) (hts _ k86) (fun _ h9 => h9) rfl dX8_goOn_77 ?_
        refine lv_iload_n hx hb dX8_goOn_80 rfl (lv_at hl 4 rfl) ?_
        refine fz_ld (k := (q + 2)) (n := rm) hx hb hK hP 0 (by omega) (sE_rowA (r := 2) hq (by decide)) rfl ⟨by omega, by omega⟩ (by omega) dX8_goOn_81 ?_
        refine fz_ld (k := (q + 1)) (n := rm) hx hb hK hP 0 (by omega) (sE_rowA (r := 1) hq (by decide)) rfl ⟨by omega, by omega⟩ (by omega) dX8_goOn_82 ?_
        refine lv_sipush (v := iZ 514) hx hb dX8_goOn_83 rfl ?_
        refine fz_icmp_ne (tgt := 111) (by constructor <;> omega) (by decide) hx hb dX8_goOn_86 (by decide) (fun c86_ => ?_) (fun c86_ => ?_)
        · refine lv_aload_n hx hb dX8_goOn_111 rfl (lv_at hl 2 rfl) ?_
          refine fz_get (D := (dC, dI)) (ci := 8) (v := .ref (h0 + 46)) (C := RX8) (T := TX8) (N := 2) hx hb hts inG8 hown hK hP (k := 45) (by decide) (F := (sF45 h0)) sE_45 rfl 0 (by decide) (hts _ k211) (fun _ h9 => h9) rfl dX8_goOn_112 ?_
          refine lv_iload_n hx hb dX8_goOn_115 rfl (lv_at hl 5 rfl) ?_
          refine lv_iload_n hx hb dX8_goOn_116 rfl (lv_at hl 4 rfl) ?_
          refine lv_iadd hx hb dX8_goOn_117 ?_
          refine lv_topi (fun x9 ex9 => ?_)
          obtain rfl : x9 = iZ (bs + i) := ex9.trans (iZ_add _ _)
          refine lv_iload hx hb dX8_goOn_118 (lv_at hl 0 rfl) ?_
          refine fz_st (k := 46) (n := 67161) (i := (bs + i)) (z := (μ 46 ((bs + i) + 1).toNat)) hx hb hK hP fA_in hS 0 (by decide) sE_46 rfl ⟨by omega, by omega⟩ (by decide) dX8_goOn_120 (fun H locs hP hS => ?_)
          obtain ⟨μ4, eμ4⟩ : ∃ x : va_M, x = uz μ 46 (bs + i).toNat (μ 46 ((bs + i) + 1).toNat) := ⟨_, rfl⟩
          rw [← eμ4] at hP
          exact W.vret hx hb hr (fun t9 ht9 hW9 => ⟨⟨μ4, rfl, (by
                            try dsimp only
                            rw [eμ4]
                            exact ⟨fr_uz fr_rfl (Or.inl rfl), aB_uz hA (fun _ => by omega), gO_1 (by omega) (fun h9 => by omega) (fun h9 => by omega) (fun _ => by rw [if_neg (by omega)])⟩), by rw [ht9]; exact hP, va_K.moved hW9.alike hK⟩, hS.F ht9⟩) hS.2.2 dX8_goOn_121
        · have ha2 := hA (μ (q + 2) i.toNat + 1).toNat
          refine lv_aload_n hx hb dX8_goOn_89 rfl (lv_at hl 2 rfl) ?_
          refine fz_get (D := (dC, dI)) (ci := 8) (v := .ref (h0 + 47)) (C := RX8) (T := TX8) (N := 2) hx hb hts inG8 hown hK hP (k := 45) (by decide) (F := (sF45 h0)) sE_45 rfl 1 (by decide) (hts _ k212) (fun _ h9 => h9) rfl dX8_goOn_90 ?_
          refine lv_aload_n hx hb dX8_goOn_93 rfl (lv_at hl 3 rfl) ?_
          refine fz_get (D := (dC, dI)) (ci := 4) (v := .ref (h0 + (q + 2))) (C := RX4) (T := TX4) (N := 8) hx hb hts inG4 hown hK hP (k := q) (by omega) (F := (sRF h0 q)) (sE_rowO hq) rfl 1 (by decide) (hts _ k86) (fun _ h9 => h9) rfl dX8_goOn_94 ?_
          refine lv_iload_n hx hb dX8_goOn_97 rfl (lv_at hl 4 rfl) ?_
          refine fz_ld (k := (q + 2)) (n := rm) hx hb hK hP 0 (by omega) (sE_rowA (r := 2) hq (by decide)) rfl ⟨by omega, by omega⟩ (by omega) dX8_goOn_98 ?_
          refine lv_iconst (v := iZ 1) hx hb dX8_goOn_99 rfl ?_
          refine lv_iadd hx hb dX8_goOn_100 ?_
          refine lv_topi (fun x9 ex9 => ?_)
          obtain rfl : x9 = iZ ((μ (q + 2) (i).toNat) + 1) := ex9.trans (iZ_add _ _)
          refine fz_ld (k := 47) (n := 1101) hx hb hK hP 0 (by decide) sE_47 rfl ⟨by omega, by omega⟩ (by decide) dX8_goOn_101 ?_
          refine lv_iload hx hb dX8_goOn_102 (lv_at hl 0 rfl) ?_
          refine lv_iload hx hb dX8_goOn_104 (lv_at hl 6 rfl) ?_
          refine va_calli (va_runS (As := [.int (iZ (μ 47 ((μ (q + 2) (i).toNat) + 1).toNat)), .int (iZ (μ 46 ((bs + i) + 1).toNat)), .int (iZ (hw))]) (rest := []) ⟨hx, hb, hml, hown, hts⟩ (s_Weither l dC dI cI cZ cII cIII h0 H.size μ (μ 47 ((μ (q + 2) (i).toNat) + 1).toNat) (μ 46 ((bs + i) + 1).toNat) (hw) (by constructor <;> omega) (by constructor <;> omega) (by constructor <;> omega) (by omega)) (cwS 3 hts (gS_G k558 k559 k8 k560) rfl rfl rfl (by decide +kernel) ⟨Nat.le_of_ble_eq_true rfl, Nat.le_of_ble_eq_true rfl⟩) ⟨fun a U g mk q => by obtain ⟨q0, q1, qP, qK, qM⟩ := q; exact ⟨q0, q1, qP, va_K.moved (u := U) (U := U.calling g mk a) (Vm.Alike.refl U.vm) qK, qM⟩, fun U hU hW => ⟨rfl, by rw [hU], by rw [hU]; exact hP, va_K.moved hW.alike hK, xM_warm hW hM⟩⟩ rfl rfl hl.1 rfl (lv_room (Nat.le_of_ble_eq_true rfl)) dX8_goOn_106 ⟨Nat.le_of_ble_eq_true rfl, Nat.le_of_ble_eq_true rfl⟩) hS (fun q _ h => fA_le hS.1 q h) (fA_le hS.1) (fun r9 u9 t9 H1 locs ht9 hvm9 hw9 hB9 hz9 hk9 hS => ?_)
          obtain ⟨μf, rf⟩ := u9
          obtain ⟨hP, -⟩ := hB9
          rw [ht9] at hP
          generalize H1 = H at hP hS ⊢
          obtain ⟨e9, hw9⟩ := hw9
          have e9 : r9 = iZ rf := e9
          subst e9
          simp only at hP hw9
          have hμf := hw9; clear hw9
          rw [hμf.1] at hP; have hμf := hμf.2
          have hrf := ei_b hμf ⟨ha2.2.1, ha2.2.2, ha1.1.1, ha1.1.2⟩
          have hrf0 : rf = wEi hw (μ 47 (μ (q + 2) i.toNat + 1).toNat) (μ 46 (bs + i + 1).toNat) := hμf
          refine lv_istore (lv' := [(6, .int (iZ (rf))), (5, .int (iZ (μ (q + 1) (i).toNat))), (0, .ref (h0 + 45)), (1, .ref (h0 + q)), (2, .int (iZ (i))), (3, .int (iZ (bs))), (4, .int (iZ (hw)))]) hx hb dX8_goOn_109 hl (by decide) rfl (fun ls hl => ?_)
          refine lv_aload_n hx hb dX8_goOn_111 rfl (lv_at hl 2 rfl) ?_
          refine fz_get (D := (dC, dI)) (ci := 8) (v := .ref (h0 + 46)) (C := RX8) (T := TX8) (N := 2) hx hb hts inG8 hown hK hP (k := 45) (by decide) (F := (sF45 h0)) sE_45 rfl 0 (by decide) (hts _ k211) (fun _ h9 => h9) rfl dX8_goOn_112 ?_
          refine lv_iload_n hx hb dX8_goOn_115 rfl (lv_at hl 5 rfl) ?_
          refine lv_iload_n hx hb dX8_goOn_116 rfl (lv_at hl 4 rfl) ?_
          refine lv_iadd hx hb dX8_goOn_117 ?_
          refine lv_topi (fun x9 ex9 => ?_)
          obtain rfl : x9 = iZ (bs + i) := ex9.trans (iZ_add _ _)
          refine lv_iload hx hb dX8_goOn_118 (lv_at hl 0 rfl) ?_
          refine fz_st (k := 46) (n := 67161) (i := (bs + i)) (z := rf) hx hb hK hP fA_in hS 0 (by decide) sE_46 rfl ⟨by omega, by omega⟩ (by decide) dX8_goOn_120 (fun H locs hP hS => ?_)
          obtain ⟨μ5, eμ5⟩ : ∃ x : va_M, x = uz μ 46 (bs + i).toNat (rf) := ⟨_, rfl⟩
          rw [← eμ5] at hP
          exact W.vret hx hb hr (fun t9 ht9 hW9 => ⟨⟨μ5, rfl, (by
                            try dsimp only
                            rw [eμ5]
                            exact ⟨fr_uz fr_rfl (Or.inl rfl), aB_uz hA (fun _ => by omega), gO_1 (by omega) (fun h9 => by omega) (fun h9 => by omega) (fun _ => by rw [if_pos (by omega)]; exact hrf0)⟩), by rw [ht9]; exact hP, va_K.moved hW9.alike hK⟩, hS.F ht9⟩) hS.2.2 dX8_goOn_121
    · have ha2 := hA (bs + μ (q + 2) i.toNat + 1).toNat
      refine lv_iload hx hb dX8_goOn_37 (lv_at hl 0 rfl) ?_
      refine lv_aload_n hx hb dX8_goOn_39 rfl (lv_at hl 2 rfl) ?_
      refine fz_get (D := (dC, dI)) (ci := 8) (v := .ref (h0 + 46)) (C := RX8) (T := TX8) (N := 2) hx hb hts inG8 hown hK hP (k := 45) (by decide) (F := (sF45 h0)) sE_45 rfl 0 (by decide) (hts _ k211) (fun _ h9 => h9) rfl dX8_goOn_40 ?_
      refine lv_iload_n hx hb dX8_goOn_43 rfl (lv_at hl 5 rfl) ?_
      refine lv_aload_n hx hb dX8_goOn_44 rfl (lv_at hl 3 rfl) ?_
      refine fz_get (D := (dC, dI)) (ci := 4) (v := .ref (h0 + (q + 2))) (C := RX4) (T := TX4) (N := 8) hx hb hts inG4 hown hK hP (k := q) (by omega) (F := (sRF h0 q)) (sE_rowO hq) rfl 1 (by decide) (hts _ k86) (fun _ h9 => h9) rfl dX8_goOn_45 ?_
      refine lv_iload_n hx hb dX8_goOn_48 rfl (lv_at hl 4 rfl) ?_
      refine fz_ld (k := (q + 2)) (n := rm) hx hb hK hP 0 (by omega) (sE_rowA (r := 2) hq (by decide)) rfl ⟨by omega, by omega⟩ (by omega) dX8_goOn_49 ?_
      refine lv_iadd hx hb dX8_goOn_50 ?_
      refine lv_topi (fun x9 ex9 => ?_)
      obtain rfl : x9 = iZ (bs + (μ (q + 2) (i).toNat)) := ex9.trans (iZ_add _ _)
      refine lv_iconst (v := iZ 1) hx hb dX8_goOn_51 rfl ?_
      refine lv_iadd hx hb dX8_goOn_52 ?_
      refine lv_topi (fun x9 ex9 => ?_)
      obtain rfl : x9 = iZ ((bs + (μ (q + 2) (i).toNat)) + 1) := ex9.trans (iZ_add _ _)
      refine fz_ld (k := 46) (n := 67161) hx hb hK hP 0 (by decide) sE_46 rfl ⟨by omega, by omega⟩ (by decide) dX8_goOn_53 ?_
      refine lv_iload hx hb dX8_goOn_54 (lv_at hl 6 rfl) ?_
      refine va_calli (va_runS (As := [.int (iZ (μ 46 ((bs + i) + 1).toNat)), .int (iZ (μ 46 ((bs + (μ (q + 2) (i).toNat)) + 1).toNat)), .int (iZ (hw))]) (rest := []) ⟨hx, hb, hml, hown, hts⟩ (s_Weither l dC dI cI cZ cII cIII h0 H.size μ (μ 46 ((bs + i) + 1).toNat) (μ 46 ((bs + (μ (q + 2) (i).toNat)) + 1).toNat) (hw) (by constructor <;> omega) (by constructor <;> omega) (by constructor <;> omega) (by omega)) (cwS 3 hts (gS_G k558 k559 k8 k560) rfl rfl rfl (by decide +kernel) ⟨Nat.le_of_ble_eq_true rfl, Nat.le_of_ble_eq_true rfl⟩) ⟨fun a U g mk q => by obtain ⟨q0, q1, qP, qK, qM⟩ := q; exact ⟨q0, q1, qP, va_K.moved (u := U) (U := U.calling g mk a) (Vm.Alike.refl U.vm) qK, qM⟩, fun U hU hW => ⟨rfl, by rw [hU], by rw [hU]; exact hP, va_K.moved hW.alike hK, xM_warm hW hM⟩⟩ rfl rfl hl.1 rfl (lv_room (Nat.le_of_ble_eq_true rfl)) dX8_goOn_56 ⟨Nat.le_of_ble_eq_true rfl, Nat.le_of_ble_eq_true rfl⟩) hS (fun q _ h => fA_le hS.1 q h) (fA_le hS.1) (fun r9 u9 t9 H1 locs ht9 hvm9 hw9 hB9 hz9 hk9 hS => ?_)
      obtain ⟨μe, re⟩ := u9
      obtain ⟨hP, -⟩ := hB9
      rw [ht9] at hP
      generalize H1 = H at hP hS ⊢
      obtain ⟨e9, hw9⟩ := hw9
      have e9 : r9 = iZ re := e9
      subst e9
      simp only at hP hw9
      have hμe := hw9; clear hw9
      rw [hμe.1] at hP; have hμe := hμe.2
      have hre := ei_b hμe ⟨ha1.1.1, ha1.1.2, ha2.1.1, ha2.1.2⟩
      have hre0 : re = wEi hw (μ 46 (bs + i + 1).toNat) (μ 46 (bs + μ (q + 2) i.toNat + 1).toNat) := hμe
      refine lv_istore (lv' := [(6, .int (iZ (re))), (5, .int (iZ (μ (q + 1) (i).toNat))), (0, .ref (h0 + 45)), (1, .ref (h0 + q)), (2, .int (iZ (i))), (3, .int (iZ (bs))), (4, .int (iZ (hw)))]) hx hb dX8_goOn_59 hl (by decide) rfl (fun ls hl => ?_)
      refine lv_goto (tgt := 111) hx hb dX8_goOn_61 (by decide) ?_
      refine lv_aload_n hx hb dX8_goOn_111 rfl (lv_at hl 2 rfl) ?_
      refine fz_get (D := (dC, dI)) (ci := 8) (v := .ref (h0 + 46)) (C := RX8) (T := TX8) (N := 2) hx hb hts inG8 hown hK hP (k := 45) (by decide) (F := (sF45 h0)) sE_45 rfl 0 (by decide) (hts _ k211) (fun _ h9 => h9) rfl dX8_goOn_112 ?_
      refine lv_iload_n hx hb dX8_goOn_115 rfl (lv_at hl 5 rfl) ?_
      refine lv_iload_n hx hb dX8_goOn_116 rfl (lv_at hl 4 rfl) ?_
      refine lv_iadd hx hb dX8_goOn_117 ?_
      refine lv_topi (fun x9 ex9 => ?_)
      obtain rfl : x9 = iZ (bs + i) := ex9.trans (iZ_add _ _)
      refine lv_iload hx hb dX8_goOn_118 (lv_at hl 0 rfl) ?_
      refine fz_st (k := 46) (n := 67161) (i := (bs + i)) (z := re) hx hb hK hP fA_in hS 0 (by decide) sE_46 rfl ⟨by omega, by omega⟩ (by decide) dX8_goOn_120 (fun H locs hP hS => ?_)
      obtain ⟨μ6, eμ6⟩ : ∃ x : va_M, x = uz μ 46 (bs + i).toNat (re) := ⟨_, rfl⟩
      rw [← eμ6] at hP
      exact W.vret hx hb hr (fun t9 ht9 hW9 => ⟨⟨μ6, rfl, (by
                    try dsimp only
                    rw [eμ6]
                    exact ⟨fr_uz fr_rfl (Or.inl rfl), aB_uz hA (fun _ => by omega), gO_1 (by omega) (fun _ => hre0) (fun h9 => by omega) (fun h9 => by omega)⟩), by rw [ht9]; exact hP, va_K.moved hW9.alike hK⟩, hS.F ht9⟩) hS.2.2 dX8_goOn_121
  · exact W.vret hx hb hr (fun t9 ht9 hW9 => ⟨⟨μ, rfl, (by
                try dsimp only
                exact ⟨fr_rfl, hA, gO_0 (by omega)⟩), by rw [ht9]; exact hP, va_K.moved hW9.alike hK⟩, hS.F ht9⟩) hS.2.2 dX8_goOn_16
set_option maxHeartbeats 4000000 in
set_option maxRecDepth 100000 in
theorem LX8_goThrough_67b {p : Program} {l : Launch} {e : Env} {R : Room} {s : State} {m : MethodId} {args : Array Value} {below : List Frame} {meth : Method} {c : Code} {cells slots : Nat} {Q : State → Prop} {dC : Nat → ClassId} {dI : Nat → Nat → Nat} {h0 : Nat} {cI cZ cII cIII : ClassId} (hx : p.tables.exec = Jvm.exec) (hb : c.code = cX8_goThrough) (hml : c.maxLocals = 9) (hown : s.vm.findClass RX8 = some m.cls) (hts : ∀ w ∈ wsG, w.before args s = true) (hK : va_K (dC, dI) vwCl (sT cI cZ cII cIII) s) (hM : xM s) (hRf : 4 ≤ R.frames) (hRl : 85 ≤ R.locals) (hRc : cells ≤ R.cells) (hRs : slots ≤ R.slots) (μ0 : va_M) (q : Nat) (rm : Nat) (kc : Nat) (nc : Nat) (n : Int) (hw : Int) (k : Int) (Wk : Rw) (hq : rowB q rm) (hG : rG μ0 q rm) (hkc : 110 ≤ kc ∧ kc < 233 ∧ 60 ≤ nc ∧ nc ≤ 1101) (hE : ∀ f, sE cI cZ cII cIII h0 kc f = .inl (cI, nc, .inl f)) (hcr : ∀ j, inR (μ0 kc j)) (h_n : 0 ≤ n ∧ n ≤ 60) (h_w : 0 ≤ hw ∧ hw ≤ 2) (hWr : rowS μ0 q Wk) (hW0 : rW0 Wk) (hOF : rOF Wk) (hexit91 : ∀ (i : Int) (μ : va_M) (H : Heap) (locs : List Loc) (ls : Array Slot), (0 ≤ k ∧ k ≤ n) → (fr (fun x _ => x = 46 ∨ x = 47) μ0 μ) → (aB μ) → (cH μ q kc n hw Wk k) → (wf μ Wk k.toNat (sL Wk) = wEn hw k n) → (i1 μ q kc n hw Wk k.toNat 0) → va_P (dC, dI) vwCl (fw (sE cI cZ cII cIII h0) h0 233 μ) H → va_S (fA h0 233 s.heap.size) s.heap H locs → lv_has ls 9 [(7, .int (iZ (k * (μ0 q 5 + 1)))), (6, .int (iZ (k))), (5, .int (iZ (μ0 q 5 + 1))), (4, .int (iZ (hw))), (3, .int (iZ (n))), (2, .ref (h0 + kc)), (1, .ref (h0 + q)), (0, .ref (h0 + 45))] → W p l e R s m args below meth c H locs cells slots Q (F0 m 91 ls [])) :
    ∀ (n9 : Nat) (i : Int) (μ : va_M) (H : Heap) (locs : List Loc) (ls : Array Slot), (0 ≤ k ∧ k ≤ n) → (-1 ≤ i ∧ i < μ0 q 5) → (fr (fun x _ => x = 46 ∨ x = 47) μ0 μ) → (aB μ) → (cH μ q kc n hw Wk k) → (wf μ Wk k.toNat (sL Wk) = wEn hw k n) → (i1 μ q kc n hw Wk k.toNat (i + 1).toNat) → (i + 1).toNat < n9 → va_P (dC, dI) vwCl (fw (sE cI cZ cII cIII h0) h0 233 μ) H → va_S (fA h0 233 s.heap.size) s.heap H locs → lv_has ls 9 [(8, .int (iZ (i))), (7, .int (iZ (k * (μ0 q 5 + 1)))), (6, .int (iZ (k))), (5, .int (iZ (μ0 q 5 + 1))), (4, .int (iZ (hw))), (3, .int (iZ (n))), (2, .ref (h0 + kc)), (1, .ref (h0 + q)), (0, .ref (h0 + 45))] → W p l e R s m args below meth c H locs cells slots Q (F0 m 67 ls []) := by
  intro n9
  induction n9 with
  | zero => intro i μ H locs ls hk hi hf hA hH hEw hJ1 hm9 hP hS hl; exact absurd hm9 (Nat.not_lt_zero _)
  | succ n9 ih =>
    intro i μ H locs ls hk hi hf hA hH hEw hJ1 hm9 hP hS hl
    have hrm := rG_rm hq hG
    have hqb := rowB_b hq
    have hqf := rowB_f hq
    have x5 : μ q 5 = μ0 q 5 := hf _ _ (by omega)
    have hG1 : rG μ q rm := rG_fr hG (fun x y h8 h9 => hf _ _ (by omega))
    have hc1 : ∀ j, inR (μ kc j) := fun j => by rw [hf _ _ (by omega)]; exact hcr j
    have eL9 := hWr.1.1
    have eLm : μ q 5 = sL Wk := x5.trans eL9
    have hWm : rowS μ q Wk := rowS_fr9 hWr (fun x y h8 h9 => hf _ _ (by omega))
    refine lv_iload hx hb dX8_goThrough_67 (lv_at hl 0 rfl) ?_
    refine fz_if_lt (tgt := 91) (by constructor <;> omega) hx hb dX8_goThrough_69 (by decide) (fun c69_ => ?_) (fun c69_ => ?_)
    · exact hexit91 (i) μ H locs ls (by exact hk) (by exact hf) (by exact hA) (by exact hH) (by exact hEw) (by rw [show (0 : Nat) = (i + 1).toNat by omega]; exact hJ1) hP hS (lv_sub hl [1, 2, 3, 4, 5, 6, 7, 8] rfl)
    · refine lv_aload_n hx hb dX8_goThrough_72 rfl (lv_at hl 8 rfl) ?_
      refine lv_aload_n hx hb dX8_goThrough_73 rfl (lv_at hl 7 rfl) ?_
      refine lv_iload hx hb dX8_goThrough_74 (lv_at hl 0 rfl) ?_
      refine lv_aload_n hx hb dX8_goThrough_76 rfl (lv_at hl 6 rfl) ?_
      refine lv_iload hx hb dX8_goThrough_77 (lv_at hl 2 rfl) ?_
      refine lv_iload_n hx hb dX8_goThrough_79 rfl (lv_at hl 5 rfl) ?_
      refine lv_iload hx hb dX8_goThrough_80 (lv_at hl 4 rfl) ?_
      refine va_callv (va_runV (As := [.ref (h0 + q), .int (iZ (i)), .ref (h0 + kc), .int (iZ (k)), .int (iZ (n)), .int (iZ (hw))]) (rest := []) ⟨hx, hb, hml, hown, hts⟩ (s_WgoInward2 l dC dI cI cZ cII cIII h0 H.size μ (q) (rm) (kc) (nc) (i) (k) (n) (hw) (hq) (by exact hG1) (by exact hA) (by first | assumption | omega | exact ⟨by omega, by omega⟩) (hE) (by exact hc1) (by first | assumption | omega | exact ⟨by omega, by omega⟩) (by first | assumption | omega | exact ⟨by omega, by omega⟩) (by first | assumption | omega | exact ⟨by omega, by omega⟩)) (cwV 6 hts (gV_G k554 k556 ks_yX8_goInward k8 k557) rfl rfl rfl (by decide +kernel) ⟨by show 3 + 1 ≤ _; omega, by show 8 + (11 + 11) + (55) ≤ _; omega⟩) ⟨fun a U g mk q => by obtain ⟨q0, q1, qP, qK, qM⟩ := q; exact ⟨q0, q1, qP, va_K.moved (u := U) (U := U.calling g mk a) (Vm.Alike.refl U.vm) qK, qM⟩, va_recv hK hP (ci := 8) (q0 := 45) rfl ((fw_get (by decide)).trans (by rw [sE_45])), fun U hU hW => ⟨rfl, by rw [hU], by rw [hU]; exact hP, va_K.moved hW.alike hK, xM_warm hW hM⟩⟩ rfl rfl hl.1 rfl (lv_room (Nat.le_of_ble_eq_true rfl)) dX8_goThrough_82 ⟨hRc, hRs⟩) hS (fun q _ h => fA_le hS.1 q h) (fA_le hS.1) (fun u9 t9 H1 locs ht9 hvm9 hw9 hB9 hz9 hk9 hS => ?_)
      obtain ⟨hP, -⟩ := hB9
      rw [ht9] at hP
      generalize H1 = H at hP hS ⊢
      obtain ⟨μi, eμi⟩ : ∃ x : va_M, x = u9 := ⟨_, rfl⟩
      rw [← eμi] at hP hw9
      have hμi := hw9; clear hw9
      obtain ⟨f1_, a1_, g1_⟩ := hμi
      have g1_ := gIw_to (W := Wk) (by omega) (by omega) eLm g1_
      have e46 : ∀ y : Nat, (k.toNat + 1) * (sL Wk + 1) ≤ y → μi 46 y = μ 46 y := fun y hy => g1_.2.1 y (fun _ => by have e8 := col_lt (c := k.toNat) (i := i.toNat) (S := sL Wk + 1) (by omega); omega)
      refine lv_iinc (v := iZ (i - 1)) (lv' := [(8, .int (iZ (i - 1))), (7, .int (iZ (k * (μ0 q 5 + 1)))), (6, .int (iZ (k))), (5, .int (iZ (μ0 q 5 + 1))), (4, .int (iZ (hw))), (3, .int (iZ (n))), (2, .ref (h0 + kc)), (1, .ref (h0 + q)), (0, .ref (h0 + 45))]) hx hb dX8_goThrough_85 hl (k := 0) rfl (iZ_add _ (-1)) (by decide) rfl (fun ls hl => ?_)
      refine lv_goto (tgt := 67) hx hb dX8_goThrough_88 (by decide) ?_
      exact ih (i - 1) μi H locs ls (by omega) (by omega) (by exact fr_trans hf f1_) (by exact a1_) (by exact cH_fr (by omega) hH e46 (fun y => f1_ _ _ (by omega)) (fun y => f1_ _ _ (by omega))) (by
                    have e8 : wf μi Wk k.toNat (sL Wk) = wf μ Wk k.toNat (sL Wk) := g1_.2.1 _ (fun _ => by omega)
                    rw [e8]; exact hEw) (by
                    rw [show (i - 1 + 1).toNat = i.toNat by omega]
                    exact i1_st hG1 eLm (by omega) (by rw [show i.toNat + 1 = (i + 1).toNat by omega]; exact hJ1) g1_ (fun y => f1_ _ _ (by omega)) (fun y => f1_ _ _ (by omega)) (fun y => f1_ _ _ (by omega))) (by omega) hP hS (lv_sub hl [0, 1, 2, 3, 4, 5, 6, 7, 8] rfl)
set_option maxHeartbeats 4000000 in
set_option maxRecDepth 100000 in
theorem LX8_goThrough_99b {p : Program} {l : Launch} {e : Env} {R : Room} {s : State} {m : MethodId} {args : Array Value} {below : List Frame} {meth : Method} {c : Code} {cells slots : Nat} {Q : State → Prop} {dC : Nat → ClassId} {dI : Nat → Nat → Nat} {h0 : Nat} {cI cZ cII cIII : ClassId} (hx : p.tables.exec = Jvm.exec) (hb : c.code = cX8_goThrough) (hml : c.maxLocals = 9) (hown : s.vm.findClass RX8 = some m.cls) (hts : ∀ w ∈ wsG, w.before args s = true) (hK : va_K (dC, dI) vwCl (sT cI cZ cII cIII) s) (hM : xM s) (hRf : 4 ≤ R.frames) (hRl : 85 ≤ R.locals) (hRc : cells ≤ R.cells) (hRs : slots ≤ R.slots) (μ0 : va_M) (q : Nat) (rm : Nat) (kc : Nat) (nc : Nat) (n : Int) (hw : Int) (k : Int) (Wk : Rw) (hq : rowB q rm) (hG : rG μ0 q rm) (hkc : 110 ≤ kc ∧ kc < 233 ∧ 60 ≤ nc ∧ nc ≤ 1101) (hE : ∀ f, sE cI cZ cII cIII h0 kc f = .inl (cI, nc, .inl f)) (hcr : ∀ j, inR (μ0 kc j)) (h_n : 0 ≤ n ∧ n ≤ 60) (h_w : 0 ≤ hw ∧ hw ≤ 2) (hWr : rowS μ0 q Wk) (hW0 : rW0 Wk) (hOF : rOF Wk) (hexit121 : ∀ (i : Int) (μ : va_M) (H : Heap) (locs : List Loc) (ls : Array Slot), (0 ≤ k ∧ k ≤ n) → (fr (fun x _ => x = 46 ∨ x = 47) μ0 μ) → (aB μ) → (cH μ q kc n hw Wk (k - 1)) → va_P (dC, dI) vwCl (fw (sE cI cZ cII cIII h0) h0 233 μ) H → va_S (fA h0 233 s.heap.size) s.heap H locs → lv_has ls 9 [(7, .int (iZ (k * (μ0 q 5 + 1)))), (6, .int (iZ (k))), (5, .int (iZ (μ0 q 5 + 1))), (4, .int (iZ (hw))), (3, .int (iZ (n))), (2, .ref (h0 + kc)), (1, .ref (h0 + q)), (0, .ref (h0 + 45))] → W p l e R s m args below meth c H locs cells slots Q (F0 m 121 ls [])) :
    ∀ (n9 : Nat) (i : Int) (μ : va_M) (H : Heap) (locs : List Loc) (ls : Array Slot), (0 ≤ k ∧ k ≤ n) → (-1 ≤ i ∧ i < μ0 q 5) → (fr (fun x _ => x = 46 ∨ x = 47) μ0 μ) → (aB μ) → (cH μ q kc n hw Wk k) → (wf μ Wk k.toNat (sL Wk) = wEn hw k n) → (i1 μ q kc n hw Wk k.toNat 0) → (i2 μ q kc n hw Wk k.toNat (i + 1).toNat) → (i + 1).toNat < n9 → va_P (dC, dI) vwCl (fw (sE cI cZ cII cIII h0) h0 233 μ) H → va_S (fA h0 233 s.heap.size) s.heap H locs → lv_has ls 9 [(8, .int (iZ (i))), (7, .int (iZ (k * (μ0 q 5 + 1)))), (6, .int (iZ (k))), (5, .int (iZ (μ0 q 5 + 1))), (4, .int (iZ (hw))), (3, .int (iZ (n))), (2, .ref (h0 + kc)), (1, .ref (h0 + q)), (0, .ref (h0 + 45))] → W p l e R s m args below meth c H locs cells slots Q (F0 m 99 ls []) := by
  intro n9
  induction n9 with
  | zero => intro i μ H locs ls hk hi hf hA hH hEw hJ1 hJ2 hm9 hP hS hl; exact absurd hm9 (Nat.not_lt_zero _)
  | succ n9 ih =>
    intro i μ H locs ls hk hi hf hA hH hEw hJ1 hJ2 hm9 hP hS hl
    have hrm := rG_rm hq hG
    have hqb := rowB_b hq
    have hqf := rowB_f hq
    have x5 : μ q 5 = μ0 q 5 := hf _ _ (by omega)
    have hG1 : rG μ q rm := rG_fr hG (fun x y h8 h9 => hf _ _ (by omega))
    have hc1 : ∀ j, inR (μ kc j) := fun j => by rw [hf _ _ (by omega)]; exact hcr j
    have eL9 := hWr.1.1
    have eLm : μ q 5 = sL Wk := x5.trans eL9
    have hWm : rowS μ q Wk := rowS_fr9 hWr (fun x y h8 h9 => hf _ _ (by omega))
    refine lv_iload hx hb dX8_goThrough_99 (lv_at hl 0 rfl) ?_
    refine fz_if_lt (tgt := 121) (by constructor <;> omega) hx hb dX8_goThrough_101 (by decide) (fun c101_ => ?_) (fun c101_ => ?_)
    · exact hexit121 (i) μ H locs ls (by exact hk) (by exact hf) (by exact hA) (by exact cH_dn (by omega) hH (cTw_in hWm hW0 hOF hJ1 (by rw [show (0 : Nat) = (i + 1).toNat by omega]; exact hJ2) (by rw [show ((k.toNat : Nat) : Int) = k by omega]; exact hEw))) hP hS (lv_sub hl [1, 2, 3, 4, 5, 6, 7, 8] rfl)
    · have mb := mulB k (μ0 q 5 + 1) (by omega) (by omega) (by omega) (by omega)
      have hmi9 := rG_m hG1 i (by omega) (by omega)
      refine lv_aload_n hx hb dX8_goThrough_104 rfl (lv_at hl 8 rfl) ?_
      refine lv_aload_n hx hb dX8_goThrough_105 rfl (lv_at hl 7 rfl) ?_
      refine lv_iload hx hb dX8_goThrough_106 (lv_at hl 0 rfl) ?_
      refine lv_iload hx hb dX8_goThrough_108 (lv_at hl 1 rfl) ?_
      refine lv_iload hx hb dX8_goThrough_110 (lv_at hl 4 rfl) ?_
      refine va_callv (va_runV (As := [.ref (h0 + q), .int (iZ (i)), .int (iZ (k * (μ0 q 5 + 1))), .int (iZ (hw))]) (rest := []) ⟨hx, hb, hml, hown, hts⟩ (s_WgoOn2 l dC dI cI cZ cII cIII h0 H.size μ (q) (rm) (i) (k * (μ0 q 5 + 1)) (hw) (hq) (by exact hG1) (by exact hA) (by first | assumption | omega | exact ⟨by omega, by omega⟩) (by first | assumption | omega | exact ⟨by omega, by omega⟩) (by first | assumption | omega | exact ⟨by omega, by omega⟩)) (cwV 4 hts (gV_G k570 k572 ks_yX8_goOn k8 k573) rfl rfl rfl (by decide +kernel) ⟨by show 2 + 1 ≤ _; omega, by show 8 + (7 + 11) + (43) ≤ _; omega⟩) ⟨fun a U g mk q => by obtain ⟨q0, q1, qP, qK, qM⟩ := q; exact ⟨q0, q1, qP, va_K.moved (u := U) (U := U.calling g mk a) (Vm.Alike.refl U.vm) qK, qM⟩, va_recv hK hP (ci := 8) (q0 := 45) rfl ((fw_get (by decide)).trans (by rw [sE_45])), fun U hU hW => ⟨rfl, by rw [hU], by rw [hU]; exact hP, va_K.moved hW.alike hK, xM_warm hW hM⟩⟩ rfl rfl hl.1 rfl (lv_room (Nat.le_of_ble_eq_true rfl)) dX8_goThrough_112 ⟨hRc, hRs⟩) hS (fun q _ h => fA_le hS.1 q h) (fA_le hS.1) (fun u9 t9 H1 locs ht9 hvm9 hw9 hB9 hz9 hk9 hS => ?_)
      obtain ⟨hP, -⟩ := hB9
      rw [ht9] at hP
      generalize H1 = H at hP hS ⊢
      obtain ⟨μo, eμo⟩ : ∃ x : va_M, x = u9 := ⟨_, rfl⟩
      rw [← eμo] at hP hw9
      have hμo := hw9; clear hw9
      obtain ⟨f1_, a1_, g1_⟩ := hμo
      obtain ⟨x1_, x2_, x3_⟩ := gO_ix (k := k) (i := i) (L := μ0 q 5) (m := μ (q + 2) i.toNat) (S := sL Wk + 1) (by omega) (by omega) (by omega) (by omega)
      have e46 : ∀ y : Nat, (k.toNat + 1) * (sL Wk + 1) ≤ y → μo 46 y = μ 46 y := fun y hy => g1_.1 _ _ (fun h9 => by have e8 := col_lt (c := k.toNat) (i := i.toNat) (S := sL Wk + 1) (by omega); omega)
      refine lv_iinc (v := iZ (i - 1)) (lv' := [(8, .int (iZ (i - 1))), (7, .int (iZ (k * (μ0 q 5 + 1)))), (6, .int (iZ (k))), (5, .int (iZ (μ0 q 5 + 1))), (4, .int (iZ (hw))), (3, .int (iZ (n))), (2, .ref (h0 + kc)), (1, .ref (h0 + q)), (0, .ref (h0 + 45))]) hx hb dX8_goThrough_115 hl (k := 0) rfl (iZ_add _ (-1)) (by decide) rfl (fun ls hl => ?_)
      refine lv_goto (tgt := 99) hx hb dX8_goThrough_118 (by decide) ?_
      exact ih (i - 1) μo H locs ls (by omega) (by omega) (by exact fr_trans hf f1_) (by exact a1_) (by exact cH_fr (by omega) hH e46 (fun y => f1_ _ _ (by omega)) (fun y => f1_ _ _ (by omega))) (by
                    have e8 : wf μo Wk k.toNat (sL Wk) = wf μ Wk k.toNat (sL Wk) := g1_.1 _ _ (fun h9 => by omega)
                    rw [e8]; exact hEw) (by exact i1_o hJ1 (by omega) x1_ g1_ (by omega) (by omega)) (by
                    rw [show (i - 1 + 1).toNat = i.toNat by omega]
                    exact i2_st hG1 eLm (by omega) hJ1 (by rw [show i.toNat + 1 = (i + 1).toNat by omega]; exact hJ2) x1_ x2_ x3_ g1_ (by omega) (by omega)) (by omega) hP hS (lv_sub hl [0, 1, 2, 3, 4, 5, 6, 7, 8] rfl)
set_option maxHeartbeats 4000000 in
set_option maxRecDepth 100000 in
theorem LX8_goThrough_11b {p : Program} {l : Launch} {e : Env} {R : Room} {s : State} {m : MethodId} {args : Array Value} {below : List Frame} {meth : Method} {c : Code} {cells slots : Nat} {Q : State → Prop} {dC : Nat → ClassId} {dI : Nat → Nat → Nat} {h0 : Nat} {cI cZ cII cIII : ClassId} (hx : p.tables.exec = Jvm.exec) (hb : c.code = cX8_goThrough) (hml : c.maxLocals = 9) (hown : s.vm.findClass RX8 = some m.cls) (hts : ∀ w ∈ wsG, w.before args s = true) (hK : va_K (dC, dI) vwCl (sT cI cZ cII cIII) s) (hM : xM s) (hRf : 4 ≤ R.frames) (hRl : 85 ≤ R.locals) (hRc : cells ≤ R.cells) (hRs : slots ≤ R.slots) (μ0 : va_M) (q : Nat) (rm : Nat) (kc : Nat) (nc : Nat) (n : Int) (hw : Int) (Wk : Rw) (hq : rowB q rm) (hG : rG μ0 q rm) (hkc : 110 ≤ kc ∧ kc < 233 ∧ 60 ≤ nc ∧ nc ≤ 1101) (hE : ∀ f, sE cI cZ cII cIII h0 kc f = .inl (cI, nc, .inl f)) (hcr : ∀ j, inR (μ0 kc j)) (h_n : 0 ≤ n ∧ n ≤ 60) (h_w : 0 ≤ hw ∧ hw ≤ 2) (hWr : rowS μ0 q Wk) (hW0 : rW0 Wk) (hOF : rOF Wk) (hexit127 : ∀ (k : Int) (i : Int) (μ : va_M) (H : Heap) (locs : List Loc) (ls : Array Slot), (fr (fun x _ => x = 46 ∨ x = 47) μ0 μ) → (aB μ) → (cH μ q kc n hw Wk (-1)) → va_P (dC, dI) vwCl (fw (sE cI cZ cII cIII h0) h0 233 μ) H → va_S (fA h0 233 s.heap.size) s.heap H locs → lv_has ls 9 [(0, .ref (h0 + 45))] → W p l e R s m args below meth c H locs cells slots Q (F0 m 127 ls [])) :
    ∀ (n9 : Nat) (k : Int) (i : Int) (μ : va_M) (H : Heap) (locs : List Loc) (ls : Array Slot), (-1 ≤ k ∧ k ≤ n) → (fr (fun x _ => x = 46 ∨ x = 47) μ0 μ) → (aB μ) → (cH μ q kc n hw Wk k) → (k + 1).toNat < n9 → va_P (dC, dI) vwCl (fw (sE cI cZ cII cIII h0) h0 233 μ) H → va_S (fA h0 233 s.heap.size) s.heap H locs → lv_has ls 9 [(6, .int (iZ (k))), (5, .int (iZ (μ0 q 5 + 1))), (4, .int (iZ (hw))), (3, .int (iZ (n))), (2, .ref (h0 + kc)), (1, .ref (h0 + q)), (0, .ref (h0 + 45))] → W p l e R s m args below meth c H locs cells slots Q (F0 m 11 ls []) := by
  intro n9
  induction n9 with
  | zero => intro k i μ H locs ls hk hf hA hH hm9 hP hS hl; exact absurd hm9 (Nat.not_lt_zero _)
  | succ n9 ih =>
    intro k i μ H locs ls hk hf hA hH hm9 hP hS hl
    have hrm := rG_rm hq hG
    have hqb := rowB_b hq
    have hqf := rowB_f hq
    have x5 : μ q 5 = μ0 q 5 := hf _ _ (by omega)
    have hG1 : rG μ q rm := rG_fr hG (fun x y h8 h9 => hf _ _ (by omega))
    have hc1 : ∀ j, inR (μ kc j) := fun j => by rw [hf _ _ (by omega)]; exact hcr j
    have eL9 := hWr.1.1
    have eLm : μ q 5 = sL Wk := x5.trans eL9
    have hWm : rowS μ q Wk := rowS_fr9 hWr (fun x y h8 h9 => hf _ _ (by omega))
    refine lv_iload hx hb dX8_goThrough_11 (lv_at hl 0 rfl) ?_
    refine fz_if_lt (tgt := 127) (by constructor <;> omega) hx hb dX8_goThrough_13 (by decide) (fun c13_ => ?_) (fun c13_ => ?_)
    · exact hexit127 (k) (i) μ H locs ls (by exact hf) (by exact hA) (by rw [show (-1 : Int) = k by omega]; exact hH) hP hS (lv_sub hl [6] rfl)
    · have mb := mulB k (μ0 q 5 + 1) (by omega) (by omega) (by omega) (by omega)
      refine lv_iload hx hb dX8_goThrough_16 (lv_at hl 0 rfl) ?_
      refine lv_iload hx hb dX8_goThrough_18 (lv_at hl 1 rfl) ?_
      refine lv_imul hx hb dX8_goThrough_20 ?_
      refine lv_topi (fun x9 ex9 => ?_)
      obtain rfl : x9 = iZ (k * (μ0 q 5 + 1)) := ex9.trans (iZ_mul _ _)
      refine lv_istore (lv' := [(7, .int (iZ (k * (μ0 q 5 + 1)))), (6, .int (iZ (k))), (5, .int (iZ (μ0 q 5 + 1))), (4, .int (iZ (hw))), (3, .int (iZ (n))), (2, .ref (h0 + kc)), (1, .ref (h0 + q)), (0, .ref (h0 + 45))]) hx hb dX8_goThrough_21 hl (by decide) rfl (fun ls hl => ?_)
      refine lv_aload_n hx hb dX8_goThrough_23 rfl (lv_at hl 7 rfl) ?_
      refine fz_get (D := (dC, dI)) (ci := 8) (v := .ref (h0 + 46)) (C := RX8) (T := TX8) (N := 2) hx hb hts inG8 hown hK hP (k := 45) (by decide) (F := (sF45 h0)) sE_45 rfl 0 (by decide) (hts _ k211) (fun _ h9 => h9) rfl dX8_goThrough_24 ?_
      refine lv_iload hx hb dX8_goThrough_27 (lv_at hl 0 rfl) ?_
      refine lv_aload_n hx hb dX8_goThrough_29 rfl (lv_at hl 6 rfl) ?_
      refine fz_get (D := (dC, dI)) (ci := 4) (v := .int (iZ (μ q 5))) (C := RX4) (T := TX4) (N := 8) hx hb hts inG4 hown hK hP (k := q) (by omega) (F := (sRF h0 q)) (sE_rowO hq) rfl 5 (by decide) (hts _ k93) (fun _ h9 => h9) rfl dX8_goThrough_30 ?_
      refine lv_iadd hx hb dX8_goThrough_33 ?_
      refine lv_topi (fun x9 ex9 => ?_)
      obtain rfl : x9 = iZ ((k * (μ0 q 5 + 1)) + (μ q 5)) := ex9.trans (iZ_add _ _)
      refine lv_iload hx hb dX8_goThrough_34 (lv_at hl 1 rfl) ?_
      refine lv_iload_n hx hb dX8_goThrough_36 rfl (lv_at hl 4 rfl) ?_
      refine lv_iload hx hb dX8_goThrough_37 (lv_at hl 3 rfl) ?_
      refine va_calli (va_runS (As := [.int (iZ (k)), .int (iZ (n)), .int (iZ (hw))]) (rest := [.int (iZ ((k * (μ0 q 5 + 1)) + (μ q 5))), .ref (h0 + 46)]) ⟨hx, hb, hml, hown, hts⟩ (s_WatEnd l dC dI cI cZ cII cIII h0 H.size μ (k) (n) (hw) (by constructor <;> omega) (by constructor <;> omega) (by constructor <;> omega)) (cwS 3 hts (gS_G k547 k548 k8 k549) rfl rfl rfl (by decide +kernel) ⟨by show 1 + 1 ≤ _; omega, by show 8 + (3 + 11) + (14) ≤ _; omega⟩) ⟨fun a U g mk q => by obtain ⟨q0, q1, qP, qK, qM⟩ := q; exact ⟨q0, q1, qP, va_K.moved (u := U) (U := U.calling g mk a) (Vm.Alike.refl U.vm) qK, qM⟩, fun U hU hW => ⟨rfl, by rw [hU], by rw [hU]; exact hP, va_K.moved hW.alike hK, xM_warm hW hM⟩⟩ rfl rfl hl.1 rfl (lv_room (Nat.le_of_ble_eq_true rfl)) dX8_goThrough_39 ⟨hRc, hRs⟩) hS (fun q _ h => fA_le hS.1 q h) (fA_le hS.1) (fun r9 u9 t9 H1 locs ht9 hvm9 hw9 hB9 hz9 hk9 hS => ?_)
      obtain ⟨μe, re⟩ := u9
      obtain ⟨hP, -⟩ := hB9
      rw [ht9] at hP
      generalize H1 = H at hP hS ⊢
      obtain ⟨e9, hw9⟩ := hw9
      have e9 : r9 = iZ re := e9
      subst e9
      simp only at hP hw9
      have hμe := hw9; clear hw9
      rw [hμe.1] at hP; have hμe := hμe.2
      have hre := at_b hμe (by omega)
      have hre0 : re = wEn hw k n := hμe
      refine fz_st (k := 46) (n := 67161) (i := ((k * (μ0 q 5 + 1)) + (μ q 5))) (z := re) hx hb hK hP fA_in hS 0 (by decide) sE_46 rfl ⟨by omega, by omega⟩ (by decide) dX8_goThrough_42 (fun H locs hP hS => ?_)
      obtain ⟨μ1, eμ1⟩ : ∃ x : va_M, x = uz μ 46 ((k * (μ0 q 5 + 1)) + (μ q 5)).toNat (re) := ⟨_, rfl⟩
      rw [← eμ1] at hP
      have x8 : μ1 q 5 = μ0 q 5 := by rw [eμ1, uz_n (by omega)]; exact x5
      refine lv_aload_n hx hb dX8_goThrough_43 rfl (lv_at hl 7 rfl) ?_
      refine fz_get (D := (dC, dI)) (ci := 8) (v := .ref (h0 + 47)) (C := RX8) (T := TX8) (N := 2) hx hb hts inG8 hown hK hP (k := 45) (by decide) (F := (sF45 h0)) sE_45 rfl 1 (by decide) (hts _ k212) (fun _ h9 => h9) rfl dX8_goThrough_44 ?_
      refine lv_aload_n hx hb dX8_goThrough_47 rfl (lv_at hl 6 rfl) ?_
      refine fz_get (D := (dC, dI)) (ci := 4) (v := .int (iZ (μ1 q 5))) (C := RX4) (T := TX4) (N := 8) hx hb hts inG4 hown hK hP (k := q) (by omega) (F := (sRF h0 q)) (sE_rowO hq) rfl 5 (by decide) (hts _ k93) (fun _ h9 => h9) rfl dX8_goThrough_48 ?_
      refine lv_iload hx hb dX8_goThrough_51 (lv_at hl 1 rfl) ?_
      refine lv_iload hx hb dX8_goThrough_53 (lv_at hl 3 rfl) ?_
      refine va_calli (va_runS (As := [.int (iZ (k)), .int (iZ (hw))]) (rest := [.int (iZ (μ1 q 5)), .ref (h0 + 47)]) ⟨hx, hb, hml, hown, hts⟩ (s_Wnothing l dC dI cI cZ cII cIII h0 H.size μ1 (k) (hw) (by constructor <;> omega) (by constructor <;> omega)) (cwS 2 hts (gS_G k550 k551 k8 k552) rfl rfl rfl (by decide +kernel) ⟨by show 1 + 1 ≤ _; omega, by show 8 + (2 + 11) + (14) ≤ _; omega⟩) ⟨fun a U g mk q => by obtain ⟨q0, q1, qP, qK, qM⟩ := q; exact ⟨q0, q1, qP, va_K.moved (u := U) (U := U.calling g mk a) (Vm.Alike.refl U.vm) qK, qM⟩, fun U hU hW => ⟨rfl, by rw [hU], by rw [hU]; exact hP, va_K.moved hW.alike hK, xM_warm hW hM⟩⟩ rfl rfl hl.1 rfl (lv_room (Nat.le_of_ble_eq_true rfl)) dX8_goThrough_55 ⟨hRc, hRs⟩) hS (fun q _ h => fA_le hS.1 q h) (fA_le hS.1) (fun r9 u9 t9 H1 locs ht9 hvm9 hw9 hB9 hz9 hk9 hS => ?_)
      obtain ⟨μn, rn⟩ := u9
      obtain ⟨hP, -⟩ := hB9
      rw [ht9] at hP
      generalize H1 = H at hP hS ⊢
      obtain ⟨e9, hw9⟩ := hw9
      have e9 : r9 = iZ rn := e9
      subst e9
      simp only at hP hw9
      have hμn := hw9; clear hw9
      rw [hμn.1] at hP; have hμn := hμn.2
      have hrn := nb_b hμn (by omega)
      refine fz_st (k := 47) (n := 1101) (i := (μ1 q 5)) (z := rn) hx hb hK hP fA_in hS 0 (by decide) sE_47 rfl ⟨by omega, by omega⟩ (by decide) dX8_goThrough_58 (fun H locs hP hS => ?_)
      obtain ⟨μ2, eμ2⟩ : ∃ x : va_M, x = uz μ1 47 (μ1 q 5).toNat (rn) := ⟨_, rfl⟩
      rw [← eμ2] at hP
      refine lv_aload_n hx hb dX8_goThrough_59 rfl (lv_at hl 6 rfl) ?_
      refine fz_get (D := (dC, dI)) (ci := 4) (v := .int (iZ (μ2 q 5))) (C := RX4) (T := TX4) (N := 8) hx hb hts inG4 hown hK hP (k := q) (by omega) (F := (sRF h0 q)) (sE_rowO hq) rfl 5 (by decide) (hts _ k93) (fun _ h9 => h9) rfl dX8_goThrough_60 ?_
      refine lv_iconst (v := iZ 1) hx hb dX8_goThrough_63 rfl ?_
      refine lv_isub hx hb dX8_goThrough_64 ?_
      refine lv_topi (fun x9 ex9 => ?_)
      obtain rfl : x9 = iZ ((μ2 q 5) - 1) := ex9.trans (iZ_sub _ _)
      have x6 : μ2 q 5 = μ0 q 5 := by rw [eμ2, eμ1, uz_n (by omega), uz_n (by omega)]; exact x5
      refine lv_istore (lv' := [(8, .int (iZ ((μ2 q 5) - 1))), (7, .int (iZ (k * (μ0 q 5 + 1)))), (6, .int (iZ (k))), (5, .int (iZ (μ0 q 5 + 1))), (4, .int (iZ (hw))), (3, .int (iZ (n))), (2, .ref (h0 + kc)), (1, .ref (h0 + q)), (0, .ref (h0 + 45))]) hx hb dX8_goThrough_65 hl (by decide) rfl (fun ls hl => ?_)
      refine LX8_goThrough_67b hx hb hml hown hts hK hM hRf hRl hRc hRs (μ0) (q) (rm) (kc) (nc) (n) (hw) (k) (Wk) (by assumption) (by exact hG) (by assumption) (by assumption) (by exact hcr) (by assumption) (by assumption) (by exact hWr) (by exact hW0) (by exact hOF) ?_ _ ((μ2 q 5) - 1) μ2 H locs ls (by omega) (by omega) (by rw [eμ2, eμ1]; exact fr_uz (fr_uz hf (Or.inl rfl)) (Or.inr rfl)) (by rw [eμ2, eμ1]; exact aB_uz (aB_uz hA (fun _ => by omega)) (fun _ => by omega)) (by
                    rw [eμ2, eμ1]
                    exact cH_fr (by omega) hH (fun y hy => by rw [uz_n (by omega), uz_n (by have e9 := ix9 (k := k) (i := μ q 5) (L := μ0 q 5) (S := sL Wk + 1) (by omega) (by omega) (by omega); have e8 := col_lt (c := k.toNat) (i := sL Wk) (S := sL Wk + 1) (by omega); omega)]) (fun y => by rw [uz_n (by omega), uz_n (by omega)]) (fun y => by rw [uz_n (by omega), uz_n (by omega)])) (by
                    rw [eμ2, eμ1]
                    unfold wf
                    have e9 := ix9 (k := k) (i := μ q 5) (L := μ0 q 5) (S := sL Wk + 1) (by omega) (by omega) (by omega)
                    rw [uz_n (by omega), show k.toNat * (sL Wk + 1) + sL Wk = (k * (μ0 q 5 + 1) + μ q 5).toNat by omega, uz_s]
                    exact hre0) (by
                    intro j j1 j2
                    exfalso
                    omega) (Nat.lt_succ_self _) hP hS (lv_sub hl [0, 1, 2, 3, 4, 5, 6, 7, 8] rfl)
      · intro i_3 μ3_ H locs ls q1_3 q2_3 q3_3 q4_3 q5_3 q6_3 hP hS hl
        have hl : lv_has ls 9 [(7, .int (iZ (k * (μ0 q 5 + 1)))), (6, .int (iZ (k))), (5, .int (iZ (μ0 q 5 + 1))), (4, .int (iZ (hw))), (3, .int (iZ (n))), (2, .ref (h0 + kc)), (1, .ref (h0 + q)), (0, .ref (h0 + 45))] := hl
        have G2 := q2_3
        have G1 := q1_3
        have x7 : μ3_ q 5 = μ0 q 5 := G2 _ _ (by omega)
        have eL8 := hWr.1.1
        refine lv_aload_n hx hb dX8_goThrough_91 rfl (lv_at hl 6 rfl) ?_
        refine fz_get (D := (dC, dI)) (ci := 4) (v := .int (iZ (μ3_ q 5))) (C := RX4) (T := TX4) (N := 8) hx hb hts inG4 hown hK hP (k := q) (by omega) (F := (sRF h0 q)) (sE_rowO hq) rfl 5 (by decide) (hts _ k93) (fun _ h9 => h9) rfl dX8_goThrough_92 ?_
        refine lv_iconst (v := iZ 1) hx hb dX8_goThrough_95 rfl ?_
        refine lv_isub hx hb dX8_goThrough_96 ?_
        refine lv_topi (fun x9 ex9 => ?_)
        obtain rfl : x9 = iZ ((μ3_ q 5) - 1) := ex9.trans (iZ_sub _ _)
        refine lv_istore (lv' := [(8, .int (iZ ((μ3_ q 5) - 1))), (7, .int (iZ (k * (μ0 q 5 + 1)))), (6, .int (iZ (k))), (5, .int (iZ (μ0 q 5 + 1))), (4, .int (iZ (hw))), (3, .int (iZ (n))), (2, .ref (h0 + kc)), (1, .ref (h0 + q)), (0, .ref (h0 + 45))]) hx hb dX8_goThrough_97 hl (by decide) rfl (fun ls hl => ?_)
        refine LX8_goThrough_99b hx hb hml hown hts hK hM hRf hRl hRc hRs (μ0) (q) (rm) (kc) (nc) (n) (hw) (k) (Wk) (by assumption) (by exact hG) (by assumption) (by assumption) (by exact hcr) (by assumption) (by assumption) (by exact hWr) (by exact hW0) (by exact hOF) ?_ _ ((μ3_ q 5) - 1) μ3_ H locs ls (by exact q1_3) (by omega) (by exact q2_3) (by exact q3_3) (by exact q4_3) (by exact q5_3) (by exact q6_3) (by
                        intro j j1 j2
                        exfalso
                        omega) (Nat.lt_succ_self _) hP hS (lv_sub hl [0, 1, 2, 3, 4, 5, 6, 7, 8] rfl)
        · intro i_4 μ4_ H locs ls q1_4 q2_4 q3_4 q4_4 hP hS hl
          have hl : lv_has ls 9 [(7, .int (iZ (k * (μ0 q 5 + 1)))), (6, .int (iZ (k))), (5, .int (iZ (μ0 q 5 + 1))), (4, .int (iZ (hw))), (3, .int (iZ (n))), (2, .ref (h0 + kc)), (1, .ref (h0 + q)), (0, .ref (h0 + 45))] := hl
          have H1 := q1_4
          refine lv_iinc (v := iZ (k - 1)) (lv' := [(6, .int (iZ (k - 1))), (7, .int (iZ (k * (μ0 q 5 + 1)))), (5, .int (iZ (μ0 q 5 + 1))), (4, .int (iZ (hw))), (3, .int (iZ (n))), (2, .ref (h0 + kc)), (1, .ref (h0 + q)), (0, .ref (h0 + 45))]) hx hb dX8_goThrough_121 hl (k := 1) rfl (iZ_add _ (-1)) (by decide) rfl (fun ls hl => ?_)
          refine lv_goto (tgt := 11) hx hb dX8_goThrough_124 (by decide) ?_
          exact ih (k - 1) (0) μ4_ H locs ls (by omega) (by exact q2_4) (by exact q3_4) (by exact q4_4) (by omega) hP hS (lv_sub hl [0, 2, 3, 4, 5, 6, 7] rfl)
set_option maxHeartbeats 4000000 in
set_option maxRecDepth 100000 in
theorem s_WgoThrough2 (l : Launch) (dC : Nat → ClassId) (dI : Nat → Nat → Nat) (cI cZ cII cIII : ClassId) (h0 sz : Nat) (μ : va_M) (q : Nat) (rm : Nat) (kc : Nat) (nc : Nat) (n : Int) (hw : Int) (Wk : Rw) (hq : rowB q rm) (hG : rG μ q rm) (hA : aB μ) (hkc : 110 ≤ kc ∧ kc < 233 ∧ 60 ≤ nc ∧ nc ≤ 1101) (hE : ∀ f, sE cI cZ cII cIII h0 kc f = .inl (cI, nc, .inl f)) (hcr : ∀ j, inR (μ kc j)) (h_n : 0 ≤ n ∧ n ≤ 60) (h_w : 0 ≤ hw ∧ hw ≤ 2) (hWr : rowS μ q Wk) (hW0 : rW0 Wk) (hOF : rOF Wk) : Met l yX8_goThrough (Cond.code yX8_goThrough cX8_goThrough 9 (some .int) :: wsG) ({ frames := 4, cells := 0, slots := 0, locals := 85 } : Room) (va_Pc [.ref (h0 + 45), .ref (h0 + q), .ref (h0 + kc), .int (iZ (n)), .int (iZ (hw))] (fun U => U.heap.size = sz ∧ va_P (dC, dI) vwCl (fw (sE cI cZ cII cIII h0) h0 233 μ) U.heap ∧ va_K (dC, dI) vwCl (sT cI cZ cII cIII) U ∧ xM U)) (va_Qi (fun (r9 : Int32) (u : va_M × Int) => r9 = iZ u.2 ∧ (fun (u : va_M) (r : Int) => fr (fun x _ => x = 46 ∨ x = 47) μ u ∧ aB u ∧ 0 ≤ r ∧ r ≤ 1000000000 ∧ r = wf u Wk 0 0 ∧ cH u q kc n hw Wk (-1)) u.1 u.2) (fun u t => va_P (dC, dI) vwCl (fw (sE cI cZ cII cIII h0) h0 233 u.1) t.heap ∧ va_K (dC, dI) vwCl (sT cI cZ cII cIII) t) (fA h0 233 sz)) 0 0 (fA h0 233 sz) := by
  refine Met.ofW (cc := cX8_goThrough) (maxL := 9) (ret := (some .int)) (by decide) rfl ?_
  intro p e s m args below meth c s₁ B hml hv
  obtain ⟨rfl, hsz, hP, hK, hM⟩ := hv
  have hx := B.exec
  have hb := B.bytes
  have hr := B.returns
  have hts : ∀ w ∈ wsG, w.before _ s = true := hG_of (atoms_spec (ws := (Cond.code yX8_goThrough cX8_goThrough 9 (some .int) :: wsG)) B.pre)
  have hown : s.vm.findClass RX8 = some m.cls := findClass_of_methodNamed B.named
  have hlocks := B.notSynchronized
  subst hsz
  have hS : va_S (fA h0 233 s.heap.size) s.heap s.heap [] := va_S.rf
  have hl := lv_entry ([.ref (h0 + 45), .ref (h0 + q), .ref (h0 + kc), .int (iZ (n)), .int (iZ (hw))]) (n := 9) (Nat.le_of_ble_eq_true rfl)
  rw [lg_entry_eq]
  generalize (lg_sl ([.ref (h0 + 45), .ref (h0 + q), .ref (h0 + kc), .int (iZ (n)), .int (iZ (hw))]) ++ List.replicate (9 - (lg_sl ([.ref (h0 + 45), .ref (h0 + q), .ref (h0 + kc), .int (iZ (n)), .int (iZ (hw))])).length) Slot.unset).toArray = ls at hl ⊢
  have hl : lv_has ls 9 [(0, .ref (h0 + 45)), (1, .ref (h0 + q)), (2, .ref (h0 + kc)), (3, .int (iZ (n))), (4, .int (iZ (hw)))] := hl
  have hqb := rowB_b hq
  refine lv_aload_n hx hb dX8_goThrough_0 rfl (lv_at hl 1 rfl) ?_
  refine fz_get (D := (dC, dI)) (ci := 4) (v := .int (iZ (μ q 5))) (C := RX4) (T := TX4) (N := 8) hx hb hts inG4 hown hK hP (k := q) (by omega) (F := (sRF h0 q)) (sE_rowO hq) rfl 5 (by decide) (hts _ k93) (fun _ h9 => h9) rfl dX8_goThrough_1 ?_
  refine lv_iconst (v := iZ 1) hx hb dX8_goThrough_4 rfl ?_
  refine lv_iadd hx hb dX8_goThrough_5 ?_
  refine lv_topi (fun x9 ex9 => ?_)
  obtain rfl : x9 = iZ ((μ q 5) + 1) := ex9.trans (iZ_add _ _)
  refine lv_istore (lv' := [(5, .int (iZ ((μ q 5) + 1))), (0, .ref (h0 + 45)), (1, .ref (h0 + q)), (2, .ref (h0 + kc)), (3, .int (iZ (n))), (4, .int (iZ (hw)))]) hx hb dX8_goThrough_6 hl (by decide) rfl (fun ls hl => ?_)
  refine lv_iload_n hx hb dX8_goThrough_8 rfl (lv_at hl 4 rfl) ?_
  refine lv_istore (lv' := [(6, .int (iZ (n))), (5, .int (iZ ((μ q 5) + 1))), (0, .ref (h0 + 45)), (1, .ref (h0 + q)), (2, .ref (h0 + kc)), (3, .int (iZ (n))), (4, .int (iZ (hw)))]) hx hb dX8_goThrough_9 hl (by decide) rfl (fun ls hl => ?_)
  refine LX8_goThrough_11b hx hb hml hown hts hK hM (Nat.le_of_ble_eq_true rfl) (Nat.le_of_ble_eq_true rfl) (Nat.le_of_ble_eq_true rfl) (Nat.le_of_ble_eq_true rfl) (μ) (q) (rm) (kc) (nc) (n) (hw) (Wk) (by assumption) (by exact hG) (by assumption) (by assumption) (by exact hcr) (by assumption) (by assumption) (by assumption) (by assumption) (by assumption) ?_ _ (n) (0) μ s.heap [] ls (by omega) (by exact fr_rfl) (by exact hA) (by
            intro c c1 c2
            exfalso
            omega) (Nat.lt_succ_self _) hP hS (lv_sub hl [0, 1, 6, 5, 4, 3, 2] rfl)
  · intro k_5 i_5 μ5_ H locs ls q1_5 q2_5 q3_5 hP hS hl
    have hl : lv_has ls 9 [(0, .ref (h0 + 45))] := hl
    have A1 := q2_5 0
    have F1 := q1_5
    have A2 := q2_5
    have HH9 := q3_5
    refine lv_aload_n hx hb dX8_goThrough_127 rfl (lv_at hl 0 rfl) ?_
    refine fz_get (D := (dC, dI)) (ci := 8) (v := .ref (h0 + 46)) (C := RX8) (T := TX8) (N := 2) hx hb hts inG8 hown hK hP (k := 45) (by decide) (F := (sF45 h0)) sE_45 rfl 0 (by decide) (hts _ k211) (fun _ h9 => h9) rfl dX8_goThrough_128 ?_
    refine lv_iconst (v := iZ 0) hx hb dX8_goThrough_131 rfl ?_
    refine fz_ld (k := 46) (n := 67161) hx hb hK hP 0 (by decide) sE_46 rfl ⟨by omega, by omega⟩ (by decide) dX8_goThrough_132 ?_
    rw [show (0 : Int).toNat = 0 from rfl]
    exact W.iret (v := iZ (μ5_ 46 0)) hx hb hr (fun t9 ht9 hW9 => ⟨⟨iZ (μ5_ 46 0), (μ5_, μ5_ 46 0), rfl, ⟨rfl, (by
                dsimp only
                exact ⟨F1, A2, A1.1.1, A1.1.2, by unfold wf; rw [Nat.zero_mul], HH9⟩)⟩, by rw [ht9]; exact hP, va_K.moved hW9.alike hK⟩, hS.F ht9⟩) hS.2.2 dX8_goThrough_133

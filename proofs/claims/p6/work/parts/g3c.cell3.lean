
/-! laying, told whole: the best way -/
theorem ck_b (p : Int) (hp : 1 ≤ p ∧ p ≤ 5) (x y : Rw) : 0 ≤ ck p x y ∧ ck p x y ≤ 268435456 := by
  have hmd : wmin lay x y = min (min (min (min (min (wa0 x y) (wa1 lay x y)) (wa2 lay x y)) (wa3 lay x y)) (wa4 lay x y)) (wa5 lay x y) := rfl
  have hl := (layB x y).1
  rw [lay_c] at hl
  have g : 0 ≤ waF p x y := by
    obtain rfl | rfl | rfl | rfl | rfl : p = 1 ∨ p = 2 ∨ p = 3 ∨ p = 4 ∨ p = 5 := by omega
    · show 0 ≤ wa1 lay x y; omega
    · show 0 ≤ wa2 lay x y; omega
    · show 0 ≤ wa3 lay x y; omega
    · show 0 ≤ wa4 lay x y; omega
    · show 0 ≤ wa5 lay x y; omega
  have h := oW_b p x y
  unfold ck cdK
  split <;> omega
theorem at_lf {μ : va_M} {q : Nat} {w : Rw} {i : Int} (h : rwL μ q w) (h0 : 0 ≤ i ∧ i ≤ μ q 5) (he : μ q 5 ≤ i ∨ μ (q + 1) i.toNat = 515) : sub w i.toNat = .leaf := by
  have hl := h.2.2
  rcases sub_e h.1 h.2.1 (show i.toNat ≤ sL w by omega) with ⟨e, -⟩ | ⟨z, k, v, l, r, e1, e2, e3, e4, e5, e6, e7⟩
  · exact e
  · exfalso
    rcases he with he | he
    · omega
    · exact e7 he
set_option maxHeartbeats 4000000 in
set_option maxRecDepth 100000 in
theorem s_Vbest (l : Launch) (dC : Nat → ClassId) (dI : Nat → Nat → Nat) (cI cZ cII cIII : ClassId) (h0 sz : Nat) (μ : va_M) (q : Nat) (rm : Nat) (q2 : Nat) (rm2 : Nat) (i : Int) (j : Int) (w : Rw) (b : Rw) (hq : rowB q rm) (hq2 : rowB q2 rm2) (hG : rG μ q rm) (hG2 : rG μ q2 rm2) (h96 : rm2 = 96) (hst : μ 41 3 = μ q2 5 + 1) (hv : vis μ q q2 i j) (hw9 : rwL μ q w) (hb9 : rwL μ q2 b) (hLCv : LCv μ q q2 w b i j) : Met l yX0_best (Cond.code yX0_best cX0_best 9 (some .int) :: wsG) ({ frames := 4, cells := 0, slots := 0, locals := 87 } : Room) (va_Pc [.ref (h0 + 41), .ref (h0 + q), .ref (h0 + q2), .int (iZ (i)), .int (iZ (j))] (fun U => U.heap.size = sz ∧ va_P (dC, dI) vwCl (fw (sE cI cZ cII cIII h0) h0 233 μ) U.heap ∧ va_K (dC, dI) vwCl (sT cI cZ cII cIII) U ∧ xM U)) (va_Qi (fun (r9 : Int32) (u : va_M × Int) => r9 = iZ u.2 ∧ (fun (u : va_M) (r : Int) => u = μ ∧ r = enc (sub w i.toNat) (sub b j.toNat)) u.1 u.2) (fun u t => va_P (dC, dI) vwCl (fw (sE cI cZ cII cIII h0) h0 233 u.1) t.heap ∧ va_K (dC, dI) vwCl (sT cI cZ cII cIII) t) (fA h0 233 sz)) 0 0 (fA h0 233 sz) := by
  refine Met.ofW (cc := cX0_best) (maxL := 9) (ret := (some .int)) (by decide) rfl ?_
  intro p e s m args below meth c s₁ B hml hv
  obtain ⟨rfl, hsz, hP, hK, hM⟩ := hv
  have hx := B.exec
  have hb := B.bytes
  have hr := B.returns
  have hts : ∀ w ∈ wsG, w.before _ s = true := hG_of (atoms_spec (ws := (Cond.code yX0_best cX0_best 9 (some .int) :: wsG)) B.pre)
  have hown : s.vm.findClass RX0 = some m.cls := findClass_of_methodNamed B.named
  have hlocks := B.notSynchronized
  subst hsz
  have hS : va_S (fA h0 233 s.heap.size) s.heap s.heap [] := va_S.rf
  have hl := lv_entry ([.ref (h0 + 41), .ref (h0 + q), .ref (h0 + q2), .int (iZ (i)), .int (iZ (j))]) (n := 9) (Nat.le_of_ble_eq_true rfl)
  rw [lg_entry_eq]
  generalize (lg_sl ([.ref (h0 + 41), .ref (h0 + q), .ref (h0 + q2), .int (iZ (i)), .int (iZ (j))]) ++ List.replicate (9 - (lg_sl ([.ref (h0 + 41), .ref (h0 + q), .ref (h0 + q2), .int (iZ (i)), .int (iZ (j))])).length) Slot.unset).toArray = ls at hl ⊢
  have hl : lv_has ls 9 [(0, .ref (h0 + 41)), (1, .ref (h0 + q)), (2, .ref (h0 + q2)), (3, .int (iZ (i))), (4, .int (iZ (j)))] := hl
  have hqb := rowB_b hq
  have hqb2 := rowB_b hq2
  have hrm := rG_rm hq hG
  have hrm2 := rG_rm hq2 hG2
  have hs1 := hG.1 i.toNat
  have hs2 := hG2.1 j.toNat
  have hv0 := hv.1
  have ml0 := mulC (i := i) (s := μ 41 3) (by omega) (by omega) (by omega) (by omega)
  have lw9 := hw9.2.2
  have lb9 := hb9.2.2
  have hLC := LCv_LC hw9 hb9 hLCv
  have hB9 := at_B hw9 hb9 hv ⟨by omega, by omega⟩
  refine lv_aload_n hx hb dX0_best_0 rfl (lv_at hl 1 rfl) ?_
  refine lv_iload_n hx hb dX0_best_1 rfl (lv_at hl 3 rfl) ?_
  refine va_calli (va_runV (As := [.int (iZ (i))]) (rest := []) ⟨hx, hb, hml, hown, hts⟩ (s_RendsAt l dC dI cI cZ cII cIII h0 s.heap.size μ (q) (rm) (i) (hq) (by first | assumption | omega | exact ⟨by omega, by omega⟩) (by first | assumption | omega | exact ⟨by omega, by omega⟩) (by intro _; constructor <;> omega)) (cwV 1 hts (gV_G k774 k775 k776 k3 k777) rfl rfl rfl (by decide +kernel) ⟨Nat.le_of_ble_eq_true rfl, Nat.le_of_ble_eq_true rfl⟩) ⟨fun a U g mk q => by obtain ⟨q0, q1, qP, qK, qM⟩ := q; exact ⟨q0, q1, qP, va_K.moved (u := U) (U := U.calling g mk a) (Vm.Alike.refl U.vm) qK, qM⟩, va_recv hK hP (ci := 4) (q0 := q) rfl ((fw_get (by omega)).trans (by rw [(sE_rowO hq)])), fun U hU hW => ⟨rfl, by rw [hU], by rw [hU]; exact hP, va_K.moved hW.alike hK, xM_warm hW hM⟩⟩ rfl rfl hl.1 rfl (lv_room (Nat.le_of_ble_eq_true rfl)) dX0_best_2 ⟨Nat.le_of_ble_eq_true rfl, Nat.le_of_ble_eq_true rfl⟩) hS (fun q _ h => fA_le hS.1 q h) (fA_le hS.1) (fun r9 u9 t9 H1 locs ht9 hvm9 hw9 hB9 hz9 hk9 hS => ?_)
  obtain ⟨μe, re⟩ := u9
  obtain ⟨hP, -⟩ := hB9
  rw [ht9] at hP
  generalize H1 = H at hP hS ⊢
  obtain ⟨e9, hw9⟩ := hw9
  have e9 : r9 = iZ re := e9
  subst e9
  simp only at hP hw9
  have hμe := hw9; clear hw9
  rw [hμe.1] at hP; have hμe := hμe.2
  have hre := if_el hμe
  refine lv_istore (lv' := [(5, .int (iZ (re))), (0, .ref (h0 + 41)), (1, .ref (h0 + q)), (2, .ref (h0 + q2)), (3, .int (iZ (i))), (4, .int (iZ (j)))]) hx hb dX0_best_5 hl (by decide) rfl (fun ls hl => ?_)
  refine lv_aload_n hx hb dX0_best_7 rfl (lv_at hl 3 rfl) ?_
  refine lv_iload hx hb dX0_best_8 (lv_at hl 5 rfl) ?_
  refine va_calli (va_runV (As := [.int (iZ (j))]) (rest := []) ⟨hx, hb, hml, hown, hts⟩ (s_RendsAt l dC dI cI cZ cII cIII h0 H.size μ (q2) (rm2) (j) (hq2) (by first | assumption | omega | exact ⟨by omega, by omega⟩) (by first | assumption | omega | exact ⟨by omega, by omega⟩) (by intro _; constructor <;> omega)) (cwV 1 hts (gV_G k774 k775 k776 k3 k777) rfl rfl rfl (by decide +kernel) ⟨Nat.le_of_ble_eq_true rfl, Nat.le_of_ble_eq_true rfl⟩) ⟨fun a U g mk q => by obtain ⟨q0, q1, qP, qK, qM⟩ := q; exact ⟨q0, q1, qP, va_K.moved (u := U) (U := U.calling g mk a) (Vm.Alike.refl U.vm) qK, qM⟩, va_recv hK hP (ci := 4) (q0 := q2) rfl ((fw_get (by omega)).trans (by rw [(sE_rowO hq2)])), fun U hU hW => ⟨rfl, by rw [hU], by rw [hU]; exact hP, va_K.moved hW.alike hK, xM_warm hW hM⟩⟩ rfl rfl hl.1 rfl (lv_room (Nat.le_of_ble_eq_true rfl)) dX0_best_10 ⟨Nat.le_of_ble_eq_true rfl, Nat.le_of_ble_eq_true rfl⟩) hS (fun q _ h => fA_le hS.1 q h) (fA_le hS.1) (fun r9 u9 t9 H1 locs ht9 hvm9 hw9 hB9 hz9 hk9 hS => ?_)
  obtain ⟨μf, pe⟩ := u9
  obtain ⟨hP, -⟩ := hB9
  rw [ht9] at hP
  generalize H1 = H at hP hS ⊢
  obtain ⟨e9, hw9⟩ := hw9
  have e9 : r9 = iZ pe := e9
  subst e9
  simp only at hP hw9
  have hμf := hw9; clear hw9
  rw [hμf.1] at hP; have hμf := hμf.2
  have hpe := if_el hμf
  refine lv_istore (lv' := [(6, .int (iZ (pe))), (5, .int (iZ (re))), (0, .ref (h0 + 41)), (1, .ref (h0 + q)), (2, .ref (h0 + q2)), (3, .int (iZ (i))), (4, .int (iZ (j)))]) hx hb dX0_best_13 hl (by decide) rfl (fun ls hl => ?_)
  refine lv_iload hx hb dX0_best_15 (lv_at hl 1 rfl) ?_
  refine fz_if_eq (tgt := 27) (by constructor <;> omega) hx hb dX0_best_17 (by decide) (fun c17_ => ?_) (fun c17_ => ?_)
  · refine lv_ldc (v := iZ 268435456) hx hb hown (hts _ k778) dX0_best_27 ?_
    refine lv_istore (lv' := [(7, .int (iZ (268435456))), (6, .int (iZ (pe))), (5, .int (iZ (re))), (0, .ref (h0 + 41)), (1, .ref (h0 + q)), (2, .ref (h0 + q2)), (3, .int (iZ (i))), (4, .int (iZ (j)))]) hx hb dX0_best_29 hl (by decide) rfl (fun ls hl => ?_)
    refine lv_iload hx hb dX0_best_31 (lv_at hl 2 rfl) ?_
    refine fz_if_ne (tgt := 76) (by constructor <;> omega) hx hb dX0_best_33 (by decide) (fun h9 => (by omega)) (fun c33_ => ?_)
    refine lv_iload hx hb dX0_best_36 (lv_at hl 1 rfl) ?_
    refine fz_if_ne (tgt := 76) (by constructor <;> omega) hx hb dX0_best_38 (by decide) (fun c38_ => ?_) (fun c38_ => ?_)
    · have hi9 : i < μ q 5 ∧ μ (q + 1) i.toNat ≠ 515 := by omega
      have hpe9 : hid (μ q2 5 ≤ j ∨ μ (q2 + 1) j.toNat = 515) := hid_i (by omega)
      clear hre hpe
      refine lv_iload hx hb dX0_best_76 (lv_at hl 2 rfl) ?_
      refine fz_if_ne (tgt := 136) (by constructor <;> omega) hx hb dX0_best_78 (by decide) (fun h9 => (by omega)) (fun c78_ => ?_)
      have hi8 : i < μ q 5 ∧ μ (q + 1) i.toNat ≠ 515 := by omega
      have hm1 := rG_m hG i (by omega) (by omega)
      have hsz := sz_b hG (by omega) hi8.1 hi8.2
      obtain ⟨zx, kx, vx, lx, rx, dx, ex, wx, sx, ax, ddx, mx, nx, ox, gx, lex⟩ := at_in hG hw9 (by omega) hi8
      have hz4 := sz_is hG (by omega) ⟨wx.1, wx.2.1⟩ ax ddx
      clear ddx ox ax
      refine lv_aload_n hx hb dX0_best_81 rfl (lv_at hl 4 rfl) ?_
      refine fz_get (D := (dC, dI)) (ci := 4) (v := .ref (h0 + (q + 1))) (C := RX4) (T := TX4) (N := 8) hx hb hts inG4 hown hK hP (k := q) (by omega) (F := (sRF h0 q)) (sE_rowO hq) rfl 0 (by decide) (hts _ k80) (fun _ h9 => h9) rfl dX0_best_82 ?_
      refine lv_iload_n hx hb dX0_best_85 rfl (lv_at hl 6 rfl) ?_
      refine fz_ld (k := (q + 1)) (n := rm) hx hb hK hP 0 (by omega) (sE_rowA (r := 1) hq (by decide)) rfl ⟨by omega, by omega⟩ (by omega) dX0_best_86 ?_
      refine lv_sipush (v := iZ 513) hx hb dX0_best_87 rfl ?_
      refine fz_icmp_ne (tgt := 97) (by constructor <;> omega) (by decide) hx hb dX0_best_90 (by decide) (fun c90_ => ?_) (fun c90_ => ?_)
      · have hkx9 : ¬ kx = 3 := by omega
        clear gx
        refine lv_aload_n hx hb dX0_best_97 rfl (lv_at hl 4 rfl) ?_
        refine lv_iload_n hx hb dX0_best_98 rfl (lv_at hl 6 rfl) ?_
        refine va_calli (va_runV (As := [.int (iZ (i))]) (rest := []) ⟨hx, hb, hml, hown, hts⟩ (s_RsizeAt l dC dI cI cZ cII cIII h0 H.size μ (q) (rm) (i) (hq) (by first | assumption | omega | exact ⟨by omega, by omega⟩) (by constructor <;> omega)) (cwV 1 hts (gV_G k808 k809 k810 k3 k811) rfl rfl rfl (by decide +kernel) ⟨Nat.le_of_ble_eq_true rfl, Nat.le_of_ble_eq_true rfl⟩) ⟨fun a U g mk q => by obtain ⟨q0, q1, qP, qK, qM⟩ := q; exact ⟨q0, q1, qP, va_K.moved (u := U) (U := U.calling g mk a) (Vm.Alike.refl U.vm) qK, qM⟩, va_recv hK hP (ci := 4) (q0 := q) rfl ((fw_get (by omega)).trans (by rw [(sE_rowO hq)])), fun U hU hW => ⟨rfl, by rw [hU], by rw [hU]; exact hP, va_K.moved hW.alike hK, xM_warm hW hM⟩⟩ rfl rfl hl.1 rfl (lv_room (Nat.le_of_ble_eq_true rfl)) dX0_best_99 ⟨Nat.le_of_ble_eq_true rfl, Nat.le_of_ble_eq_true rfl⟩) hS (fun q _ h => fA_le hS.1 q h) (fA_le hS.1) (fun r9 u9 t9 H1 locs ht9 hvm9 hw9 hB9 hz9 hk9 hS => ?_)
        obtain ⟨μs, rs⟩ := u9
        obtain ⟨hP, -⟩ := hB9
        rw [ht9] at hP
        generalize H1 = H at hP hS ⊢
        obtain ⟨e9, hw9⟩ := hw9
        have e9 : r9 = iZ rs := e9
        subst e9
        simp only at hP hw9
        have hμs := hw9; clear hw9
        rw [hμs.1] at hP; have hμs := hμs.2
        have hrs := hμs
        rw [show (μ (q + 2) i.toNat + 1).toNat = i.toNat + dx by omega, hz4] at hrs
        refine lv_istore (lv' := [(8, .int (iZ (rs))), (7, .int (iZ (268435456))), (6, .int (iZ (pe))), (5, .int (iZ (re))), (0, .ref (h0 + 41)), (1, .ref (h0 + q)), (2, .ref (h0 + q2)), (3, .int (iZ (i))), (4, .int (iZ (j)))]) hx hb dX0_best_102 hl (by decide) rfl (fun ls hl => ?_)
        refine lv_iload hx hb dX0_best_104 (lv_at hl 1 rfl) ?_
        refine lv_iload hx hb dX0_best_106 (lv_at hl 0 rfl) ?_
        refine lv_iconst (v := iZ 4) hx hb dX0_best_108 rfl ?_
        refine lv_aload_n hx hb dX0_best_109 rfl (lv_at hl 4 rfl) ?_
        refine fz_get (D := (dC, dI)) (ci := 0) (v := .ref (h0 + 42)) (C := RX0) (T := TX0) (N := 7) hx hb hts inG0 hown hK hP (k := 41) (by decide) (F := (sF41 h0)) sE_41 rfl 0 (by decide) (hts _ k182) (fun _ h9 => h9) rfl dX0_best_110 ?_
        refine lv_aload_n hx hb dX0_best_113 rfl (lv_at hl 5 rfl) ?_
        refine lv_iload_n hx hb dX0_best_114 rfl (lv_at hl 7 rfl) ?_
        refine va_calli (va_runV (As := [.int (iZ (i))]) (rest := [.ref (h0 + 42), .int (iZ (4)), .int (iZ (rs)), .int (iZ (268435456))]) ⟨hx, hb, hml, hown, hts⟩ (s_Rafter l dC dI cI cZ cII cIII h0 H.size μ (q) (rm) (i) (hq) (by first | assumption | omega | exact ⟨by omega, by omega⟩) (by constructor <;> omega)) (cwV 1 hts (gV_G k791 k438 k439 k3 k440) rfl rfl rfl (by decide +kernel) ⟨Nat.le_of_ble_eq_true rfl, Nat.le_of_ble_eq_true rfl⟩) ⟨fun a U g mk q => by obtain ⟨q0, q1, qP, qK, qM⟩ := q; exact ⟨q0, q1, qP, va_K.moved (u := U) (U := U.calling g mk a) (Vm.Alike.refl U.vm) qK, qM⟩, va_recv hK hP (ci := 4) (q0 := q) rfl ((fw_get (by omega)).trans (by rw [(sE_rowO hq)])), fun U hU hW => ⟨rfl, by rw [hU], by rw [hU]; exact hP, va_K.moved hW.alike hK, xM_warm hW hM⟩⟩ rfl rfl hl.1 rfl (lv_room (Nat.le_of_ble_eq_true rfl)) dX0_best_115 ⟨Nat.le_of_ble_eq_true rfl, Nat.le_of_ble_eq_true rfl⟩) hS (fun q _ h => fA_le hS.1 q h) (fA_le hS.1) (fun r9 u9 t9 H1 locs ht9 hvm9 hw9 hB9 hz9 hk9 hS => ?_)
        obtain ⟨μa, ra⟩ := u9
        obtain ⟨hP, -⟩ := hB9
        rw [ht9] at hP
        generalize H1 = H at hP hS ⊢
        obtain ⟨e9, hw9⟩ := hw9
        have e9 : r9 = iZ ra := e9
        subst e9
        simp only at hP hw9
        have hμa := hw9; clear hw9
        rw [hμa.1] at hP; have hμa := hμa.2
        have hra := hμa
        obtain ⟨y1_, y2_, y3_⟩ := vis_4 hG hv hi8.1 hi8.2
        rw [← hra] at y3_
        have hvc := y3_
        have hbc := hLC (ra) (j) hvc (Or.inl (by omega))
        unfold bnd at hbc
        have hvc1 := hvc.1
        have mlc := mulC (i := ra) (s := μ 41 3) (by omega) (by omega) (by omega) (by omega)
        have hcv := hLCv ra j hvc (Or.inl (by omega))
        rw [show ra.toNat = i.toNat + dx by omega, nx] at hcv
        have hcve := enc_16 rx (sub b j.toNat)
        have hB4 := hB9
        rw [ex] at hB4
        have q4 := ck4_is hB4
        rw [← ex] at q4
        refine lv_aload_n hx hb dX0_best_118 rfl (lv_at hl 4 rfl) ?_
        refine fz_get (D := (dC, dI)) (ci := 0) (v := .int (iZ (μ 41 3))) (C := RX0) (T := TX0) (N := 7) hx hb hts inG0 hown hK hP (k := 41) (by decide) (F := (sF41 h0)) sE_41 rfl 3 (by decide) (hts _ k185) (fun _ h9 => h9) rfl dX0_best_119 ?_
        refine lv_imul hx hb dX0_best_122 ?_
        refine lv_topi (fun x9 ex9 => ?_)
        obtain rfl : x9 = iZ (ra * (μ 41 3)) := ex9.trans (iZ_mul _ _)
        refine lv_iload hx hb dX0_best_123 (lv_at hl 8 rfl) ?_
        refine lv_iadd hx hb dX0_best_125 ?_
        refine lv_topi (fun x9 ex9 => ?_)
        obtain rfl : x9 = iZ ((ra * (μ 41 3)) + j) := ex9.trans (iZ_add _ _)
        refine fz_ld (k := 42) (n := 106797) hx hb hK hP 0 (by decide) sE_42 rfl ⟨by omega, by omega⟩ (by decide) dX0_best_126 ?_
        refine lv_iconst (v := iZ 1) hx hb dX0_best_127 rfl ?_
        refine va_calli (va_runS (As := [.int (iZ (rs)), .int (iZ (4)), .int (iZ (μ 42 ((ra * (μ 41 3)) + j).toNat)), .int (iZ (1))]) (rest := [.int (iZ (268435456))]) ⟨hx, hb, hml, hown, hts⟩ (s_Ypacked l dC dI cI cZ cII cIII h0 H.size μ (rs) (4) (μ 42 ((ra * (μ 41 3)) + j).toNat) (1) (by first | assumption | omega | exact ⟨by omega, by omega⟩) (by first | assumption | omega | exact ⟨by omega, by omega⟩) (by first | assumption | omega | exact ⟨by omega, by omega⟩) (by first | assumption | omega | exact ⟨by omega, by omega⟩)) (cwS 4 hts (gS_G k788 k789 k7 k790) rfl rfl rfl (by decide +kernel) ⟨Nat.le_of_ble_eq_true rfl, Nat.le_of_ble_eq_true rfl⟩) ⟨fun a U g mk q => by obtain ⟨q0, q1, qP, qK, qM⟩ := q; exact ⟨q0, q1, qP, va_K.moved (u := U) (U := U.calling g mk a) (Vm.Alike.refl U.vm) qK, qM⟩, fun U hU hW => ⟨rfl, by rw [hU], by rw [hU]; exact hP, va_K.moved hW.alike hK, xM_warm hW hM⟩⟩ rfl rfl hl.1 rfl (lv_room (Nat.le_of_ble_eq_true rfl)) dX0_best_128 ⟨Nat.le_of_ble_eq_true rfl, Nat.le_of_ble_eq_true rfl⟩) hS (fun q _ h => fA_le hS.1 q h) (fA_le hS.1) (fun r9 u9 t9 H1 locs ht9 hvm9 hw9 hB9 hz9 hk9 hS => ?_)
        obtain ⟨μp, p4⟩ := u9
        obtain ⟨hP, -⟩ := hB9
        rw [ht9] at hP
        generalize H1 = H at hP hS ⊢
        obtain ⟨e9, hw9⟩ := hw9
        have e9 : r9 = iZ p4 := e9
        subst e9
        simp only at hP hw9
        have hμp := hw9; clear hw9
        rw [hμp.1] at hP; have hμp := hμp.2
        have hp4 := hμp.2 trivial
        have hc4 : p4 = ck 4 (sub w i.toNat) (sub b j.toNat) := by
          rw [q4, if_neg hkx9]
          omega
        clear q4
        have hc4b := ck_b 4 (by decide) (sub w i.toNat) (sub b j.toNat)
        rw [← hc4] at hc4b
        refine va_mmin hx hb (hml.trans hl.1.symm) hown (hts _ k807) (hts _ k501) (hts _ k4) (hts _ k502) (Nat.le_of_ble_eq_true rfl) (Nat.le_of_ble_eq_true rfl) (Nat.le_of_ble_eq_true rfl) (Nat.le_of_ble_eq_true rfl) dX0_best_131 ?_
        refine lv_topi (fun x9 ex9 => ?_)
        obtain rfl : x9 = iZ (min 268435456 p4) := ex9.trans (iZ_mn (by decide) (by constructor <;> omega))
        refine lv_istore (lv' := [(7, .int (iZ (min 268435456 p4))), (8, .int (iZ (rs))), (6, .int (iZ (pe))), (5, .int (iZ (re))), (0, .ref (h0 + 41)), (1, .ref (h0 + q)), (2, .ref (h0 + q2)), (3, .int (iZ (i))), (4, .int (iZ (j)))]) hx hb dX0_best_134 hl (by decide) rfl (fun ls hl => ?_)
        refine lv_iload hx hb dX0_best_136 (lv_at hl 2 rfl) ?_
        refine fz_if_ne (tgt := 177) (by constructor <;> omega) hx hb dX0_best_138 (by decide) (fun c138_ => ?_) (fun h9 => (by omega))
        refine lv_iload hx hb dX0_best_177 (lv_at hl 0 rfl) ?_
        exact W.iret (v := iZ (min 268435456 p4)) hx hb hr (fun t9 ht9 hW9 => ⟨⟨iZ (min 268435456 p4), (μ, min 268435456 p4), rfl, ⟨rfl, (by
                        dsimp only
                        refine ⟨rfl, ?_⟩
                        rw [hc4]
                        exact enc_4 (by rw [ex]; rfl) (by rw [at_lf hb9 (by omega) (hid_e hpe9)]; rfl) hB9)⟩, by rw [ht9]; exact hP, va_K.moved hW9.alike hK⟩, hS.F ht9⟩) hS.2.2 dX0_best_179
      · have hkx9 : kx = 3 := by omega
        clear gx
        refine lv_iconst (v := iZ 0) hx hb dX0_best_93 rfl ?_
        refine lv_goto (tgt := 102) hx hb dX0_best_94 (by decide) ?_
        refine lv_istore (lv' := [(8, .int (iZ (0))), (7, .int (iZ (268435456))), (6, .int (iZ (pe))), (5, .int (iZ (re))), (0, .ref (h0 + 41)), (1, .ref (h0 + q)), (2, .ref (h0 + q2)), (3, .int (iZ (i))), (4, .int (iZ (j)))]) hx hb dX0_best_102 hl (by decide) rfl (fun ls hl => ?_)
        refine lv_iload hx hb dX0_best_104 (lv_at hl 1 rfl) ?_
        refine lv_iload hx hb dX0_best_106 (lv_at hl 0 rfl) ?_
        refine lv_iconst (v := iZ 4) hx hb dX0_best_108 rfl ?_
        refine lv_aload_n hx hb dX0_best_109 rfl (lv_at hl 4 rfl) ?_
        refine fz_get (D := (dC, dI)) (ci := 0) (v := .ref (h0 + 42)) (C := RX0) (T := TX0) (N := 7) hx hb hts inG0 hown hK hP (k := 41) (by decide) (F := (sF41 h0)) sE_41 rfl 0 (by decide) (hts _ k182) (fun _ h9 => h9) rfl dX0_best_110 ?_
        refine lv_aload_n hx hb dX0_best_113 rfl (lv_at hl 5 rfl) ?_
        refine lv_iload_n hx hb dX0_best_114 rfl (lv_at hl 7 rfl) ?_
        refine va_calli (va_runV (As := [.int (iZ (i))]) (rest := [.ref (h0 + 42), .int (iZ (4)), .int (iZ (0)), .int (iZ (268435456))]) ⟨hx, hb, hml, hown, hts⟩ (s_Rafter l dC dI cI cZ cII cIII h0 H.size μ (q) (rm) (i) (hq) (by first | assumption | omega | exact ⟨by omega, by omega⟩) (by constructor <;> omega)) (cwV 1 hts (gV_G k791 k438 k439 k3 k440) rfl rfl rfl (by decide +kernel) ⟨Nat.le_of_ble_eq_true rfl, Nat.le_of_ble_eq_true rfl⟩) ⟨fun a U g mk q => by obtain ⟨q0, q1, qP, qK, qM⟩ := q; exact ⟨q0, q1, qP, va_K.moved (u := U) (U := U.calling g mk a) (Vm.Alike.refl U.vm) qK, qM⟩, va_recv hK hP (ci := 4) (q0 := q) rfl ((fw_get (by omega)).trans (by rw [(sE_rowO hq)])), fun U hU hW => ⟨rfl, by rw [hU], by rw [hU]; exact hP, va_K.moved hW.alike hK, xM_warm hW hM⟩⟩ rfl rfl hl.1 rfl (lv_room (Nat.le_of_ble_eq_true rfl)) dX0_best_115 ⟨Nat.le_of_ble_eq_true rfl, Nat.le_of_ble_eq_true rfl⟩) hS (fun q _ h => fA_le hS.1 q h) (fA_le hS.1) (fun r9 u9 t9 H1 locs ht9 hvm9 hw9 hB9 hz9 hk9 hS => ?_)
        obtain ⟨μa, ra⟩ := u9
        obtain ⟨hP, -⟩ := hB9
        rw [ht9] at hP
        generalize H1 = H at hP hS ⊢
        obtain ⟨e9, hw9⟩ := hw9
        have e9 : r9 = iZ ra := e9
        subst e9
        simp only at hP hw9
        have hμa := hw9; clear hw9
        rw [hμa.1] at hP; have hμa := hμa.2
        have hra := hμa
        obtain ⟨y1_, y2_, y3_⟩ := vis_4 hG hv hi8.1 hi8.2
        rw [← hra] at y3_
        have hvc := y3_
        have hbc := hLC (ra) (j) hvc (Or.inl (by omega))
        unfold bnd at hbc
        have hvc1 := hvc.1
        have mlc := mulC (i := ra) (s := μ 41 3) (by omega) (by omega) (by omega) (by omega)
        have hcv := hLCv ra j hvc (Or.inl (by omega))
        rw [show ra.toNat = i.toNat + dx by omega, nx] at hcv
        have hcve := enc_16 rx (sub b j.toNat)
        have hB4 := hB9
        rw [ex] at hB4
        have q4 := ck4_is hB4
        rw [← ex] at q4
        refine lv_aload_n hx hb dX0_best_118 rfl (lv_at hl 4 rfl) ?_
        refine fz_get (D := (dC, dI)) (ci := 0) (v := .int (iZ (μ 41 3))) (C := RX0) (T := TX0) (N := 7) hx hb hts inG0 hown hK hP (k := 41) (by decide) (F := (sF41 h0)) sE_41 rfl 3 (by decide) (hts _ k185) (fun _ h9 => h9) rfl dX0_best_119 ?_
        refine lv_imul hx hb dX0_best_122 ?_
        refine lv_topi (fun x9 ex9 => ?_)
        obtain rfl : x9 = iZ (ra * (μ 41 3)) := ex9.trans (iZ_mul _ _)
        refine lv_iload hx hb dX0_best_123 (lv_at hl 8 rfl) ?_
        refine lv_iadd hx hb dX0_best_125 ?_
        refine lv_topi (fun x9 ex9 => ?_)
        obtain rfl : x9 = iZ ((ra * (μ 41 3)) + j) := ex9.trans (iZ_add _ _)
        refine fz_ld (k := 42) (n := 106797) hx hb hK hP 0 (by decide) sE_42 rfl ⟨by omega, by omega⟩ (by decide) dX0_best_126 ?_
        refine lv_iconst (v := iZ 1) hx hb dX0_best_127 rfl ?_
        refine va_calli (va_runS (As := [.int (iZ (0)), .int (iZ (4)), .int (iZ (μ 42 ((ra * (μ 41 3)) + j).toNat)), .int (iZ (1))]) (rest := [.int (iZ (268435456))]) ⟨hx, hb, hml, hown, hts⟩ (s_Ypacked l dC dI cI cZ cII cIII h0 H.size μ (0) (4) (μ 42 ((ra * (μ 41 3)) + j).toNat) (1) (by first | assumption | omega | exact ⟨by omega, by omega⟩) (by first | assumption | omega | exact ⟨by omega, by omega⟩) (by first | assumption | omega | exact ⟨by omega, by omega⟩) (by first | assumption | omega | exact ⟨by omega, by omega⟩)) (cwS 4 hts (gS_G k788 k789 k7 k790) rfl rfl rfl (by decide +kernel) ⟨Nat.le_of_ble_eq_true rfl, Nat.le_of_ble_eq_true rfl⟩) ⟨fun a U g mk q => by obtain ⟨q0, q1, qP, qK, qM⟩ := q; exact ⟨q0, q1, qP, va_K.moved (u := U) (U := U.calling g mk a) (Vm.Alike.refl U.vm) qK, qM⟩, fun U hU hW => ⟨rfl, by rw [hU], by rw [hU]; exact hP, va_K.moved hW.alike hK, xM_warm hW hM⟩⟩ rfl rfl hl.1 rfl (lv_room (Nat.le_of_ble_eq_true rfl)) dX0_best_128 ⟨Nat.le_of_ble_eq_true rfl, Nat.le_of_ble_eq_true rfl⟩) hS (fun q _ h => fA_le hS.1 q h) (fA_le hS.1) (fun r9 u9 t9 H1 locs ht9 hvm9 hw9 hB9 hz9 hk9 hS => ?_)
        obtain ⟨μp, p4⟩ := u9
        obtain ⟨hP, -⟩ := hB9
        rw [ht9] at hP
        generalize H1 = H at hP hS ⊢
        obtain ⟨e9, hw9⟩ := hw9
        have e9 : r9 = iZ p4 := e9
        subst e9
        simp only at hP hw9
        have hμp := hw9; clear hw9
        rw [hμp.1] at hP; have hμp := hμp.2
        have hp4 := hμp.2 trivial
        have hc4 : p4 = ck 4 (sub w i.toNat) (sub b j.toNat) := by
          rw [q4, if_pos hkx9]
          omega
        clear q4
        have hc4b := ck_b 4 (by decide) (sub w i.toNat) (sub b j.toNat)
        rw [← hc4] at hc4b
        refine va_mmin hx hb (hml.trans hl.1.symm) hown (hts _ k807) (hts _ k501) (hts _ k4) (hts _ k502) (Nat.le_of_ble_eq_true rfl) (Nat.le_of_ble_eq_true rfl) (Nat.le_of_ble_eq_true rfl) (Nat.le_of_ble_eq_true rfl) dX0_best_131 ?_
        refine lv_topi (fun x9 ex9 => ?_)
        obtain rfl : x9 = iZ (min 268435456 p4) := ex9.trans (iZ_mn (by decide) (by constructor <;> omega))
        refine lv_istore (lv' := [(7, .int (iZ (min 268435456 p4))), (8, .int (iZ (0))), (6, .int (iZ (pe))), (5, .int (iZ (re))), (0, .ref (h0 + 41)), (1, .ref (h0 + q)), (2, .ref (h0 + q2)), (3, .int (iZ (i))), (4, .int (iZ (j)))]) hx hb dX0_best_134 hl (by decide) rfl (fun ls hl => ?_)
        refine lv_iload hx hb dX0_best_136 (lv_at hl 2 rfl) ?_
        refine fz_if_ne (tgt := 177) (by constructor <;> omega) hx hb dX0_best_138 (by decide) (fun c138_ => ?_) (fun h9 => (by omega))
        refine lv_iload hx hb dX0_best_177 (lv_at hl 0 rfl) ?_
        exact W.iret (v := iZ (min 268435456 p4)) hx hb hr (fun t9 ht9 hW9 => ⟨⟨iZ (min 268435456 p4), (μ, min 268435456 p4), rfl, ⟨rfl, (by
                        dsimp only
                        refine ⟨rfl, ?_⟩
                        rw [hc4]
                        exact enc_4 (by rw [ex]; rfl) (by rw [at_lf hb9 (by omega) (hid_e hpe9)]; rfl) hB9)⟩, by rw [ht9]; exact hP, va_K.moved hW9.alike hK⟩, hS.F ht9⟩) hS.2.2 dX0_best_179
    · have hi9 : i < μ q 5 ∧ μ (q + 1) i.toNat ≠ 515 := by omega
      have hj9 : j < μ q2 5 ∧ μ (q2 + 1) j.toNat ≠ 515 := by omega
      clear hre hpe
      refine lv_aload_n hx hb dX0_best_41 rfl (lv_at hl 3 rfl) ?_
      refine lv_aload_n hx hb dX0_best_42 rfl (lv_at hl 4 rfl) ?_
      refine lv_aload_n hx hb dX0_best_43 rfl (lv_at hl 5 rfl) ?_
      refine lv_iload_n hx hb dX0_best_44 rfl (lv_at hl 6 rfl) ?_
      refine lv_iload hx hb dX0_best_45 (lv_at hl 7 rfl) ?_
      refine va_calli (va_runV (As := [.ref (h0 + q), .ref (h0 + q2), .int (iZ (i)), .int (iZ (j))]) (rest := []) ⟨hx, hb, hml, hown, hts⟩ (s_Vboth l dC dI cI cZ cII cIII h0 H.size μ (q) (rm) (q2) (rm2) (i) (j) (w) (b) (hq) (hq2) (by first | assumption | omega | exact ⟨by omega, by omega⟩) (by first | assumption | omega | exact ⟨by omega, by omega⟩) (by first | assumption | omega | exact ⟨by omega, by omega⟩) (by first | assumption | omega | exact ⟨by omega, by omega⟩) (by first | assumption | omega | exact ⟨by omega, by omega⟩) (by first | assumption | omega | exact ⟨by omega, by omega⟩) (by first | assumption | omega | exact ⟨by omega, by omega⟩) (by first | assumption | omega | exact ⟨by omega, by omega⟩) (by exact hi9) (by exact hj9)) (cwV 4 hts (gV_G k779 k781 ks_yX0_both k7 k782) rfl rfl rfl (by decide +kernel) ⟨Nat.le_of_ble_eq_true rfl, Nat.le_of_ble_eq_true rfl⟩) ⟨fun a U g mk q => by obtain ⟨q0, q1, qP, qK, qM⟩ := q; exact ⟨q0, q1, qP, va_K.moved (u := U) (U := U.calling g mk a) (Vm.Alike.refl U.vm) qK, qM⟩, va_recv hK hP (ci := 0) (q0 := 41) rfl ((fw_get (by decide)).trans (by rw [sE_41])), fun U hU hW => ⟨rfl, by rw [hU], by rw [hU]; exact hP, va_K.moved hW.alike hK, xM_warm hW hM⟩⟩ rfl rfl hl.1 rfl (lv_room (Nat.le_of_ble_eq_true rfl)) dX0_best_47 ⟨Nat.le_of_ble_eq_true rfl, Nat.le_of_ble_eq_true rfl⟩) hS (fun q _ h => fA_le hS.1 q h) (fA_le hS.1) (fun r9 u9 t9 H1 locs ht9 hvm9 hw9 hB9 hz9 hk9 hS => ?_)
      obtain ⟨μw1, w1⟩ := u9
      obtain ⟨hP, -⟩ := hB9
      rw [ht9] at hP
      generalize H1 = H at hP hS ⊢
      obtain ⟨e9, hw9⟩ := hw9
      have e9 : r9 = iZ w1 := e9
      subst e9
      simp only at hP hw9
      have hμw1 := hw9; clear hw9
      rw [hμw1.1] at hP; have hμw1 := hμw1.2
      have hw1 := hμw1
      have hw1b : 0 ≤ w1 ∧ w1 ≤ 268435456 := by rw [hw1]; exact ck_b _ (by decide) _ _
      refine lv_aload_n hx hb dX0_best_50 rfl (lv_at hl 3 rfl) ?_
      refine lv_aload_n hx hb dX0_best_51 rfl (lv_at hl 4 rfl) ?_
      refine lv_aload_n hx hb dX0_best_52 rfl (lv_at hl 5 rfl) ?_
      refine lv_iload_n hx hb dX0_best_53 rfl (lv_at hl 6 rfl) ?_
      refine lv_iload hx hb dX0_best_54 (lv_at hl 7 rfl) ?_
      refine va_calli (va_runV (As := [.ref (h0 + q), .ref (h0 + q2), .int (iZ (i)), .int (iZ (j))]) (rest := [.int (iZ (w1))]) ⟨hx, hb, hml, hown, hts⟩ (s_VintoRow l dC dI cI cZ cII cIII h0 H.size μ (q) (rm) (q2) (rm2) (i) (j) (w) (b) (hq) (hq2) (by first | assumption | omega | exact ⟨by omega, by omega⟩) (by first | assumption | omega | exact ⟨by omega, by omega⟩) (by first | assumption | omega | exact ⟨by omega, by omega⟩) (by first | assumption | omega | exact ⟨by omega, by omega⟩) (by first | assumption | omega | exact ⟨by omega, by omega⟩) (by first | assumption | omega | exact ⟨by omega, by omega⟩) (by first | assumption | omega | exact ⟨by omega, by omega⟩) (by first | assumption | omega | exact ⟨by omega, by omega⟩) (by exact hi9) (by exact hj9)) (cwV 4 hts (gV_G k792 k794 ks_yX0_intoRow k7 k795) rfl rfl rfl (by decide +kernel) ⟨Nat.le_of_ble_eq_true rfl, Nat.le_of_ble_eq_true rfl⟩) ⟨fun a U g mk q => by obtain ⟨q0, q1, qP, qK, qM⟩ := q; exact ⟨q0, q1, qP, va_K.moved (u := U) (U := U.calling g mk a) (Vm.Alike.refl U.vm) qK, qM⟩, va_recv hK hP (ci := 0) (q0 := 41) rfl ((fw_get (by decide)).trans (by rw [sE_41])), fun U hU hW => ⟨rfl, by rw [hU], by rw [hU]; exact hP, va_K.moved hW.alike hK, xM_warm hW hM⟩⟩ rfl rfl hl.1 rfl (lv_room (Nat.le_of_ble_eq_true rfl)) dX0_best_56 ⟨Nat.le_of_ble_eq_true rfl, Nat.le_of_ble_eq_true rfl⟩) hS (fun q _ h => fA_le hS.1 q h) (fA_le hS.1) (fun r9 u9 t9 H1 locs ht9 hvm9 hw9 hB9 hz9 hk9 hS => ?_)
      obtain ⟨μw2, w2⟩ := u9
      obtain ⟨hP, -⟩ := hB9
      rw [ht9] at hP
      generalize H1 = H at hP hS ⊢
      obtain ⟨e9, hw9⟩ := hw9
      have e9 : r9 = iZ w2 := e9
      subst e9
      simp only at hP hw9
      have hμw2 := hw9; clear hw9
      rw [hμw2.1] at hP; have hμw2 := hμw2.2
      have hw2 := hμw2
      have hw2b : 0 ≤ w2 ∧ w2 ≤ 268435456 := by rw [hw2]; exact ck_b _ (by decide) _ _
      refine lv_aload_n hx hb dX0_best_59 rfl (lv_at hl 3 rfl) ?_
      refine lv_aload_n hx hb dX0_best_60 rfl (lv_at hl 4 rfl) ?_
      refine lv_aload_n hx hb dX0_best_61 rfl (lv_at hl 5 rfl) ?_
      refine lv_iload_n hx hb dX0_best_62 rfl (lv_at hl 6 rfl) ?_
      refine lv_iload hx hb dX0_best_63 (lv_at hl 7 rfl) ?_
      refine va_calli (va_runV (As := [.ref (h0 + q), .ref (h0 + q2), .int (iZ (i)), .int (iZ (j))]) (rest := [.int (iZ (w2)), .int (iZ (w1))]) ⟨hx, hb, hml, hown, hts⟩ (s_VintoPage l dC dI cI cZ cII cIII h0 H.size μ (q) (rm) (q2) (rm2) (i) (j) (w) (b) (hq) (hq2) (by first | assumption | omega | exact ⟨by omega, by omega⟩) (by first | assumption | omega | exact ⟨by omega, by omega⟩) (by first | assumption | omega | exact ⟨by omega, by omega⟩) (by first | assumption | omega | exact ⟨by omega, by omega⟩) (by first | assumption | omega | exact ⟨by omega, by omega⟩) (by first | assumption | omega | exact ⟨by omega, by omega⟩) (by first | assumption | omega | exact ⟨by omega, by omega⟩) (by first | assumption | omega | exact ⟨by omega, by omega⟩) (by exact hi9) (by exact hj9)) (cwV 4 hts (gV_G k803 k805 ks_yX0_intoPage k7 k806) rfl rfl rfl (by decide +kernel) ⟨Nat.le_of_ble_eq_true rfl, Nat.le_of_ble_eq_true rfl⟩) ⟨fun a U g mk q => by obtain ⟨q0, q1, qP, qK, qM⟩ := q; exact ⟨q0, q1, qP, va_K.moved (u := U) (U := U.calling g mk a) (Vm.Alike.refl U.vm) qK, qM⟩, va_recv hK hP (ci := 0) (q0 := 41) rfl ((fw_get (by decide)).trans (by rw [sE_41])), fun U hU hW => ⟨rfl, by rw [hU], by rw [hU]; exact hP, va_K.moved hW.alike hK, xM_warm hW hM⟩⟩ rfl rfl hl.1 rfl (lv_room (Nat.le_of_ble_eq_true rfl)) dX0_best_65 ⟨Nat.le_of_ble_eq_true rfl, Nat.le_of_ble_eq_true rfl⟩) hS (fun q _ h => fA_le hS.1 q h) (fA_le hS.1) (fun r9 u9 t9 H1 locs ht9 hvm9 hw9 hB9 hz9 hk9 hS => ?_)
      obtain ⟨μw3, w3⟩ := u9
      obtain ⟨hP, -⟩ := hB9
      rw [ht9] at hP
      generalize H1 = H at hP hS ⊢
      obtain ⟨e9, hw9⟩ := hw9
      have e9 : r9 = iZ w3 := e9
      subst e9
      simp only at hP hw9
      have hμw3 := hw9; clear hw9
      rw [hμw3.1] at hP; have hμw3 := hμw3.2
      have hw3 := hμw3
      have hw3b : 0 ≤ w3 ∧ w3 ≤ 268435456 := by rw [hw3]; exact ck_b _ (by decide) _ _
      refine va_mmin hx hb (hml.trans hl.1.symm) hown (hts _ k807) (hts _ k501) (hts _ k4) (hts _ k502) (Nat.le_of_ble_eq_true rfl) (Nat.le_of_ble_eq_true rfl) (Nat.le_of_ble_eq_true rfl) (Nat.le_of_ble_eq_true rfl) dX0_best_68 ?_
      refine lv_topi (fun x9 ex9 => ?_)
      obtain rfl : x9 = iZ (min w2 w3) := ex9.trans (iZ_mn (by constructor <;> omega) (by constructor <;> omega))
      refine va_mmin hx hb (hml.trans hl.1.symm) hown (hts _ k807) (hts _ k501) (hts _ k4) (hts _ k502) (Nat.le_of_ble_eq_true rfl) (Nat.le_of_ble_eq_true rfl) (Nat.le_of_ble_eq_true rfl) (Nat.le_of_ble_eq_true rfl) dX0_best_71 ?_
      refine lv_topi (fun x9 ex9 => ?_)
      obtain rfl : x9 = iZ (min w1 (min w2 w3)) := ex9.trans (iZ_mn (by constructor <;> omega) (by constructor <;> omega))
      refine lv_istore (lv' := [(7, .int (iZ (min w1 (min w2 w3)))), (6, .int (iZ (pe))), (5, .int (iZ (re))), (0, .ref (h0 + 41)), (1, .ref (h0 + q)), (2, .ref (h0 + q2)), (3, .int (iZ (i))), (4, .int (iZ (j)))]) hx hb dX0_best_74 hl (by decide) rfl (fun ls hl => ?_)
      refine lv_iload hx hb dX0_best_76 (lv_at hl 2 rfl) ?_
      refine fz_if_ne (tgt := 136) (by constructor <;> omega) hx hb dX0_best_78 (by decide) (fun h9 => (by omega)) (fun c78_ => ?_)
      have hi8 : i < μ q 5 ∧ μ (q + 1) i.toNat ≠ 515 := by omega
      have hm1 := rG_m hG i (by omega) (by omega)
      have hsz := sz_b hG (by omega) hi8.1 hi8.2
      obtain ⟨zx, kx, vx, lx, rx, dx, ex, wx, sx, ax, ddx, mx, nx, ox, gx, lex⟩ := at_in hG hw9 (by omega) hi8
      have hz4 := sz_is hG (by omega) ⟨wx.1, wx.2.1⟩ ax ddx
      clear ddx ox ax
      refine lv_aload_n hx hb dX0_best_81 rfl (lv_at hl 4 rfl) ?_
      refine fz_get (D := (dC, dI)) (ci := 4) (v := .ref (h0 + (q + 1))) (C := RX4) (T := TX4) (N := 8) hx hb hts inG4 hown hK hP (k := q) (by omega) (F := (sRF h0 q)) (sE_rowO hq) rfl 0 (by decide) (hts _ k80) (fun _ h9 => h9) rfl dX0_best_82 ?_
      refine lv_iload_n hx hb dX0_best_85 rfl (lv_at hl 6 rfl) ?_
      refine fz_ld (k := (q + 1)) (n := rm) hx hb hK hP 0 (by omega) (sE_rowA (r := 1) hq (by decide)) rfl ⟨by omega, by omega⟩ (by omega) dX0_best_86 ?_
      refine lv_sipush (v := iZ 513) hx hb dX0_best_87 rfl ?_
      refine fz_icmp_ne (tgt := 97) (by constructor <;> omega) (by decide) hx hb dX0_best_90 (by decide) (fun c90_ => ?_) (fun c90_ => ?_)
      · have hkx9 : ¬ kx = 3 := by omega
        clear gx
        refine lv_aload_n hx hb dX0_best_97 rfl (lv_at hl 4 rfl) ?_
        refine lv_iload_n hx hb dX0_best_98 rfl (lv_at hl 6 rfl) ?_
        refine va_calli (va_runV (As := [.int (iZ (i))]) (rest := []) ⟨hx, hb, hml, hown, hts⟩ (s_RsizeAt l dC dI cI cZ cII cIII h0 H.size μ (q) (rm) (i) (hq) (by first | assumption | omega | exact ⟨by omega, by omega⟩) (by constructor <;> omega)) (cwV 1 hts (gV_G k808 k809 k810 k3 k811) rfl rfl rfl (by decide +kernel) ⟨Nat.le_of_ble_eq_true rfl, Nat.le_of_ble_eq_true rfl⟩) ⟨fun a U g mk q => by obtain ⟨q0, q1, qP, qK, qM⟩ := q; exact ⟨q0, q1, qP, va_K.moved (u := U) (U := U.calling g mk a) (Vm.Alike.refl U.vm) qK, qM⟩, va_recv hK hP (ci := 4) (q0 := q) rfl ((fw_get (by omega)).trans (by rw [(sE_rowO hq)])), fun U hU hW => ⟨rfl, by rw [hU], by rw [hU]; exact hP, va_K.moved hW.alike hK, xM_warm hW hM⟩⟩ rfl rfl hl.1 rfl (lv_room (Nat.le_of_ble_eq_true rfl)) dX0_best_99 ⟨Nat.le_of_ble_eq_true rfl, Nat.le_of_ble_eq_true rfl⟩) hS (fun q _ h => fA_le hS.1 q h) (fA_le hS.1) (fun r9 u9 t9 H1 locs ht9 hvm9 hw9 hB9 hz9 hk9 hS => ?_)
        obtain ⟨μs, rs⟩ := u9
        obtain ⟨hP, -⟩ := hB9
        rw [ht9] at hP
        generalize H1 = H at hP hS ⊢
        obtain ⟨e9, hw9⟩ := hw9
        have e9 : r9 = iZ rs := e9
        subst e9
        simp only at hP hw9
        have hμs := hw9; clear hw9
        rw [hμs.1] at hP; have hμs := hμs.2
        have hrs := hμs
        rw [show (μ (q + 2) i.toNat + 1).toNat = i.toNat + dx by omega, hz4] at hrs
        refine lv_istore (lv' := [(8, .int (iZ (rs))), (7, .int (iZ (min w1 (min w2 w3)))), (6, .int (iZ (pe))), (5, .int (iZ (re))), (0, .ref (h0 + 41)), (1, .ref (h0 + q)), (2, .ref (h0 + q2)), (3, .int (iZ (i))), (4, .int (iZ (j)))]) hx hb dX0_best_102 hl (by decide) rfl (fun ls hl => ?_)
        refine lv_iload hx hb dX0_best_104 (lv_at hl 1 rfl) ?_
        refine lv_iload hx hb dX0_best_106 (lv_at hl 0 rfl) ?_
        refine lv_iconst (v := iZ 4) hx hb dX0_best_108 rfl ?_
        refine lv_aload_n hx hb dX0_best_109 rfl (lv_at hl 4 rfl) ?_
        refine fz_get (D := (dC, dI)) (ci := 0) (v := .ref (h0 + 42)) (C := RX0) (T := TX0) (N := 7) hx hb hts inG0 hown hK hP (k := 41) (by decide) (F := (sF41 h0)) sE_41 rfl 0 (by decide) (hts _ k182) (fun _ h9 => h9) rfl dX0_best_110 ?_
        refine lv_aload_n hx hb dX0_best_113 rfl (lv_at hl 5 rfl) ?_
        refine lv_iload_n hx hb dX0_best_114 rfl (lv_at hl 7 rfl) ?_
        refine va_calli (va_runV (As := [.int (iZ (i))]) (rest := [.ref (h0 + 42), .int (iZ (4)), .int (iZ (rs)), .int (iZ (min w1 (min w2 w3)))]) ⟨hx, hb, hml, hown, hts⟩ (s_Rafter l dC dI cI cZ cII cIII h0 H.size μ (q) (rm) (i) (hq) (by first | assumption | omega | exact ⟨by omega, by omega⟩) (by constructor <;> omega)) (cwV 1 hts (gV_G k791 k438 k439 k3 k440) rfl rfl rfl (by decide +kernel) ⟨Nat.le_of_ble_eq_true rfl, Nat.le_of_ble_eq_true rfl⟩) ⟨fun a U g mk q => by obtain ⟨q0, q1, qP, qK, qM⟩ := q; exact ⟨q0, q1, qP, va_K.moved (u := U) (U := U.calling g mk a) (Vm.Alike.refl U.vm) qK, qM⟩, va_recv hK hP (ci := 4) (q0 := q) rfl ((fw_get (by omega)).trans (by rw [(sE_rowO hq)])), fun U hU hW => ⟨rfl, by rw [hU], by rw [hU]; exact hP, va_K.moved hW.alike hK, xM_warm hW hM⟩⟩ rfl rfl hl.1 rfl (lv_room (Nat.le_of_ble_eq_true rfl)) dX0_best_115 ⟨Nat.le_of_ble_eq_true rfl, Nat.le_of_ble_eq_true rfl⟩) hS (fun q _ h => fA_le hS.1 q h) (fA_le hS.1) (fun r9 u9 t9 H1 locs ht9 hvm9 hw9 hB9 hz9 hk9 hS => ?_)
        obtain ⟨μa, ra⟩ := u9
        obtain ⟨hP, -⟩ := hB9
        rw [ht9] at hP
        generalize H1 = H at hP hS ⊢
        obtain ⟨e9, hw9⟩ := hw9
        have e9 : r9 = iZ ra := e9
        subst e9
        simp only at hP hw9
        have hμa := hw9; clear hw9
        rw [hμa.1] at hP; have hμa := hμa.2
        have hra := hμa
        obtain ⟨y1_, y2_, y3_⟩ := vis_4 hG hv hi8.1 hi8.2
        rw [← hra] at y3_
        have hvc := y3_
        have hbc := hLC (ra) (j) hvc (Or.inl (by omega))
        unfold bnd at hbc
        have hvc1 := hvc.1
        have mlc := mulC (i := ra) (s := μ 41 3) (by omega) (by omega) (by omega) (by omega)
        have hcv := hLCv ra j hvc (Or.inl (by omega))
        rw [show ra.toNat = i.toNat + dx by omega, nx] at hcv
        have hcve := enc_16 rx (sub b j.toNat)
        have hB4 := hB9
        rw [ex] at hB4
        have q4 := ck4_is hB4
        rw [← ex] at q4
        refine lv_aload_n hx hb dX0_best_118 rfl (lv_at hl 4 rfl) ?_
        refine fz_get (D := (dC, dI)) (ci := 0) (v := .int (iZ (μ 41 3))) (C := RX0) (T := TX0) (N := 7) hx hb hts inG0 hown hK hP (k := 41) (by decide) (F := (sF41 h0)) sE_41 rfl 3 (by decide) (hts _ k185) (fun _ h9 => h9) rfl dX0_best_119 ?_
        refine lv_imul hx hb dX0_best_122 ?_
        refine lv_topi (fun x9 ex9 => ?_)
        obtain rfl : x9 = iZ (ra * (μ 41 3)) := ex9.trans (iZ_mul _ _)
        refine lv_iload hx hb dX0_best_123 (lv_at hl 8 rfl) ?_
        refine lv_iadd hx hb dX0_best_125 ?_
        refine lv_topi (fun x9 ex9 => ?_)
        obtain rfl : x9 = iZ ((ra * (μ 41 3)) + j) := ex9.trans (iZ_add _ _)
        refine fz_ld (k := 42) (n := 106797) hx hb hK hP 0 (by decide) sE_42 rfl ⟨by omega, by omega⟩ (by decide) dX0_best_126 ?_
        refine lv_iconst (v := iZ 1) hx hb dX0_best_127 rfl ?_
        refine va_calli (va_runS (As := [.int (iZ (rs)), .int (iZ (4)), .int (iZ (μ 42 ((ra * (μ 41 3)) + j).toNat)), .int (iZ (1))]) (rest := [.int (iZ (min w1 (min w2 w3)))]) ⟨hx, hb, hml, hown, hts⟩ (s_Ypacked l dC dI cI cZ cII cIII h0 H.size μ (rs) (4) (μ 42 ((ra * (μ 41 3)) + j).toNat) (1) (by first | assumption | omega | exact ⟨by omega, by omega⟩) (by first | assumption | omega | exact ⟨by omega, by omega⟩) (by first | assumption | omega | exact ⟨by omega, by omega⟩) (by first | assumption | omega | exact ⟨by omega, by omega⟩)) (cwS 4 hts (gS_G k788 k789 k7 k790) rfl rfl rfl (by decide +kernel) ⟨Nat.le_of_ble_eq_true rfl, Nat.le_of_ble_eq_true rfl⟩) ⟨fun a U g mk q => by obtain ⟨q0, q1, qP, qK, qM⟩ := q; exact ⟨q0, q1, qP, va_K.moved (u := U) (U := U.calling g mk a) (Vm.Alike.refl U.vm) qK, qM⟩, fun U hU hW => ⟨rfl, by rw [hU], by rw [hU]; exact hP, va_K.moved hW.alike hK, xM_warm hW hM⟩⟩ rfl rfl hl.1 rfl (lv_room (Nat.le_of_ble_eq_true rfl)) dX0_best_128 ⟨Nat.le_of_ble_eq_true rfl, Nat.le_of_ble_eq_true rfl⟩) hS (fun q _ h => fA_le hS.1 q h) (fA_le hS.1) (fun r9 u9 t9 H1 locs ht9 hvm9 hw9 hB9 hz9 hk9 hS => ?_)
        obtain ⟨μp, p4⟩ := u9
        obtain ⟨hP, -⟩ := hB9
        rw [ht9] at hP
        generalize H1 = H at hP hS ⊢
        obtain ⟨e9, hw9⟩ := hw9
        have e9 : r9 = iZ p4 := e9
        subst e9
        simp only at hP hw9
        have hμp := hw9; clear hw9
        rw [hμp.1] at hP; have hμp := hμp.2
        have hp4 := hμp.2 trivial
        have hc4 : p4 = ck 4 (sub w i.toNat) (sub b j.toNat) := by
          rw [q4, if_neg hkx9]
          omega
        clear q4
        have hc4b := ck_b 4 (by decide) (sub w i.toNat) (sub b j.toNat)
        rw [← hc4] at hc4b
        refine va_mmin hx hb (hml.trans hl.1.symm) hown (hts _ k807) (hts _ k501) (hts _ k4) (hts _ k502) (Nat.le_of_ble_eq_true rfl) (Nat.le_of_ble_eq_true rfl) (Nat.le_of_ble_eq_true rfl) (Nat.le_of_ble_eq_true rfl) dX0_best_131 ?_
        refine lv_topi (fun x9 ex9 => ?_)
        obtain rfl : x9 = iZ (min (min w1 (min w2 w3)) p4) := ex9.trans (iZ_mn (by constructor <;> omega) (by constructor <;> omega))
        refine lv_istore (lv' := [(7, .int (iZ (min (min w1 (min w2 w3)) p4))), (8, .int (iZ (rs))), (6, .int (iZ (pe))), (5, .int (iZ (re))), (0, .ref (h0 + 41)), (1, .ref (h0 + q)), (2, .ref (h0 + q2)), (3, .int (iZ (i))), (4, .int (iZ (j)))]) hx hb dX0_best_134 hl (by decide) rfl (fun ls hl => ?_)
        refine lv_iload hx hb dX0_best_136 (lv_at hl 2 rfl) ?_
        refine fz_if_ne (tgt := 177) (by constructor <;> omega) hx hb dX0_best_138 (by decide) (fun h9 => (by omega)) (fun c138_ => ?_)
        have hj8 : j < μ q2 5 ∧ μ (q2 + 1) j.toNat ≠ 515 := by omega
        have hm2 := rG_m hG2 j (by omega) (by omega)
        have hsz2 := sz_b hG2 (by omega) hj8.1 hj8.2
        obtain ⟨zy, ky, vy, ly, ry, dy, ey, wy, sy, ay, ddy, my, ny, oy, gy, ley⟩ := at_in hG2 hb9 (by omega) hj8
        have hz5 := sz_is hG2 (by omega) ⟨wy.1, wy.2.1⟩ ay ddy
        clear ddy oy ay gy
        refine lv_iload hx hb dX0_best_141 (lv_at hl 0 rfl) ?_
        refine lv_aload_n hx hb dX0_best_143 rfl (lv_at hl 6 rfl) ?_
        refine lv_iload hx hb dX0_best_144 (lv_at hl 8 rfl) ?_
        refine va_calli (va_runV (As := [.int (iZ (j))]) (rest := [.int (iZ (min (min w1 (min w2 w3)) p4))]) ⟨hx, hb, hml, hown, hts⟩ (s_RsizeAt l dC dI cI cZ cII cIII h0 H.size μ (q2) (rm2) (j) (hq2) (by first | assumption | omega | exact ⟨by omega, by omega⟩) (by constructor <;> omega)) (cwV 1 hts (gV_G k808 k809 k810 k3 k811) rfl rfl rfl (by decide +kernel) ⟨Nat.le_of_ble_eq_true rfl, Nat.le_of_ble_eq_true rfl⟩) ⟨fun a U g mk q => by obtain ⟨q0, q1, qP, qK, qM⟩ := q; exact ⟨q0, q1, qP, va_K.moved (u := U) (U := U.calling g mk a) (Vm.Alike.refl U.vm) qK, qM⟩, va_recv hK hP (ci := 4) (q0 := q2) rfl ((fw_get (by omega)).trans (by rw [(sE_rowO hq2)])), fun U hU hW => ⟨rfl, by rw [hU], by rw [hU]; exact hP, va_K.moved hW.alike hK, xM_warm hW hM⟩⟩ rfl rfl hl.1 rfl (lv_room (Nat.le_of_ble_eq_true rfl)) dX0_best_146 ⟨Nat.le_of_ble_eq_true rfl, Nat.le_of_ble_eq_true rfl⟩) hS (fun q _ h => fA_le hS.1 q h) (fA_le hS.1) (fun r9 u9 t9 H1 locs ht9 hvm9 hw9 hB9 hz9 hk9 hS => ?_)
        obtain ⟨μs2, rs2⟩ := u9
        obtain ⟨hP, -⟩ := hB9
        rw [ht9] at hP
        generalize H1 = H at hP hS ⊢
        obtain ⟨e9, hw9⟩ := hw9
        have e9 : r9 = iZ rs2 := e9
        subst e9
        simp only at hP hw9
        have hμs2 := hw9; clear hw9
        rw [hμs2.1] at hP; have hμs2 := hμs2.2
        have hrs2 := hμs2
        rw [show (μ (q2 + 2) j.toNat + 1).toNat = j.toNat + dy by omega, hz5] at hrs2
        refine lv_iconst (v := iZ 5) hx hb dX0_best_149 rfl ?_
        refine lv_aload_n hx hb dX0_best_150 rfl (lv_at hl 4 rfl) ?_
        refine fz_get (D := (dC, dI)) (ci := 0) (v := .ref (h0 + 42)) (C := RX0) (T := TX0) (N := 7) hx hb hts inG0 hown hK hP (k := 41) (by decide) (F := (sF41 h0)) sE_41 rfl 0 (by decide) (hts _ k182) (fun _ h9 => h9) rfl dX0_best_151 ?_
        refine lv_iload_n hx hb dX0_best_154 rfl (lv_at hl 7 rfl) ?_
        refine lv_aload_n hx hb dX0_best_155 rfl (lv_at hl 4 rfl) ?_
        refine fz_get (D := (dC, dI)) (ci := 0) (v := .int (iZ (μ 41 3))) (C := RX0) (T := TX0) (N := 7) hx hb hts inG0 hown hK hP (k := 41) (by decide) (F := (sF41 h0)) sE_41 rfl 3 (by decide) (hts _ k185) (fun _ h9 => h9) rfl dX0_best_156 ?_
        refine lv_imul hx hb dX0_best_159 ?_
        refine lv_topi (fun x9 ex9 => ?_)
        obtain rfl : x9 = iZ (i * (μ 41 3)) := ex9.trans (iZ_mul _ _)
        refine lv_aload_n hx hb dX0_best_160 rfl (lv_at hl 6 rfl) ?_
        refine lv_iload hx hb dX0_best_161 (lv_at hl 8 rfl) ?_
        refine va_calli (va_runV (As := [.int (iZ (j))]) (rest := [.int (iZ (i * (μ 41 3))), .ref (h0 + 42), .int (iZ (5)), .int (iZ (rs2)), .int (iZ (min (min w1 (min w2 w3)) p4))]) ⟨hx, hb, hml, hown, hts⟩ (s_Rafter l dC dI cI cZ cII cIII h0 H.size μ (q2) (rm2) (j) (hq2) (by first | assumption | omega | exact ⟨by omega, by omega⟩) (by constructor <;> omega)) (cwV 1 hts (gV_G k791 k438 k439 k3 k440) rfl rfl rfl (by decide +kernel) ⟨Nat.le_of_ble_eq_true rfl, Nat.le_of_ble_eq_true rfl⟩) ⟨fun a U g mk q => by obtain ⟨q0, q1, qP, qK, qM⟩ := q; exact ⟨q0, q1, qP, va_K.moved (u := U) (U := U.calling g mk a) (Vm.Alike.refl U.vm) qK, qM⟩, va_recv hK hP (ci := 4) (q0 := q2) rfl ((fw_get (by omega)).trans (by rw [(sE_rowO hq2)])), fun U hU hW => ⟨rfl, by rw [hU], by rw [hU]; exact hP, va_K.moved hW.alike hK, xM_warm hW hM⟩⟩ rfl rfl hl.1 rfl (lv_room (Nat.le_of_ble_eq_true rfl)) dX0_best_163 ⟨Nat.le_of_ble_eq_true rfl, Nat.le_of_ble_eq_true rfl⟩) hS (fun q _ h => fA_le hS.1 q h) (fA_le hS.1) (fun r9 u9 t9 H1 locs ht9 hvm9 hw9 hB9 hz9 hk9 hS => ?_)
        obtain ⟨μb, rb⟩ := u9
        obtain ⟨hP, -⟩ := hB9
        rw [ht9] at hP
        generalize H1 = H at hP hS ⊢
        obtain ⟨e9, hw9⟩ := hw9
        have e9 : r9 = iZ rb := e9
        subst e9
        simp only at hP hw9
        have hμb := hw9; clear hw9
        rw [hμb.1] at hP; have hμb := hμb.2
        have hrb := hμb
        obtain ⟨z1_, z2_, z3_⟩ := vis_5 hG2 hv hj8.1 hj8.2
        rw [← hrb] at z3_
        have hvd := z3_
        have hbd := hLC (i) (rb) hvd (Or.inr ⟨rfl, by omega⟩)
        unfold bnd at hbd
        have hvd1 := hvd.1
        have mld := mulC (i := i) (s := μ 41 3) (by omega) (by omega) (by omega) (by omega)
        have hdv := hLCv i rb hvd (Or.inr ⟨rfl, by omega⟩)
        rw [show rb.toNat = j.toNat + dy by omega, ny] at hdv
        have hdve := enc_16 (sub w i.toNat) ry
        have hB5 := hB9
        rw [ey] at hB5
        have q5 := ck5_is hB5
        rw [← ey] at q5
        refine lv_iadd hx hb dX0_best_166 ?_
        refine lv_topi (fun x9 ex9 => ?_)
        obtain rfl : x9 = iZ ((i * (μ 41 3)) + rb) := ex9.trans (iZ_add _ _)
        refine fz_ld (k := 42) (n := 106797) hx hb hK hP 0 (by decide) sE_42 rfl ⟨by omega, by omega⟩ (by decide) dX0_best_167 ?_
        refine lv_iconst (v := iZ 1) hx hb dX0_best_168 rfl ?_
        refine va_calli (va_runS (As := [.int (iZ (rs2)), .int (iZ (5)), .int (iZ (μ 42 ((i * (μ 41 3)) + rb).toNat)), .int (iZ (1))]) (rest := [.int (iZ (min (min w1 (min w2 w3)) p4))]) ⟨hx, hb, hml, hown, hts⟩ (s_Ypacked l dC dI cI cZ cII cIII h0 H.size μ (rs2) (5) (μ 42 ((i * (μ 41 3)) + rb).toNat) (1) (by first | assumption | omega | exact ⟨by omega, by omega⟩) (by first | assumption | omega | exact ⟨by omega, by omega⟩) (by first | assumption | omega | exact ⟨by omega, by omega⟩) (by first | assumption | omega | exact ⟨by omega, by omega⟩)) (cwS 4 hts (gS_G k788 k789 k7 k790) rfl rfl rfl (by decide +kernel) ⟨Nat.le_of_ble_eq_true rfl, Nat.le_of_ble_eq_true rfl⟩) ⟨fun a U g mk q => by obtain ⟨q0, q1, qP, qK, qM⟩ := q; exact ⟨q0, q1, qP, va_K.moved (u := U) (U := U.calling g mk a) (Vm.Alike.refl U.vm) qK, qM⟩, fun U hU hW => ⟨rfl, by rw [hU], by rw [hU]; exact hP, va_K.moved hW.alike hK, xM_warm hW hM⟩⟩ rfl rfl hl.1 rfl (lv_room (Nat.le_of_ble_eq_true rfl)) dX0_best_169 ⟨Nat.le_of_ble_eq_true rfl, Nat.le_of_ble_eq_true rfl⟩) hS (fun q _ h => fA_le hS.1 q h) (fA_le hS.1) (fun r9 u9 t9 H1 locs ht9 hvm9 hw9 hB9 hz9 hk9 hS => ?_)
        obtain ⟨μp2, p5⟩ := u9
        obtain ⟨hP, -⟩ := hB9
        rw [ht9] at hP
        generalize H1 = H at hP hS ⊢
        obtain ⟨e9, hw9⟩ := hw9
        have e9 : r9 = iZ p5 := e9
        subst e9
        simp only at hP hw9
        have hμp2 := hw9; clear hw9
        rw [hμp2.1] at hP; have hμp2 := hμp2.2
        have hp5 := hμp2.2 trivial
        have hc5 : p5 = ck 5 (sub w i.toNat) (sub b j.toNat) := by
          rw [q5]
          omega
        clear q5
        have hc5b := ck_b 5 (by decide) (sub w i.toNat) (sub b j.toNat)
        rw [← hc5] at hc5b
        refine va_mmin hx hb (hml.trans hl.1.symm) hown (hts _ k807) (hts _ k501) (hts _ k4) (hts _ k502) (Nat.le_of_ble_eq_true rfl) (Nat.le_of_ble_eq_true rfl) (Nat.le_of_ble_eq_true rfl) (Nat.le_of_ble_eq_true rfl) dX0_best_172 ?_
        refine lv_topi (fun x9 ex9 => ?_)
        obtain rfl : x9 = iZ (min (min (min w1 (min w2 w3)) p4) p5) := ex9.trans (iZ_mn (by constructor <;> omega) (by constructor <;> omega))
        refine lv_istore (lv' := [(7, .int (iZ (min (min (min w1 (min w2 w3)) p4) p5))), (8, .int (iZ (rs))), (6, .int (iZ (pe))), (5, .int (iZ (re))), (0, .ref (h0 + 41)), (1, .ref (h0 + q)), (2, .ref (h0 + q2)), (3, .int (iZ (i))), (4, .int (iZ (j)))]) hx hb dX0_best_175 hl (by decide) rfl (fun ls hl => ?_)
        refine lv_iload hx hb dX0_best_177 (lv_at hl 0 rfl) ?_
        exact W.iret (v := iZ (min (min (min w1 (min w2 w3)) p4) p5)) hx hb hr (fun t9 ht9 hW9 => ⟨⟨iZ (min (min (min w1 (min w2 w3)) p4) p5), (μ, min (min (min w1 (min w2 w3)) p4) p5), rfl, ⟨rfl, (by
                        dsimp only
                        refine ⟨rfl, ?_⟩
                        rw [hw1, hw2, hw3, hc4, hc5]
                        exact enc_all (Or.inl (by rw [ex]; rfl)) hB9)⟩, by rw [ht9]; exact hP, va_K.moved hW9.alike hK⟩, hS.F ht9⟩) hS.2.2 dX0_best_179
      · have hkx9 : kx = 3 := by omega
        clear gx
        refine lv_iconst (v := iZ 0) hx hb dX0_best_93 rfl ?_
        refine lv_goto (tgt := 102) hx hb dX0_best_94 (by decide) ?_
        refine lv_istore (lv' := [(8, .int (iZ (0))), (7, .int (iZ (min w1 (min w2 w3)))), (6, .int (iZ (pe))), (5, .int (iZ (re))), (0, .ref (h0 + 41)), (1, .ref (h0 + q)), (2, .ref (h0 + q2)), (3, .int (iZ (i))), (4, .int (iZ (j)))]) hx hb dX0_best_102 hl (by decide) rfl (fun ls hl => ?_)
        refine lv_iload hx hb dX0_best_104 (lv_at hl 1 rfl) ?_
        refine lv_iload hx hb dX0_best_106 (lv_at hl 0 rfl) ?_
        refine lv_iconst (v := iZ 4) hx hb dX0_best_108 rfl ?_
        refine lv_aload_n hx hb dX0_best_109 rfl (lv_at hl 4 rfl) ?_
        refine fz_get (D := (dC, dI)) (ci := 0) (v := .ref (h0 + 42)) (C := RX0) (T := TX0) (N := 7) hx hb hts inG0 hown hK hP (k := 41) (by decide) (F := (sF41 h0)) sE_41 rfl 0 (by decide) (hts _ k182) (fun _ h9 => h9) rfl dX0_best_110 ?_
        refine lv_aload_n hx hb dX0_best_113 rfl (lv_at hl 5 rfl) ?_
        refine lv_iload_n hx hb dX0_best_114 rfl (lv_at hl 7 rfl) ?_
        refine va_calli (va_runV (As := [.int (iZ (i))]) (rest := [.ref (h0 + 42), .int (iZ (4)), .int (iZ (0)), .int (iZ (min w1 (min w2 w3)))]) ⟨hx, hb, hml, hown, hts⟩ (s_Rafter l dC dI cI cZ cII cIII h0 H.size μ (q) (rm) (i) (hq) (by first | assumption | omega | exact ⟨by omega, by omega⟩) (by constructor <;> omega)) (cwV 1 hts (gV_G k791 k438 k439 k3 k440) rfl rfl rfl (by decide +kernel) ⟨Nat.le_of_ble_eq_true rfl, Nat.le_of_ble_eq_true rfl⟩) ⟨fun a U g mk q => by obtain ⟨q0, q1, qP, qK, qM⟩ := q; exact ⟨q0, q1, qP, va_K.moved (u := U) (U := U.calling g mk a) (Vm.Alike.refl U.vm) qK, qM⟩, va_recv hK hP (ci := 4) (q0 := q) rfl ((fw_get (by omega)).trans (by rw [(sE_rowO hq)])), fun U hU hW => ⟨rfl, by rw [hU], by rw [hU]; exact hP, va_K.moved hW.alike hK, xM_warm hW hM⟩⟩ rfl rfl hl.1 rfl (lv_room (Nat.le_of_ble_eq_true rfl)) dX0_best_115 ⟨Nat.le_of_ble_eq_true rfl, Nat.le_of_ble_eq_true rfl⟩) hS (fun q _ h => fA_le hS.1 q h) (fA_le hS.1) (fun r9 u9 t9 H1 locs ht9 hvm9 hw9 hB9 hz9 hk9 hS => ?_)
        obtain ⟨μa, ra⟩ := u9
        obtain ⟨hP, -⟩ := hB9
        rw [ht9] at hP
        generalize H1 = H at hP hS ⊢
        obtain ⟨e9, hw9⟩ := hw9
        have e9 : r9 = iZ ra := e9
        subst e9
        simp only at hP hw9
        have hμa := hw9; clear hw9
        rw [hμa.1] at hP; have hμa := hμa.2
        have hra := hμa
        obtain ⟨y1_, y2_, y3_⟩ := vis_4 hG hv hi8.1 hi8.2
        rw [← hra] at y3_
        have hvc := y3_
        have hbc := hLC (ra) (j) hvc (Or.inl (by omega))
        unfold bnd at hbc
        have hvc1 := hvc.1
        have mlc := mulC (i := ra) (s := μ 41 3) (by omega) (by omega) (by omega) (by omega)
        have hcv := hLCv ra j hvc (Or.inl (by omega))
        rw [show ra.toNat = i.toNat + dx by omega, nx] at hcv
        have hcve := enc_16 rx (sub b j.toNat)
        have hB4 := hB9
        rw [ex] at hB4
        have q4 := ck4_is hB4
        rw [← ex] at q4
        refine lv_aload_n hx hb dX0_best_118 rfl (lv_at hl 4 rfl) ?_
        refine fz_get (D := (dC, dI)) (ci := 0) (v := .int (iZ (μ 41 3))) (C := RX0) (T := TX0) (N := 7) hx hb hts inG0 hown hK hP (k := 41) (by decide) (F := (sF41 h0)) sE_41 rfl 3 (by decide) (hts _ k185) (fun _ h9 => h9) rfl dX0_best_119 ?_
        refine lv_imul hx hb dX0_best_122 ?_
        refine lv_topi (fun x9 ex9 => ?_)
        obtain rfl : x9 = iZ (ra * (μ 41 3)) := ex9.trans (iZ_mul _ _)
        refine lv_iload hx hb dX0_best_123 (lv_at hl 8 rfl) ?_
        refine lv_iadd hx hb dX0_best_125 ?_
        refine lv_topi (fun x9 ex9 => ?_)
        obtain rfl : x9 = iZ ((ra * (μ 41 3)) + j) := ex9.trans (iZ_add _ _)
        refine fz_ld (k := 42) (n := 106797) hx hb hK hP 0 (by decide) sE_42 rfl ⟨by omega, by omega⟩ (by decide) dX0_best_126 ?_
        refine lv_iconst (v := iZ 1) hx hb dX0_best_127 rfl ?_
        refine va_calli (va_runS (As := [.int (iZ (0)), .int (iZ (4)), .int (iZ (μ 42 ((ra * (μ 41 3)) + j).toNat)), .int (iZ (1))]) (rest := [.int (iZ (min w1 (min w2 w3)))]) ⟨hx, hb, hml, hown, hts⟩ (s_Ypacked l dC dI cI cZ cII cIII h0 H.size μ (0) (4) (μ 42 ((ra * (μ 41 3)) + j).toNat) (1) (by first | assumption | omega | exact ⟨by omega, by omega⟩) (by first | assumption | omega | exact ⟨by omega, by omega⟩) (by first | assumption | omega | exact ⟨by omega, by omega⟩) (by first | assumption | omega | exact ⟨by omega, by omega⟩)) (cwS 4 hts (gS_G k788 k789 k7 k790) rfl rfl rfl (by decide +kernel) ⟨Nat.le_of_ble_eq_true rfl, Nat.le_of_ble_eq_true rfl⟩) ⟨fun a U g mk q => by obtain ⟨q0, q1, qP, qK, qM⟩ := q; exact ⟨q0, q1, qP, va_K.moved (u := U) (U := U.calling g mk a) (Vm.Alike.refl U.vm) qK, qM⟩, fun U hU hW => ⟨rfl, by rw [hU], by rw [hU]; exact hP, va_K.moved hW.alike hK, xM_warm hW hM⟩⟩ rfl rfl hl.1 rfl (lv_room (Nat.le_of_ble_eq_true rfl)) dX0_best_128 ⟨Nat.le_of_ble_eq_true rfl, Nat.le_of_ble_eq_true rfl⟩) hS (fun q _ h => fA_le hS.1 q h) (fA_le hS.1) (fun r9 u9 t9 H1 locs ht9 hvm9 hw9 hB9 hz9 hk9 hS => ?_)
        obtain ⟨μp, p4⟩ := u9
        obtain ⟨hP, -⟩ := hB9
        rw [ht9] at hP
        generalize H1 = H at hP hS ⊢
        obtain ⟨e9, hw9⟩ := hw9
        have e9 : r9 = iZ p4 := e9
        subst e9
        simp only at hP hw9
        have hμp := hw9; clear hw9
        rw [hμp.1] at hP; have hμp := hμp.2
        have hp4 := hμp.2 trivial
        have hc4 : p4 = ck 4 (sub w i.toNat) (sub b j.toNat) := by
          rw [q4, if_pos hkx9]
          omega
        clear q4
        have hc4b := ck_b 4 (by decide) (sub w i.toNat) (sub b j.toNat)
        rw [← hc4] at hc4b
        refine va_mmin hx hb (hml.trans hl.1.symm) hown (hts _ k807) (hts _ k501) (hts _ k4) (hts _ k502) (Nat.le_of_ble_eq_true rfl) (Nat.le_of_ble_eq_true rfl) (Nat.le_of_ble_eq_true rfl) (Nat.le_of_ble_eq_true rfl) dX0_best_131 ?_
        refine lv_topi (fun x9 ex9 => ?_)
        obtain rfl : x9 = iZ (min (min w1 (min w2 w3)) p4) := ex9.trans (iZ_mn (by constructor <;> omega) (by constructor <;> omega))
        refine lv_istore (lv' := [(7, .int (iZ (min (min w1 (min w2 w3)) p4))), (8, .int (iZ (0))), (6, .int (iZ (pe))), (5, .int (iZ (re))), (0, .ref (h0 + 41)), (1, .ref (h0 + q)), (2, .ref (h0 + q2)), (3, .int (iZ (i))), (4, .int (iZ (j)))]) hx hb dX0_best_134 hl (by decide) rfl (fun ls hl => ?_)
        refine lv_iload hx hb dX0_best_136 (lv_at hl 2 rfl) ?_
        refine fz_if_ne (tgt := 177) (by constructor <;> omega) hx hb dX0_best_138 (by decide) (fun h9 => (by omega)) (fun c138_ => ?_)
        have hj8 : j < μ q2 5 ∧ μ (q2 + 1) j.toNat ≠ 515 := by omega
        have hm2 := rG_m hG2 j (by omega) (by omega)
        have hsz2 := sz_b hG2 (by omega) hj8.1 hj8.2
        obtain ⟨zy, ky, vy, ly, ry, dy, ey, wy, sy, ay, ddy, my, ny, oy, gy, ley⟩ := at_in hG2 hb9 (by omega) hj8
        have hz5 := sz_is hG2 (by omega) ⟨wy.1, wy.2.1⟩ ay ddy
        clear ddy oy ay gy
        refine lv_iload hx hb dX0_best_141 (lv_at hl 0 rfl) ?_
        refine lv_aload_n hx hb dX0_best_143 rfl (lv_at hl 6 rfl) ?_
        refine lv_iload hx hb dX0_best_144 (lv_at hl 8 rfl) ?_
        refine va_calli (va_runV (As := [.int (iZ (j))]) (rest := [.int (iZ (min (min w1 (min w2 w3)) p4))]) ⟨hx, hb, hml, hown, hts⟩ (s_RsizeAt l dC dI cI cZ cII cIII h0 H.size μ (q2) (rm2) (j) (hq2) (by first | assumption | omega | exact ⟨by omega, by omega⟩) (by constructor <;> omega)) (cwV 1 hts (gV_G k808 k809 k810 k3 k811) rfl rfl rfl (by decide +kernel) ⟨Nat.le_of_ble_eq_true rfl, Nat.le_of_ble_eq_true rfl⟩) ⟨fun a U g mk q => by obtain ⟨q0, q1, qP, qK, qM⟩ := q; exact ⟨q0, q1, qP, va_K.moved (u := U) (U := U.calling g mk a) (Vm.Alike.refl U.vm) qK, qM⟩, va_recv hK hP (ci := 4) (q0 := q2) rfl ((fw_get (by omega)).trans (by rw [(sE_rowO hq2)])), fun U hU hW => ⟨rfl, by rw [hU], by rw [hU]; exact hP, va_K.moved hW.alike hK, xM_warm hW hM⟩⟩ rfl rfl hl.1 rfl (lv_room (Nat.le_of_ble_eq_true rfl)) dX0_best_146 ⟨Nat.le_of_ble_eq_true rfl, Nat.le_of_ble_eq_true rfl⟩) hS (fun q _ h => fA_le hS.1 q h) (fA_le hS.1) (fun r9 u9 t9 H1 locs ht9 hvm9 hw9 hB9 hz9 hk9 hS => ?_)
        obtain ⟨μs2, rs2⟩ := u9
        obtain ⟨hP, -⟩ := hB9
        rw [ht9] at hP
        generalize H1 = H at hP hS ⊢
        obtain ⟨e9, hw9⟩ := hw9
        have e9 : r9 = iZ rs2 := e9
        subst e9
        simp only at hP hw9
        have hμs2 := hw9; clear hw9
        rw [hμs2.1] at hP; have hμs2 := hμs2.2
        have hrs2 := hμs2
        rw [show (μ (q2 + 2) j.toNat + 1).toNat = j.toNat + dy by omega, hz5] at hrs2
        refine lv_iconst (v := iZ 5) hx hb dX0_best_149 rfl ?_
        refine lv_aload_n hx hb dX0_best_150 rfl (lv_at hl 4 rfl) ?_
        refine fz_get (D := (dC, dI)) (ci := 0) (v := .ref (h0 + 42)) (C := RX0) (T := TX0) (N := 7) hx hb hts inG0 hown hK hP (k := 41) (by decide) (F := (sF41 h0)) sE_41 rfl 0 (by decide) (hts _ k182) (fun _ h9 => h9) rfl dX0_best_151 ?_
        refine lv_iload_n hx hb dX0_best_154 rfl (lv_at hl 7 rfl) ?_
        refine lv_aload_n hx hb dX0_best_155 rfl (lv_at hl 4 rfl) ?_
        refine fz_get (D := (dC, dI)) (ci := 0) (v := .int (iZ (μ 41 3))) (C := RX0) (T := TX0) (N := 7) hx hb hts inG0 hown hK hP (k := 41) (by decide) (F := (sF41 h0)) sE_41 rfl 3 (by decide) (hts _ k185) (fun _ h9 => h9) rfl dX0_best_156 ?_
        refine lv_imul hx hb dX0_best_159 ?_
        refine lv_topi (fun x9 ex9 => ?_)
        obtain rfl : x9 = iZ (i * (μ 41 3)) := ex9.trans (iZ_mul _ _)
        refine lv_aload_n hx hb dX0_best_160 rfl (lv_at hl 6 rfl) ?_
        refine lv_iload hx hb dX0_best_161 (lv_at hl 8 rfl) ?_
        refine va_calli (va_runV (As := [.int (iZ (j))]) (rest := [.int (iZ (i * (μ 41 3))), .ref (h0 + 42), .int (iZ (5)), .int (iZ (rs2)), .int (iZ (min (min w1 (min w2 w3)) p4))]) ⟨hx, hb, hml, hown, hts⟩ (s_Rafter l dC dI cI cZ cII cIII h0 H.size μ (q2) (rm2) (j) (hq2) (by first | assumption | omega | exact ⟨by omega, by omega⟩) (by constructor <;> omega)) (cwV 1 hts (gV_G k791 k438 k439 k3 k440) rfl rfl rfl (by decide +kernel) ⟨Nat.le_of_ble_eq_true rfl, Nat.le_of_ble_eq_true rfl⟩) ⟨fun a U g mk q => by obtain ⟨q0, q1, qP, qK, qM⟩ := q; exact ⟨q0, q1, qP, va_K.moved (u := U) (U := U.calling g mk a) (Vm.Alike.refl U.vm) qK, qM⟩, va_recv hK hP (ci := 4) (q0 := q2) rfl ((fw_get (by omega)).trans (by rw [(sE_rowO hq2)])), fun U hU hW => ⟨rfl, by rw [hU], by rw [hU]; exact hP, va_K.moved hW.alike hK, xM_warm hW hM⟩⟩ rfl rfl hl.1 rfl (lv_room (Nat.le_of_ble_eq_true rfl)) dX0_best_163 ⟨Nat.le_of_ble_eq_true rfl, Nat.le_of_ble_eq_true rfl⟩) hS (fun q _ h => fA_le hS.1 q h) (fA_le hS.1) (fun r9 u9 t9 H1 locs ht9 hvm9 hw9 hB9 hz9 hk9 hS => ?_)
        obtain ⟨μb, rb⟩ := u9
        obtain ⟨hP, -⟩ := hB9
        rw [ht9] at hP
        generalize H1 = H at hP hS ⊢
        obtain ⟨e9, hw9⟩ := hw9
        have e9 : r9 = iZ rb := e9
        subst e9
        simp only at hP hw9
        have hμb := hw9; clear hw9
        rw [hμb.1] at hP; have hμb := hμb.2
        have hrb := hμb
        obtain ⟨z1_, z2_, z3_⟩ := vis_5 hG2 hv hj8.1 hj8.2
        rw [← hrb] at z3_
        have hvd := z3_
        have hbd := hLC (i) (rb) hvd (Or.inr ⟨rfl, by omega⟩)
        unfold bnd at hbd
        have hvd1 := hvd.1
        have mld := mulC (i := i) (s := μ 41 3) (by omega) (by omega) (by omega) (by omega)
        have hdv := hLCv i rb hvd (Or.inr ⟨rfl, by omega⟩)
        rw [show rb.toNat = j.toNat + dy by omega, ny] at hdv
        have hdve := enc_16 (sub w i.toNat) ry
        have hB5 := hB9
        rw [ey] at hB5
        have q5 := ck5_is hB5
        rw [← ey] at q5
        refine lv_iadd hx hb dX0_best_166 ?_
        refine lv_topi (fun x9 ex9 => ?_)
        obtain rfl : x9 = iZ ((i * (μ 41 3)) + rb) := ex9.trans (iZ_add _ _)
        refine fz_ld (k := 42) (n := 106797) hx hb hK hP 0 (by decide) sE_42 rfl ⟨by omega, by omega⟩ (by decide) dX0_best_167 ?_
        refine lv_iconst (v := iZ 1) hx hb dX0_best_168 rfl ?_
        refine va_calli (va_runS (As := [.int (iZ (rs2)), .int (iZ (5)), .int (iZ (μ 42 ((i * (μ 41 3)) + rb).toNat)), .int (iZ (1))]) (rest := [.int (iZ (min (min w1 (min w2 w3)) p4))]) ⟨hx, hb, hml, hown, hts⟩ (s_Ypacked l dC dI cI cZ cII cIII h0 H.size μ (rs2) (5) (μ 42 ((i * (μ 41 3)) + rb).toNat) (1) (by first | assumption | omega | exact ⟨by omega, by omega⟩) (by first | assumption | omega | exact ⟨by omega, by omega⟩) (by first | assumption | omega | exact ⟨by omega, by omega⟩) (by first | assumption | omega | exact ⟨by omega, by omega⟩)) (cwS 4 hts (gS_G k788 k789 k7 k790) rfl rfl rfl (by decide +kernel) ⟨Nat.le_of_ble_eq_true rfl, Nat.le_of_ble_eq_true rfl⟩) ⟨fun a U g mk q => by obtain ⟨q0, q1, qP, qK, qM⟩ := q; exact ⟨q0, q1, qP, va_K.moved (u := U) (U := U.calling g mk a) (Vm.Alike.refl U.vm) qK, qM⟩, fun U hU hW => ⟨rfl, by rw [hU], by rw [hU]; exact hP, va_K.moved hW.alike hK, xM_warm hW hM⟩⟩ rfl rfl hl.1 rfl (lv_room (Nat.le_of_ble_eq_true rfl)) dX0_best_169 ⟨Nat.le_of_ble_eq_true rfl, Nat.le_of_ble_eq_true rfl⟩) hS (fun q _ h => fA_le hS.1 q h) (fA_le hS.1) (fun r9 u9 t9 H1 locs ht9 hvm9 hw9 hB9 hz9 hk9 hS => ?_)
        obtain ⟨μp2, p5⟩ := u9
        obtain ⟨hP, -⟩ := hB9
        rw [ht9] at hP
        generalize H1 = H at hP hS ⊢
        obtain ⟨e9, hw9⟩ := hw9
        have e9 : r9 = iZ p5 := e9
        subst e9
        simp only at hP hw9
        have hμp2 := hw9; clear hw9
        rw [hμp2.1] at hP; have hμp2 := hμp2.2
        have hp5 := hμp2.2 trivial
        have hc5 : p5 = ck 5 (sub w i.toNat) (sub b j.toNat) := by
          rw [q5]
          omega
        clear q5
        have hc5b := ck_b 5 (by decide) (sub w i.toNat) (sub b j.toNat)
        rw [← hc5] at hc5b
        refine va_mmin hx hb (hml.trans hl.1.symm) hown (hts _ k807) (hts _ k501) (hts _ k4) (hts _ k502) (Nat.le_of_ble_eq_true rfl) (Nat.le_of_ble_eq_true rfl) (Nat.le_of_ble_eq_true rfl) (Nat.le_of_ble_eq_true rfl) dX0_best_172 ?_
        refine lv_topi (fun x9 ex9 => ?_)
        obtain rfl : x9 = iZ (min (min (min w1 (min w2 w3)) p4) p5) := ex9.trans (iZ_mn (by constructor <;> omega) (by constructor <;> omega))
        refine lv_istore (lv' := [(7, .int (iZ (min (min (min w1 (min w2 w3)) p4) p5))), (8, .int (iZ (0))), (6, .int (iZ (pe))), (5, .int (iZ (re))), (0, .ref (h0 + 41)), (1, .ref (h0 + q)), (2, .ref (h0 + q2)), (3, .int (iZ (i))), (4, .int (iZ (j)))]) hx hb dX0_best_175 hl (by decide) rfl (fun ls hl => ?_)
        refine lv_iload hx hb dX0_best_177 (lv_at hl 0 rfl) ?_
        exact W.iret (v := iZ (min (min (min w1 (min w2 w3)) p4) p5)) hx hb hr (fun t9 ht9 hW9 => ⟨⟨iZ (min (min (min w1 (min w2 w3)) p4) p5), (μ, min (min (min w1 (min w2 w3)) p4) p5), rfl, ⟨rfl, (by
                        dsimp only
                        refine ⟨rfl, ?_⟩
                        rw [hw1, hw2, hw3, hc4, hc5]
                        exact enc_all (Or.inl (by rw [ex]; rfl)) hB9)⟩, by rw [ht9]; exact hP, va_K.moved hW9.alike hK⟩, hS.F ht9⟩) hS.2.2 dX0_best_179
  · refine lv_iload hx hb dX0_best_20 (lv_at hl 0 rfl) ?_
    refine fz_if_eq (tgt := 27) (by constructor <;> omega) hx hb dX0_best_22 (by decide) (fun c22_ => ?_) (fun c22_ => ?_)
    · have hj9 : j < μ q2 5 ∧ μ (q2 + 1) j.toNat ≠ 515 := by omega
      have hre9 : hid (μ q 5 ≤ i ∨ μ (q + 1) i.toNat = 515) := hid_i (by omega)
      clear hre hpe
      refine lv_ldc (v := iZ 268435456) hx hb hown (hts _ k778) dX0_best_27 ?_
      refine lv_istore (lv' := [(7, .int (iZ (268435456))), (6, .int (iZ (pe))), (5, .int (iZ (re))), (0, .ref (h0 + 41)), (1, .ref (h0 + q)), (2, .ref (h0 + q2)), (3, .int (iZ (i))), (4, .int (iZ (j)))]) hx hb dX0_best_29 hl (by decide) rfl (fun ls hl => ?_)
      refine lv_iload hx hb dX0_best_31 (lv_at hl 2 rfl) ?_
      refine fz_if_ne (tgt := 76) (by constructor <;> omega) hx hb dX0_best_33 (by decide) (fun c33_ => ?_) (fun h9 => (by omega))
      refine lv_iload hx hb dX0_best_76 (lv_at hl 2 rfl) ?_
      refine fz_if_ne (tgt := 136) (by constructor <;> omega) hx hb dX0_best_78 (by decide) (fun c78_ => ?_) (fun h9 => (by omega))
      refine lv_iload hx hb dX0_best_136 (lv_at hl 1 rfl) ?_
      refine fz_if_ne (tgt := 177) (by constructor <;> omega) hx hb dX0_best_138 (by decide) (fun h9 => (by omega)) (fun c138_ => ?_)
      have hj8 : j < μ q2 5 ∧ μ (q2 + 1) j.toNat ≠ 515 := by omega
      have hm2 := rG_m hG2 j (by omega) (by omega)
      have hsz2 := sz_b hG2 (by omega) hj8.1 hj8.2
      obtain ⟨zy, ky, vy, ly, ry, dy, ey, wy, sy, ay, ddy, my, ny, oy, gy, ley⟩ := at_in hG2 hb9 (by omega) hj8
      have hz5 := sz_is hG2 (by omega) ⟨wy.1, wy.2.1⟩ ay ddy
      clear ddy oy ay gy
      refine lv_iload hx hb dX0_best_141 (lv_at hl 0 rfl) ?_
      refine lv_aload_n hx hb dX0_best_143 rfl (lv_at hl 5 rfl) ?_
      refine lv_iload hx hb dX0_best_144 (lv_at hl 7 rfl) ?_
      refine va_calli (va_runV (As := [.int (iZ (j))]) (rest := [.int (iZ (268435456))]) ⟨hx, hb, hml, hown, hts⟩ (s_RsizeAt l dC dI cI cZ cII cIII h0 H.size μ (q2) (rm2) (j) (hq2) (by first | assumption | omega | exact ⟨by omega, by omega⟩) (by constructor <;> omega)) (cwV 1 hts (gV_G k808 k809 k810 k3 k811) rfl rfl rfl (by decide +kernel) ⟨Nat.le_of_ble_eq_true rfl, Nat.le_of_ble_eq_true rfl⟩) ⟨fun a U g mk q => by obtain ⟨q0, q1, qP, qK, qM⟩ := q; exact ⟨q0, q1, qP, va_K.moved (u := U) (U := U.calling g mk a) (Vm.Alike.refl U.vm) qK, qM⟩, va_recv hK hP (ci := 4) (q0 := q2) rfl ((fw_get (by omega)).trans (by rw [(sE_rowO hq2)])), fun U hU hW => ⟨rfl, by rw [hU], by rw [hU]; exact hP, va_K.moved hW.alike hK, xM_warm hW hM⟩⟩ rfl rfl hl.1 rfl (lv_room (Nat.le_of_ble_eq_true rfl)) dX0_best_146 ⟨Nat.le_of_ble_eq_true rfl, Nat.le_of_ble_eq_true rfl⟩) hS (fun q _ h => fA_le hS.1 q h) (fA_le hS.1) (fun r9 u9 t9 H1 locs ht9 hvm9 hw9 hB9 hz9 hk9 hS => ?_)
      obtain ⟨μs2, rs2⟩ := u9
      obtain ⟨hP, -⟩ := hB9
      rw [ht9] at hP
      generalize H1 = H at hP hS ⊢
      obtain ⟨e9, hw9⟩ := hw9
      have e9 : r9 = iZ rs2 := e9
      subst e9
      simp only at hP hw9
      have hμs2 := hw9; clear hw9
      rw [hμs2.1] at hP; have hμs2 := hμs2.2
      have hrs2 := hμs2
      rw [show (μ (q2 + 2) j.toNat + 1).toNat = j.toNat + dy by omega, hz5] at hrs2
      refine lv_iconst (v := iZ 5) hx hb dX0_best_149 rfl ?_
      refine lv_aload_n hx hb dX0_best_150 rfl (lv_at hl 3 rfl) ?_
      refine fz_get (D := (dC, dI)) (ci := 0) (v := .ref (h0 + 42)) (C := RX0) (T := TX0) (N := 7) hx hb hts inG0 hown hK hP (k := 41) (by decide) (F := (sF41 h0)) sE_41 rfl 0 (by decide) (hts _ k182) (fun _ h9 => h9) rfl dX0_best_151 ?_
      refine lv_iload_n hx hb dX0_best_154 rfl (lv_at hl 6 rfl) ?_
      refine lv_aload_n hx hb dX0_best_155 rfl (lv_at hl 3 rfl) ?_
      refine fz_get (D := (dC, dI)) (ci := 0) (v := .int (iZ (μ 41 3))) (C := RX0) (T := TX0) (N := 7) hx hb hts inG0 hown hK hP (k := 41) (by decide) (F := (sF41 h0)) sE_41 rfl 3 (by decide) (hts _ k185) (fun _ h9 => h9) rfl dX0_best_156 ?_
      refine lv_imul hx hb dX0_best_159 ?_
      refine lv_topi (fun x9 ex9 => ?_)
      obtain rfl : x9 = iZ (i * (μ 41 3)) := ex9.trans (iZ_mul _ _)
      refine lv_aload_n hx hb dX0_best_160 rfl (lv_at hl 5 rfl) ?_
      refine lv_iload hx hb dX0_best_161 (lv_at hl 7 rfl) ?_
      refine va_calli (va_runV (As := [.int (iZ (j))]) (rest := [.int (iZ (i * (μ 41 3))), .ref (h0 + 42), .int (iZ (5)), .int (iZ (rs2)), .int (iZ (268435456))]) ⟨hx, hb, hml, hown, hts⟩ (s_Rafter l dC dI cI cZ cII cIII h0 H.size μ (q2) (rm2) (j) (hq2) (by first | assumption | omega | exact ⟨by omega, by omega⟩) (by constructor <;> omega)) (cwV 1 hts (gV_G k791 k438 k439 k3 k440) rfl rfl rfl (by decide +kernel) ⟨Nat.le_of_ble_eq_true rfl, Nat.le_of_ble_eq_true rfl⟩) ⟨fun a U g mk q => by obtain ⟨q0, q1, qP, qK, qM⟩ := q; exact ⟨q0, q1, qP, va_K.moved (u := U) (U := U.calling g mk a) (Vm.Alike.refl U.vm) qK, qM⟩, va_recv hK hP (ci := 4) (q0 := q2) rfl ((fw_get (by omega)).trans (by rw [(sE_rowO hq2)])), fun U hU hW => ⟨rfl, by rw [hU], by rw [hU]; exact hP, va_K.moved hW.alike hK, xM_warm hW hM⟩⟩ rfl rfl hl.1 rfl (lv_room (Nat.le_of_ble_eq_true rfl)) dX0_best_163 ⟨Nat.le_of_ble_eq_true rfl, Nat.le_of_ble_eq_true rfl⟩) hS (fun q _ h => fA_le hS.1 q h) (fA_le hS.1) (fun r9 u9 t9 H1 locs ht9 hvm9 hw9 hB9 hz9 hk9 hS => ?_)
      obtain ⟨μb, rb⟩ := u9
      obtain ⟨hP, -⟩ := hB9
      rw [ht9] at hP
      generalize H1 = H at hP hS ⊢
      obtain ⟨e9, hw9⟩ := hw9
      have e9 : r9 = iZ rb := e9
      subst e9
      simp only at hP hw9
      have hμb := hw9; clear hw9
      rw [hμb.1] at hP; have hμb := hμb.2
      have hrb := hμb
      obtain ⟨z1_, z2_, z3_⟩ := vis_5 hG2 hv hj8.1 hj8.2
      rw [← hrb] at z3_
      have hvd := z3_
      have hbd := hLC (i) (rb) hvd (Or.inr ⟨rfl, by omega⟩)
      unfold bnd at hbd
      have hvd1 := hvd.1
      have mld := mulC (i := i) (s := μ 41 3) (by omega) (by omega) (by omega) (by omega)
      have hdv := hLCv i rb hvd (Or.inr ⟨rfl, by omega⟩)
      rw [show rb.toNat = j.toNat + dy by omega, ny] at hdv
      have hdve := enc_16 (sub w i.toNat) ry
      have hB5 := hB9
      rw [ey] at hB5
      have q5 := ck5_is hB5
      rw [← ey] at q5
      refine lv_iadd hx hb dX0_best_166 ?_
      refine lv_topi (fun x9 ex9 => ?_)
      obtain rfl : x9 = iZ ((i * (μ 41 3)) + rb) := ex9.trans (iZ_add _ _)
      refine fz_ld (k := 42) (n := 106797) hx hb hK hP 0 (by decide) sE_42 rfl ⟨by omega, by omega⟩ (by decide) dX0_best_167 ?_
      refine lv_iconst (v := iZ 1) hx hb dX0_best_168 rfl ?_
      refine va_calli (va_runS (As := [.int (iZ (rs2)), .int (iZ (5)), .int (iZ (μ 42 ((i * (μ 41 3)) + rb).toNat)), .int (iZ (1))]) (rest := [.int (iZ (268435456))]) ⟨hx, hb, hml, hown, hts⟩ (s_Ypacked l dC dI cI cZ cII cIII h0 H.size μ (rs2) (5) (μ 42 ((i * (μ 41 3)) + rb).toNat) (1) (by first | assumption | omega | exact ⟨by omega, by omega⟩) (by first | assumption | omega | exact ⟨by omega, by omega⟩) (by first | assumption | omega | exact ⟨by omega, by omega⟩) (by first | assumption | omega | exact ⟨by omega, by omega⟩)) (cwS 4 hts (gS_G k788 k789 k7 k790) rfl rfl rfl (by decide +kernel) ⟨Nat.le_of_ble_eq_true rfl, Nat.le_of_ble_eq_true rfl⟩) ⟨fun a U g mk q => by obtain ⟨q0, q1, qP, qK, qM⟩ := q; exact ⟨q0, q1, qP, va_K.moved (u := U) (U := U.calling g mk a) (Vm.Alike.refl U.vm) qK, qM⟩, fun U hU hW => ⟨rfl, by rw [hU], by rw [hU]; exact hP, va_K.moved hW.alike hK, xM_warm hW hM⟩⟩ rfl rfl hl.1 rfl (lv_room (Nat.le_of_ble_eq_true rfl)) dX0_best_169 ⟨Nat.le_of_ble_eq_true rfl, Nat.le_of_ble_eq_true rfl⟩) hS (fun q _ h => fA_le hS.1 q h) (fA_le hS.1) (fun r9 u9 t9 H1 locs ht9 hvm9 hw9 hB9 hz9 hk9 hS => ?_)
      obtain ⟨μp2, p5⟩ := u9
      obtain ⟨hP, -⟩ := hB9
      rw [ht9] at hP
      generalize H1 = H at hP hS ⊢
      obtain ⟨e9, hw9⟩ := hw9
      have e9 : r9 = iZ p5 := e9
      subst e9
      simp only at hP hw9
      have hμp2 := hw9; clear hw9
      rw [hμp2.1] at hP; have hμp2 := hμp2.2
      have hp5 := hμp2.2 trivial
      have hc5 : p5 = ck 5 (sub w i.toNat) (sub b j.toNat) := by
        rw [q5]
        omega
      clear q5
      have hc5b := ck_b 5 (by decide) (sub w i.toNat) (sub b j.toNat)
      rw [← hc5] at hc5b
      refine va_mmin hx hb (hml.trans hl.1.symm) hown (hts _ k807) (hts _ k501) (hts _ k4) (hts _ k502) (Nat.le_of_ble_eq_true rfl) (Nat.le_of_ble_eq_true rfl) (Nat.le_of_ble_eq_true rfl) (Nat.le_of_ble_eq_true rfl) dX0_best_172 ?_
      refine lv_topi (fun x9 ex9 => ?_)
      obtain rfl : x9 = iZ (min 268435456 p5) := ex9.trans (iZ_mn (by decide) (by constructor <;> omega))
      refine lv_istore (lv' := [(7, .int (iZ (min 268435456 p5))), (6, .int (iZ (pe))), (5, .int (iZ (re))), (0, .ref (h0 + 41)), (1, .ref (h0 + q)), (2, .ref (h0 + q2)), (3, .int (iZ (i))), (4, .int (iZ (j)))]) hx hb dX0_best_175 hl (by decide) rfl (fun ls hl => ?_)
      refine lv_iload hx hb dX0_best_177 (lv_at hl 0 rfl) ?_
      exact W.iret (v := iZ (min 268435456 p5)) hx hb hr (fun t9 ht9 hW9 => ⟨⟨iZ (min 268435456 p5), (μ, min 268435456 p5), rfl, ⟨rfl, (by
                    dsimp only
                    refine ⟨rfl, ?_⟩
                    rw [hc5]
                    exact enc_5 (by rw [at_lf hw9 (by omega) (hid_e hre9)]; rfl) (by rw [ey]; rfl) hB9)⟩, by rw [ht9]; exact hP, va_K.moved hW9.alike hK⟩, hS.F ht9⟩) hS.2.2 dX0_best_179
    · refine lv_iconst (v := iZ 1) hx hb dX0_best_25 rfl ?_
      exact W.iret (v := iZ (1)) hx hb hr (fun t9 ht9 hW9 => ⟨⟨iZ (1), (μ, 1), rfl, ⟨rfl, (by
                    dsimp only
                    refine ⟨rfl, ?_⟩
                    rw [at_lf hw9 (by omega) (by omega), at_lf hb9 (by omega) (by omega)]
                    exact enc_0.symm)⟩, by rw [ht9]; exact hP, va_K.moved hW9.alike hK⟩, hS.F ht9⟩) hS.2.2 dX0_best_26

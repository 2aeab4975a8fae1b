
/-! laying, told whole: into the row, into the page -/
set_option maxHeartbeats 4000000 in
set_option maxRecDepth 100000 in
theorem s_VintoRow (l : Launch) (dC : Nat → ClassId) (dI : Nat → Nat → Nat) (cI cZ cII cIII : ClassId) (h0 sz : Nat) (μ : va_M) (q : Nat) (rm : Nat) (q2 : Nat) (rm2 : Nat) (i : Int) (j : Int) (w : Rw) (b : Rw) (hq : rowB q rm) (hq2 : rowB q2 rm2) (hG : rG μ q rm) (hG2 : rG μ q2 rm2) (h96 : rm2 = 96) (hst : μ 41 3 = μ q2 5 + 1) (hv : vis μ q q2 i j) (hw9 : rwL μ q w) (hb9 : rwL μ q2 b) (hLCv : LCv μ q q2 w b i j) (hi : i < μ q 5 ∧ μ (q + 1) i.toNat ≠ 515) (hj : j < μ q2 5 ∧ μ (q2 + 1) j.toNat ≠ 515) : Met l yX0_intoRow (Cond.code yX0_intoRow cX0_intoRow 7 (some .int) :: wsG) ({ frames := 3, cells := 0, slots := 0, locals := 61 } : Room) (va_Pc [.ref (h0 + 41), .ref (h0 + q), .ref (h0 + q2), .int (iZ (i)), .int (iZ (j))] (fun U => U.heap.size = sz ∧ va_P (dC, dI) vwCl (fw (sE cI cZ cII cIII h0) h0 233 μ) U.heap ∧ va_K (dC, dI) vwCl (sT cI cZ cII cIII) U ∧ xM U)) (va_Qi (fun (r9 : Int32) (u : va_M × Int) => r9 = iZ u.2 ∧ (fun (u : va_M) (r : Int) => u = μ ∧ r = ck 2 (sub w i.toNat) (sub b j.toNat)) u.1 u.2) (fun u t => va_P (dC, dI) vwCl (fw (sE cI cZ cII cIII h0) h0 233 u.1) t.heap ∧ va_K (dC, dI) vwCl (sT cI cZ cII cIII) t) (fA h0 233 sz)) 0 0 (fA h0 233 sz) := by
  refine Met.ofW (cc := cX0_intoRow) (maxL := 7) (ret := (some .int)) (by decide) rfl ?_
  intro p e s m args below meth c s₁ B hml hv
  obtain ⟨rfl, hsz, hP, hK, hM⟩ := hv
  have hx := B.exec
  have hb := B.bytes
  have hr := B.returns
  have hts : ∀ w ∈ wsG, w.before _ s = true := hG_of (atoms_spec (ws := (Cond.code yX0_intoRow cX0_intoRow 7 (some .int) :: wsG)) B.pre)
  have hown : s.vm.findClass RX0 = some m.cls := findClass_of_methodNamed B.named
  have hlocks := B.notSynchronized
  subst hsz
  have hS : va_S (fA h0 233 s.heap.size) s.heap s.heap [] := va_S.rf
  have hl := lv_entry ([.ref (h0 + 41), .ref (h0 + q), .ref (h0 + q2), .int (iZ (i)), .int (iZ (j))]) (n := 7) (Nat.le_of_ble_eq_true rfl)
  rw [lg_entry_eq]
  generalize (lg_sl ([.ref (h0 + 41), .ref (h0 + q), .ref (h0 + q2), .int (iZ (i)), .int (iZ (j))]) ++ List.replicate (7 - (lg_sl ([.ref (h0 + 41), .ref (h0 + q), .ref (h0 + q2), .int (iZ (i)), .int (iZ (j))])).length) Slot.unset).toArray = ls at hl ⊢
  have hl : lv_has ls 7 [(0, .ref (h0 + 41)), (1, .ref (h0 + q)), (2, .ref (h0 + q2)), (3, .int (iZ (i))), (4, .int (iZ (j)))] := hl
  have hqb := rowB_b hq
  have hqb2 := rowB_b hq2
  have hrm := rG_rm hq hG
  have hrm2 := rG_rm hq2 hG2
  have hs1 := hG.1 i.toNat
  have hs2 := hG2.1 j.toNat
  have hv0 := hv.1
  have ml0 := mulC (i := i) (s := μ 41 3) (by omega) (by omega) (by omega) (by omega)
  have hm1 := rG_m hG i (by omega) (by omega)
  have hm2 := rG_m hG2 j (by omega) (by omega)
  have ml1 := mulC (i := i + 1) (s := μ 41 3) (by omega) (by omega) (by omega) (by omega)
  have lw9 := hw9.2.2
  have lb9 := hb9.2.2
  have hLC := LCv_LC hw9 hb9 hLCv
  have hB9 := at_B hw9 hb9 hv ⟨by omega, by omega⟩
  obtain ⟨zx, kx, vx, lx, rx, dx, ex, wx, sx, ax, ddx, mx, nx, ox, gx, lex⟩ := at_in hG hw9 (by omega) hi
  obtain ⟨zy, ky, vy, ly, ry, dy, ey, wy, sy, ay, ddy, my, ny, oy, gy, ley⟩ := at_in hG2 hb9 (by omega) hj
  have hB8 := hB9
  rw [ex, ey] at hB9
  refine lv_aload_n hx hb dX0_intoRow_0 rfl (lv_at hl 1 rfl) ?_
  refine fz_get (D := (dC, dI)) (ci := 4) (v := .ref (h0 + (q + 1))) (C := RX4) (T := TX4) (N := 8) hx hb hts inG4 hown hK hP (k := q) (by omega) (F := (sRF h0 q)) (sE_rowO hq) rfl 0 (by decide) (hts _ k80) (fun _ h9 => h9) rfl dX0_intoRow_1 ?_
  refine lv_iload_n hx hb dX0_intoRow_4 rfl (lv_at hl 3 rfl) ?_
  refine fz_ld (k := (q + 1)) (n := rm) hx hb hK hP 0 (by omega) (sE_rowA (r := 1) hq (by decide)) rfl ⟨by omega, by omega⟩ (by omega) dX0_intoRow_5 ?_
  refine va_calli (va_runSN (As := [.int (iZ (μ (q + 1) (i).toNat))]) (rest := []) ⟨hx, hb, hml, hown, hts⟩ (s_isOpen l dC dI cI cZ cII cIII h0 s.heap.size μ (μ (q + 1) (i).toNat) (by first | assumption | omega | exact ⟨by omega, by omega⟩)) ⟨va_cnB (host := "PageSkeleton") 1 hts (gI_G k423) rfl rfl rfl (xM_nest hM 17 rfl) (hts _ k1) (by decide +kernel) ⟨Nat.le_of_ble_eq_true rfl, Nat.le_of_ble_eq_true rfl⟩, hts _ k422, trivial⟩ ⟨fun a U g mk q => by obtain ⟨q0, q1, qP, qK, qM⟩ := q; exact ⟨q0, q1, qP, va_K.moved (u := U) (U := U.calling g mk a) (Vm.Alike.refl U.vm) qK, qM⟩, fun U hU hW => ⟨rfl, by rw [hU], by rw [hU]; exact hP, va_K.moved hW.alike hK, xM_warm hW hM⟩⟩ rfl rfl hl.1 rfl (lv_room (Nat.le_of_ble_eq_true rfl)) dX0_intoRow_6 ⟨Nat.le_of_ble_eq_true rfl, Nat.le_of_ble_eq_true rfl⟩) hS (fun q _ h => fA_le hS.1 q h) (fA_le hS.1) (fun r9 u9 t9 H1 locs ht9 hvm9 hw9 hB9 hz9 hk9 hS => ?_)
  obtain ⟨μ1, r2⟩ := u9
  obtain ⟨hP, -⟩ := hB9
  rw [ht9] at hP
  generalize H1 = H at hP hS ⊢
  obtain ⟨e9, hw9⟩ := hw9
  have e9 : r9 = iZ r2 := e9
  subst e9
  simp only at hP hw9
  have hμ1 := hw9; clear hw9
  rw [hμ1.1] at hP; have hμ1 := hμ1.2
  have hlf := if_el hμ1
  refine fz_if_ne (tgt := 15) (by constructor <;> omega) hx hb dX0_intoRow_9 (by decide) (fun c9_ => ?_) (fun c9_ => ?_)
  · refine lv_aload_n hx hb dX0_intoRow_15 rfl (lv_at hl 1 rfl) ?_
    refine fz_get (D := (dC, dI)) (ci := 4) (v := .ref (h0 + (q + 2))) (C := RX4) (T := TX4) (N := 8) hx hb hts inG4 hown hK hP (k := q) (by omega) (F := (sRF h0 q)) (sE_rowO hq) rfl 1 (by decide) (hts _ k85) (fun _ h9 => h9) rfl dX0_intoRow_16 ?_
    refine lv_iload_n hx hb dX0_intoRow_19 rfl (lv_at hl 3 rfl) ?_
    refine fz_ld (k := (q + 2)) (n := rm) hx hb hK hP 0 (by omega) (sE_rowA (r := 2) hq (by decide)) rfl ⟨by omega, by omega⟩ (by omega) dX0_intoRow_20 ?_
    refine lv_iload_n hx hb dX0_intoRow_21 rfl (lv_at hl 3 rfl) ?_
    refine lv_isub hx hb dX0_intoRow_22 ?_
    refine lv_topi (fun x9 ex9 => ?_)
    obtain rfl : x9 = iZ ((μ (q + 2) (i).toNat) - i) := ex9.trans (iZ_sub _ _)
    refine lv_iconst (v := iZ 1) hx hb dX0_intoRow_23 rfl ?_
    refine lv_isub hx hb dX0_intoRow_24 ?_
    refine lv_topi (fun x9 ex9 => ?_)
    obtain rfl : x9 = iZ (((μ (q + 2) (i).toNat) - i) - 1) := ex9.trans (iZ_sub _ _)
    refine lv_istore (lv' := [(5, .int (iZ (((μ (q + 2) (i).toNat) - i) - 1))), (0, .ref (h0 + 41)), (1, .ref (h0 + q)), (2, .ref (h0 + q2)), (3, .int (iZ (i))), (4, .int (iZ (j)))]) hx hb dX0_intoRow_25 hl (by decide) rfl (fun ls hl => ?_)
    refine lv_aload_n hx hb dX0_intoRow_27 rfl (lv_at hl 2 rfl) ?_
    refine lv_iload_n hx hb dX0_intoRow_28 rfl (lv_at hl 4 rfl) ?_
    refine lv_iconst (v := iZ 1) hx hb dX0_intoRow_29 rfl ?_
    refine lv_iadd hx hb dX0_intoRow_30 ?_
    refine lv_topi (fun x9 ex9 => ?_)
    obtain rfl : x9 = iZ (i + 1) := ex9.trans (iZ_add _ _)
    refine lv_aload_n hx hb dX0_intoRow_31 rfl (lv_at hl 3 rfl) ?_
    refine lv_iload hx hb dX0_intoRow_32 (lv_at hl 5 rfl) ?_
    refine lv_iload hx hb dX0_intoRow_34 (lv_at hl 0 rfl) ?_
    refine va_calli (va_runV (As := [.int (iZ (i + 1)), .ref (h0 + q2), .int (iZ (j)), .int (iZ (((μ (q + 2) (i).toNat) - i) - 1))]) (rest := []) ⟨hx, hb, hml, hown, hts⟩ (s_Rmatches l dC dI cI cZ cII cIII h0 H.size μ (q) (rm) (q2) (rm2) (i + 1) (j) (((μ (q + 2) (i).toNat) - i) - 1) (hq) (hq2) (by exact hG.1) (by exact hG2.1) (by first | assumption | omega | exact ⟨by omega, by omega⟩) (by first | assumption | omega | exact ⟨by omega, by omega⟩) (by first | assumption | omega | exact ⟨by omega, by omega⟩) (by first | assumption | omega | exact ⟨by omega, by omega⟩) (by first | assumption | omega | exact ⟨by omega, by omega⟩) (by first | assumption | omega | exact ⟨by omega, by omega⟩)) (cwV 4 hts (gV_G k797 k442 k443 k3 k444) rfl rfl rfl (by decide +kernel) ⟨Nat.le_of_ble_eq_true rfl, Nat.le_of_ble_eq_true rfl⟩) ⟨fun a U g mk q => by obtain ⟨q0, q1, qP, qK, qM⟩ := q; exact ⟨q0, q1, qP, va_K.moved (u := U) (U := U.calling g mk a) (Vm.Alike.refl U.vm) qK, qM⟩, va_recv hK hP (ci := 4) (q0 := q) rfl ((fw_get (by omega)).trans (by rw [(sE_rowO hq)])), fun U hU hW => ⟨rfl, by rw [hU], by rw [hU]; exact hP, va_K.moved hW.alike hK, xM_warm hW hM⟩⟩ rfl rfl hl.1 rfl (lv_room (Nat.le_of_ble_eq_true rfl)) dX0_intoRow_36 ⟨Nat.le_of_ble_eq_true rfl, Nat.le_of_ble_eq_true rfl⟩) hS (fun q _ h => fA_le hS.1 q h) (fA_le hS.1) (fun r9 u9 t9 H1 locs ht9 hvm9 hw9 hB9 hz9 hk9 hS => ?_)
    obtain ⟨μq, rq⟩ := u9
    obtain ⟨hP, -⟩ := hB9
    rw [ht9] at hP
    generalize H1 = H at hP hS ⊢
    obtain ⟨e9, hw9⟩ := hw9
    have e9 : r9 = iZ rq := e9
    subst e9
    simp only at hP hw9
    have hμq := hw9; clear hw9
    rw [hμq.1] at hP; have hμq := hμq.2
    have hrq := hμq
    have hr01 : rq = 0 ∨ rq = 1 := hrq.elim (fun h => Or.inr h.1) (fun h => Or.inl h.1)
    have hk3 : 3 ≤ kx ∧ dx = 2 + sL lx := by omega
    have alx : SA μ (q + 1) lx (i + 1).toNat := by rw [show (i + 1).toNat = i.toNat + 1 by omega]; exact (ax.2.1 hk3.1).1
    have hmn := mt_r (p := i + 1) (n1 := μ q 5) (n2 := μ q2 5) (n := μ (q + 2) i.toNat - i - 1) wx.2.1 hb9 ⟨by omega, by omega, by omega⟩ alx (by omega) (by omega) rfl ey
    refine fz_if_ne (tgt := 45) (by constructor <;> omega) hx hb dX0_intoRow_39 (by decide) (fun c39_ => ?_) (fun c39_ => ?_)
    · have hmt := hrq.elim (fun h => h.2) (fun h => absurd h.1 (by omega))
      have hnx := hmn.mp hmt
      obtain ⟨y1_, y2_, y3_, y4_⟩ := vis_2 hG hG2 hv hi.1 (by omega) hmt
      have y5_ := y3_.1
      have hmt1 := hmt.1
      obtain ⟨hdr, hcr⟩ := mt_d wx.2.1 hb9 ⟨by omega, by omega⟩ alx ey hnx
      refine lv_aload_n hx hb dX0_intoRow_45 rfl (lv_at hl 2 rfl) ?_
      refine lv_iload_n hx hb dX0_intoRow_46 rfl (lv_at hl 4 rfl) ?_
      refine lv_iconst (v := iZ 1) hx hb dX0_intoRow_47 rfl ?_
      refine lv_iadd hx hb dX0_intoRow_48 ?_
      refine lv_topi (fun x9 ex9 => ?_)
      obtain rfl : x9 = iZ (i + 1) := ex9.trans (iZ_add _ _)
      refine lv_aload_n hx hb dX0_intoRow_49 rfl (lv_at hl 3 rfl) ?_
      refine lv_iload hx hb dX0_intoRow_50 (lv_at hl 5 rfl) ?_
      refine lv_iload hx hb dX0_intoRow_52 (lv_at hl 0 rfl) ?_
      refine va_calli (va_runV (As := [.int (iZ (i + 1)), .ref (h0 + q2), .int (iZ (j)), .int (iZ (((μ (q + 2) (i).toNat) - i) - 1))]) (rest := []) ⟨hx, hb, hml, hown, hts⟩ (s_RcostOfRange l dC dI cI cZ cII cIII h0 H.size μ (q) (rm) (q2) (rm2) (i + 1) (j) (((μ (q + 2) (i).toNat) - i) - 1) (hq) (hq2) (by exact hG.1) (by exact hG2.1) (by first | assumption | omega | exact ⟨by omega, by omega⟩) (by first | assumption | omega | exact ⟨by omega, by omega⟩) (by first | assumption | omega | exact ⟨by omega, by omega⟩)) (cwV 4 hts (gV_G k798 k799 k800 k3 k801) rfl rfl rfl (by decide +kernel) ⟨Nat.le_of_ble_eq_true rfl, Nat.le_of_ble_eq_true rfl⟩) ⟨fun a U g mk q => by obtain ⟨q0, q1, qP, qK, qM⟩ := q; exact ⟨q0, q1, qP, va_K.moved (u := U) (U := U.calling g mk a) (Vm.Alike.refl U.vm) qK, qM⟩, va_recv hK hP (ci := 4) (q0 := q) rfl ((fw_get (by omega)).trans (by rw [(sE_rowO hq)])), fun U hU hW => ⟨rfl, by rw [hU], by rw [hU]; exact hP, va_K.moved hW.alike hK, xM_warm hW hM⟩⟩ rfl rfl hl.1 rfl (lv_room (Nat.le_of_ble_eq_true rfl)) dX0_intoRow_54 ⟨Nat.le_of_ble_eq_true rfl, Nat.le_of_ble_eq_true rfl⟩) hS (fun q _ h => fA_le hS.1 q h) (fA_le hS.1) (fun r9 u9 t9 H1 locs ht9 hvm9 hw9 hB9 hz9 hk9 hS => ?_)
      obtain ⟨μc, rc⟩ := u9
      obtain ⟨hP, -⟩ := hB9
      rw [ht9] at hP
      generalize H1 = H at hP hS ⊢
      obtain ⟨e9, hw9⟩ := hw9
      have e9 : r9 = iZ rc := e9
      subst e9
      simp only at hP hw9
      have hμc := hw9; clear hw9
      rw [hμc.1] at hP; have hμc := hμc.2
      have hrc := hμc
      have hcb := cRng_b μ (q + 1) (i + 1).toNat (q2 + 1) j.toNat (μ (q + 2) i.toNat - i - 1).toNat
      have hrf : rc = rfC lx (Std.DTreeMap.Internal.Impl.inner zy ky vy ly ry : Rw) := by rw [hrc, show (μ (q + 2) i.toNat - i - 1).toNat = sL lx by omega]; exact hcr
      refine lv_istore (lv' := [(6, .int (iZ (rc))), (5, .int (iZ (((μ (q + 2) (i).toNat) - i) - 1))), (0, .ref (h0 + 41)), (1, .ref (h0 + q)), (2, .ref (h0 + q2)), (3, .int (iZ (i))), (4, .int (iZ (j)))]) hx hb dX0_intoRow_57 hl (by decide) rfl (fun ls hl => ?_)
      refine lv_iload hx hb dX0_intoRow_59 (lv_at hl 0 rfl) ?_
      refine lv_iconst (v := iZ 2) hx hb dX0_intoRow_61 rfl ?_
      refine lv_aload_n hx hb dX0_intoRow_62 rfl (lv_at hl 2 rfl) ?_
      refine fz_get (D := (dC, dI)) (ci := 0) (v := .ref (h0 + 42)) (C := RX0) (T := TX0) (N := 7) hx hb hts inG0 hown hK hP (k := 41) (by decide) (F := (sF41 h0)) sE_41 rfl 0 (by decide) (hts _ k182) (fun _ h9 => h9) rfl dX0_intoRow_63 ?_
      refine lv_aload_n hx hb dX0_intoRow_66 rfl (lv_at hl 3 rfl) ?_
      refine lv_iload_n hx hb dX0_intoRow_67 rfl (lv_at hl 5 rfl) ?_
      refine va_calli (va_runV (As := [.int (iZ (i))]) (rest := [.ref (h0 + 42), .int (iZ (2)), .int (iZ (rc))]) ⟨hx, hb, hml, hown, hts⟩ (s_Rafter l dC dI cI cZ cII cIII h0 H.size μ (q) (rm) (i) (hq) (by first | assumption | omega | exact ⟨by omega, by omega⟩) (by constructor <;> omega)) (cwV 1 hts (gV_G k791 k438 k439 k3 k440) rfl rfl rfl (by decide +kernel) ⟨Nat.le_of_ble_eq_true rfl, Nat.le_of_ble_eq_true rfl⟩) ⟨fun a U g mk q => by obtain ⟨q0, q1, qP, qK, qM⟩ := q; exact ⟨q0, q1, qP, va_K.moved (u := U) (U := U.calling g mk a) (Vm.Alike.refl U.vm) qK, qM⟩, va_recv hK hP (ci := 4) (q0 := q) rfl ((fw_get (by omega)).trans (by rw [(sE_rowO hq)])), fun U hU hW => ⟨rfl, by rw [hU], by rw [hU]; exact hP, va_K.moved hW.alike hK, xM_warm hW hM⟩⟩ rfl rfl hl.1 rfl (lv_room (Nat.le_of_ble_eq_true rfl)) dX0_intoRow_68 ⟨Nat.le_of_ble_eq_true rfl, Nat.le_of_ble_eq_true rfl⟩) hS (fun q _ h => fA_le hS.1 q h) (fA_le hS.1) (fun r9 u9 t9 H1 locs ht9 hvm9 hw9 hB9 hz9 hk9 hS => ?_)
      obtain ⟨μa, ra⟩ := u9
      obtain ⟨hP, -⟩ := hB9
      rw [ht9] at hP
      generalize H1 = H at hP hS ⊢
      obtain ⟨e9, hw9⟩ := hw9
      have e9 : r9 = iZ ra := e9
      subst e9
      simp only at hP hw9
      have hμa := hw9; clear hw9
      rw [hμa.1] at hP; have hμa := hμa.2
      have hra := hμa
      rw [← hra] at y3_
      have hvc := y3_
      have hbc := hLC (ra) (j + (μ (q + 2) i.toNat - i - 1)) hvc (Or.inl (by omega))
      rw [← Int.add_assoc] at hbc
      unfold bnd at hbc
      have hvc1 := hvc.1
      have mlc := mulC (i := ra) (s := μ 41 3) (by omega) (by omega) (by omega) (by omega)
      have hcv := hLCv ra (j + (μ (q + 2) i.toNat - i - 1)) hvc (Or.inl (by omega))
      rw [← Int.add_assoc] at hcv
      rw [show ra.toNat = i.toNat + dx by omega, show (j + (μ (q + 2) i.toNat - i - 1)).toNat = j.toNat + sL lx by omega, nx, hdr] at hcv
      have hcve := enc_16 rx (rdrop (rI lx) (Std.DTreeMap.Internal.Impl.inner zy ky vy ly ry : Rw))
      refine lv_aload_n hx hb dX0_intoRow_71 rfl (lv_at hl 2 rfl) ?_
      refine fz_get (D := (dC, dI)) (ci := 0) (v := .int (iZ (μ 41 3))) (C := RX0) (T := TX0) (N := 7) hx hb hts inG0 hown hK hP (k := 41) (by decide) (F := (sF41 h0)) sE_41 rfl 3 (by decide) (hts _ k185) (fun _ h9 => h9) rfl dX0_intoRow_72 ?_
      refine lv_imul hx hb dX0_intoRow_75 ?_
      refine lv_topi (fun x9 ex9 => ?_)
      obtain rfl : x9 = iZ (ra * (μ 41 3)) := ex9.trans (iZ_mul _ _)
      refine lv_iload hx hb dX0_intoRow_76 (lv_at hl 6 rfl) ?_
      refine lv_iadd hx hb dX0_intoRow_78 ?_
      refine lv_topi (fun x9 ex9 => ?_)
      obtain rfl : x9 = iZ ((ra * (μ 41 3)) + j) := ex9.trans (iZ_add _ _)
      refine lv_iload hx hb dX0_intoRow_79 (lv_at hl 1 rfl) ?_
      refine lv_iadd hx hb dX0_intoRow_81 ?_
      refine lv_topi (fun x9 ex9 => ?_)
      obtain rfl : x9 = iZ (((ra * (μ 41 3)) + j) + (((μ (q + 2) (i).toNat) - i) - 1)) := ex9.trans (iZ_add _ _)
      refine fz_ld (k := 42) (n := 106797) hx hb hK hP 0 (by decide) sE_42 rfl ⟨by omega, by omega⟩ (by decide) dX0_intoRow_82 ?_
      refine lv_aload_n hx hb dX0_intoRow_83 rfl (lv_at hl 3 rfl) ?_
      refine fz_get (D := (dC, dI)) (ci := 4) (v := .ref (h0 + (q + 1))) (C := RX4) (T := TX4) (N := 8) hx hb hts inG4 hown hK hP (k := q) (by omega) (F := (sRF h0 q)) (sE_rowO hq) rfl 0 (by decide) (hts _ k80) (fun _ h9 => h9) rfl dX0_intoRow_84 ?_
      refine lv_iload_n hx hb dX0_intoRow_87 rfl (lv_at hl 5 rfl) ?_
      refine fz_ld (k := (q + 1)) (n := rm) hx hb hK hP 0 (by omega) (sE_rowA (r := 1) hq (by decide)) rfl ⟨by omega, by omega⟩ (by omega) dX0_intoRow_88 ?_
      refine lv_sipush (v := iZ 513) hx hb dX0_intoRow_89 rfl ?_
      refine fz_icmp_ne (tgt := 99) (by constructor <;> omega) (by decide) hx hb dX0_intoRow_92 (by decide) (fun c92_ => ?_) (fun c92_ => ?_)
      · refine lv_iconst (v := iZ 0) hx hb dX0_intoRow_99 rfl ?_
        refine va_calli (va_runS (As := [.int (iZ (rc)), .int (iZ (2)), .int (iZ (μ 42 (((ra * (μ 41 3)) + j) + (((μ (q + 2) (i).toNat) - i) - 1)).toNat)), .int (iZ (0))]) (rest := []) ⟨hx, hb, hml, hown, hts⟩ (s_Ypacked l dC dI cI cZ cII cIII h0 H.size μ (rc) (2) (μ 42 (((ra * (μ 41 3)) + j) + (((μ (q + 2) (i).toNat) - i) - 1)).toNat) (0) (by first | assumption | omega | exact ⟨by omega, by omega⟩) (by first | assumption | omega | exact ⟨by omega, by omega⟩) (by first | assumption | omega | exact ⟨by omega, by omega⟩) (by first | assumption | omega | exact ⟨by omega, by omega⟩)) (cwS 4 hts (gS_G k788 k789 k7 k790) rfl rfl rfl (by decide +kernel) ⟨Nat.le_of_ble_eq_true rfl, Nat.le_of_ble_eq_true rfl⟩) ⟨fun a U g mk q => by obtain ⟨q0, q1, qP, qK, qM⟩ := q; exact ⟨q0, q1, qP, va_K.moved (u := U) (U := U.calling g mk a) (Vm.Alike.refl U.vm) qK, qM⟩, fun U hU hW => ⟨rfl, by rw [hU], by rw [hU]; exact hP, va_K.moved hW.alike hK, xM_warm hW hM⟩⟩ rfl rfl hl.1 rfl (lv_room (Nat.le_of_ble_eq_true rfl)) dX0_intoRow_100 ⟨Nat.le_of_ble_eq_true rfl, Nat.le_of_ble_eq_true rfl⟩) hS (fun q _ h => fA_le hS.1 q h) (fA_le hS.1) (fun r9 u9 t9 H1 locs ht9 hvm9 hw9 hB9 hz9 hk9 hS => ?_)
        obtain ⟨μp, rp⟩ := u9
        obtain ⟨hP, -⟩ := hB9
        rw [ht9] at hP
        generalize H1 = H at hP hS ⊢
        obtain ⟨e9, hw9⟩ := hw9
        have e9 : r9 = iZ rp := e9
        subst e9
        simp only at hP hw9
        have hμp := hw9; clear hw9
        rw [hμp.1] at hP; have hμp := hμp.2
        have hrp := hμp.1 trivial
        exact W.iret (v := iZ (rp)) hx hb hr (fun t9 ht9 hW9 => ⟨⟨iZ (rp), (μ, rp), rfl, ⟨rfl, (by
                        dsimp only
                        have q9 := (ck2_is (z := zx) (z2 := zy) (k := kx) (v := vx) (l := lx) (r := rx) (k2 := ky) (v2 := vy) (l2 := ly) (r2 := ry) hB9).1 hk3.1 hnx
                        rw [if_neg (by omega)] at q9
                        refine ⟨rfl, ?_⟩
                        rw [ex, ey, q9]
                        omega)⟩, by rw [ht9]; exact hP, va_K.moved hW9.alike hK⟩, hS.F ht9⟩) hS.2.2 dX0_intoRow_103
      · refine lv_iconst (v := iZ 1) hx hb dX0_intoRow_95 rfl ?_
        refine lv_goto (tgt := 100) hx hb dX0_intoRow_96 (by decide) ?_
        refine va_calli (va_runS (As := [.int (iZ (rc)), .int (iZ (2)), .int (iZ (μ 42 (((ra * (μ 41 3)) + j) + (((μ (q + 2) (i).toNat) - i) - 1)).toNat)), .int (iZ (1))]) (rest := []) ⟨hx, hb, hml, hown, hts⟩ (s_Ypacked l dC dI cI cZ cII cIII h0 H.size μ (rc) (2) (μ 42 (((ra * (μ 41 3)) + j) + (((μ (q + 2) (i).toNat) - i) - 1)).toNat) (1) (by first | assumption | omega | exact ⟨by omega, by omega⟩) (by first | assumption | omega | exact ⟨by omega, by omega⟩) (by first | assumption | omega | exact ⟨by omega, by omega⟩) (by first | assumption | omega | exact ⟨by omega, by omega⟩)) (cwS 4 hts (gS_G k788 k789 k7 k790) rfl rfl rfl (by decide +kernel) ⟨Nat.le_of_ble_eq_true rfl, Nat.le_of_ble_eq_true rfl⟩) ⟨fun a U g mk q => by obtain ⟨q0, q1, qP, qK, qM⟩ := q; exact ⟨q0, q1, qP, va_K.moved (u := U) (U := U.calling g mk a) (Vm.Alike.refl U.vm) qK, qM⟩, fun U hU hW => ⟨rfl, by rw [hU], by rw [hU]; exact hP, va_K.moved hW.alike hK, xM_warm hW hM⟩⟩ rfl rfl hl.1 rfl (lv_room (Nat.le_of_ble_eq_true rfl)) dX0_intoRow_100 ⟨Nat.le_of_ble_eq_true rfl, Nat.le_of_ble_eq_true rfl⟩) hS (fun q _ h => fA_le hS.1 q h) (fA_le hS.1) (fun r9 u9 t9 H1 locs ht9 hvm9 hw9 hB9 hz9 hk9 hS => ?_)
        obtain ⟨μp, rp⟩ := u9
        obtain ⟨hP, -⟩ := hB9
        rw [ht9] at hP
        generalize H1 = H at hP hS ⊢
        obtain ⟨e9, hw9⟩ := hw9
        have e9 : r9 = iZ rp := e9
        subst e9
        simp only at hP hw9
        have hμp := hw9; clear hw9
        rw [hμp.1] at hP; have hμp := hμp.2
        have hrp := hμp.2 trivial
        exact W.iret (v := iZ (rp)) hx hb hr (fun t9 ht9 hW9 => ⟨⟨iZ (rp), (μ, rp), rfl, ⟨rfl, (by
                        dsimp only
                        have q9 := (ck2_is (z := zx) (z2 := zy) (k := kx) (v := vx) (l := lx) (r := rx) (k2 := ky) (v2 := vy) (l2 := ly) (r2 := ry) hB9).1 hk3.1 hnx
                        rw [if_pos (by omega)] at q9
                        refine ⟨rfl, ?_⟩
                        rw [ex, ey, q9]
                        omega)⟩, by rw [ht9]; exact hP, va_K.moved hW9.alike hK⟩, hS.F ht9⟩) hS.2.2 dX0_intoRow_103
    · refine lv_ldc (v := iZ 268435456) hx hb hown (hts _ k778) dX0_intoRow_42 ?_
      exact W.iret (v := iZ (268435456)) hx hb hr (fun t9 ht9 hW9 => ⟨⟨iZ (268435456), (μ, 268435456), rfl, ⟨rfl, (by
                    dsimp only
                    have hm0 := hrq.elim (fun h => absurd h.1 (by omega)) (fun h => h.2)
                    have q9 := (ck2_is (z := zx) (z2 := zy) (k := kx) (v := vx) (l := lx) (r := rx) (k2 := ky) (v2 := vy) (l2 := ly) (r2 := ry) hB9).2 (Or.inr (fun h => hm0 (hmn.mpr h)))
                    refine ⟨rfl, ?_⟩
                    rw [ex, ey, q9])⟩, by rw [ht9]; exact hP, va_K.moved hW9.alike hK⟩, hS.F ht9⟩) hS.2.2 dX0_intoRow_44
  · refine lv_ldc (v := iZ 268435456) hx hb hown (hts _ k778) dX0_intoRow_12 ?_
    exact W.iret (v := iZ (268435456)) hx hb hr (fun t9 ht9 hW9 => ⟨⟨iZ (268435456), (μ, 268435456), rfl, ⟨rfl, (by
                dsimp only
                have q9 := (ck2_is (z := zx) (z2 := zy) (k := kx) (v := vx) (l := lx) (r := rx) (k2 := ky) (v2 := vy) (l2 := ly) (r2 := ry) hB9).2 (Or.inl (by omega))
                refine ⟨rfl, ?_⟩
                rw [ex, ey, q9])⟩, by rw [ht9]; exact hP, va_K.moved hW9.alike hK⟩, hS.F ht9⟩) hS.2.2 dX0_intoRow_14
set_option maxHeartbeats 4000000 in
set_option maxRecDepth 100000 in
theorem s_VintoPage (l : Launch) (dC : Nat → ClassId) (dI : Nat → Nat → Nat) (cI cZ cII cIII : ClassId) (h0 sz : Nat) (μ : va_M) (q : Nat) (rm : Nat) (q2 : Nat) (rm2 : Nat) (i : Int) (j : Int) (w : Rw) (b : Rw) (hq : rowB q rm) (hq2 : rowB q2 rm2) (hG : rG μ q rm) (hG2 : rG μ q2 rm2) (h96 : rm2 = 96) (hst : μ 41 3 = μ q2 5 + 1) (hv : vis μ q q2 i j) (hw9 : rwL μ q w) (hb9 : rwL μ q2 b) (hLCv : LCv μ q q2 w b i j) (hi : i < μ q 5 ∧ μ (q + 1) i.toNat ≠ 515) (hj : j < μ q2 5 ∧ μ (q2 + 1) j.toNat ≠ 515) : Met l yX0_intoPage (Cond.code yX0_intoPage cX0_intoPage 7 (some .int) :: wsG) ({ frames := 3, cells := 0, slots := 0, locals := 61 } : Room) (va_Pc [.ref (h0 + 41), .ref (h0 + q), .ref (h0 + q2), .int (iZ (i)), .int (iZ (j))] (fun U => U.heap.size = sz ∧ va_P (dC, dI) vwCl (fw (sE cI cZ cII cIII h0) h0 233 μ) U.heap ∧ va_K (dC, dI) vwCl (sT cI cZ cII cIII) U ∧ xM U)) (va_Qi (fun (r9 : Int32) (u : va_M × Int) => r9 = iZ u.2 ∧ (fun (u : va_M) (r : Int) => u = μ ∧ r = ck 3 (sub w i.toNat) (sub b j.toNat)) u.1 u.2) (fun u t => va_P (dC, dI) vwCl (fw (sE cI cZ cII cIII h0) h0 233 u.1) t.heap ∧ va_K (dC, dI) vwCl (sT cI cZ cII cIII) t) (fA h0 233 sz)) 0 0 (fA h0 233 sz) := by
  refine Met.ofW (cc := cX0_intoPage) (maxL := 7) (ret := (some .int)) (by decide) rfl ?_
  intro p e s m args below meth c s₁ B hml hv
  obtain ⟨rfl, hsz, hP, hK, hM⟩ := hv
  have hx := B.exec
  have hb := B.bytes
  have hr := B.returns
  have hts : ∀ w ∈ wsG, w.before _ s = true := hG_of (atoms_spec (ws := (Cond.code yX0_intoPage cX0_intoPage 7 (some .int) :: wsG)) B.pre)
  have hown : s.vm.findClass RX0 = some m.cls := findClass_of_methodNamed B.named
  have hlocks := B.notSynchronized
  subst hsz
  have hS : va_S (fA h0 233 s.heap.size) s.heap s.heap [] := va_S.rf
  have hl := lv_entry ([.ref (h0 + 41), .ref (h0 + q), .ref (h0 + q2), .int (iZ (i)), .int (iZ (j))]) (n := 7) (Nat.le_of_ble_eq_true rfl)
  rw [lg_entry_eq]
  generalize (lg_sl ([.ref (h0 + 41), .ref (h0 + q), .ref (h0 + q2), .int (iZ (i)), .int (iZ (j))]) ++ List.replicate (7 - (lg_sl ([.ref (h0 + 41), .ref (h0 + q), .ref (h0 + q2), .int (iZ (i)), .int (iZ (j))])).length) Slot.unset).toArray = ls at hl ⊢
  have hl : lv_has ls 7 [(0, .ref (h0 + 41)), (1, .ref (h0 + q)), (2, .ref (h0 + q2)), (3, .int (iZ (i))), (4, .int (iZ (j)))] := hl
  have hqb := rowB_b hq
  have hqb2 := rowB_b hq2
  have hrm := rG_rm hq hG
  have hrm2 := rG_rm hq2 hG2
  have hs1 := hG.1 i.toNat
  have hs2 := hG2.1 j.toNat
  have hv0 := hv.1
  have ml0 := mulC (i := i) (s := μ 41 3) (by omega) (by omega) (by omega) (by omega)
  have hm1 := rG_m hG i (by omega) (by omega)
  have hm2 := rG_m hG2 j (by omega) (by omega)
  have ml1 := mulC (i := i + 1) (s := μ 41 3) (by omega) (by omega) (by omega) (by omega)
  have lw9 := hw9.2.2
  have lb9 := hb9.2.2
  have hLC := LCv_LC hw9 hb9 hLCv
  have hB9 := at_B hw9 hb9 hv ⟨by omega, by omega⟩
  obtain ⟨zx, kx, vx, lx, rx, dx, ex, wx, sx, ax, ddx, mx, nx, ox, gx, lex⟩ := at_in hG hw9 (by omega) hi
  obtain ⟨zy, ky, vy, ly, ry, dy, ey, wy, sy, ay, ddy, my, ny, oy, gy, ley⟩ := at_in hG2 hb9 (by omega) hj
  have hB8 := hB9
  rw [ex, ey] at hB9
  refine lv_aload_n hx hb dX0_intoPage_0 rfl (lv_at hl 2 rfl) ?_
  refine fz_get (D := (dC, dI)) (ci := 4) (v := .ref (h0 + (q2 + 1))) (C := RX4) (T := TX4) (N := 8) hx hb hts inG4 hown hK hP (k := q2) (by omega) (F := (sRF h0 q2)) (sE_rowO hq2) rfl 0 (by decide) (hts _ k80) (fun _ h9 => h9) rfl dX0_intoPage_1 ?_
  refine lv_iload hx hb dX0_intoPage_4 (lv_at hl 4 rfl) ?_
  refine fz_ld (k := (q2 + 1)) (n := rm2) hx hb hK hP 0 (by omega) (sE_rowA (r := 1) hq2 (by decide)) rfl ⟨by omega, by omega⟩ (by omega) dX0_intoPage_6 ?_
  refine lv_sipush (v := iZ 514) hx hb dX0_intoPage_7 rfl ?_
  refine fz_icmp_eq (tgt := 16) (by constructor <;> omega) (by decide) hx hb dX0_intoPage_10 (by decide) (fun c10_ => ?_) (fun c10_ => ?_)
  · refine lv_aload_n hx hb dX0_intoPage_16 rfl (lv_at hl 2 rfl) ?_
    refine fz_get (D := (dC, dI)) (ci := 4) (v := .ref (h0 + (q2 + 2))) (C := RX4) (T := TX4) (N := 8) hx hb hts inG4 hown hK hP (k := q2) (by omega) (F := (sRF h0 q2)) (sE_rowO hq2) rfl 1 (by decide) (hts _ k85) (fun _ h9 => h9) rfl dX0_intoPage_17 ?_
    refine lv_iload hx hb dX0_intoPage_20 (lv_at hl 4 rfl) ?_
    refine fz_ld (k := (q2 + 2)) (n := rm2) hx hb hK hP 0 (by omega) (sE_rowA (r := 2) hq2 (by decide)) rfl ⟨by omega, by omega⟩ (by omega) dX0_intoPage_22 ?_
    refine lv_iload hx hb dX0_intoPage_23 (lv_at hl 4 rfl) ?_
    refine lv_isub hx hb dX0_intoPage_25 ?_
    refine lv_topi (fun x9 ex9 => ?_)
    obtain rfl : x9 = iZ ((μ (q2 + 2) (j).toNat) - j) := ex9.trans (iZ_sub _ _)
    refine lv_iconst (v := iZ 1) hx hb dX0_intoPage_26 rfl ?_
    refine lv_isub hx hb dX0_intoPage_27 ?_
    refine lv_topi (fun x9 ex9 => ?_)
    obtain rfl : x9 = iZ (((μ (q2 + 2) (j).toNat) - j) - 1) := ex9.trans (iZ_sub _ _)
    refine lv_istore (lv' := [(5, .int (iZ (((μ (q2 + 2) (j).toNat) - j) - 1))), (0, .ref (h0 + 41)), (1, .ref (h0 + q)), (2, .ref (h0 + q2)), (3, .int (iZ (i))), (4, .int (iZ (j)))]) hx hb dX0_intoPage_28 hl (by decide) rfl (fun ls hl => ?_)
    refine lv_aload_n hx hb dX0_intoPage_30 rfl (lv_at hl 2 rfl) ?_
    refine lv_iload_n hx hb dX0_intoPage_31 rfl (lv_at hl 4 rfl) ?_
    refine lv_aload_n hx hb dX0_intoPage_32 rfl (lv_at hl 3 rfl) ?_
    refine lv_iload hx hb dX0_intoPage_33 (lv_at hl 5 rfl) ?_
    refine lv_iconst (v := iZ 1) hx hb dX0_intoPage_35 rfl ?_
    refine lv_iadd hx hb dX0_intoPage_36 ?_
    refine lv_topi (fun x9 ex9 => ?_)
    obtain rfl : x9 = iZ (j + 1) := ex9.trans (iZ_add _ _)
    refine lv_iload hx hb dX0_intoPage_37 (lv_at hl 0 rfl) ?_
    refine va_calli (va_runV (As := [.int (iZ (i)), .ref (h0 + q2), .int (iZ (j + 1)), .int (iZ (((μ (q2 + 2) (j).toNat) - j) - 1))]) (rest := []) ⟨hx, hb, hml, hown, hts⟩ (s_Rmatches l dC dI cI cZ cII cIII h0 s.heap.size μ (q) (rm) (q2) (rm2) (i) (j + 1) (((μ (q2 + 2) (j).toNat) - j) - 1) (hq) (hq2) (by exact hG.1) (by exact hG2.1) (by first | assumption | omega | exact ⟨by omega, by omega⟩) (by first | assumption | omega | exact ⟨by omega, by omega⟩) (by first | assumption | omega | exact ⟨by omega, by omega⟩) (by first | assumption | omega | exact ⟨by omega, by omega⟩) (by first | assumption | omega | exact ⟨by omega, by omega⟩) (by first | assumption | omega | exact ⟨by omega, by omega⟩)) (cwV 4 hts (gV_G k797 k442 k443 k3 k444) rfl rfl rfl (by decide +kernel) ⟨Nat.le_of_ble_eq_true rfl, Nat.le_of_ble_eq_true rfl⟩) ⟨fun a U g mk q => by obtain ⟨q0, q1, qP, qK, qM⟩ := q; exact ⟨q0, q1, qP, va_K.moved (u := U) (U := U.calling g mk a) (Vm.Alike.refl U.vm) qK, qM⟩, va_recv hK hP (ci := 4) (q0 := q) rfl ((fw_get (by omega)).trans (by rw [(sE_rowO hq)])), fun U hU hW => ⟨rfl, by rw [hU], by rw [hU]; exact hP, va_K.moved hW.alike hK, xM_warm hW hM⟩⟩ rfl rfl hl.1 rfl (lv_room (Nat.le_of_ble_eq_true rfl)) dX0_intoPage_39 ⟨Nat.le_of_ble_eq_true rfl, Nat.le_of_ble_eq_true rfl⟩) hS (fun q _ h => fA_le hS.1 q h) (fA_le hS.1) (fun r9 u9 t9 H1 locs ht9 hvm9 hw9 hB9 hz9 hk9 hS => ?_)
    obtain ⟨μq, rq⟩ := u9
    obtain ⟨hP, -⟩ := hB9
    rw [ht9] at hP
    generalize H1 = H at hP hS ⊢
    obtain ⟨e9, hw9⟩ := hw9
    have e9 : r9 = iZ rq := e9
    subst e9
    simp only at hP hw9
    have hμq := hw9; clear hw9
    rw [hμq.1] at hP; have hμq := hμq.2
    have hrq := hμq
    have hr01 : rq = 0 ∨ rq = 1 := hrq.elim (fun h => Or.inr h.1) (fun h => Or.inl h.1)
    have hk3 : ky = 4 ∧ dy = 2 + sL ly := by omega
    have aly : SA μ (q2 + 1) ly (j + 1).toNat := by rw [show (j + 1).toNat = j.toNat + 1 by omega]; exact (ay.2.1 (by omega)).1
    have hmn := mt_r (p := j + 1) (n1 := μ q2 5) (n2 := μ q 5) (n := μ (q2 + 2) j.toNat - j - 1) wy.2.1 hw9 ⟨by omega, by omega, by omega⟩ aly (by omega) (by omega) rfl ex
    have hmn2 : sMat μ (q + 1) i (μ q 5) (q2 + 1) (j + 1) (μ q2 5) (μ (q2 + 2) j.toNat - j - 1) ↔ sMat μ (q2 + 1) (j + 1) (μ q2 5) (q + 1) i (μ q 5) (μ (q2 + 2) j.toNat - j - 1) := ⟨fun h => ⟨by have := h.1; omega, fun t9 ht9 => sAl_s (h.2 t9 ht9)⟩, fun h => ⟨by have := h.1; omega, fun t9 ht9 => sAl_s (h.2 t9 ht9)⟩⟩
    refine fz_if_ne (tgt := 48) (by constructor <;> omega) hx hb dX0_intoPage_42 (by decide) (fun c42_ => ?_) (fun c42_ => ?_)
    · have hmt := hrq.elim (fun h => h.2) (fun h => absurd h.1 (by omega))
      have hnx := hmn.mp (hmn2.mp hmt)
      obtain ⟨y1_, y2_, y3_, y4_⟩ := vis_3 hG hG2 hv hj.1 (by omega) hmt
      have y5_ := y3_.1
      have hmt1 := hmt.1
      obtain ⟨hdr, hcr⟩ := mt_d wy.2.1 hw9 ⟨by omega, by omega⟩ aly ex hnx
      refine lv_aload_n hx hb dX0_intoPage_48 rfl (lv_at hl 2 rfl) ?_
      refine lv_iload_n hx hb dX0_intoPage_49 rfl (lv_at hl 4 rfl) ?_
      refine lv_aload_n hx hb dX0_intoPage_50 rfl (lv_at hl 3 rfl) ?_
      refine lv_iload hx hb dX0_intoPage_51 (lv_at hl 5 rfl) ?_
      refine lv_iconst (v := iZ 1) hx hb dX0_intoPage_53 rfl ?_
      refine lv_iadd hx hb dX0_intoPage_54 ?_
      refine lv_topi (fun x9 ex9 => ?_)
      obtain rfl : x9 = iZ (j + 1) := ex9.trans (iZ_add _ _)
      refine lv_iload hx hb dX0_intoPage_55 (lv_at hl 0 rfl) ?_
      refine va_calli (va_runV (As := [.int (iZ (i)), .ref (h0 + q2), .int (iZ (j + 1)), .int (iZ (((μ (q2 + 2) (j).toNat) - j) - 1))]) (rest := []) ⟨hx, hb, hml, hown, hts⟩ (s_RcostOfRange l dC dI cI cZ cII cIII h0 H.size μ (q) (rm) (q2) (rm2) (i) (j + 1) (((μ (q2 + 2) (j).toNat) - j) - 1) (hq) (hq2) (by exact hG.1) (by exact hG2.1) (by first | assumption | omega | exact ⟨by omega, by omega⟩) (by first | assumption | omega | exact ⟨by omega, by omega⟩) (by first | assumption | omega | exact ⟨by omega, by omega⟩)) (cwV 4 hts (gV_G k798 k799 k800 k3 k801) rfl rfl rfl (by decide +kernel) ⟨Nat.le_of_ble_eq_true rfl, Nat.le_of_ble_eq_true rfl⟩) ⟨fun a U g mk q => by obtain ⟨q0, q1, qP, qK, qM⟩ := q; exact ⟨q0, q1, qP, va_K.moved (u := U) (U := U.calling g mk a) (Vm.Alike.refl U.vm) qK, qM⟩, va_recv hK hP (ci := 4) (q0 := q) rfl ((fw_get (by omega)).trans (by rw [(sE_rowO hq)])), fun U hU hW => ⟨rfl, by rw [hU], by rw [hU]; exact hP, va_K.moved hW.alike hK, xM_warm hW hM⟩⟩ rfl rfl hl.1 rfl (lv_room (Nat.le_of_ble_eq_true rfl)) dX0_intoPage_57 ⟨Nat.le_of_ble_eq_true rfl, Nat.le_of_ble_eq_true rfl⟩) hS (fun q _ h => fA_le hS.1 q h) (fA_le hS.1) (fun r9 u9 t9 H1 locs ht9 hvm9 hw9 hB9 hz9 hk9 hS => ?_)
      obtain ⟨μc, rc⟩ := u9
      obtain ⟨hP, -⟩ := hB9
      rw [ht9] at hP
      generalize H1 = H at hP hS ⊢
      obtain ⟨e9, hw9⟩ := hw9
      have e9 : r9 = iZ rc := e9
      subst e9
      simp only at hP hw9
      have hμc := hw9; clear hw9
      rw [hμc.1] at hP; have hμc := hμc.2
      have hrc := hμc
      have hcb := cRng_b μ (q + 1) i.toNat (q2 + 1) (j + 1).toNat (μ (q2 + 2) j.toNat - j - 1).toNat
      have hrf : rc = rfC ly (Std.DTreeMap.Internal.Impl.inner zx kx vx lx rx : Rw) := by rw [hrc, show (μ (q2 + 2) j.toNat - j - 1).toNat = sL ly by omega, cRng_sy]; exact hcr
      refine lv_istore (lv' := [(6, .int (iZ (rc))), (5, .int (iZ (((μ (q2 + 2) (j).toNat) - j) - 1))), (0, .ref (h0 + 41)), (1, .ref (h0 + q)), (2, .ref (h0 + q2)), (3, .int (iZ (i))), (4, .int (iZ (j)))]) hx hb dX0_intoPage_60 hl (by decide) rfl (fun ls hl => ?_)
      refine lv_iload hx hb dX0_intoPage_62 (lv_at hl 0 rfl) ?_
      refine lv_iconst (v := iZ 3) hx hb dX0_intoPage_64 rfl ?_
      refine lv_aload_n hx hb dX0_intoPage_65 rfl (lv_at hl 2 rfl) ?_
      refine fz_get (D := (dC, dI)) (ci := 0) (v := .ref (h0 + 42)) (C := RX0) (T := TX0) (N := 7) hx hb hts inG0 hown hK hP (k := 41) (by decide) (F := (sF41 h0)) sE_41 rfl 0 (by decide) (hts _ k182) (fun _ h9 => h9) rfl dX0_intoPage_66 ?_
      refine lv_iload_n hx hb dX0_intoPage_69 rfl (lv_at hl 5 rfl) ?_
      refine lv_iload hx hb dX0_intoPage_70 (lv_at hl 1 rfl) ?_
      refine lv_iadd hx hb dX0_intoPage_72 ?_
      refine lv_topi (fun x9 ex9 => ?_)
      obtain rfl : x9 = iZ (i + (((μ (q2 + 2) (j).toNat) - j) - 1)) := ex9.trans (iZ_add _ _)
      refine lv_aload_n hx hb dX0_intoPage_73 rfl (lv_at hl 2 rfl) ?_
      refine fz_get (D := (dC, dI)) (ci := 0) (v := .int (iZ (μ 41 3))) (C := RX0) (T := TX0) (N := 7) hx hb hts inG0 hown hK hP (k := 41) (by decide) (F := (sF41 h0)) sE_41 rfl 3 (by decide) (hts _ k185) (fun _ h9 => h9) rfl dX0_intoPage_74 ?_
      refine lv_imul hx hb dX0_intoPage_77 ?_
      refine lv_topi (fun x9 ex9 => ?_)
      obtain rfl : x9 = iZ ((i + (((μ (q2 + 2) (j).toNat) - j) - 1)) * (μ 41 3)) := ex9.trans (iZ_mul _ _)
      refine lv_aload_n hx hb dX0_intoPage_78 rfl (lv_at hl 4 rfl) ?_
      refine lv_iload hx hb dX0_intoPage_79 (lv_at hl 6 rfl) ?_
      refine va_calli (va_runV (As := [.int (iZ (j))]) (rest := [.int (iZ ((i + (((μ (q2 + 2) (j).toNat) - j) - 1)) * (μ 41 3))), .ref (h0 + 42), .int (iZ (3)), .int (iZ (rc))]) ⟨hx, hb, hml, hown, hts⟩ (s_Rafter l dC dI cI cZ cII cIII h0 H.size μ (q2) (rm2) (j) (hq2) (by first | assumption | omega | exact ⟨by omega, by omega⟩) (by constructor <;> omega)) (cwV 1 hts (gV_G k791 k438 k439 k3 k440) rfl rfl rfl (by decide +kernel) ⟨Nat.le_of_ble_eq_true rfl, Nat.le_of_ble_eq_true rfl⟩) ⟨fun a U g mk q => by obtain ⟨q0, q1, qP, qK, qM⟩ := q; exact ⟨q0, q1, qP, va_K.moved (u := U) (U := U.calling g mk a) (Vm.Alike.refl U.vm) qK, qM⟩, va_recv hK hP (ci := 4) (q0 := q2) rfl ((fw_get (by omega)).trans (by rw [(sE_rowO hq2)])), fun U hU hW => ⟨rfl, by rw [hU], by rw [hU]; exact hP, va_K.moved hW.alike hK, xM_warm hW hM⟩⟩ rfl rfl hl.1 rfl (lv_room (Nat.le_of_ble_eq_true rfl)) dX0_intoPage_81 ⟨Nat.le_of_ble_eq_true rfl, Nat.le_of_ble_eq_true rfl⟩) hS (fun q _ h => fA_le hS.1 q h) (fA_le hS.1) (fun r9 u9 t9 H1 locs ht9 hvm9 hw9 hB9 hz9 hk9 hS => ?_)
      obtain ⟨μa, ra⟩ := u9
      obtain ⟨hP, -⟩ := hB9
      rw [ht9] at hP
      generalize H1 = H at hP hS ⊢
      obtain ⟨e9, hw9⟩ := hw9
      have e9 : r9 = iZ ra := e9
      subst e9
      simp only at hP hw9
      have hμa := hw9; clear hw9
      rw [hμa.1] at hP; have hμa := hμa.2
      have hra := hμa
      rw [← hra] at y3_
      have hvc := y3_
      have hbc := hLC (i + (μ (q2 + 2) j.toNat - j - 1)) (ra) hvc (by omega)
      unfold bnd at hbc
      have hvc1 := hvc.1
      have mlc := mulC (i := i + (μ (q2 + 2) j.toNat - j - 1)) (s := μ 41 3) (by omega) (by omega) (by omega) (by omega)
      have hcv := hLCv (i + (μ (q2 + 2) j.toNat - j - 1)) ra hvc (by omega)
      rw [show (i + (μ (q2 + 2) j.toNat - j - 1)).toNat = i.toNat + sL ly by omega, show ra.toNat = j.toNat + dy by omega, ny, hdr] at hcv
      have hcve := enc_16 (rdrop (rI ly) (Std.DTreeMap.Internal.Impl.inner zx kx vx lx rx : Rw)) ry
      refine lv_iadd hx hb dX0_intoPage_84 ?_
      refine lv_topi (fun x9 ex9 => ?_)
      obtain rfl : x9 = iZ (((i + (((μ (q2 + 2) (j).toNat) - j) - 1)) * (μ 41 3)) + ra) := ex9.trans (iZ_add _ _)
      refine fz_ld (k := 42) (n := 106797) hx hb hK hP 0 (by decide) sE_42 rfl ⟨by omega, by omega⟩ (by decide) dX0_intoPage_85 ?_
      refine lv_iconst (v := iZ 0) hx hb dX0_intoPage_86 rfl ?_
      refine va_calli (va_runS (As := [.int (iZ (rc)), .int (iZ (3)), .int (iZ (μ 42 (((i + (((μ (q2 + 2) (j).toNat) - j) - 1)) * (μ 41 3)) + ra).toNat)), .int (iZ (0))]) (rest := []) ⟨hx, hb, hml, hown, hts⟩ (s_Ypacked l dC dI cI cZ cII cIII h0 H.size μ (rc) (3) (μ 42 (((i + (((μ (q2 + 2) (j).toNat) - j) - 1)) * (μ 41 3)) + ra).toNat) (0) (by first | assumption | omega | exact ⟨by omega, by omega⟩) (by first | assumption | omega | exact ⟨by omega, by omega⟩) (by first | assumption | omega | exact ⟨by omega, by omega⟩) (by first | assumption | omega | exact ⟨by omega, by omega⟩)) (cwS 4 hts (gS_G k788 k789 k7 k790) rfl rfl rfl (by decide +kernel) ⟨Nat.le_of_ble_eq_true rfl, Nat.le_of_ble_eq_true rfl⟩) ⟨fun a U g mk q => by obtain ⟨q0, q1, qP, qK, qM⟩ := q; exact ⟨q0, q1, qP, va_K.moved (u := U) (U := U.calling g mk a) (Vm.Alike.refl U.vm) qK, qM⟩, fun U hU hW => ⟨rfl, by rw [hU], by rw [hU]; exact hP, va_K.moved hW.alike hK, xM_warm hW hM⟩⟩ rfl rfl hl.1 rfl (lv_room (Nat.le_of_ble_eq_true rfl)) dX0_intoPage_87 ⟨Nat.le_of_ble_eq_true rfl, Nat.le_of_ble_eq_true rfl⟩) hS (fun q _ h => fA_le hS.1 q h) (fA_le hS.1) (fun r9 u9 t9 H1 locs ht9 hvm9 hw9 hB9 hz9 hk9 hS => ?_)
      obtain ⟨μp, rp⟩ := u9
      obtain ⟨hP, -⟩ := hB9
      rw [ht9] at hP
      generalize H1 = H at hP hS ⊢
      obtain ⟨e9, hw9⟩ := hw9
      have e9 : r9 = iZ rp := e9
      subst e9
      simp only at hP hw9
      have hμp := hw9; clear hw9
      rw [hμp.1] at hP; have hμp := hμp.2
      have hrp := hμp.1 trivial
      exact W.iret (v := iZ (rp)) hx hb hr (fun t9 ht9 hW9 => ⟨⟨iZ (rp), (μ, rp), rfl, ⟨rfl, (by
                    dsimp only
                    have q9 := (ck3_is (z := zx) (z2 := zy) (k := kx) (v := vx) (l := lx) (r := rx) (k2 := ky) (v2 := vy) (l2 := ly) (r2 := ry) hB9).1 hk3.1 hnx
                    refine ⟨rfl, ?_⟩
                    rw [ex, ey, q9]
                    omega)⟩, by rw [ht9]; exact hP, va_K.moved hW9.alike hK⟩, hS.F ht9⟩) hS.2.2 dX0_intoPage_90
    · refine lv_ldc (v := iZ 268435456) hx hb hown (hts _ k778) dX0_intoPage_45 ?_
      exact W.iret (v := iZ (268435456)) hx hb hr (fun t9 ht9 hW9 => ⟨⟨iZ (268435456), (μ, 268435456), rfl, ⟨rfl, (by
                    dsimp only
                    have hm0 := hrq.elim (fun h => absurd h.1 (by omega)) (fun h => h.2)
                    have q9 := (ck3_is (z := zx) (z2 := zy) (k := kx) (v := vx) (l := lx) (r := rx) (k2 := ky) (v2 := vy) (l2 := ly) (r2 := ry) hB9).2 (Or.inr (fun h => hm0 (hmn2.mpr (hmn.mpr h))))
                    refine ⟨rfl, ?_⟩
                    rw [ex, ey, q9])⟩, by rw [ht9]; exact hP, va_K.moved hW9.alike hK⟩, hS.F ht9⟩) hS.2.2 dX0_intoPage_47
  · refine lv_ldc (v := iZ 268435456) hx hb hown (hts _ k778) dX0_intoPage_13 ?_
    exact W.iret (v := iZ (268435456)) hx hb hr (fun t9 ht9 hW9 => ⟨⟨iZ (268435456), (μ, 268435456), rfl, ⟨rfl, (by
                dsimp only
                have q9 := (ck3_is (z := zx) (z2 := zy) (k := kx) (v := vx) (l := lx) (r := rx) (k2 := ky) (v2 := vy) (l2 := ly) (r2 := ry) hB9).2 (Or.inl (by omega))
                refine ⟨rfl, ?_⟩
                rw [ex, ey, q9])⟩, by rw [ht9]; exact hP, va_K.moved hW9.alike hK⟩, hS.F ht9⟩) hS.2.2 dX0_intoPage_15

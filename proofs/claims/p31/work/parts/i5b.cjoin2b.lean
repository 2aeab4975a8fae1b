
/-! the tidier joins: told whole, the loops (2) -/
set_option maxHeartbeats 4000000 in
set_option maxRecDepth 100000 in
theorem LX6_joinAhead_3z {p : Program} {l : Launch} {e : Env} {R : Room} {s : State} {m : MethodId} {args : Array Value} {below : List Frame} {meth : Method} {c : Code} {cells slots : Nat} {Q : State → Prop} {dC : Nat → ClassId} {dI : Nat → Nat → Nat} {h0 : Nat} {cI cZ cII cIII : ClassId} (hx : p.tables.exec = Jvm.exec) (hb : c.code = cX6_joinAhead) (hml : c.maxLocals = 6) (hown : s.vm.findClass RX6 = some m.cls) (hts : ∀ w ∈ wsG, w.before args s = true) (hK : va_K (dC, dI) vwCl (sT cI cZ cII cIII) s) (hM : xM s) (hRf : 4 ≤ R.frames) (hRl : 94 ≤ R.locals) (hRc : cells ≤ R.cells) (hRs : slots ≤ R.slots) (μ0 : va_M) (q : Nat) (rm : Nat) (p1 : Int) (p2 : Int) (bh : Int) (v : Rw) (hq : rowB q rm) (hG : rG μ0 q rm) (hrg : rng μ0 q p1 bh) (hp2 : p2 = μ0 q 5 - bh) (hv0 : rWF v) (hvA : SA μ0 (q + 1) v p1.toNat) (hvL : p2 = p1 + sL v) (hv1 : p2 ≤ μ0 q 5) (hexit64 : ∀ (i : Int) (sg : Int) (kk : Nat) (μ : va_M) (H : Heap) (locs : List Loc) (ls : Array Slot), (μ = μ0) → (jok μ0 q (i + 1) (i - sg) sg) → (p1 ≤ i - sg ∧ i - sg + sg ≤ p2 ∧ p1 < p2 ∧ -5000 ≤ i ∧ i ≤ 5000 ∧ -5000 ≤ sg ∧ sg ≤ 5000) → (∃ k9 : Nat, i = p1 + sO v k9 ∧ sg + 2 = sO v (k9 + 1) - sO v k9 ∧ tka v k9 ∧ ∀ j : Nat, j < k9 → ¬ tka v j) → va_P (dC, dI) vwCl (fw (sE cI cZ cII cIII h0) h0 233 μ) H → va_S (fA h0 233 s.heap.size) s.heap H locs → lv_has ls 6 [(5, .int (iZ (sg))), (4, .int (iZ (i))), (3, .int (iZ (p2))), (2, .int (iZ (p1))), (1, .ref (h0 + q)), (0, .ref (h0 + 38))] → W p l e R s m args below meth c H locs cells slots Q (F0 m 64 ls [])) (hexit99 : ∀ (i : Int) (sg : Int) (kk : Nat) (μ : va_M) (H : Heap) (locs : List Loc) (ls : Array Slot), (μ = μ0) → (ta0 v) → va_P (dC, dI) vwCl (fw (sE cI cZ cII cIII h0) h0 233 μ) H → va_S (fA h0 233 s.heap.size) s.heap H locs → lv_has ls 6 [] → W p l e R s m args below meth c H locs cells slots Q (F0 m 99 ls [])) :
    ∀ (n9 : Nat) (i : Int) (sg : Int) (kk : Nat) (μ : va_M) (H : Heap) (locs : List Loc) (ls : Array Slot), (μ = μ0) → (p1 ≤ i ∧ (i ≤ p2 ∨ i = p1)) → (Dp (μ0 (q + 1)) i.toNat = Dp (μ0 (q + 1)) p1.toNat) → (i = p1 + sO v kk ∧ kk ≤ rI v) → (∀ j : Nat, j < kk → ¬ tka v j) → (1101 - i).toNat < n9 → va_P (dC, dI) vwCl (fw (sE cI cZ cII cIII h0) h0 233 μ) H → va_S (fA h0 233 s.heap.size) s.heap H locs → lv_has ls 6 [(4, .int (iZ (i))), (3, .int (iZ (p2))), (2, .int (iZ (p1))), (1, .ref (h0 + q)), (0, .ref (h0 + 38))] → W p l e R s m args below meth c H locs cells slots Q (F0 m 3 ls []) := by
  intro n9
  induction n9 with
  | zero => intro i sg kk μ H locs ls hm9_ hi hD hkk hno hm9 hP hS hl; exact absurd hm9 (Nat.not_lt_zero _)
  | succ n9 ih =>
    intro i sg kk μ H locs ls hm9_ hi hD hkk hno hm9 hP hS hl
    subst hm9_
    have hrm := rG_rm hq hG
    have hqb := rowB_b hq
    have hr1 := hrg.1
    refine lv_iload hx hb dX6_joinAhead_3 (lv_at hl 0 rfl) ?_
    refine lv_iload_n hx hb dX6_joinAhead_5 rfl (lv_at hl 1 rfl) ?_
    refine fz_icmp_ge (tgt := 99) (by constructor <;> omega) (by constructor <;> omega) hx hb dX6_joinAhead_6 (by decide) (fun c6_ => ?_) (fun c6_ => ?_)
    · exact hexit99 (i) (sg) (kk) μ H locs ls (by rfl) (by exact ta_all hno (by omega)) hP hS (lv_sub hl [] rfl)
    · have hsg : seg (μ (q + 1)) p1.toNat p2.toNat := by rw [hp2]; exact hrg.2 (by omega)
      obtain ⟨m_, e1_, e2_, e3_, e4_, e5_, e6_, e7_⟩ := seg_af hG (a := p1.toNat) (b := p2.toNat) (i := i.toNat) (by omega) hsg (by omega) (by omega) hD
      have hs1 := hG.1 i.toNat
      obtain ⟨tk1_, tk2_, tk3_, tk4_⟩ := tk_st (k := kk) (sg := μ (q + 2) i.toNat - i - 1) hG hv0 hvA (by omega) hkk.1 (by omega) (by omega) rfl
      have tk3h := hid_i tk3_
      have tk4h := hid_i tk4_
      clear tk3_ tk4_
      refine lv_aload_n hx hb dX6_joinAhead_9 rfl (lv_at hl 3 rfl) ?_
      refine fz_get (D := (dC, dI)) (ci := 4) (v := .ref (h0 + (q + 1))) (C := RX4) (T := TX4) (N := 8) hx hb hts inG4 hown hK hP (k := q) (by omega) (F := (sRF h0 q)) (sE_rowO hq) rfl 0 (by decide) (hts _ k79) (fun _ h9 => h9) rfl dX6_joinAhead_10 ?_
      refine lv_iload hx hb dX6_joinAhead_13 (lv_at hl 0 rfl) ?_
      refine fz_ld (k := (q + 1)) (n := rm) hx hb hK hP 0 (by omega) (sE_rowA (r := 1) hq (by decide)) rfl ⟨by omega, by omega⟩ (by omega) dX6_joinAhead_15 ?_
      refine lv_sipush (v := iZ 514) hx hb dX6_joinAhead_16 rfl ?_
      refine fz_icmp_ne (tgt := 81) (by constructor <;> omega) (by decide) hx hb dX6_joinAhead_19 (by decide) (fun c19_ => ?_) (fun c19_ => ?_)
      · have hNt : ¬ tka v kk := ((hid_e tk3h) (by omega)).1
        refine lv_iload hx hb dX6_joinAhead_81 (lv_at hl 0 rfl) ?_
        refine lv_iconst (v := iZ 1) hx hb dX6_joinAhead_83 rfl ?_
        refine lv_iadd hx hb dX6_joinAhead_84 ?_
        refine lv_topi (fun x9 ex9 => ?_)
        obtain rfl : x9 = iZ (i + 1) := ex9.trans (iZ_add _ _)
        refine lv_aload_n hx hb dX6_joinAhead_85 rfl (lv_at hl 3 rfl) ?_
        refine lv_iload hx hb dX6_joinAhead_86 (lv_at hl 0 rfl) ?_
        refine va_calli (va_runV (As := [.int (iZ (i))]) (rest := [.int (iZ (i + 1))]) ⟨hx, hb, hml, hown, hts⟩ (s_Rafter l dC dI cI cZ cII cIII h0 H.size μ (q) (rm) (i) (hq) (by first | assumption | omega | exact ⟨by omega, by omega⟩) (by constructor <;> omega)) (cwV 1 hts (gV_G k437 k438 k439 k3 k440) rfl rfl rfl (by decide +kernel) ⟨by show 1 + 1 ≤ _; omega, by show 8 + (2 + 11) + (14) ≤ _; omega⟩) ⟨fun a U g mk q => by obtain ⟨q0, q1, qP, qK, qM⟩ := q; exact ⟨q0, q1, qP, va_K.moved (u := U) (U := U.calling g mk a) (Vm.Alike.refl U.vm) qK, qM⟩, va_recv hK hP (ci := 4) (q0 := q) rfl ((fw_get (by omega)).trans (by rw [(sE_rowO hq)])), fun U hU hW => ⟨rfl, by rw [hU], by rw [hU]; exact hP, va_K.moved hW.alike hK, xM_warm hW hM⟩⟩ rfl rfl hl.1 rfl (lv_room (Nat.le_of_ble_eq_true rfl)) dX6_joinAhead_88 ⟨hRc, hRs⟩) hS (fun q _ h => fA_le hS.1 q h) (fA_le hS.1) (fun r9 u9 t9 H1 locs ht9 hvm9 hw9 hB9 hz9 hk9 hS => ?_)
        obtain ⟨μa, ra⟩ := u9
        obtain ⟨hP, -⟩ := hB9
        rw [ht9] at hP
        generalize H1 = H at hP hS ⊢
        obtain ⟨e9, hw9⟩ := hw9
        have e9 : r9 = iZ ra := e9
        subst e9
        simp only at hP hw9
        have hμa := hw9; clear hw9
        rw [hμa.1] at hP; have hμa := hμa.2
        have hra := hμa
        refine va_mmax hx hb (hml.trans hl.1.symm) hown (hts _ k467) (hts _ k75) (hts _ k4) (hts _ k76) (Nat.le_trans (Nat.le_of_ble_eq_true rfl) hRf) (Nat.le_trans (m := 94) (Nat.le_of_ble_eq_true rfl) hRl) hRc hRs dX6_joinAhead_91 ?_
        refine lv_topi (fun x9 ex9 => ?_)
        obtain rfl : x9 = iZ (max (i + 1) ra) := ex9.trans (iZ_mx (by constructor <;> omega) (by constructor <;> omega))
        refine lv_istore (lv' := [(4, .int (iZ (max (i + 1) ra))), (3, .int (iZ (p2))), (2, .int (iZ (p1))), (1, .ref (h0 + q)), (0, .ref (h0 + 38))]) hx hb dX6_joinAhead_94 hl (by decide) rfl (fun ls hl => ?_)
        refine lv_goto (tgt := 3) hx hb dX6_joinAhead_96 (by decide) ?_
        exact ih (max (i + 1) ra) (sg) ((kk + 1)) μ H locs ls (by rfl) (by omega) (by rw [show (max (i + 1) ra).toNat = m_ + 1 by omega]; exact e4_.trans hD) (by exact ⟨by omega, by omega⟩) (by exact no_S hno hNt) (by omega) hP hS (lv_sub hl [0, 1, 2, 3, 4] rfl)
      · have c1_ := (e7_ (by omega)).1
        obtain ⟨z5_, v5_, l5_, r5_, x1_, x2_, x3_, x4_⟩ := (hid_e tk4h) (by omega)
        have x3h := hid_i x3_
        have x4h := hid_i x4_
        clear x3_ x4_
        refine lv_aload_n hx hb dX6_joinAhead_22 rfl (lv_at hl 3 rfl) ?_
        refine fz_get (D := (dC, dI)) (ci := 4) (v := .ref (h0 + (q + 2))) (C := RX4) (T := TX4) (N := 8) hx hb hts inG4 hown hK hP (k := q) (by omega) (F := (sRF h0 q)) (sE_rowO hq) rfl 1 (by decide) (hts _ k84) (fun _ h9 => h9) rfl dX6_joinAhead_23 ?_
        refine lv_iload hx hb dX6_joinAhead_26 (lv_at hl 0 rfl) ?_
        refine fz_ld (k := (q + 2)) (n := rm) hx hb hK hP 0 (by omega) (sE_rowA (r := 2) hq (by decide)) rfl ⟨by omega, by omega⟩ (by omega) dX6_joinAhead_28 ?_
        refine lv_iload hx hb dX6_joinAhead_29 (lv_at hl 0 rfl) ?_
        refine lv_isub hx hb dX6_joinAhead_31 ?_
        refine lv_topi (fun x9 ex9 => ?_)
        obtain rfl : x9 = iZ ((μ (q + 2) (i).toNat) - i) := ex9.trans (iZ_sub _ _)
        refine lv_iconst (v := iZ 1) hx hb dX6_joinAhead_32 rfl ?_
        refine lv_isub hx hb dX6_joinAhead_33 ?_
        refine lv_topi (fun x9 ex9 => ?_)
        obtain rfl : x9 = iZ (((μ (q + 2) (i).toNat) - i) - 1) := ex9.trans (iZ_sub _ _)
        refine lv_istore (lv' := [(5, .int (iZ (((μ (q + 2) (i).toNat) - i) - 1))), (4, .int (iZ (i))), (3, .int (iZ (p2))), (2, .int (iZ (p1))), (1, .ref (h0 + q)), (0, .ref (h0 + 38))]) hx hb dX6_joinAhead_34 hl (by decide) rfl (fun ls hl => ?_)
        refine lv_iload hx hb dX6_joinAhead_36 (lv_at hl 1 rfl) ?_
        refine lv_iload hx hb dX6_joinAhead_38 (lv_at hl 0 rfl) ?_
        refine lv_isub hx hb dX6_joinAhead_40 ?_
        refine lv_topi (fun x9 ex9 => ?_)
        obtain rfl : x9 = iZ (i - (((μ (q + 2) (i).toNat) - i) - 1)) := ex9.trans (iZ_sub _ _)
        refine lv_iload_n hx hb dX6_joinAhead_41 rfl (lv_at hl 3 rfl) ?_
        refine fz_icmp_lt (tgt := 81) (by constructor <;> omega) (by constructor <;> omega) hx hb dX6_joinAhead_42 (by decide) (fun c42_ => ?_) (fun c42_ => ?_)
        · have hNt : ¬ tka v kk := fun h9 => absurd ((hid_e x3h).mp h9).1 (by omega)
          refine lv_iload hx hb dX6_joinAhead_81 (lv_at hl 1 rfl) ?_
          refine lv_iconst (v := iZ 1) hx hb dX6_joinAhead_83 rfl ?_
          refine lv_iadd hx hb dX6_joinAhead_84 ?_
          refine lv_topi (fun x9 ex9 => ?_)
          obtain rfl : x9 = iZ (i + 1) := ex9.trans (iZ_add _ _)
          refine lv_aload_n hx hb dX6_joinAhead_85 rfl (lv_at hl 4 rfl) ?_
          refine lv_iload hx hb dX6_joinAhead_86 (lv_at hl 1 rfl) ?_
          refine va_calli (va_runV (As := [.int (iZ (i))]) (rest := [.int (iZ (i + 1))]) ⟨hx, hb, hml, hown, hts⟩ (s_Rafter l dC dI cI cZ cII cIII h0 H.size μ (q) (rm) (i) (hq) (by first | assumption | omega | exact ⟨by omega, by omega⟩) (by constructor <;> omega)) (cwV 1 hts (gV_G k437 k438 k439 k3 k440) rfl rfl rfl (by decide +kernel) ⟨by show 1 + 1 ≤ _; omega, by show 8 + (2 + 11) + (14) ≤ _; omega⟩) ⟨fun a U g mk q => by obtain ⟨q0, q1, qP, qK, qM⟩ := q; exact ⟨q0, q1, qP, va_K.moved (u := U) (U := U.calling g mk a) (Vm.Alike.refl U.vm) qK, qM⟩, va_recv hK hP (ci := 4) (q0 := q) rfl ((fw_get (by omega)).trans (by rw [(sE_rowO hq)])), fun U hU hW => ⟨rfl, by rw [hU], by rw [hU]; exact hP, va_K.moved hW.alike hK, xM_warm hW hM⟩⟩ rfl rfl hl.1 rfl (lv_room (Nat.le_of_ble_eq_true rfl)) dX6_joinAhead_88 ⟨hRc, hRs⟩) hS (fun q _ h => fA_le hS.1 q h) (fA_le hS.1) (fun r9 u9 t9 H1 locs ht9 hvm9 hw9 hB9 hz9 hk9 hS => ?_)
          obtain ⟨μa, ra⟩ := u9
          obtain ⟨hP, -⟩ := hB9
          rw [ht9] at hP
          generalize H1 = H at hP hS ⊢
          obtain ⟨e9, hw9⟩ := hw9
          have e9 : r9 = iZ ra := e9
          subst e9
          simp only at hP hw9
          have hμa := hw9; clear hw9
          rw [hμa.1] at hP; have hμa := hμa.2
          have hra := hμa
          refine va_mmax hx hb (hml.trans hl.1.symm) hown (hts _ k467) (hts _ k75) (hts _ k4) (hts _ k76) (Nat.le_trans (Nat.le_of_ble_eq_true rfl) hRf) (Nat.le_trans (m := 94) (Nat.le_of_ble_eq_true rfl) hRl) hRc hRs dX6_joinAhead_91 ?_
          refine lv_topi (fun x9 ex9 => ?_)
          obtain rfl : x9 = iZ (max (i + 1) ra) := ex9.trans (iZ_mx (by constructor <;> omega) (by constructor <;> omega))
          refine lv_istore (lv' := [(4, .int (iZ (max (i + 1) ra))), (5, .int (iZ (((μ (q + 2) (i).toNat) - i) - 1))), (3, .int (iZ (p2))), (2, .int (iZ (p1))), (1, .ref (h0 + q)), (0, .ref (h0 + 38))]) hx hb dX6_joinAhead_94 hl (by decide) rfl (fun ls hl => ?_)
          refine lv_goto (tgt := 3) hx hb dX6_joinAhead_96 (by decide) ?_
          exact ih (max (i + 1) ra) (sg) ((kk + 1)) μ H locs ls (by rfl) (by omega) (by rw [show (max (i + 1) ra).toNat = m_ + 1 by omega]; exact e4_.trans hD) (by exact ⟨by omega, by omega⟩) (by exact no_S hno hNt) (by omega) hP hS (lv_sub hl [0, 2, 3, 4, 5] rfl)
        · refine lv_aload_n hx hb dX6_joinAhead_45 rfl (lv_at hl 4 rfl) ?_
          refine lv_iload hx hb dX6_joinAhead_46 (lv_at hl 1 rfl) ?_
          refine lv_iload hx hb dX6_joinAhead_48 (lv_at hl 0 rfl) ?_
          refine lv_isub hx hb dX6_joinAhead_50 ?_
          refine lv_topi (fun x9 ex9 => ?_)
          obtain rfl : x9 = iZ (i - (((μ (q + 2) (i).toNat) - i) - 1)) := ex9.trans (iZ_sub _ _)
          refine lv_aload_n hx hb dX6_joinAhead_51 rfl (lv_at hl 4 rfl) ?_
          refine lv_iload hx hb dX6_joinAhead_52 (lv_at hl 1 rfl) ?_
          refine lv_iconst (v := iZ 1) hx hb dX6_joinAhead_54 rfl ?_
          refine lv_iadd hx hb dX6_joinAhead_55 ?_
          refine lv_topi (fun x9 ex9 => ?_)
          obtain rfl : x9 = iZ (i + 1) := ex9.trans (iZ_add _ _)
          refine lv_iload hx hb dX6_joinAhead_56 (lv_at hl 0 rfl) ?_
          refine va_calli (va_runV (As := [.int (iZ (i - (((μ (q + 2) (i).toNat) - i) - 1))), .ref (h0 + q), .int (iZ (i + 1)), .int (iZ (((μ (q + 2) (i).toNat) - i) - 1))]) (rest := []) ⟨hx, hb, hml, hown, hts⟩ (s_Rmatches l dC dI cI cZ cII cIII h0 H.size μ (q) (rm) (q) (rm) (i - (((μ (q + 2) (i).toNat) - i) - 1)) (i + 1) (((μ (q + 2) (i).toNat) - i) - 1) (hq) (hq) (by exact hG.1) (by exact hG.1) (by first | assumption | omega | exact ⟨by omega, by omega⟩) (by first | assumption | omega | exact ⟨by omega, by omega⟩) (by first | assumption | omega | exact ⟨by omega, by omega⟩) (by first | assumption | omega | exact ⟨by omega, by omega⟩) (by first | assumption | omega | exact ⟨by omega, by omega⟩) (by first | assumption | omega | exact ⟨by omega, by omega⟩)) (cwV 4 hts (gV_G k441 k442 k443 k3 k444) rfl rfl rfl (by decide +kernel) ⟨by show 2 + 1 ≤ _; omega, by show 8 + (6 + 11) + (35) ≤ _; omega⟩) ⟨fun a U g mk q => by obtain ⟨q0, q1, qP, qK, qM⟩ := q; exact ⟨q0, q1, qP, va_K.moved (u := U) (U := U.calling g mk a) (Vm.Alike.refl U.vm) qK, qM⟩, va_recv hK hP (ci := 4) (q0 := q) rfl ((fw_get (by omega)).trans (by rw [(sE_rowO hq)])), fun U hU hW => ⟨rfl, by rw [hU], by rw [hU]; exact hP, va_K.moved hW.alike hK, xM_warm hW hM⟩⟩ rfl rfl hl.1 rfl (lv_room (Nat.le_of_ble_eq_true rfl)) dX6_joinAhead_58 ⟨hRc, hRs⟩) hS (fun q _ h => fA_le hS.1 q h) (fA_le hS.1) (fun r9 u9 t9 H1 locs ht9 hvm9 hw9 hB9 hz9 hk9 hS => ?_)
          obtain ⟨μq, rq⟩ := u9
          obtain ⟨hP, -⟩ := hB9
          rw [ht9] at hP
          generalize H1 = H at hP hS ⊢
          obtain ⟨e9, hw9⟩ := hw9
          have e9 : r9 = iZ rq := e9
          subst e9
          simp only at hP hw9
          have hμq := hw9; clear hw9
          rw [hμq.1] at hP; have hμq := hμq.2
          have hrq := hμq
          have hr01 : rq = 0 ∨ rq = 1 := hrq.elim (fun h => Or.inr h.1) (fun h => Or.inl h.1)
          refine fz_if_eq (tgt := 81) (by constructor <;> omega) hx hb dX6_joinAhead_61 (by decide) (fun c61_ => ?_) (fun c61_ => ?_)
          · have hNt : ¬ tka v kk := fun h9 => by
              obtain ⟨y1, y5⟩ := (hid_e x3h).mp h9
              rcases hrq with ⟨g1, -⟩ | ⟨-, g3⟩
              · omega
              · exact g3 ⟨⟨by omega, by omega, by omega, by omega⟩, fun t ht => y5 t ht⟩
            refine lv_iload hx hb dX6_joinAhead_81 (lv_at hl 1 rfl) ?_
            refine lv_iconst (v := iZ 1) hx hb dX6_joinAhead_83 rfl ?_
            refine lv_iadd hx hb dX6_joinAhead_84 ?_
            refine lv_topi (fun x9 ex9 => ?_)
            obtain rfl : x9 = iZ (i + 1) := ex9.trans (iZ_add _ _)
            refine lv_aload_n hx hb dX6_joinAhead_85 rfl (lv_at hl 4 rfl) ?_
            refine lv_iload hx hb dX6_joinAhead_86 (lv_at hl 1 rfl) ?_
            refine va_calli (va_runV (As := [.int (iZ (i))]) (rest := [.int (iZ (i + 1))]) ⟨hx, hb, hml, hown, hts⟩ (s_Rafter l dC dI cI cZ cII cIII h0 H.size μ (q) (rm) (i) (hq) (by first | assumption | omega | exact ⟨by omega, by omega⟩) (by constructor <;> omega)) (cwV 1 hts (gV_G k437 k438 k439 k3 k440) rfl rfl rfl (by decide +kernel) ⟨by show 1 + 1 ≤ _; omega, by show 8 + (2 + 11) + (14) ≤ _; omega⟩) ⟨fun a U g mk q => by obtain ⟨q0, q1, qP, qK, qM⟩ := q; exact ⟨q0, q1, qP, va_K.moved (u := U) (U := U.calling g mk a) (Vm.Alike.refl U.vm) qK, qM⟩, va_recv hK hP (ci := 4) (q0 := q) rfl ((fw_get (by omega)).trans (by rw [(sE_rowO hq)])), fun U hU hW => ⟨rfl, by rw [hU], by rw [hU]; exact hP, va_K.moved hW.alike hK, xM_warm hW hM⟩⟩ rfl rfl hl.1 rfl (lv_room (Nat.le_of_ble_eq_true rfl)) dX6_joinAhead_88 ⟨hRc, hRs⟩) hS (fun q _ h => fA_le hS.1 q h) (fA_le hS.1) (fun r9 u9 t9 H1 locs ht9 hvm9 hw9 hB9 hz9 hk9 hS => ?_)
            obtain ⟨μa, ra⟩ := u9
            obtain ⟨hP, -⟩ := hB9
            rw [ht9] at hP
            generalize H1 = H at hP hS ⊢
            obtain ⟨e9, hw9⟩ := hw9
            have e9 : r9 = iZ ra := e9
            subst e9
            simp only at hP hw9
            have hμa := hw9; clear hw9
            rw [hμa.1] at hP; have hμa := hμa.2
            have hra := hμa
            refine va_mmax hx hb (hml.trans hl.1.symm) hown (hts _ k467) (hts _ k75) (hts _ k4) (hts _ k76) (Nat.le_trans (Nat.le_of_ble_eq_true rfl) hRf) (Nat.le_trans (m := 94) (Nat.le_of_ble_eq_true rfl) hRl) hRc hRs dX6_joinAhead_91 ?_
            refine lv_topi (fun x9 ex9 => ?_)
            obtain rfl : x9 = iZ (max (i + 1) ra) := ex9.trans (iZ_mx (by constructor <;> omega) (by constructor <;> omega))
            refine lv_istore (lv' := [(4, .int (iZ (max (i + 1) ra))), (5, .int (iZ (((μ (q + 2) (i).toNat) - i) - 1))), (3, .int (iZ (p2))), (2, .int (iZ (p1))), (1, .ref (h0 + q)), (0, .ref (h0 + 38))]) hx hb dX6_joinAhead_94 hl (by decide) rfl (fun ls hl => ?_)
            refine lv_goto (tgt := 3) hx hb dX6_joinAhead_96 (by decide) ?_
            exact ih (max (i + 1) ra) (sg) ((kk + 1)) μ H locs ls (by rfl) (by omega) (by rw [show (max (i + 1) ra).toNat = m_ + 1 by omega]; exact e4_.trans hD) (by exact ⟨by omega, by omega⟩) (by exact no_S hno hNt) (by omega) hP hS (lv_sub hl [0, 2, 3, 4, 5] rfl)
          · have hmt := hrq.elim (fun h => h.2.2) (fun h => absurd h.1 (by omega))
            exact hexit64 (i) (((μ (q + 2) (i).toNat) - i) - 1) (kk) μ H locs ls (by rfl) (by
                                obtain ⟨c1_, c2_, c3_⟩ := e7_ (by omega)
                                have c4_ := c3_.2.1
                                have hA := fun (t : Nat) (ht : (t : Int) < μ (q + 2) i.toNat - i - 1) => hmt t ht
                                have hDA := Dp_al (f := μ (q + 1)) (a := (i + 1).toNat) (b := (i - (μ (q + 2) i.toNat - i - 1)).toNat) (n := (μ (q + 2) i.toNat - i - 1).toNat) (fun t ht => sAl_s (hA t (by omega)))
                                refine ⟨⟨by omega, by omega, by omega, by omega⟩, fun t ht => sAl_s (hA t ht), ?_⟩
                                rw [show (i - (μ (q + 2) i.toNat - i - 1)).toNat + (μ (q + 2) i.toNat - i - 1).toNat = (i - (μ (q + 2) i.toNat - i - 1) + (μ (q + 2) i.toNat - i - 1)).toNat by omega, show (i + 1).toNat + (μ (q + 2) i.toNat - i - 1).toNat = m_ by omega, show (i + 1).toNat = i.toNat + 1 by omega, c4_, Int.sub_self] at hDA
                                omega) (by omega) (by exact ⟨kk, hkk.1, by omega, (hid_e x3h).mpr ⟨by omega, fun t ht => hmt t ht⟩, hno⟩) hP hS (lv_sub hl [0, 1, 2, 3, 4, 5] rfl)
set_option maxHeartbeats 4000000 in
set_option maxRecDepth 100000 in
theorem s_TjoinAhead2 (l : Launch) (dC : Nat → ClassId) (dI : Nat → Nat → Nat) (cI cZ cII cIII : ClassId) (h0 sz : Nat) (μ : va_M) (q : Nat) (rm : Nat) (p1 : Int) (p2 : Int) (bh : Int) (v : Rw) (hq : rowB q rm) (hG : rG μ q rm) (hrg : rng μ q p1 bh) (hp2 : p2 = μ q 5 - bh) (hv0 : rWF v) (hvA : SA μ (q + 1) v p1.toNat) (hvL : p2 = p1 + sL v) (hv1 : p2 ≤ μ q 5) : Met l yX6_joinAhead (Cond.code yX6_joinAhead cX6_joinAhead 6 (some .boolean) :: wsG) ({ frames := 4, cells := 0, slots := 0, locals := 94 } : Room) (va_Pc [.ref (h0 + 38), .ref (h0 + q), .int (iZ (p1)), .int (iZ (p2))] (fun U => U.heap.size = sz ∧ va_P (dC, dI) vwCl (fw (sE cI cZ cII cIII h0) h0 233 μ) U.heap ∧ va_K (dC, dI) vwCl (sT cI cZ cII cIII) U ∧ xM U)) (va_Qi (fun (r9 : Int32) (u : va_M × Int) => r9 = iZ u.2 ∧ (fun (u : va_M) (r : Int) => (r = 0 ∨ r = 1) ∧ fr (LTq q) μ u ∧ rG u q rm ∧ rng u q p1 bh ∧ (r = 0 → u q 5 = μ q 5) ∧ ((r = 0 ∧ ta0 v ∧ u = μ) ∨ (r = 1 ∧ ∃ x : Rw, (tw0 v → tsA v x) ∧ sgN μ u (q + 1) p1.toNat (μ q 5).toNat v x (u q 5).toNat ∧ u q 7 = 0))) u.1 u.2) (fun u t => va_P (dC, dI) vwCl (fw (sE cI cZ cII cIII h0) h0 233 u.1) t.heap ∧ va_K (dC, dI) vwCl (sT cI cZ cII cIII) t) (fA h0 233 sz)) 0 0 (fA h0 233 sz) := by
  refine Met.ofW (cc := cX6_joinAhead) (maxL := 6) (ret := (some .boolean)) (by decide) rfl ?_
  intro p e s m args below meth c s₁ B hml hv
  obtain ⟨rfl, hsz, hP, hK, hM⟩ := hv
  have hx := B.exec
  have hb := B.bytes
  have hr := B.returns
  have hts : ∀ w ∈ wsG, w.before _ s = true := hG_of (atoms_spec (ws := (Cond.code yX6_joinAhead cX6_joinAhead 6 (some .boolean) :: wsG)) B.pre)
  have hown : s.vm.findClass RX6 = some m.cls := findClass_of_methodNamed B.named
  have hlocks := B.notSynchronized
  subst hsz
  have hS : va_S (fA h0 233 s.heap.size) s.heap s.heap [] := va_S.rf
  have hl := lv_entry ([.ref (h0 + 38), .ref (h0 + q), .int (iZ (p1)), .int (iZ (p2))]) (n := 6) (Nat.le_of_ble_eq_true rfl)
  rw [lg_entry_eq]
  generalize (lg_sl ([.ref (h0 + 38), .ref (h0 + q), .int (iZ (p1)), .int (iZ (p2))]) ++ List.replicate (6 - (lg_sl ([.ref (h0 + 38), .ref (h0 + q), .int (iZ (p1)), .int (iZ (p2))])).length) Slot.unset).toArray = ls at hl ⊢
  have hl : lv_has ls 6 [(0, .ref (h0 + 38)), (1, .ref (h0 + q)), (2, .int (iZ (p1))), (3, .int (iZ (p2)))] := hl
  have hqb := rowB_b hq
  refine lv_iload_n hx hb dX6_joinAhead_0 rfl (lv_at hl 2 rfl) ?_
  refine lv_istore (lv' := [(4, .int (iZ (p1))), (0, .ref (h0 + 38)), (1, .ref (h0 + q)), (2, .int (iZ (p1))), (3, .int (iZ (p2)))]) hx hb dX6_joinAhead_1 hl (by decide) rfl (fun ls hl => ?_)
  refine LX6_joinAhead_3z hx hb hml hown hts hK hM (Nat.le_of_ble_eq_true rfl) (Nat.le_of_ble_eq_true rfl) (Nat.le_of_ble_eq_true rfl) (Nat.le_of_ble_eq_true rfl) (μ) (q) (rm) (p1) (p2) (bh) (v) (by assumption) (by exact hG) (by assumption) (by assumption) (by exact hv0) (by exact hvA) (by exact hvL) (by exact hv1) ?_ ?_ _ (p1) (0) (0) μ s.heap [] ls (by rfl) (by exact ⟨Int.le_refl _, Or.inr rfl⟩) (by exact rfl) (by exact ⟨by rw [sO_0]; omega, Nat.zero_le _⟩) (by exact fun j hj => by omega) (Nat.lt_succ_self _) hP hS (lv_sub hl [0, 4, 3, 2, 1] rfl)
  · intro i_1 sg_1 kk_1 μ1_ H locs ls q1_1 q2_1 q5_1 q6_1 hP hS hl
    have hl : lv_has ls 6 [(5, .int (iZ (sg_1))), (4, .int (iZ (i_1))), (3, .int (iZ (p2))), (2, .int (iZ (p1))), (1, .ref (h0 + q)), (0, .ref (h0 + 38))] := hl
    have hPn64 := hP
    obtain rfl := q1_1
    have hP := hPn64
    have jk_ := q2_1
    have jr_ := q5_1
    have jk1_ := jk_.1
    have hrm := rG_rm hq hG
    have hrx := hrg.1
    have h7_ : μ1_ q 7 = 0 := (rG_ov hG).elim id (fun h => by omega)
    have a6_ := q6_1
    refine lv_aload_n hx hb dX6_joinAhead_64 rfl (lv_at hl 5 rfl) ?_
    refine lv_aload_n hx hb dX6_joinAhead_65 rfl (lv_at hl 4 rfl) ?_
    refine lv_iload hx hb dX6_joinAhead_66 (lv_at hl 1 rfl) ?_
    refine lv_iconst (v := iZ 1) hx hb dX6_joinAhead_68 rfl ?_
    refine lv_iadd hx hb dX6_joinAhead_69 ?_
    refine lv_topi (fun x9 ex9 => ?_)
    obtain rfl : x9 = iZ (i_1 + 1) := ex9.trans (iZ_add _ _)
    refine lv_iload hx hb dX6_joinAhead_70 (lv_at hl 1 rfl) ?_
    refine lv_iload hx hb dX6_joinAhead_72 (lv_at hl 0 rfl) ?_
    refine lv_isub hx hb dX6_joinAhead_74 ?_
    refine lv_topi (fun x9 ex9 => ?_)
    obtain rfl : x9 = iZ (i_1 - sg_1) := ex9.trans (iZ_sub _ _)
    refine lv_iload hx hb dX6_joinAhead_75 (lv_at hl 0 rfl) ?_
    refine va_calli (va_runV (As := [.ref (h0 + q), .int (iZ (i_1 + 1)), .int (iZ (i_1 - sg_1)), .int (iZ (sg_1))]) (rest := []) ⟨hx, hb, hml, hown, hts⟩ (s_Tjoin2 l dC dI cI cZ cII cIII h0 H.size μ1_ (q) (rm) (i_1 + 1) (i_1 - sg_1) (sg_1) (hq) (by exact hG) (by exact h7_) (by exact jk_)) (cwV 4 hts (gV_G k448 k450 ks_yX6_join k6 k451) rfl rfl rfl (by decide +kernel) ⟨Nat.le_of_ble_eq_true rfl, Nat.le_of_ble_eq_true rfl⟩) ⟨fun a U g mk q => by obtain ⟨q0, q1, qP, qK, qM⟩ := q; exact ⟨q0, q1, qP, va_K.moved (u := U) (U := U.calling g mk a) (Vm.Alike.refl U.vm) qK, qM⟩, va_recv hK hP (ci := 6) (q0 := 38) rfl ((fw_get (by decide)).trans (by rw [sE_38])), fun U hU hW => ⟨rfl, by rw [hU], by rw [hU]; exact hP, va_K.moved hW.alike hK, xM_warm hW hM⟩⟩ rfl rfl hl.1 rfl (lv_room (Nat.le_of_ble_eq_true rfl)) dX6_joinAhead_77 ⟨Nat.le_of_ble_eq_true rfl, Nat.le_of_ble_eq_true rfl⟩) hS (fun q _ h => fA_le hS.1 q h) (fA_le hS.1) (fun r9 u9 t9 H1 locs ht9 hvm9 hw9 hB9 hz9 hk9 hS => ?_)
    obtain ⟨μ2, r3⟩ := u9
    obtain ⟨hP, -⟩ := hB9
    rw [ht9] at hP
    generalize H1 = H at hP hS ⊢
    obtain ⟨e9, hw9⟩ := hw9
    have e9 : r9 = iZ r3 := e9
    subst e9
    simp only at hP hw9
    have hμ2 := hw9; clear hw9
    have hr1_ := hμ2.1
    exact W.zret (v := iZ (r3)) hx hb hr (by exact fz_narZ (by omega)) (fun t9 ht9 hW9 => ⟨⟨iZ (r3), (μ2, r3), rfl, ⟨rfl, (by
                dsimp only
                obtain ⟨k1, k2, k3, k4, k5, k6, k7, k8⟩ := hμ2
                obtain ⟨x9_, y9_, z9_⟩ := ta_po hv0 hvA (by omega) (by omega) a6_ k4 k7 k8
                exact ⟨Or.inr k1, fr_mono k3 (fun x y h => Or.inl h), k2, rng_rm hrg (by omega) (by omega) (by omega) k4 k5.1 k5.2, fun h => absurd (k1.symm.trans h) (by decide), Or.inr ⟨k1, x9_, y9_, z9_, k6⟩⟩)⟩, by rw [ht9]; exact hP, va_K.moved hW9.alike hK⟩, hS.F ht9⟩) hS.2.2 dX6_joinAhead_80
  · intro i_4 sg_4 kk_4 μ4_ H locs ls q3_4 q7_4 hP hS hl
    have hl : lv_has ls 6 [] := hl
    have a7_ := q7_4
    have hPn99 := hP
    obtain rfl := q3_4
    have hP := hPn99
    refine lv_iconst (v := iZ 0) hx hb dX6_joinAhead_99 rfl ?_
    exact W.zret (v := iZ (0)) hx hb hr (by decide +kernel) (fun t9 ht9 hW9 => ⟨⟨iZ (0), (μ4_, 0), rfl, ⟨rfl, (by
                dsimp only
                exact ⟨Or.inl rfl, fr_rfl, hG, hrg, fun _ => rfl, Or.inl ⟨rfl, a7_, rfl⟩⟩)⟩, by rw [ht9]; exact hP, va_K.moved hW9.alike hK⟩, hS.F ht9⟩) hS.2.2 dX6_joinAhead_100


/-! the tidier tidies a stretch: told whole -/
set_option maxHeartbeats 4000000 in
set_option maxRecDepth 100000 in
theorem LX6_tidyRange_17z {p : Program} {l : Launch} {e : Env} {R : Room} {s : State} {m : MethodId} {args : Array Value} {below : List Frame} {meth : Method} {c : Code} {cells slots : Nat} {Q : State → Prop} {dC : Nat → ClassId} {dI : Nat → Nat → Nat} {h0 : Nat} {cI cZ cII cIII : ClassId} (hx : p.tables.exec = Jvm.exec) (hb : c.code = cX6_tidyRange) (hml : c.maxLocals = 9) (hown : s.vm.findClass RX6 = some m.cls) (hts : ∀ w ∈ wsG, w.before args s = true) (hK : va_K (dC, dI) vwCl (sT cI cZ cII cIII) s) (hM : xM s) (hRf : 5 ≤ R.frames) (hRl : 124 ≤ R.locals) (hRc : cells ≤ R.cells) (hRs : slots ≤ R.slots) (μ0 : va_M) (q : Nat) (rm : Nat) (p1 : Int) (p2 : Int) (bh : Int) (v : Rw) (hq : rowB q rm) (hqt : q + 6 ≤ 38 ∨ 41 ≤ q) (hv0 : rWF v) (hvd : rAd v) (hp9 : 0 ≤ p1 ∧ p1 + sL v ≤ μ0 q 5) (hl9 : μ0 q 5 ≤ rm) (hbh : bh = μ0 q 5 - p1 - sL v) (hcap : ∀ y : Rw, TQ v y → μ0 q 5 - sL v + sL y ≤ rm) (hexit110 : ∀ (tu : Int) (dn : Int) (mo : Int) (xx : Rw) (μ : va_M) (H : Heap) (locs : List Loc) (ls : Array Slot), (fr (LTq q) μ0 μ) → (rG μ q rm) → (tRi μ0 μ q p1 v xx dn) → (tn1 xx) → va_P (dC, dI) vwCl (fw (sE cI cZ cII cIII h0) h0 233 μ) H → va_S (fA h0 233 s.heap.size) s.heap H locs → lv_has ls 9 [(5, .int (iZ (dn)))] → W p l e R s m args below meth c H locs cells slots Q (F0 m 110 ls [])) :
    ∀ (n9 : Nat) (tu : Int) (dn : Int) (mo : Int) (xx : Rw) (μ : va_M) (H : Heap) (locs : List Loc) (ls : Array Slot), ((0 ≤ tu ∧ tu ≤ 1000000 ∧ 0 ≤ mo ∧ mo ≤ 1) ∧ tu = dn + 1 - mo) → (fr (LTq q) μ0 μ) → (rG μ q rm) → (rng μ q p1 bh) → (tRi μ0 μ q p1 v xx dn) → (hid (mo = 0 → tn1 xx)) → (1000000 - tu).toNat < n9 → va_P (dC, dI) vwCl (fw (sE cI cZ cII cIII h0) h0 233 μ) H → va_S (fA h0 233 s.heap.size) s.heap H locs → lv_has ls 9 [(7, .int (iZ (tu))), (6, .int (iZ (mo))), (5, .int (iZ (dn))), (4, .int (iZ (bh))), (2, .int (iZ (p1))), (1, .ref (h0 + q)), (0, .ref (h0 + 38))] → W p l e R s m args below meth c H locs cells slots Q (F0 m 17 ls []) := by
  intro n9
  induction n9 with
  | zero => intro tu dn mo xx μ H locs ls ht hf hG hrg htr hmo hm9 hP hS hl; exact absurd hm9 (Nat.not_lt_zero _)
  | succ n9 ih =>
    intro tu dn mo xx μ H locs ls ht hf hG hrg htr hmo hm9 hP hS hl
    have hrm := rG_rm hq hG
    have hqb := rowB_b hq
    have hr1 := hrg.1
    obtain ⟨xw_, xd_, xA_, xL_, xn_, xT_, x7_⟩ := tRi_b hv0 hvd hp9 (rG_len hG).1 htr
    have xs_ := rI_sL v
    refine lv_iload hx hb dX6_tidyRange_17 (lv_at hl 0 rfl) ?_
    refine lv_ldc (v := iZ 1000000) hx hb hown (hts _ k428) dX6_tidyRange_19 ?_
    refine fz_icmp_ge (tgt := 110) (by constructor <;> omega) (by decide) hx hb dX6_tidyRange_21 (by decide) (fun c21_ => ?_) (fun c21_ => ?_)
    · exact hexit110 (tu) (dn) (mo) (xx) μ H locs ls (by exact hf) (by exact hG) (by exact htr) (by exact absurd xs_ (by omega)) hP hS (lv_sub hl [2] rfl)
    · refine lv_iload hx hb dX6_tidyRange_24 (lv_at hl 1 rfl) ?_
      refine fz_if_eq (tgt := 110) (by constructor <;> omega) hx hb dX6_tidyRange_26 (by decide) (fun c26_ => ?_) (fun c26_ => ?_)
      · exact hexit110 (tu) (dn) (mo) (xx) μ H locs ls (by exact hf) (by exact hG) (by exact htr) (by exact hid_e hmo (by omega)) hP hS (lv_sub hl [2] rfl)
      · refine lv_aload_n hx hb dX6_tidyRange_29 rfl (lv_at hl 5 rfl) ?_
        refine fz_get (D := (dC, dI)) (ci := 4) (v := .int (iZ (μ q 5))) (C := RX4) (T := TX4) (N := 8) hx hb hts inG4 hown hK hP (k := q) (by omega) (F := (sRF h0 q)) (sE_rowO hq) rfl 5 (by decide) (hts _ k96) (fun _ h9 => h9) rfl dX6_tidyRange_30 ?_
        refine lv_iload hx hb dX6_tidyRange_33 (lv_at hl 3 rfl) ?_
        refine lv_isub hx hb dX6_tidyRange_35 ?_
        refine lv_topi (fun x9 ex9 => ?_)
        obtain rfl : x9 = iZ ((μ q 5) - bh) := ex9.trans (iZ_sub _ _)
        refine lv_istore (lv' := [(8, .int (iZ ((μ q 5) - bh))), (7, .int (iZ (tu))), (6, .int (iZ (mo))), (5, .int (iZ (dn))), (4, .int (iZ (bh))), (2, .int (iZ (p1))), (1, .ref (h0 + q)), (0, .ref (h0 + 38))]) hx hb dX6_tidyRange_36 hl (by decide) rfl (fun ls hl => ?_)
        refine lv_aload_n hx hb dX6_tidyRange_38 rfl (lv_at hl 7 rfl) ?_
        refine lv_aload_n hx hb dX6_tidyRange_39 rfl (lv_at hl 6 rfl) ?_
        refine lv_iload_n hx hb dX6_tidyRange_40 rfl (lv_at hl 5 rfl) ?_
        refine lv_iload hx hb dX6_tidyRange_41 (lv_at hl 0 rfl) ?_
        refine va_calli (va_runV (As := [.ref (h0 + q), .int (iZ (p1)), .int (iZ ((μ q 5) - bh))]) (rest := []) ⟨hx, hb, hml, hown, hts⟩ (s_TjoinTwins2 l dC dI cI cZ cII cIII h0 H.size μ (q) (rm) (p1) ((μ q 5) - bh) (bh) (xx) (hq) (by exact hG) (by exact hrg) (by omega) (by exact xw_) (by exact xA_) (by omega) (by omega)) (cwV 3 hts (gV_G k433 k435 ks_yX6_joinTwins k6 k436) rfl rfl rfl (by decide +kernel) ⟨by show 4 + 1 ≤ _; omega, by show 8 + (7 + 11) + (94) ≤ _; omega⟩) ⟨fun a U g mk q => by obtain ⟨q0, q1, qP, qK, qM⟩ := q; exact ⟨q0, q1, qP, va_K.moved (u := U) (U := U.calling g mk a) (Vm.Alike.refl U.vm) qK, qM⟩, va_recv hK hP (ci := 6) (q0 := 38) rfl ((fw_get (by decide)).trans (by rw [sE_38])), fun U hU hW => ⟨rfl, by rw [hU], by rw [hU]; exact hP, va_K.moved hW.alike hK, xM_warm hW hM⟩⟩ rfl rfl hl.1 rfl (lv_room (Nat.le_of_ble_eq_true rfl)) dX6_tidyRange_43 ⟨hRc, hRs⟩) hS (fun q _ h => fA_le hS.1 q h) (fA_le hS.1) (fun r9 u9 t9 H1 locs ht9 hvm9 hw9 hB9 hz9 hk9 hS => ?_)
        obtain ⟨μ1c, r1c⟩ := u9
        obtain ⟨hP, -⟩ := hB9
        rw [ht9] at hP
        generalize H1 = H at hP hS ⊢
        obtain ⟨e9, hw9⟩ := hw9
        have e9 : r9 = iZ r1c := e9
        subst e9
        simp only at hP hw9
        have hμ1c := hw9; clear hw9
        obtain ⟨a1_, b1_, c1_, d1_, e1_, f1_⟩ := hμ1c
        have f1h := hid_i f1_
        clear f1_
        refine fz_if_ne (tgt := 82) (by constructor <;> omega) hx hb dX6_tidyRange_46 (by decide) (fun c46_ => ?_) (fun c46_ => ?_)
        · obtain ⟨-, x1_, s1_, g1_, z1_⟩ := Or.resolve_left (hid_e f1h) (fun h9 => absurd h9.1 (by omega))
          refine lv_iconst (v := iZ 1) hx hb dX6_tidyRange_82 rfl ?_
          refine lv_goto (tgt := 87) hx hb dX6_tidyRange_83 (by decide) ?_
          refine lv_istore (lv' := [(6, .int (iZ (1))), (8, .int (iZ ((μ q 5) - bh))), (7, .int (iZ (tu))), (5, .int (iZ (dn))), (4, .int (iZ (bh))), (2, .int (iZ (p1))), (1, .ref (h0 + q)), (0, .ref (h0 + 38))]) hx hb dX6_tidyRange_87 hl (by decide) rfl (fun ls hl => ?_)
          refine lv_iload hx hb dX6_tidyRange_89 (lv_at hl 3 rfl) ?_
          refine lv_iload hx hb dX6_tidyRange_91 (lv_at hl 0 rfl) ?_
          refine fz_if_eq (tgt := 100) (by decide) hx hb dX6_tidyRange_93 (by decide) (fun h9 => absurd h9 (by decide)) (fun c93_ => ?_)
          refine lv_iconst (v := iZ 1) hx hb dX6_tidyRange_96 rfl ?_
          refine lv_goto (tgt := 101) hx hb dX6_tidyRange_97 (by decide) ?_
          refine lv_iadd hx hb dX6_tidyRange_101 ?_
          refine lv_topi (fun x9 ex9 => ?_)
          obtain rfl : x9 = iZ (dn + 1) := ex9.trans (iZ_add _ _)
          refine lv_istore (lv' := [(5, .int (iZ (dn + 1))), (6, .int (iZ (1))), (8, .int (iZ ((μ q 5) - bh))), (7, .int (iZ (tu))), (4, .int (iZ (bh))), (2, .int (iZ (p1))), (1, .ref (h0 + q)), (0, .ref (h0 + 38))]) hx hb dX6_tidyRange_102 hl (by decide) rfl (fun ls hl => ?_)
          refine lv_iinc (v := iZ (tu + 1)) (lv' := [(7, .int (iZ (tu + 1))), (5, .int (iZ (dn + 1))), (6, .int (iZ (1))), (8, .int (iZ ((μ q 5) - bh))), (4, .int (iZ (bh))), (2, .int (iZ (p1))), (1, .ref (h0 + q)), (0, .ref (h0 + 38))]) hx hb dX6_tidyRange_104 hl (k := 3) rfl (iZ_add _ _) (by decide) rfl (fun ls hl => ?_)
          refine lv_goto (tgt := 17) hx hb dX6_tidyRange_107 (by decide) ?_
          exact ih (tu + 1) (dn + 1) (1) (x1_) μ1c H locs ls (by omega) (by exact fr_trans hf b1_) (by exact c1_) (by exact d1_) (by exact tRi_S htr (Or.inl s1_) g1_ z1_) (by exact hid_i (fun h9 => absurd h9 (by decide))) (by omega) hP hS (lv_sub hl [0, 2, 1, 4, 5, 6, 7] rfl)
        · obtain ⟨-, n1_, m1_⟩ := Or.resolve_right (hid_e f1h) (fun h9 => absurd h9.1 (by omega))
          have t1_ : tRi μ0 μ1c q p1 v xx dn := by rw [m1_]; exact htr
          clear m1_
          obtain ⟨-, -, xA1_, xL1_, -, -, -⟩ := tRi_b hv0 hvd hp9 (rG_len c1_).1 t1_
          refine lv_aload_n hx hb dX6_tidyRange_49 rfl (lv_at hl 7 rfl) ?_
          refine lv_aload_n hx hb dX6_tidyRange_50 rfl (lv_at hl 6 rfl) ?_
          refine lv_iload_n hx hb dX6_tidyRange_51 rfl (lv_at hl 5 rfl) ?_
          refine lv_iload hx hb dX6_tidyRange_52 (lv_at hl 0 rfl) ?_
          refine va_calli (va_runV (As := [.ref (h0 + q), .int (iZ (p1)), .int (iZ ((μ q 5) - bh))]) (rest := []) ⟨hx, hb, hml, hown, hts⟩ (s_TjoinAhead2 l dC dI cI cZ cII cIII h0 H.size μ1c (q) (rm) (p1) ((μ q 5) - bh) (bh) (xx) (hq) (by exact c1_) (by exact d1_) (by
                            have w1 := e1_ (by omega)
                            omega) (by exact xw_) (by exact xA1_) (by omega) (by omega)) (cwV 3 hts (gV_G k468 k470 ks_yX6_joinAhead k6 k471) rfl rfl rfl (by decide +kernel) ⟨by show 4 + 1 ≤ _; omega, by show 8 + (6 + 11) + (94) ≤ _; omega⟩) ⟨fun a U g mk q => by obtain ⟨q0, q1, qP, qK, qM⟩ := q; exact ⟨q0, q1, qP, va_K.moved (u := U) (U := U.calling g mk a) (Vm.Alike.refl U.vm) qK, qM⟩, va_recv hK hP (ci := 6) (q0 := 38) rfl ((fw_get (by decide)).trans (by rw [sE_38])), fun U hU hW => ⟨rfl, by rw [hU], by rw [hU]; exact hP, va_K.moved hW.alike hK, xM_warm hW hM⟩⟩ rfl rfl hl.1 rfl (lv_room (Nat.le_of_ble_eq_true rfl)) dX6_tidyRange_54 ⟨hRc, hRs⟩) hS (fun q _ h => fA_le hS.1 q h) (fA_le hS.1) (fun r9 u9 t9 H1 locs ht9 hvm9 hw9 hB9 hz9 hk9 hS => ?_)
          obtain ⟨μ2c, r2c⟩ := u9
          obtain ⟨hP, -⟩ := hB9
          rw [ht9] at hP
          generalize H1 = H at hP hS ⊢
          obtain ⟨e9, hw9⟩ := hw9
          have e9 : r9 = iZ r2c := e9
          subst e9
          simp only at hP hw9
          have hμ2c := hw9; clear hw9
          obtain ⟨a2_, b2_, c2_, d2_, e2_, f2_⟩ := hμ2c
          have f2h := hid_i f2_
          clear f2_
          refine fz_if_ne (tgt := 82) (by constructor <;> omega) hx hb dX6_tidyRange_57 (by decide) (fun c57_ => ?_) (fun c57_ => ?_)
          · obtain ⟨-, x2_, s2_, g2_, z2_⟩ := Or.resolve_left (hid_e f2h) (fun h9 => absurd h9.1 (by omega))
            refine lv_iconst (v := iZ 1) hx hb dX6_tidyRange_82 rfl ?_
            refine lv_goto (tgt := 87) hx hb dX6_tidyRange_83 (by decide) ?_
            refine lv_istore (lv' := [(6, .int (iZ (1))), (8, .int (iZ ((μ q 5) - bh))), (7, .int (iZ (tu))), (5, .int (iZ (dn))), (4, .int (iZ (bh))), (2, .int (iZ (p1))), (1, .ref (h0 + q)), (0, .ref (h0 + 38))]) hx hb dX6_tidyRange_87 hl (by decide) rfl (fun ls hl => ?_)
            refine lv_iload hx hb dX6_tidyRange_89 (lv_at hl 3 rfl) ?_
            refine lv_iload hx hb dX6_tidyRange_91 (lv_at hl 0 rfl) ?_
            refine fz_if_eq (tgt := 100) (by decide) hx hb dX6_tidyRange_93 (by decide) (fun h9 => absurd h9 (by decide)) (fun c93_ => ?_)
            refine lv_iconst (v := iZ 1) hx hb dX6_tidyRange_96 rfl ?_
            refine lv_goto (tgt := 101) hx hb dX6_tidyRange_97 (by decide) ?_
            refine lv_iadd hx hb dX6_tidyRange_101 ?_
            refine lv_topi (fun x9 ex9 => ?_)
            obtain rfl : x9 = iZ (dn + 1) := ex9.trans (iZ_add _ _)
            refine lv_istore (lv' := [(5, .int (iZ (dn + 1))), (6, .int (iZ (1))), (8, .int (iZ ((μ q 5) - bh))), (7, .int (iZ (tu))), (4, .int (iZ (bh))), (2, .int (iZ (p1))), (1, .ref (h0 + q)), (0, .ref (h0 + 38))]) hx hb dX6_tidyRange_102 hl (by decide) rfl (fun ls hl => ?_)
            refine lv_iinc (v := iZ (tu + 1)) (lv' := [(7, .int (iZ (tu + 1))), (5, .int (iZ (dn + 1))), (6, .int (iZ (1))), (8, .int (iZ ((μ q 5) - bh))), (4, .int (iZ (bh))), (2, .int (iZ (p1))), (1, .ref (h0 + q)), (0, .ref (h0 + 38))]) hx hb dX6_tidyRange_104 hl (k := 3) rfl (iZ_add _ _) (by decide) rfl (fun ls hl => ?_)
            refine lv_goto (tgt := 17) hx hb dX6_tidyRange_107 (by decide) ?_
            exact ih (tu + 1) (dn + 1) (1) (x2_) μ2c H locs ls (by omega) (by exact fr_trans hf (fr_trans b1_ b2_)) (by exact c2_) (by exact d2_) (by exact tRi_S t1_ (Or.inr (Or.inl (s2_ n1_))) g2_ z2_) (by exact hid_i (fun h9 => absurd h9 (by decide))) (by omega) hP hS (lv_sub hl [0, 2, 1, 4, 5, 6, 7] rfl)
          · obtain ⟨-, n2_, m2_⟩ := Or.resolve_right (hid_e f2h) (fun h9 => absurd h9.1 (by omega))
            have t2_ : tRi μ0 μ2c q p1 v xx dn := by rw [m2_]; exact t1_
            clear m2_
            obtain ⟨-, -, xA2_, xL2_, -, -, -⟩ := tRi_b hv0 hvd hp9 (rG_len c2_).1 t2_
            refine lv_aload_n hx hb dX6_tidyRange_60 rfl (lv_at hl 7 rfl) ?_
            refine lv_aload_n hx hb dX6_tidyRange_61 rfl (lv_at hl 6 rfl) ?_
            refine lv_iload_n hx hb dX6_tidyRange_62 rfl (lv_at hl 5 rfl) ?_
            refine lv_iload hx hb dX6_tidyRange_63 (lv_at hl 0 rfl) ?_
            refine va_calli (va_runV (As := [.ref (h0 + q), .int (iZ (p1)), .int (iZ ((μ q 5) - bh))]) (rest := []) ⟨hx, hb, hml, hown, hts⟩ (s_TjoinBehind2 l dC dI cI cZ cII cIII h0 H.size μ2c (q) (rm) (p1) ((μ q 5) - bh) (bh) (xx) (hq) (by exact c2_) (by exact d2_) (by
                                have w1 := e1_ (by omega)
                                have w2 := e2_ (by omega)
                                omega) (by exact xw_) (by exact xA2_) (by omega) (by omega)) (cwV 3 hts (gV_G k472 k474 ks_yX6_joinBehind k6 k475) rfl rfl rfl (by decide +kernel) ⟨by show 4 + 1 ≤ _; omega, by show 8 + (7 + 11) + (94) ≤ _; omega⟩) ⟨fun a U g mk q => by obtain ⟨q0, q1, qP, qK, qM⟩ := q; exact ⟨q0, q1, qP, va_K.moved (u := U) (U := U.calling g mk a) (Vm.Alike.refl U.vm) qK, qM⟩, va_recv hK hP (ci := 6) (q0 := 38) rfl ((fw_get (by decide)).trans (by rw [sE_38])), fun U hU hW => ⟨rfl, by rw [hU], by rw [hU]; exact hP, va_K.moved hW.alike hK, xM_warm hW hM⟩⟩ rfl rfl hl.1 rfl (lv_room (Nat.le_of_ble_eq_true rfl)) dX6_tidyRange_65 ⟨hRc, hRs⟩) hS (fun q _ h => fA_le hS.1 q h) (fA_le hS.1) (fun r9 u9 t9 H1 locs ht9 hvm9 hw9 hB9 hz9 hk9 hS => ?_)
            obtain ⟨μ3c, r3c⟩ := u9
            obtain ⟨hP, -⟩ := hB9
            rw [ht9] at hP
            generalize H1 = H at hP hS ⊢
            obtain ⟨e9, hw9⟩ := hw9
            have e9 : r9 = iZ r3c := e9
            subst e9
            simp only at hP hw9
            have hμ3c := hw9; clear hw9
            obtain ⟨a3_, b3_, c3_, d3_, e3_, f3_⟩ := hμ3c
            have f3h := hid_i f3_
            clear f3_
            refine fz_if_ne (tgt := 82) (by constructor <;> omega) hx hb dX6_tidyRange_68 (by decide) (fun c68_ => ?_) (fun c68_ => ?_)
            · obtain ⟨-, x3_, s3_, g3_, z3_⟩ := Or.resolve_left (hid_e f3h) (fun h9 => absurd h9.1 (by omega))
              refine lv_iconst (v := iZ 1) hx hb dX6_tidyRange_82 rfl ?_
              refine lv_goto (tgt := 87) hx hb dX6_tidyRange_83 (by decide) ?_
              refine lv_istore (lv' := [(6, .int (iZ (1))), (8, .int (iZ ((μ q 5) - bh))), (7, .int (iZ (tu))), (5, .int (iZ (dn))), (4, .int (iZ (bh))), (2, .int (iZ (p1))), (1, .ref (h0 + q)), (0, .ref (h0 + 38))]) hx hb dX6_tidyRange_87 hl (by decide) rfl (fun ls hl => ?_)
              refine lv_iload hx hb dX6_tidyRange_89 (lv_at hl 3 rfl) ?_
              refine lv_iload hx hb dX6_tidyRange_91 (lv_at hl 0 rfl) ?_
              refine fz_if_eq (tgt := 100) (by decide) hx hb dX6_tidyRange_93 (by decide) (fun h9 => absurd h9 (by decide)) (fun c93_ => ?_)
              refine lv_iconst (v := iZ 1) hx hb dX6_tidyRange_96 rfl ?_
              refine lv_goto (tgt := 101) hx hb dX6_tidyRange_97 (by decide) ?_
              refine lv_iadd hx hb dX6_tidyRange_101 ?_
              refine lv_topi (fun x9 ex9 => ?_)
              obtain rfl : x9 = iZ (dn + 1) := ex9.trans (iZ_add _ _)
              refine lv_istore (lv' := [(5, .int (iZ (dn + 1))), (6, .int (iZ (1))), (8, .int (iZ ((μ q 5) - bh))), (7, .int (iZ (tu))), (4, .int (iZ (bh))), (2, .int (iZ (p1))), (1, .ref (h0 + q)), (0, .ref (h0 + 38))]) hx hb dX6_tidyRange_102 hl (by decide) rfl (fun ls hl => ?_)
              refine lv_iinc (v := iZ (tu + 1)) (lv' := [(7, .int (iZ (tu + 1))), (5, .int (iZ (dn + 1))), (6, .int (iZ (1))), (8, .int (iZ ((μ q 5) - bh))), (4, .int (iZ (bh))), (2, .int (iZ (p1))), (1, .ref (h0 + q)), (0, .ref (h0 + 38))]) hx hb dX6_tidyRange_104 hl (k := 3) rfl (iZ_add _ _) (by decide) rfl (fun ls hl => ?_)
              refine lv_goto (tgt := 17) hx hb dX6_tidyRange_107 (by decide) ?_
              exact ih (tu + 1) (dn + 1) (1) (x3_) μ3c H locs ls (by omega) (by exact fr_trans hf (fr_trans b1_ (fr_trans b2_ b3_))) (by exact c3_) (by exact d3_) (by exact tRi_S t2_ (Or.inr (Or.inr (Or.inl (s3_ n1_ n2_)))) g3_ z3_) (by exact hid_i (fun h9 => absurd h9 (by decide))) (by omega) hP hS (lv_sub hl [0, 2, 1, 4, 5, 6, 7] rfl)
            · obtain ⟨-, n3_, m3_⟩ := Or.resolve_right (hid_e f3h) (fun h9 => absurd h9.1 (by omega))
              have t3_ : tRi μ0 μ3c q p1 v xx dn := by rw [m3_]; exact t2_
              clear m3_
              obtain ⟨-, -, xA3_, xL3_, -, -, -⟩ := tRi_b hv0 hvd hp9 (rG_len c3_).1 t3_
              refine lv_aload_n hx hb dX6_tidyRange_71 rfl (lv_at hl 7 rfl) ?_
              refine lv_aload_n hx hb dX6_tidyRange_72 rfl (lv_at hl 6 rfl) ?_
              refine lv_iload_n hx hb dX6_tidyRange_73 rfl (lv_at hl 5 rfl) ?_
              refine lv_iload hx hb dX6_tidyRange_74 (lv_at hl 0 rfl) ?_
              skip
              refine va_calli (va_runV (As := [.ref (h0 + q), .int (iZ (p1)), .int (iZ ((μ q 5) - bh))]) (rest := []) ⟨hx, hb, hml, hown, hts⟩ (s_TfoldOnce2 l dC dI cI cZ cII cIII h0 H.size μ3c (q) (rm) (p1) ((μ q 5) - bh) (bh) (xx) (hq) (by exact c3_) (by exact hqt) (by exact d3_) (by
                                    have w1 := e1_ (by omega)
                                    have w2 := e2_ (by omega)
                                    have w3 := e3_ (by omega)
                                    omega) (by exact xw_) (by exact xA3_) (by omega) (by omega) (by exact tRi_c hv0 hvd hp9 (rG_len c3_).1 t3_ hcap n1_)) (cwV 3 hts (gV_G k476 k477 k478 k6 k479) rfl rfl rfl (by decide +kernel) ⟨by show 4 + 1 ≤ _; omega, by show 8 + (8 + 11) + (97) ≤ _; omega⟩) ⟨fun a U g mk q => by obtain ⟨q0, q1, qP, qK, qM⟩ := q; exact ⟨q0, q1, qP, va_K.moved (u := U) (U := U.calling g mk a) (Vm.Alike.refl U.vm) qK, qM⟩, va_recv hK hP (ci := 6) (q0 := 38) rfl ((fw_get (by decide)).trans (by rw [sE_38])), fun U hU hW => ⟨rfl, by rw [hU], by rw [hU]; exact hP, va_K.moved hW.alike hK, xM_warm hW hM⟩⟩ rfl rfl hl.1 rfl (lv_room (Nat.le_of_ble_eq_true rfl)) dX6_tidyRange_76 ⟨hRc, hRs⟩) hS (fun q _ h => fA_le hS.1 q h) (fA_le hS.1) (fun r9 u9 t9 H1 locs ht9 hvm9 hw9 hB9 hz9 hk9 hS => ?_)
              obtain ⟨μ4c, r4c⟩ := u9
              obtain ⟨hP, -⟩ := hB9
              rw [ht9] at hP
              generalize H1 = H at hP hS ⊢
              obtain ⟨e9, hw9⟩ := hw9
              have e9 : r9 = iZ r4c := e9
              subst e9
              simp only at hP hw9
              have hμ4c := hw9; clear hw9
              obtain ⟨a4z_, b4_, c4_, d4_, e4_, f4_⟩ := hμ4c
              have e4h := hid_i e4_
              have f4h := hid_i f4_
              clear e4_ f4_
              refine fz_if_eq (tgt := 86) (by constructor <;> omega) hx hb dX6_tidyRange_79 (by decide) (fun c79_ => ?_) (fun c79_ => ?_)
              · obtain ⟨y4_, n4_, r4_⟩ := (hid_e e4h) (by omega)
                have t4_ : tRi μ0 μ4c q p1 v xx dn := tRi_fr t3_ (fun y => r4_ _ _ (by omega)) y4_ (r4_ _ _ (by omega))
                refine lv_iconst (v := iZ 0) hx hb dX6_tidyRange_86 rfl ?_
                refine lv_istore (lv' := [(6, .int (iZ (0))), (8, .int (iZ ((μ q 5) - bh))), (7, .int (iZ (tu))), (5, .int (iZ (dn))), (4, .int (iZ (bh))), (2, .int (iZ (p1))), (1, .ref (h0 + q)), (0, .ref (h0 + 38))]) hx hb dX6_tidyRange_87 hl (by decide) rfl (fun ls hl => ?_)
                refine lv_iload hx hb dX6_tidyRange_89 (lv_at hl 3 rfl) ?_
                refine lv_iload hx hb dX6_tidyRange_91 (lv_at hl 0 rfl) ?_
                refine fz_if_eq (tgt := 100) (by decide) hx hb dX6_tidyRange_93 (by decide) (fun c93_ => ?_) (fun h9 => absurd h9 (by decide))
                refine lv_iconst (v := iZ 0) hx hb dX6_tidyRange_100 rfl ?_
                refine lv_iadd hx hb dX6_tidyRange_101 ?_
                refine lv_topi (fun x9 ex9 => ?_)
                obtain rfl : x9 = iZ (dn + 0) := ex9.trans (iZ_add _ _)
                refine lv_istore (lv' := [(5, .int (iZ (dn + 0))), (6, .int (iZ (0))), (8, .int (iZ ((μ q 5) - bh))), (7, .int (iZ (tu))), (4, .int (iZ (bh))), (2, .int (iZ (p1))), (1, .ref (h0 + q)), (0, .ref (h0 + 38))]) hx hb dX6_tidyRange_102 hl (by decide) rfl (fun ls hl => ?_)
                refine lv_iinc (v := iZ (tu + 1)) (lv' := [(7, .int (iZ (tu + 1))), (5, .int (iZ (dn + 0))), (6, .int (iZ (0))), (8, .int (iZ ((μ q 5) - bh))), (4, .int (iZ (bh))), (2, .int (iZ (p1))), (1, .ref (h0 + q)), (0, .ref (h0 + 38))]) hx hb dX6_tidyRange_104 hl (k := 3) rfl (iZ_add _ _) (by decide) rfl (fun ls hl => ?_)
                refine lv_goto (tgt := 17) hx hb dX6_tidyRange_107 (by decide) ?_
                exact ih (tu + 1) (dn + 0) (0) (xx) μ4c H locs ls (by omega) (by exact fr_trans hf (fr_trans b1_ (fr_trans b2_ (fr_trans b3_ b4_)))) (by exact c4_) (by exact d4_) (by
                                        rw [Int.add_zero]
                                        exact t4_) (by exact hid_i (fun _ => ⟨n1_, n2_, n3_, n4_⟩)) (by omega) hP hS (lv_sub hl [0, 2, 1, 4, 5, 6, 7] rfl)
              · obtain ⟨so4_, a4_, cc4_, ff4_, -, -, -, z4_, S4_, l4_, p4_, q4_⟩ := (hid_e f4h) (by omega)
                have g4_ := fo_sg hp9.1 (show _ = p1 + sL xx by omega) (by omega) S4_ l4_ p4_ q4_
                refine lv_iconst (v := iZ 1) hx hb dX6_tidyRange_82 rfl ?_
                refine lv_goto (tgt := 87) hx hb dX6_tidyRange_83 (by decide) ?_
                refine lv_istore (lv' := [(6, .int (iZ (1))), (8, .int (iZ ((μ q 5) - bh))), (7, .int (iZ (tu))), (5, .int (iZ (dn))), (4, .int (iZ (bh))), (2, .int (iZ (p1))), (1, .ref (h0 + q)), (0, .ref (h0 + 38))]) hx hb dX6_tidyRange_87 hl (by decide) rfl (fun ls hl => ?_)
                refine lv_iload hx hb dX6_tidyRange_89 (lv_at hl 3 rfl) ?_
                refine lv_iload hx hb dX6_tidyRange_91 (lv_at hl 0 rfl) ?_
                refine fz_if_eq (tgt := 100) (by decide) hx hb dX6_tidyRange_93 (by decide) (fun h9 => absurd h9 (by decide)) (fun c93_ => ?_)
                refine lv_iconst (v := iZ 1) hx hb dX6_tidyRange_96 rfl ?_
                refine lv_goto (tgt := 101) hx hb dX6_tidyRange_97 (by decide) ?_
                refine lv_iadd hx hb dX6_tidyRange_101 ?_
                refine lv_topi (fun x9 ex9 => ?_)
                obtain rfl : x9 = iZ (dn + 1) := ex9.trans (iZ_add _ _)
                refine lv_istore (lv' := [(5, .int (iZ (dn + 1))), (6, .int (iZ (1))), (8, .int (iZ ((μ q 5) - bh))), (7, .int (iZ (tu))), (4, .int (iZ (bh))), (2, .int (iZ (p1))), (1, .ref (h0 + q)), (0, .ref (h0 + 38))]) hx hb dX6_tidyRange_102 hl (by decide) rfl (fun ls hl => ?_)
                refine lv_iinc (v := iZ (tu + 1)) (lv' := [(7, .int (iZ (tu + 1))), (5, .int (iZ (dn + 1))), (6, .int (iZ (1))), (8, .int (iZ ((μ q 5) - bh))), (4, .int (iZ (bh))), (2, .int (iZ (p1))), (1, .ref (h0 + q)), (0, .ref (h0 + 38))]) hx hb dX6_tidyRange_104 hl (k := 3) rfl (iZ_add _ _) (by decide) rfl (fun ls hl => ?_)
                refine lv_goto (tgt := 17) hx hb dX6_tidyRange_107 (by decide) ?_
                exact ih (tu + 1) (dn + 1) (1) ((rput xx a4_ so4_ cc4_)) μ4c H locs ls (by omega) (by exact fr_trans hf (fr_trans b1_ (fr_trans b2_ (fr_trans b3_ b4_)))) (by exact c4_) (by exact d4_) (by exact tRi_S t3_ (Or.inr (Or.inr (Or.inr ⟨n1_, n2_, n3_, so4_, a4_, cc4_, ff4_, rfl⟩))) g4_ z4_) (by exact hid_i (fun h9 => absurd h9 (by decide))) (by omega) hP hS (lv_sub hl [0, 2, 1, 4, 5, 6, 7] rfl)
set_option maxHeartbeats 4000000 in
set_option maxRecDepth 100000 in
theorem s_TtidyRange2 (l : Launch) (dC : Nat → ClassId) (dI : Nat → Nat → Nat) (cI cZ cII cIII : ClassId) (h0 sz : Nat) (μ : va_M) (q : Nat) (rm : Nat) (p1 : Int) (p2 : Int) (bh : Int) (v : Rw) (hq : rowB q rm) (hG : rG μ q rm) (hqt : q + 6 ≤ 38 ∨ 41 ≤ q) (hrg : rng μ q p1 bh) (hp2 : p2 = μ q 5 - bh) (hv0 : rWF v) (hvd : rAd v) (hvA : SA μ (q + 1) v p1.toNat) (hvL : p2 = p1 + sL v) (hv1 : p2 ≤ μ q 5) (h7 : μ q 7 = 0) (hcap : ∀ y : Rw, TQ v y → μ q 5 - sL v + sL y ≤ rm) : Met l yX6_tidyRange (Cond.code yX6_tidyRange cX6_tidyRange 9 (some .int) :: wsG) ({ frames := 5, cells := 0, slots := 0, locals := 124 } : Room) (va_Pc [.ref (h0 + 38), .ref (h0 + q), .int (iZ (p1)), .int (iZ (p2))] (fun U => U.heap.size = sz ∧ va_P (dC, dI) vwCl (fw (sE cI cZ cII cIII h0) h0 233 μ) U.heap ∧ va_K (dC, dI) vwCl (sT cI cZ cII cIII) U ∧ xM U)) (va_Qi (fun (r9 : Int32) (u : va_M × Int) => r9 = iZ u.2 ∧ (fun (u : va_M) (r : Int) => fr (LTq q) μ u ∧ rG u q rm ∧ ∃ x : Rw, tRi μ u q p1 v x r ∧ tn1 x) u.1 u.2) (fun u t => va_P (dC, dI) vwCl (fw (sE cI cZ cII cIII h0) h0 233 u.1) t.heap ∧ va_K (dC, dI) vwCl (sT cI cZ cII cIII) t) (fA h0 233 sz)) 0 0 (fA h0 233 sz) := by
  refine Met.ofW (cc := cX6_tidyRange) (maxL := 9) (ret := (some .int)) (by decide) rfl ?_
  intro p e s m args below meth c s₁ B hml hv
  obtain ⟨rfl, hsz, hP, hK, hM⟩ := hv
  have hx := B.exec
  have hb := B.bytes
  have hr := B.returns
  have hts : ∀ w ∈ wsG, w.before _ s = true := hG_of (atoms_spec (ws := (Cond.code yX6_tidyRange cX6_tidyRange 9 (some .int) :: wsG)) B.pre)
  have hown : s.vm.findClass RX6 = some m.cls := findClass_of_methodNamed B.named
  have hlocks := B.notSynchronized
  subst hsz
  have hS : va_S (fA h0 233 s.heap.size) s.heap s.heap [] := va_S.rf
  have hl := lv_entry ([.ref (h0 + 38), .ref (h0 + q), .int (iZ (p1)), .int (iZ (p2))]) (n := 9) (Nat.le_of_ble_eq_true rfl)
  rw [lg_entry_eq]
  generalize (lg_sl ([.ref (h0 + 38), .ref (h0 + q), .int (iZ (p1)), .int (iZ (p2))]) ++ List.replicate (9 - (lg_sl ([.ref (h0 + 38), .ref (h0 + q), .int (iZ (p1)), .int (iZ (p2))])).length) Slot.unset).toArray = ls at hl ⊢
  have hl : lv_has ls 9 [(0, .ref (h0 + 38)), (1, .ref (h0 + q)), (2, .int (iZ (p1))), (3, .int (iZ (p2)))] := hl
  have hqb := rowB_b hq
  have hrm := rG_rm hq hG
  have hr1 := hrg.1
  refine lv_aload_n hx hb dX6_tidyRange_0 rfl (lv_at hl 1 rfl) ?_
  refine fz_get (D := (dC, dI)) (ci := 4) (v := .int (iZ (μ q 5))) (C := RX4) (T := TX4) (N := 8) hx hb hts inG4 hown hK hP (k := q) (by omega) (F := (sRF h0 q)) (sE_rowO hq) rfl 5 (by decide) (hts _ k96) (fun _ h9 => h9) rfl dX6_tidyRange_1 ?_
  refine lv_iload_n hx hb dX6_tidyRange_4 rfl (lv_at hl 3 rfl) ?_
  refine lv_isub hx hb dX6_tidyRange_5 ?_
  refine lv_topi (fun x9 ex9 => ?_)
  obtain rfl : x9 = iZ ((μ q 5) - p2) := ex9.trans (iZ_sub _ _)
  rw [show (μ q 5) - p2 = bh from (by omega)]
  refine lv_istore (lv' := [(4, .int (iZ (bh))), (0, .ref (h0 + 38)), (1, .ref (h0 + q)), (2, .int (iZ (p1))), (3, .int (iZ (p2)))]) hx hb dX6_tidyRange_6 hl (by decide) rfl (fun ls hl => ?_)
  refine lv_iconst (v := iZ 0) hx hb dX6_tidyRange_8 rfl ?_
  refine lv_istore (lv' := [(5, .int (iZ (0))), (4, .int (iZ (bh))), (0, .ref (h0 + 38)), (1, .ref (h0 + q)), (2, .int (iZ (p1))), (3, .int (iZ (p2)))]) hx hb dX6_tidyRange_9 hl (by decide) rfl (fun ls hl => ?_)
  refine lv_iconst (v := iZ 1) hx hb dX6_tidyRange_11 rfl ?_
  refine lv_istore (lv' := [(6, .int (iZ (1))), (5, .int (iZ (0))), (4, .int (iZ (bh))), (0, .ref (h0 + 38)), (1, .ref (h0 + q)), (2, .int (iZ (p1))), (3, .int (iZ (p2)))]) hx hb dX6_tidyRange_12 hl (by decide) rfl (fun ls hl => ?_)
  refine lv_iconst (v := iZ 0) hx hb dX6_tidyRange_14 rfl ?_
  refine lv_istore (lv' := [(7, .int (iZ (0))), (6, .int (iZ (1))), (5, .int (iZ (0))), (4, .int (iZ (bh))), (0, .ref (h0 + 38)), (1, .ref (h0 + q)), (2, .int (iZ (p1))), (3, .int (iZ (p2)))]) hx hb dX6_tidyRange_15 hl (by decide) rfl (fun ls hl => ?_)
  refine LX6_tidyRange_17z hx hb hml hown hts hK hM (Nat.le_of_ble_eq_true rfl) (Nat.le_of_ble_eq_true rfl) (Nat.le_of_ble_eq_true rfl) (Nat.le_of_ble_eq_true rfl) (μ) (q) (rm) (p1) (p2) (bh) (v) (by assumption) (by exact hqt) (by exact hv0) (by exact hvd) (by exact ⟨by omega, by omega⟩) (by omega) (by omega) (by exact hcap) ?_ _ (0) (0) (1) (v) μ s.heap [] ls (by omega) (by exact fr_rfl) (by exact hG) (by exact hrg) (by exact tRi_0 hvA h7) (by exact hid_i (fun h9 => absurd h9 (by decide))) (Nat.lt_succ_self _) hP hS (lv_sub hl [0, 1, 2, 3, 6, 5, 4] rfl)
  · intro tu_1 dn_1 mo_1 xx_1 μ1_ H locs ls q1_1 q2_1 q3_1 q4_1 hP hS hl
    have hl : lv_has ls 9 [(5, .int (iZ (dn_1)))] := hl
    refine lv_iload hx hb dX6_tidyRange_110 (lv_at hl 0 rfl) ?_
    exact W.iret (v := iZ (dn_1)) hx hb hr (fun t9 ht9 hW9 => ⟨⟨iZ (dn_1), (μ1_, dn_1), rfl, ⟨rfl, (by
                dsimp only
                exact ⟨q1_1, q2_1, xx_1, q3_1, q4_1⟩)⟩, by rw [ht9]; exact hP, va_K.moved hW9.alike hK⟩, hS.F ht9⟩) hS.2.2 dX6_tidyRange_112

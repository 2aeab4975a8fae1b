
/-! the tidier folds a stretch: told whole -/
set_option maxHeartbeats 4000000 in
set_option maxRecDepth 100000 in
theorem LX6_findItems_15z {p : Program} {l : Launch} {e : Env} {R : Room} {s : State} {m : MethodId} {args : Array Value} {below : List Frame} {meth : Method} {c : Code} {cells slots : Nat} {Q : State → Prop} {dC : Nat → ClassId} {dI : Nat → Nat → Nat} {h0 : Nat} {cI cZ cII cIII : ClassId} (hx : p.tables.exec = Jvm.exec) (hb : c.code = cX6_findItems) (hml : c.maxLocals = 6) (hown : s.vm.findClass RX6 = some m.cls) (hts : ∀ w ∈ wsG, w.before args s = true) (hK : va_K (dC, dI) vwCl (sT cI cZ cII cIII) s) (hM : xM s) (hRf : 2 ≤ R.frames) (hRl : 35 ≤ R.locals) (hRc : cells ≤ R.cells) (hRs : slots ≤ R.slots) (μ0 : va_M) (q : Nat) (rm : Nat) (p1 : Int) (p2 : Int) (bh : Int) (v : Rw) (hq : rowB q rm) (hG : rG μ0 q rm) (hqt : q + 6 ≤ 38 ∨ 41 ≤ q) (hrg : rng μ0 q p1 bh) (hp2 : p2 = μ0 q 5 - bh) (hv0 : rWF v) (hvA : SA μ0 (q + 1) v p1.toNat) (hvL : p2 = p1 + sL v) (hv1 : p2 ≤ μ0 q 5) (hexit134 : ∀ (i : Int) (μ : va_M) (H : Heap) (locs : List Loc) (ls : Array Slot), (p1 ≤ i ∧ (i ≤ p2 ∨ i = p1)) → (fr (fun x y => (x = 38 ∧ y = 2) ∨ x = 39 ∨ x = 40) μ0 μ) → (0 ≤ μ 38 2 ∧ μ 38 2 ≤ 1100 ∧ μ 38 2 ≤ i - p1 ∧ (p2 ≤ p1 → μ 38 2 = 0)) → (∀ k : Nat, (k : Int) ≤ μ 38 2 → 0 ≤ μ 40 k ∧ μ 40 k ≤ k) → (∀ k : Nat, (k : Int) < μ 38 2 → p1 ≤ μ 39 k ∧ μ 39 k < i ∧ Dp (μ0 (q + 1)) (μ 39 k).toNat = Dp (μ0 (q + 1)) p1.toNat) → (∀ k k2 : Nat, k < k2 → (k2 : Int) < μ 38 2 → μ 39 k < μ 39 k2) → (μ 38 2 = rI v) → (∀ k : Nat, (k : Int) < μ 38 2 → μ 39 k = p1 + sO v k) → (∀ k : Nat, (k : Int) ≤ μ 38 2 → μ 40 k = cFm v k) → va_P (dC, dI) vwCl (fw (sE cI cZ cII cIII h0) h0 233 μ) H → va_S (fA h0 233 s.heap.size) s.heap H locs → lv_has ls 6 [(3, .int (iZ (p2))), (1, .ref (h0 + q)), (0, .ref (h0 + 38))] → W p l e R s m args below meth c H locs cells slots Q (F0 m 134 ls [])) :
    ∀ (n9 : Nat) (i : Int) (μ : va_M) (H : Heap) (locs : List Loc) (ls : Array Slot), (p1 ≤ i ∧ (i ≤ p2 ∨ i = p1)) → (Dp (μ0 (q + 1)) i.toNat = Dp (μ0 (q + 1)) p1.toNat) → (fr (fun x y => (x = 38 ∧ y = 2) ∨ x = 39 ∨ x = 40) μ0 μ) → (0 ≤ μ 38 2 ∧ μ 38 2 ≤ 1100 ∧ μ 38 2 ≤ i - p1 ∧ (p2 ≤ p1 → μ 38 2 = 0)) → (∀ k : Nat, (k : Int) ≤ μ 38 2 → 0 ≤ μ 40 k ∧ μ 40 k ≤ k) → (∀ k : Nat, (k : Int) < μ 38 2 → p1 ≤ μ 39 k ∧ μ 39 k < i ∧ Dp (μ0 (q + 1)) (μ 39 k).toNat = Dp (μ0 (q + 1)) p1.toNat) → (∀ k k2 : Nat, k < k2 → (k2 : Int) < μ 38 2 → μ 39 k < μ 39 k2) → (μ 38 2 ≤ rI v ∧ i = p1 + sO v (μ 38 2).toNat) → (∀ k : Nat, (k : Int) < μ 38 2 → μ 39 k = p1 + sO v k) → (∀ k : Nat, (k : Int) ≤ μ 38 2 → μ 40 k = cFm v k) → (1101 - i).toNat < n9 → va_P (dC, dI) vwCl (fw (sE cI cZ cII cIII h0) h0 233 μ) H → va_S (fA h0 233 s.heap.size) s.heap H locs → lv_has ls 6 [(4, .int (iZ (i))), (3, .int (iZ (p2))), (2, .int (iZ (p1))), (1, .ref (h0 + q)), (0, .ref (h0 + 38))] → W p l e R s m args below meth c H locs cells slots Q (F0 m 15 ls []) := by
  intro n9
  induction n9 with
  | zero => intro i μ H locs ls hi hD hf hn hk hb9 hm8 hkv hbv hfv hm9 hP hS hl; exact absurd hm9 (Nat.not_lt_zero _)
  | succ n9 ih =>
    intro i μ H locs ls hi hD hf hn hk hb9 hm8 hkv hbv hfv hm9 hP hS hl
    have hrm := rG_rm hq hG
    have hqb := rowB_b hq
    have hr1 := hrg.1
    have x5 : μ q 5 = μ0 q 5 := hf _ _ (by show_term (have zq0 : True := trivial; omega))
    have x1 : ∀ y, μ (q + 1) y = μ0 (q + 1) y := fun y => hf _ _ (by show_term (have zq1 : True := trivial; omega))
    have x2 : ∀ y, μ (q + 2) y = μ0 (q + 2) y := fun y => hf _ _ (by show_term (have zq2 : True := trivial; omega))
    refine lv_iload hx hb dX6_findItems_15 (lv_at hl 0 rfl) ?_
    refine lv_iload_n hx hb dX6_findItems_17 rfl (lv_at hl 1 rfl) ?_
    refine fz_icmp_ge (tgt := 134) (by constructor <;> show_term (have zq3 : True := trivial; omega)) (by constructor <;> show_term (have zq4 : True := trivial; omega)) hx hb dX6_findItems_18 (by decide) (fun c18_ => ?_) (fun c18_ => ?_)
    · exact hexit134 (i) μ H locs ls (by show_term (have zq5 : True := trivial; omega)) (by exact hf) (by exact hn) (by exact hk) (by exact hb9) (by exact hm8) (by
                    have h5 := rI_sL v
                    have hr1 := hrg.1
                    by_cases h8 : (μ 38 2).toNat < rI v
                    · have h7 := sO_lt v _ h8
                      have h6 := sO_le v ((μ 38 2).toNat + 1)
                      show_term (have zq6 : True := trivial; omega)
                    · show_term (have zq7 : True := trivial; omega)) (by exact hbv) (by exact hfv) hP hS (lv_sub hl [1, 3, 4] rfl)
    · have hsg : seg (μ0 (q + 1)) p1.toNat p2.toNat := by rw [hp2]; exact hrg.2 (by show_term (have zq8 : True := trivial; omega))
      obtain ⟨m_, e1_, e2_, e3_, e4_, e5_, e6_, e7_⟩ := seg_af hG (a := p1.toNat) (b := p2.toNat) (i := i.toNat) (by show_term (have zq9 : True := trivial; omega)) hsg (by show_term (have zq10 : True := trivial; omega)) (by show_term (have zq11 : True := trivial; omega)) hD
      have hs1 := hG.1 i.toNat
      have y1 := x1 i.toNat
      have y2 := x2 i.toNat
      have hkn := hk (μ 38 2).toNat (by show_term (have zq12 : True := trivial; omega))
      refine lv_aload_n hx hb dX6_findItems_21 rfl (lv_at hl 4 rfl) ?_
      refine fz_get (D := (dC, dI)) (ci := 6) (v := .int (iZ (μ 38 2))) (C := RX6) (T := TX6) (N := 6) hx hb hts inG6 hown hK hP (k := 38) (by decide) (F := (sF38 h0)) sE_38 rfl 2 (by decide) (hts _ k155) (fun _ h9 => h9) rfl dX6_findItems_22 ?_
      refine lv_sipush (v := iZ 1100) hx hb dX6_findItems_25 rfl ?_
      refine fz_icmp_ge (tgt := 134) (by constructor <;> show_term (have zq13 : True := trivial; omega)) (by decide) hx hb dX6_findItems_28 (by decide) (fun c28_ => ?_) (fun c28_ => ?_)
      · exact hexit134 (i) μ H locs ls (by show_term (have zq14 : True := trivial; omega)) (by exact hf) (by exact hn) (by exact hk) (by exact hb9) (by exact hm8) (by
                        have h5 := rI_sL v
                        have hr1 := hrg.1
                        by_cases h8 : (μ 38 2).toNat < rI v
                        · have h7 := sO_lt v _ h8
                          have h6 := sO_le v ((μ 38 2).toNat + 1)
                          show_term (have zq15 : True := trivial; omega)
                        · show_term (have zq16 : True := trivial; omega)) (by exact hbv) (by exact hfv) hP hS (lv_sub hl [1, 3, 4] rfl)
      · refine lv_aload_n hx hb dX6_findItems_31 rfl (lv_at hl 3 rfl) ?_
        refine fz_get (D := (dC, dI)) (ci := 4) (v := .ref (h0 + (q + 1))) (C := RX4) (T := TX4) (N := 8) hx hb hts inG4 hown hK hP (k := q) (by show_term (have zq17 : True := trivial; omega)) (F := (sRF h0 q)) (sE_rowO hq) rfl 0 (by decide) (hts _ k79) (fun _ h9 => h9) rfl dX6_findItems_32 ?_
        refine lv_iload hx hb dX6_findItems_35 (lv_at hl 0 rfl) ?_
        refine fz_ld (k := (q + 1)) (n := rm) hx hb hK hP 0 (by show_term (have zq18 : True := trivial; omega)) (sE_rowA (r := 1) hq (by decide)) rfl ⟨by show_term (have zq19 : True := trivial; omega), by show_term (have zq20 : True := trivial; omega)⟩ (by show_term (have zq21 : True := trivial; omega)) dX6_findItems_37 ?_
        refine va_calli (va_runSN (As := [.int (iZ (μ (q + 1) (i).toNat))]) (rest := []) ⟨hx, hb, hml, hown, hts⟩ (s_isTag l dC dI cI cZ cII cIII h0 H.size μ (μ (q + 1) (i).toNat) (by first | assumption | show_term (have zq22 : True := trivial; omega) | exact ⟨by show_term (have zq23 : True := trivial; omega), by show_term (have zq24 : True := trivial; omega)⟩)) ⟨va_cnB (host := "PageSkeleton") 1 hts (gI_G k486) rfl rfl rfl (xM_nest hM 11 rfl) (hts _ k1) (by decide +kernel) ⟨by show 1 + 1 ≤ _; show_term (have zq25 : True := trivial; omega), by show 8 + (1 + 11) + (14) ≤ _; show_term (have zq26 : True := trivial; omega)⟩, hts _ k485, trivial⟩ ⟨fun a U g mk q => by obtain ⟨q0, q1, qP, qK, qM⟩ := q; exact ⟨q0, q1, qP, va_K.moved (u := U) (U := U.calling g mk a) (Vm.Alike.refl U.vm) qK, qM⟩, fun U hU hW => ⟨rfl, by rw [hU], by rw [hU]; exact hP, va_K.moved hW.alike hK, xM_warm hW hM⟩⟩ rfl rfl hl.1 rfl (lv_room (Nat.le_of_ble_eq_true rfl)) dX6_findItems_38 ⟨hRc, hRs⟩) hS (fun q _ h => fA_le hS.1 q h) (fA_le hS.1) (fun r9 u9 t9 H1 locs ht9 hvm9 hw9 hB9 hz9 hk9 hS => ?_)
        obtain ⟨μ1, r2⟩ := u9
        obtain ⟨hP, -⟩ := hB9
        rw [ht9] at hP
        generalize H1 = H at hP hS ⊢
        obtain ⟨e9, hw9⟩ := hw9
        have e9 : r9 = iZ r2 := e9
        subst e9
        simp only at hP hw9
        have hμ1 := hw9; clear hw9
        rw [hμ1.1] at hP; have hμ1 := hμ1.2
        have hlf := if_01 hμ1
        have hle := hid_i hμ1
        have j62_ : ∀ (x62_0 : Int), ((x62_0 = 0 ∨ x62_0 = 1) ∧ hid (x62_0 = 1 ↔ hfirm (rdrop (μ 38 2).toNat v))) → W p l e R s m args below meth c H locs cells slots Q (F0 m 62 ls [.int (iZ (x62_0))]) := by
          intro x62_0 hj62_0
          refine lv_istore (lv' := [(5, .int (iZ (x62_0))), (4, .int (iZ (i))), (3, .int (iZ (p2))), (2, .int (iZ (p1))), (1, .ref (h0 + q)), (0, .ref (h0 + 38))]) hx hb dX6_findItems_62 hl (by decide) rfl (fun ls hl => ?_)
          refine lv_aload_n hx hb dX6_findItems_64 rfl (lv_at hl 5 rfl) ?_
          refine fz_get (D := (dC, dI)) (ci := 6) (v := .ref (h0 + 39)) (C := RX6) (T := TX6) (N := 6) hx hb hts inG6 hown hK hP (k := 38) (by decide) (F := (sF38 h0)) sE_38 rfl 0 (by decide) (hts _ k153) (fun _ h9 => h9) rfl dX6_findItems_65 ?_
          refine lv_aload_n hx hb dX6_findItems_68 rfl (lv_at hl 5 rfl) ?_
          refine fz_get (D := (dC, dI)) (ci := 6) (v := .int (iZ (μ 38 2))) (C := RX6) (T := TX6) (N := 6) hx hb hts inG6 hown hK hP (k := 38) (by decide) (F := (sF38 h0)) sE_38 rfl 2 (by decide) (hts _ k155) (fun _ h9 => h9) rfl dX6_findItems_69 ?_
          refine lv_iload hx hb dX6_findItems_72 (lv_at hl 1 rfl) ?_
          refine fz_st (k := 39) (n := 1101) (i := (μ 38 2)) (z := i) hx hb hK hP fA_in hS 0 (by decide) sE_39 rfl ⟨by show_term (have zq27 : True := trivial; omega), by show_term (have zq28 : True := trivial; omega)⟩ (by decide) dX6_findItems_74 (fun H locs hP hS => ?_)
          obtain ⟨μ3, eμ3⟩ : ∃ x : va_M, x = uz μ 39 (μ 38 2).toNat (i) := ⟨_, rfl⟩
          rw [← eμ3] at hP
          refine lv_aload_n hx hb dX6_findItems_75 rfl (lv_at hl 5 rfl) ?_
          refine fz_get (D := (dC, dI)) (ci := 6) (v := .ref (h0 + 40)) (C := RX6) (T := TX6) (N := 6) hx hb hts inG6 hown hK hP (k := 38) (by decide) (F := (sF38 h0)) sE_38 rfl 1 (by decide) (hts _ k154) (fun _ h9 => h9) rfl dX6_findItems_76 ?_
          refine lv_aload_n hx hb dX6_findItems_79 rfl (lv_at hl 5 rfl) ?_
          refine fz_get (D := (dC, dI)) (ci := 6) (v := .int (iZ (μ3 38 2))) (C := RX6) (T := TX6) (N := 6) hx hb hts inG6 hown hK hP (k := 38) (by decide) (F := (sF38 h0)) sE_38 rfl 2 (by decide) (hts _ k155) (fun _ h9 => h9) rfl dX6_findItems_80 ?_
          rw [show μ3 38 2 = μ 38 2 from by rw [eμ3, uz_n (by show_term (have zq29 : True := trivial; omega))]]
          refine lv_iconst (v := iZ 1) hx hb dX6_findItems_83 rfl ?_
          refine lv_iadd hx hb dX6_findItems_84 ?_
          refine lv_topi (fun x9 ex9 => ?_)
          obtain rfl : x9 = iZ ((μ 38 2) + 1) := ex9.trans (iZ_add _ _)
          refine lv_aload_n hx hb dX6_findItems_85 rfl (lv_at hl 5 rfl) ?_
          refine fz_get (D := (dC, dI)) (ci := 6) (v := .ref (h0 + 40)) (C := RX6) (T := TX6) (N := 6) hx hb hts inG6 hown hK hP (k := 38) (by decide) (F := (sF38 h0)) sE_38 rfl 1 (by decide) (hts _ k154) (fun _ h9 => h9) rfl dX6_findItems_86 ?_
          refine lv_aload_n hx hb dX6_findItems_89 rfl (lv_at hl 5 rfl) ?_
          refine fz_get (D := (dC, dI)) (ci := 6) (v := .int (iZ (μ3 38 2))) (C := RX6) (T := TX6) (N := 6) hx hb hts inG6 hown hK hP (k := 38) (by decide) (F := (sF38 h0)) sE_38 rfl 2 (by decide) (hts _ k155) (fun _ h9 => h9) rfl dX6_findItems_90 ?_
          rw [show μ3 38 2 = μ 38 2 from by rw [eμ3, uz_n (by show_term (have zq30 : True := trivial; omega))]]
          refine fz_ld (k := 40) (n := 1101) hx hb hK hP 0 (by decide) sE_40 rfl ⟨by show_term (have zq31 : True := trivial; omega), by show_term (have zq32 : True := trivial; omega)⟩ (by decide) dX6_findItems_93 ?_
          rw [show μ3 40 (μ 38 2).toNat = μ 40 (μ 38 2).toNat from by rw [eμ3, uz_n (by show_term (have zq33 : True := trivial; omega))]]
          refine lv_iload hx hb dX6_findItems_94 (lv_at hl 0 rfl) ?_
          have j104_ : ∀ (x104_0 : Int), ((x104_0 = 0 ∨ x104_0 = 1) ∧ x104_0 = x62_0) → W p l e R s m args below meth c H locs cells slots Q (F0 m 104 ls [.int (iZ (x104_0)), .int (iZ (μ 40 (μ 38 2).toNat)), .int (iZ ((μ 38 2) + 1)), .ref (h0 + 40)]) := by
            intro x104_0 hj104_0
            refine lv_iadd hx hb dX6_findItems_104 ?_
            refine lv_topi (fun x9 ex9 => ?_)
            obtain rfl : x9 = iZ ((μ 40 (μ 38 2).toNat) + x104_0) := ex9.trans (iZ_add _ _)
            refine fz_st (k := 40) (n := 1101) (i := ((μ 38 2) + 1)) (z := ((μ 40 (μ 38 2).toNat) + x104_0)) hx hb hK hP fA_in hS 0 (by decide) sE_40 rfl ⟨by show_term (have zq34 : True := trivial; omega), by show_term (have zq35 : True := trivial; omega)⟩ (by decide) dX6_findItems_105 (fun H locs hP hS => ?_)
            obtain ⟨μ4, eμ4⟩ : ∃ x : va_M, x = uz μ3 40 ((μ 38 2) + 1).toNat ((μ 40 (μ 38 2).toNat) + x104_0) := ⟨_, rfl⟩
            rw [← eμ4] at hP
            refine lv_aload_n hx hb dX6_findItems_106 rfl (lv_at hl 5 rfl) ?_
            refine lv_dup hx hb dX6_findItems_107 rfl ?_
            refine fz_get (D := (dC, dI)) (ci := 6) (v := .int (iZ (μ4 38 2))) (C := RX6) (T := TX6) (N := 6) hx hb hts inG6 hown hK hP (k := 38) (by decide) (F := (sF38 h0)) sE_38 rfl 2 (by decide) (hts _ k155) (fun _ h9 => h9) rfl dX6_findItems_108 ?_
            rw [show μ4 38 2 = μ 38 2 from by rw [eμ4, uz_n (by show_term (have zq36 : True := trivial; omega)), eμ3, uz_n (by show_term (have zq37 : True := trivial; omega))]]
            refine lv_iconst (v := iZ 1) hx hb dX6_findItems_111 rfl ?_
            refine lv_iadd hx hb dX6_findItems_112 ?_
            refine lv_topi (fun x9 ex9 => ?_)
            obtain rfl : x9 = iZ ((μ 38 2) + 1) := ex9.trans (iZ_add _ _)
            refine fz_put (D := (dC, dI)) (ci := 6) (ty := .int) (z := ((μ 38 2) + 1)) (C := RX6) (T := TX6) (N := 6) hx hb hts inG6 tyX6 tyX6_ok nmX6 hown hK hP fA_in hS (k := 38) (by decide) (F := (sF38 h0)) sE_38 rfl 2 (by decide) (hts _ k155) (fun _ h9 => h9) rfl (by decide +kernel) rfl rfl (fun _ => Nat.le_of_ble_eq_true rfl) (fun _ _ => rfl) dX6_findItems_113 (fun H locs hP hS => ?_)
            obtain ⟨μ5, eμ5⟩ : ∃ x : va_M, x = uz μ4 38 2 ((μ 38 2) + 1) := ⟨_, rfl⟩
            rw [← eμ5] at hP
            refine lv_iload hx hb dX6_findItems_116 (lv_at hl 1 rfl) ?_
            refine lv_iconst (v := iZ 1) hx hb dX6_findItems_118 rfl ?_
            refine lv_iadd hx hb dX6_findItems_119 ?_
            refine lv_topi (fun x9 ex9 => ?_)
            obtain rfl : x9 = iZ (i + 1) := ex9.trans (iZ_add _ _)
            have w1 : μ5 38 2 = μ 38 2 + 1 := by rw [eμ5, eμ4, eμ3, uz_s]
            have w2 : μ5 39 (μ 38 2).toNat = i := by rw [eμ5, eμ4, eμ3, uz_n (by show_term (have zq38 : True := trivial; omega)), uz_n (by show_term (have zq39 : True := trivial; omega)), uz_s]
            have w3 : ∀ k : Nat, k ≠ (μ 38 2).toNat → μ5 39 k = μ 39 k := fun k hk => by rw [eμ5, eμ4, eμ3, uz_n (by show_term (have zq40 : True := trivial; omega)), uz_n (by show_term (have zq41 : True := trivial; omega)), uz_n (by show_term (have zq42 : True := trivial; omega))]
            have w4 : μ5 40 (μ 38 2 + 1).toNat = μ 40 (μ 38 2).toNat + x104_0 := by rw [eμ5, eμ4, eμ3, uz_n (by show_term (have zq43 : True := trivial; omega)), uz_s]
            have w5 : ∀ k : Nat, k ≠ (μ 38 2 + 1).toNat → μ5 40 k = μ 40 k := fun k hk => by rw [eμ5, eμ4, eμ3, uz_n (by show_term (have zq44 : True := trivial; omega)), uz_n (by show_term (have zq45 : True := trivial; omega)), uz_n (by show_term (have zq46 : True := trivial; omega))]
            have z2 : μ5 (q + 2) i.toNat = (m_ : Int) := by
              rw [eμ5, eμ4, eμ3, uz_n (by show_term (have zq47 : True := trivial; omega)), uz_n (by show_term (have zq48 : True := trivial; omega)), uz_n (by show_term (have zq49 : True := trivial; omega))]
              show_term (have zq50 : True := trivial; omega)
            refine lv_aload_n hx hb dX6_findItems_120 rfl (lv_at hl 4 rfl) ?_
            refine lv_iload hx hb dX6_findItems_121 (lv_at hl 1 rfl) ?_
            refine va_calli (va_runV (As := [.int (iZ (i))]) (rest := [.int (iZ (i + 1))]) ⟨hx, hb, hml, hown, hts⟩ (s_Rafter l dC dI cI cZ cII cIII h0 H.size μ5 (q) (rm) (i) (hq) (by first | assumption | show_term (have zq51 : True := trivial; omega) | exact ⟨by show_term (have zq52 : True := trivial; omega), by show_term (have zq53 : True := trivial; omega)⟩) (by constructor <;> show_term (have zq54 : True := trivial; omega))) (cwV 1 hts (gV_G k437 k438 k439 k3 k440) rfl rfl rfl (by decide +kernel) ⟨by show 1 + 1 ≤ _; show_term (have zq55 : True := trivial; omega), by show 8 + (2 + 11) + (14) ≤ _; show_term (have zq56 : True := trivial; omega)⟩) ⟨fun a U g mk q => by obtain ⟨q0, q1, qP, qK, qM⟩ := q; exact ⟨q0, q1, qP, va_K.moved (u := U) (U := U.calling g mk a) (Vm.Alike.refl U.vm) qK, qM⟩, va_recv hK hP (ci := 4) (q0 := q) rfl ((fw_get (by show_term (have zq57 : True := trivial; omega))).trans (by rw [(sE_rowO hq)])), fun U hU hW => ⟨rfl, by rw [hU], by rw [hU]; exact hP, va_K.moved hW.alike hK, xM_warm hW hM⟩⟩ rfl rfl hl.1 rfl (lv_room (Nat.le_of_ble_eq_true rfl)) dX6_findItems_123 ⟨hRc, hRs⟩) hS (fun q _ h => fA_le hS.1 q h) (fA_le hS.1) (fun r9 u9 t9 H1 locs ht9 hvm9 hw9 hB9 hz9 hk9 hS => ?_)
            obtain ⟨μa, ra⟩ := u9
            obtain ⟨hP, -⟩ := hB9
            rw [ht9] at hP
            generalize H1 = H at hP hS ⊢
            obtain ⟨e9, hw9⟩ := hw9
            have e9 : r9 = iZ ra := e9
            subst e9
            simp only at hP hw9
            have hμa := hw9; clear hw9
            rw [hμa.1] at hP; have hμa := hμa.2
            have hra := hμa
            refine va_mmax hx hb (hml.trans hl.1.symm) hown (hts _ k467) (hts _ k75) (hts _ k4) (hts _ k76) (Nat.le_trans (Nat.le_of_ble_eq_true rfl) hRf) (Nat.le_trans (m := 35) (Nat.le_of_ble_eq_true rfl) hRl) hRc hRs dX6_findItems_126 ?_
            refine lv_topi (fun x9 ex9 => ?_)
            obtain rfl : x9 = iZ (max (i + 1) ra) := ex9.trans (iZ_mx (by constructor <;> show_term (have zq58 : True := trivial; omega)) (by constructor <;> show_term (have zq59 : True := trivial; omega)))
            refine lv_istore (lv' := [(4, .int (iZ (max (i + 1) ra))), (5, .int (iZ (x62_0))), (3, .int (iZ (p2))), (2, .int (iZ (p1))), (1, .ref (h0 + q)), (0, .ref (h0 + 38))]) hx hb dX6_findItems_129 hl (by decide) rfl (fun ls hl => ?_)
            refine lv_goto (tgt := 15) hx hb dX6_findItems_131 (by decide) ?_
            exact ih (max (i + 1) ra) μ5 H locs ls (by show_term (have zq60 : True := trivial; omega)) (by rw [show (max (i + 1) ra).toNat = m_ + 1 by show_term (have zq61 : True := trivial; omega)]; exact e4_.trans hD) (by rw [eμ5, eμ4, eμ3]; exact fr_uz (fr_uz (fr_uz hf (Or.inr (Or.inl rfl))) (Or.inr (Or.inr rfl))) (Or.inl ⟨rfl, rfl⟩)) (by show_term (have zq62 : True := trivial; omega)) (by
                                intro k hk9
                                by_cases h9 : k = (μ 38 2 + 1).toNat
                                · rw [h9, w4]; show_term (have zq63 : True := trivial; omega)
                                · rw [w5 k h9]; exact hk k (by show_term (have zq64 : True := trivial; omega))) (by
                                intro k hk9
                                by_cases h9 : k = (μ 38 2).toNat
                                · rw [h9, w2]; exact ⟨by show_term (have zq65 : True := trivial; omega), by show_term (have zq66 : True := trivial; omega), hD⟩
                                · have q9 := hb9 k (by show_term (have zq67 : True := trivial; omega))
                                  rw [w3 k h9]; exact ⟨q9.1, by show_term (have zq68 : True := trivial; omega), q9.2.2⟩) (by
                                intro k k2 h1 h2
                                rw [w3 k (by show_term (have zq69 : True := trivial; omega))]
                                by_cases h9 : k2 = (μ 38 2).toNat
                                · have q9 := hb9 k (by show_term (have zq70 : True := trivial; omega))
                                  rw [h9, w2]; exact q9.2.1
                                · rw [w3 k2 h9]; exact hm8 k k2 h1 (by show_term (have zq71 : True := trivial; omega))) (by
                                obtain ⟨dd, hkr, mt9, sO9, dd2, -⟩ := (fi_step (k := (μ 38 2).toNat) hG hv0 hvA (by show_term (have zq72 : True := trivial; omega)) hkv.2 (by show_term (have zq73 : True := trivial; omega)) (by show_term (have zq74 : True := trivial; omega)))
                                have e8 : (μ 38 2 + 1).toNat = (μ 38 2).toNat + 1 := by show_term (have zq75 : True := trivial; omega)
                                rw [w1, e8, sO9]
                                show_term (have zq76 : True := trivial; omega)) (by
                                intro k hk9
                                by_cases h9 : k = (μ 38 2).toNat
                                · rw [h9, w2]; exact hkv.2
                                · rw [w3 k h9]; exact hbv k (by show_term (have zq77 : True := trivial; omega))) (by
                                have e8 : (μ 38 2 + 1).toNat = (μ 38 2).toNat + 1 := by show_term (have zq78 : True := trivial; omega)
                                intro k hk9
                                by_cases h9 : k = (μ 38 2 + 1).toNat
                                · have c9 : cFm v ((μ 38 2).toNat + 1) = cFm v (μ 38 2).toNat + cf1 (rdrop (μ 38 2).toNat v) := rfl
                                  have c8 := hfv (μ 38 2).toNat (by show_term (have zq79 : True := trivial; omega))
                                  rw [h9, w4, e8, c9]
                                  obtain ⟨h4, h5, h6⟩ := cf1_b (rdrop (μ 38 2).toNat v)
                                  have h7 := hid_e hj62_0.2
                                  by_cases hz : hfirm (rdrop (μ 38 2).toNat v)
                                  · have := h6.mpr hz
                                    have := h7.mpr hz
                                    show_term (have zq80 : True := trivial; omega)
                                  · have h1 : ¬ cf1 (rdrop (μ 38 2).toNat v) = 1 := fun h => hz (h6.mp h)
                                    have h2 : ¬ x62_0 = 1 := fun h => hz (h7.mp h)
                                    clear h6 h7
                                    show_term (have zq81 : True := trivial; omega)
                                · rw [w5 k h9]; exact hfv k (by show_term (have zq82 : True := trivial; omega))) (by show_term (have zq83 : True := trivial; omega)) hP hS (lv_sub hl [0, 2, 3, 4, 5] rfl)
          refine fz_if_eq (tgt := 103) (by constructor <;> show_term (have zq84 : True := trivial; omega)) hx hb dX6_findItems_96 (by decide) (fun c96_ => ?_) (fun c96_ => ?_)
          · refine lv_iconst (v := iZ 0) hx hb dX6_findItems_103 rfl ?_
            exact j104_ (0) (by first | (refine ⟨by show_term (have zq85 : True := trivial; omega), hid_i ?_⟩; obtain ⟨-, -, -, -, -, fm9⟩ := (fi_step (k := (μ 38 2).toNat) hG hv0 hvA (by show_term (have zq86 : True := trivial; omega)) hkv.2 (by show_term (have zq87 : True := trivial; omega)) (by show_term (have zq88 : True := trivial; omega))); rw [fm9, ← x1]; have htg := hid_e htg; show_term (have zq89 : True := trivial; omega)) | show_term (have zq90 : True := trivial; omega))
          · refine lv_iconst (v := iZ 1) hx hb dX6_findItems_99 rfl ?_
            refine lv_goto (tgt := 104) hx hb dX6_findItems_100 (by decide) ?_
            exact j104_ (1) (by first | (refine ⟨by show_term (have zq91 : True := trivial; omega), hid_i ?_⟩; obtain ⟨-, -, -, -, -, fm9⟩ := (fi_step (k := (μ 38 2).toNat) hG hv0 hvA (by show_term (have zq92 : True := trivial; omega)) hkv.2 (by show_term (have zq93 : True := trivial; omega)) (by show_term (have zq94 : True := trivial; omega))); rw [fm9, ← x1]; have htg := hid_e htg; show_term (have zq95 : True := trivial; omega)) | show_term (have zq96 : True := trivial; omega))
        refine fz_if_ne (tgt := 57) (by constructor <;> show_term (have zq97 : True := trivial; omega)) hx hb dX6_findItems_41 (by decide) (fun c41_ => ?_) (fun c41_ => ?_)
        · have htg := hid_i (if_get (hid_e hle) (by show_term (have zq98 : True := trivial; omega)))
          refine lv_iconst (v := iZ 1) hx hb dX6_findItems_57 rfl ?_
          refine lv_goto (tgt := 62) hx hb dX6_findItems_58 (by decide) ?_
          exact j62_ (1) (by first | (refine ⟨by show_term (have zq99 : True := trivial; omega), hid_i ?_⟩; obtain ⟨-, -, -, -, -, fm9⟩ := (fi_step (k := (μ 38 2).toNat) hG hv0 hvA (by show_term (have zq100 : True := trivial; omega)) hkv.2 (by show_term (have zq101 : True := trivial; omega)) (by show_term (have zq102 : True := trivial; omega))); rw [fm9, ← x1]; have htg := hid_e htg; show_term (have zq103 : True := trivial; omega)) | show_term (have zq104 : True := trivial; omega))
        · have htg := hid_i (if_not (hid_e hle) (by show_term (have zq105 : True := trivial; omega)))
          refine lv_aload_n hx hb dX6_findItems_44 rfl (lv_at hl 3 rfl) ?_
          refine fz_get (D := (dC, dI)) (ci := 4) (v := .ref (h0 + (q + 1))) (C := RX4) (T := TX4) (N := 8) hx hb hts inG4 hown hK hP (k := q) (by show_term (have zq106 : True := trivial; omega)) (F := (sRF h0 q)) (sE_rowO hq) rfl 0 (by decide) (hts _ k79) (fun _ h9 => h9) rfl dX6_findItems_45 ?_
          refine lv_iload hx hb dX6_findItems_48 (lv_at hl 0 rfl) ?_
          refine fz_ld (k := (q + 1)) (n := rm) hx hb hK hP 0 (by show_term (have zq107 : True := trivial; omega)) (sE_rowA (r := 1) hq (by decide)) rfl ⟨by show_term (have zq108 : True := trivial; omega), by show_term (have zq109 : True := trivial; omega)⟩ (by show_term (have zq110 : True := trivial; omega)) dX6_findItems_50 ?_
          refine lv_sipush (v := iZ 514) hx hb dX6_findItems_51 rfl ?_
          refine fz_icmp_ne (tgt := 61) (by constructor <;> show_term (have zq111 : True := trivial; omega)) (by decide) hx hb dX6_findItems_54 (by decide) (fun c54_ => ?_) (fun c54_ => ?_)
          · refine lv_iconst (v := iZ 0) hx hb dX6_findItems_61 rfl ?_
            exact j62_ (0) (by first | (refine ⟨by show_term (have zq112 : True := trivial; omega), hid_i ?_⟩; obtain ⟨-, -, -, -, -, fm9⟩ := (fi_step (k := (μ 38 2).toNat) hG hv0 hvA (by show_term (have zq113 : True := trivial; omega)) hkv.2 (by show_term (have zq114 : True := trivial; omega)) (by show_term (have zq115 : True := trivial; omega))); rw [fm9, ← x1]; have htg := hid_e htg; show_term (have zq116 : True := trivial; omega)) | show_term (have zq117 : True := trivial; omega))
          · refine lv_iconst (v := iZ 1) hx hb dX6_findItems_57 rfl ?_
            refine lv_goto (tgt := 62) hx hb dX6_findItems_58 (by decide) ?_
            exact j62_ (1) (by first | (refine ⟨by show_term (have zq118 : True := trivial; omega), hid_i ?_⟩; obtain ⟨-, -, -, -, -, fm9⟩ := (fi_step (k := (μ 38 2).toNat) hG hv0 hvA (by show_term (have zq119 : True := trivial; omega)) hkv.2 (by show_term (have zq120 : True := trivial; omega)) (by show_term (have zq121 : True := trivial; omega))); rw [fm9, ← x1]; have htg := hid_e htg; show_term (have zq122 : True := trivial; omega)) | show_term (have zq123 : True := trivial; omega))
set_option maxHeartbeats 4000000 in
set_option maxRecDepth 100000 in
theorem s_TfindItems2 (l : Launch) (dC : Nat → ClassId) (dI : Nat → Nat → Nat) (cI cZ cII cIII : ClassId) (h0 sz : Nat) (μ : va_M) (q : Nat) (rm : Nat) (p1 : Int) (p2 : Int) (bh : Int) (v : Rw) (hq : rowB q rm) (hG : rG μ q rm) (hqt : q + 6 ≤ 38 ∨ 41 ≤ q) (hrg : rng μ q p1 bh) (hp2 : p2 = μ q 5 - bh) (hv0 : rWF v) (hvA : SA μ (q + 1) v p1.toNat) (hvL : p2 = p1 + sL v) (hv1 : p2 ≤ μ q 5) : Met l yX6_findItems (Cond.code yX6_findItems cX6_findItems 6 none :: wsG) ({ frames := 2, cells := 0, slots := 0, locals := 35 } : Room) (va_Pc [.ref (h0 + 38), .ref (h0 + q), .int (iZ (p1)), .int (iZ (p2))] (fun U => U.heap.size = sz ∧ va_P (dC, dI) vwCl (fw (sE cI cZ cII cIII h0) h0 233 μ) U.heap ∧ va_K (dC, dI) vwCl (sT cI cZ cII cIII) U ∧ xM U)) (va_Qv (fun (u : va_M) => itm (μ (q + 1)) u p1 p2 ∧ fr (fun x y => (x = 38 ∧ y = 2) ∨ x = 39 ∨ x = 40) μ u ∧ u 38 2 = rI v ∧ (∀ k : Nat, k ≤ rI v → u 39 k = p1 + sO v k) ∧ ∀ k : Nat, k ≤ rI v → u 40 k = cFm v k) (fun u t => va_P (dC, dI) vwCl (fw (sE cI cZ cII cIII h0) h0 233 u) t.heap ∧ va_K (dC, dI) vwCl (sT cI cZ cII cIII) t) (fA h0 233 sz)) 0 0 (fA h0 233 sz) := by
  refine Met.ofW (cc := cX6_findItems) (maxL := 6) (ret := none) (by decide) rfl ?_
  intro p e s m args below meth c s₁ B hml hv
  obtain ⟨rfl, hsz, hP, hK, hM⟩ := hv
  have hx := B.exec
  have hb := B.bytes
  have hr := B.returns
  have hts : ∀ w ∈ wsG, w.before _ s = true := hG_of (atoms_spec (ws := (Cond.code yX6_findItems cX6_findItems 6 none :: wsG)) B.pre)
  have hown : s.vm.findClass RX6 = some m.cls := findClass_of_methodNamed B.named
  have hlocks := B.notSynchronized
  subst hsz
  have hS : va_S (fA h0 233 s.heap.size) s.heap s.heap [] := va_S.rf
  have hl := lv_entry ([.ref (h0 + 38), .ref (h0 + q), .int (iZ (p1)), .int (iZ (p2))]) (n := 6) (Nat.le_of_ble_eq_true rfl)
  rw [lg_entry_eq]
  generalize (lg_sl ([.ref (h0 + 38), .ref (h0 + q), .int (iZ (p1)), .int (iZ (p2))]) ++ List.replicate (6 - (lg_sl ([.ref (h0 + 38), .ref (h0 + q), .int (iZ (p1)), .int (iZ (p2))])).length) Slot.unset).toArray = ls at hl ⊢
  have hl : lv_has ls 6 [(0, .ref (h0 + 38)), (1, .ref (h0 + q)), (2, .int (iZ (p1))), (3, .int (iZ (p2)))] := hl
  have hqb := rowB_b hq
  refine lv_aload_n hx hb dX6_findItems_0 rfl (lv_at hl 0 rfl) ?_
  refine lv_iconst (v := iZ 0) hx hb dX6_findItems_1 rfl ?_
  refine fz_put (D := (dC, dI)) (ci := 6) (ty := .int) (z := 0) (C := RX6) (T := TX6) (N := 6) hx hb hts inG6 tyX6 tyX6_ok nmX6 hown hK hP fA_in hS (k := 38) (by decide) (F := (sF38 h0)) sE_38 rfl 2 (by decide) (hts _ k155) (fun _ h9 => h9) rfl (by decide +kernel) rfl rfl (fun _ => Nat.le_of_ble_eq_true rfl) (fun _ _ => rfl) dX6_findItems_2 (fun H locs hP hS => ?_)
  obtain ⟨μ6, eμ6⟩ : ∃ x : va_M, x = uz μ 38 2 (0) := ⟨_, rfl⟩
  rw [← eμ6] at hP
  refine lv_aload_n hx hb dX6_findItems_5 rfl (lv_at hl 0 rfl) ?_
  refine fz_get (D := (dC, dI)) (ci := 6) (v := .ref (h0 + 40)) (C := RX6) (T := TX6) (N := 6) hx hb hts inG6 hown hK hP (k := 38) (by decide) (F := (sF38 h0)) sE_38 rfl 1 (by decide) (hts _ k154) (fun _ h9 => h9) rfl dX6_findItems_6 ?_
  refine lv_iconst (v := iZ 0) hx hb dX6_findItems_9 rfl ?_
  refine lv_iconst (v := iZ 0) hx hb dX6_findItems_10 rfl ?_
  refine fz_st (k := 40) (n := 1101) (i := 0) (z := 0) hx hb hK hP fA_in hS 0 (by decide) sE_40 rfl ⟨by show_term (have zq124 : True := trivial; omega), by show_term (have zq125 : True := trivial; omega)⟩ (by decide) dX6_findItems_11 (fun H locs hP hS => ?_)
  rw [show (0 : Int).toNat = 0 from rfl] at hP
  obtain ⟨μ7, eμ7⟩ : ∃ x : va_M, x = uz μ6 40 0 (0) := ⟨_, rfl⟩
  rw [← eμ7] at hP
  refine lv_iload_n hx hb dX6_findItems_12 rfl (lv_at hl 2 rfl) ?_
  have w1 : μ7 38 2 = 0 := by rw [eμ7, eμ6, uz_n (by show_term (have zq126 : True := trivial; omega)), uz_s]
  have w4 : μ7 40 0 = 0 := by rw [eμ7, eμ6, uz_s]
  refine lv_istore (lv' := [(4, .int (iZ (p1))), (0, .ref (h0 + 38)), (1, .ref (h0 + q)), (2, .int (iZ (p1))), (3, .int (iZ (p2)))]) hx hb dX6_findItems_13 hl (by decide) rfl (fun ls hl => ?_)
  refine LX6_findItems_15z hx hb hml hown hts hK hM (Nat.le_of_ble_eq_true rfl) (Nat.le_of_ble_eq_true rfl) (Nat.le_of_ble_eq_true rfl) (Nat.le_of_ble_eq_true rfl) (μ) (q) (rm) (p1) (p2) (bh) (v) (by assumption) (by exact hG) (by assumption) (by assumption) (by assumption) (by exact hv0) (by exact hvA) (by assumption) (by assumption) ?_ _ (p1) μ7 H locs ls (by exact ⟨Int.le_refl _, Or.inr rfl⟩) (by exact rfl) (by rw [eμ7, eμ6]; exact fr_uz (fr_uz fr_rfl (Or.inl ⟨rfl, rfl⟩)) (Or.inr (Or.inr rfl))) (by show_term (have zq127 : True := trivial; omega)) (by
            intro k hk9
            obtain rfl : k = 0 := by show_term (have zq128 : True := trivial; omega)
            rw [w4]; show_term (have zq129 : True := trivial; omega)) (by intro k hk9; show_term (have zq130 : True := trivial; omega)) (by intro k k2 h1 h2; show_term (have zq131 : True := trivial; omega)) (by exact ⟨by show_term (have zq132 : True := trivial; omega), by rw [w1]; show p1 = p1 + ((sO v 0 : Nat) : Int); rw [sO_0]; show_term (have zq133 : True := trivial; omega)⟩) (by intro k hk9; show_term (have zq134 : True := trivial; omega)) (by
            intro k hk9
            obtain rfl : k = 0 := by show_term (have zq135 : True := trivial; omega)
            rw [w4]; rfl) (Nat.lt_succ_self _) hP hS (lv_sub hl [0, 4, 3, 2, 1] rfl)
  · intro i_8 μ8_ H locs ls q0_8 q1_8 q2_8 q3_8 q4_8 q5_8 q6_8 q7_8 q8_8 hP hS hl
    have hl : lv_has ls 6 [(3, .int (iZ (p2))), (1, .ref (h0 + q)), (0, .ref (h0 + 38))] := hl
    obtain ⟨n1_, n2_, n3_, n4_⟩ := q2_8
    refine lv_aload_n hx hb dX6_findItems_134 rfl (lv_at hl 2 rfl) ?_
    refine fz_get (D := (dC, dI)) (ci := 6) (v := .ref (h0 + 39)) (C := RX6) (T := TX6) (N := 6) hx hb hts inG6 hown hK hP (k := 38) (by decide) (F := (sF38 h0)) sE_38 rfl 0 (by decide) (hts _ k153) (fun _ h9 => h9) rfl dX6_findItems_135 ?_
    refine lv_aload_n hx hb dX6_findItems_138 rfl (lv_at hl 2 rfl) ?_
    refine fz_get (D := (dC, dI)) (ci := 6) (v := .int (iZ (μ8_ 38 2))) (C := RX6) (T := TX6) (N := 6) hx hb hts inG6 hown hK hP (k := 38) (by decide) (F := (sF38 h0)) sE_38 rfl 2 (by decide) (hts _ k155) (fun _ h9 => h9) rfl dX6_findItems_139 ?_
    refine lv_iload_n hx hb dX6_findItems_142 rfl (lv_at hl 0 rfl) ?_
    refine fz_st (k := 39) (n := 1101) (i := (μ8_ 38 2)) (z := p2) hx hb hK hP fA_in hS 0 (by decide) sE_39 rfl ⟨by show_term (have zq136 : True := trivial; omega), by show_term (have zq137 : True := trivial; omega)⟩ (by decide) dX6_findItems_143 (fun H locs hP hS => ?_)
    obtain ⟨μ10, eμ10⟩ : ∃ x : va_M, x = uz μ8_ 39 (μ8_ 38 2).toNat (p2) := ⟨_, rfl⟩
    rw [← eμ10] at hP
    exact W.vret hx hb hr (fun t9 ht9 hW9 => ⟨⟨μ10, rfl, (by
                try dsimp only
                have hr1 := hrg.1
                have w1 : μ10 38 2 = μ8_ 38 2 := by rw [eμ10, uz_n (by show_term (have zq138 : True := trivial; omega))]
                have w2 : μ10 39 (μ8_ 38 2).toNat = p2 := by rw [eμ10, uz_s]
                have w3 : ∀ k : Nat, k ≠ (μ8_ 38 2).toNat → μ10 39 k = μ8_ 39 k := fun k hk => by rw [eμ10, uz_n (by show_term (have zq139 : True := trivial; omega))]
                have w4 : ∀ k : Nat, μ10 40 k = μ8_ 40 k := fun k => by rw [eμ10, uz_n (by show_term (have zq140 : True := trivial; omega))]
                refine ⟨⟨by show_term (have zq141 : True := trivial; omega), fun k hk => by rw [w4]; exact q3_8 k (by show_term (have zq142 : True := trivial; omega)), fun k hk h0 => ?_, fun k k2 h1 h2 => ?_, fun h => by show_term (have zq143 : True := trivial; omega)⟩, by rw [eμ10]; exact fr_uz q1_8 (Or.inr (Or.inl rfl)), by rw [w1]; exact q6_8, fun k hk => ?_, fun k hk => by have := q6_8; rw [w4]; exact q8_8 k (by show_term (have zq144 : True := trivial; omega))⟩
                · have hsg : seg (μ (q + 1)) p1.toNat p2.toNat := by rw [hp2]; exact hrg.2 (by show_term (have zq145 : True := trivial; omega))
                  by_cases h9 : k = (μ8_ 38 2).toNat
                  · rw [h9, w2]; exact ⟨by show_term (have zq146 : True := trivial; omega), by show_term (have zq147 : True := trivial; omega), hsg.2.1⟩
                  · have q9 := q4_8 k (by show_term (have zq148 : True := trivial; omega))
                    rw [w3 k h9]; exact ⟨q9.1, by show_term (have zq149 : True := trivial; omega), q9.2.2⟩
                · have q8 := q4_8 k (by show_term (have zq150 : True := trivial; omega))
                  rw [w3 k (by show_term (have zq151 : True := trivial; omega))]
                  by_cases h9 : k2 = (μ8_ 38 2).toNat
                  · rw [h9, w2]; show_term (have zq152 : True := trivial; omega)
                  · rw [w3 k2 h9]; exact q5_8 k k2 h1 (by show_term (have zq153 : True := trivial; omega))
                · have h6 := q6_8
                  by_cases h9 : k = (μ8_ 38 2).toNat
                  · have := sO_all v k (by show_term (have zq154 : True := trivial; omega))
                    rw [h9, w2, ← h9]
                    show_term (have zq155 : True := trivial; omega)
                  · rw [w3 k h9]; exact q7_8 k (by show_term (have zq156 : True := trivial; omega))), by rw [ht9]; exact hP, va_K.moved hW9.alike hK⟩, hS.F ht9⟩) hS.2.2 dX6_findItems_144
set_option maxHeartbeats 4000000 in
set_option maxRecDepth 100000 in
theorem LX6_foldAt_11z {p : Program} {l : Launch} {e : Env} {R : Room} {s : State} {m : MethodId} {args : Array Value} {below : List Frame} {meth : Method} {c : Code} {cells slots : Nat} {Q : State → Prop} {dC : Nat → ClassId} {dI : Nat → Nat → Nat} {h0 : Nat} {cI cZ cII cIII : ClassId} (hx : p.tables.exec = Jvm.exec) (hb : c.code = cX6_foldAt) (hml : c.maxLocals = 8) (hown : s.vm.findClass RX6 = some m.cls) (hts : ∀ w ∈ wsG, w.before args s = true) (hK : va_K (dC, dI) vwCl (sT cI cZ cII cIII) s) (hM : xM s) (hRf : 3 ≤ R.frames) (hRl : 70 ≤ R.locals) (hRc : cells ≤ R.cells) (hRs : slots ≤ R.slots) (μ0 : va_M) (q : Nat) (rm : Nat) (pa : Int) (n : Int) (p1 : Int) (p2 : Int) (bh : Int) (v : Rw) (ai : Nat) (so : Nat) (hq : rowB q rm) (hG : rG μ0 q rm) (h7 : μ0 q 7 = 0) (hrg : rng μ0 q p1 bh) (hp2 : p2 = μ0 q 5 - bh) (hbp : p1 ≤ pa ∧ 1 ≤ n ∧ pa + n * 2 ≤ p2) (hal : ∀ t : Nat, (t : Int) < n → sAl (μ0 (q + 1) (pa.toNat + t)) (μ0 (q + 1) ((pa + n).toNat + t))) (hd : Dp (μ0 (q + 1)) pa.toNat = Dp (μ0 (q + 1)) p1.toNat ∧ Dp (μ0 (q + 1)) (pa + n).toNat = Dp (μ0 (q + 1)) p1.toNat) (hv0 : rWF v) (hvA : SA μ0 (q + 1) v p1.toNat) (hvL : p2 = p1 + sL v) (hv1 : p2 ≤ μ0 q 5) (ho1 : fo1 v so ai) (hpa : pa = p1 + sO v ai) (hn9 : n = sO v (ai + so) - sO v ai) (hexit62 : ∀ (nx : Int) (cn : Int) (tu : Int) (μ : va_M) (H : Heap) (locs : List Loc) (ls : Array Slot), (fr (fun x _ => x = q + 1) μ0 μ) → (sgA μ (q + 1)) → (∀ j, dl (μ (q + 1) j) = dl (μ0 (q + 1) j) ∧ (vS (μ0 (q + 1) j) → vS (μ (q + 1) j))) → (pa + n ≤ nx ∧ nx ≤ p2) → (Dp (μ0 (q + 1)) nx.toNat = Dp (μ0 (q + 1)) p1.toNat) → (1 ≤ cn ∧ ai + cn.toNat * so ≤ rI v ∧ nx = p1 + sO v (ai + cn.toNat * so)) → (∀ e m : Nat, 1 ≤ e → e < cn.toNat → m < so → halk (rdrop (ai + m) v) (rdrop (ai + e * so + m) v)) → (SA μ (q + 1) (frow v ai so cn.toNat 0 so) pa.toNat ∧ (sL (frow v ai so cn.toNat 0 so) : Int) = n) → (∀ j : Nat, (j < pa.toNat ∨ (pa + n).toNat ≤ j) → μ (q + 1) j = μ0 (q + 1) j) → (fMx v so ai cn.toNat) → va_P (dC, dI) vwCl (fw (sE cI cZ cII cIII h0) h0 233 μ) H → va_S (fA h0 233 s.heap.size) s.heap H locs → lv_has ls 8 [(6, .int (iZ (nx))), (5, .int (iZ (cn))), (4, .int (iZ (p2))), (3, .int (iZ (n))), (2, .int (iZ (pa))), (1, .ref (h0 + q)), (0, .ref (h0 + 38))] → W p l e R s m args below meth c H locs cells slots Q (F0 m 62 ls [])) :
    ∀ (n9 : Nat) (nx : Int) (cn : Int) (tu : Int) (μ : va_M) (H : Heap) (locs : List Loc) (ls : Array Slot), (pa ≤ tu ∧ tu ≤ p2) → (fr (fun x _ => x = q + 1) μ0 μ) → (sgA μ (q + 1)) → (∀ j, dl (μ (q + 1) j) = dl (μ0 (q + 1) j) ∧ (vS (μ0 (q + 1) j) → vS (μ (q + 1) j))) → (pa + n ≤ nx ∧ nx ≤ p2) → (Dp (μ0 (q + 1)) nx.toNat = Dp (μ0 (q + 1)) p1.toNat) → (1 ≤ cn ∧ ai + cn.toNat * so ≤ rI v ∧ nx = p1 + sO v (ai + cn.toNat * so)) → (∀ e m : Nat, 1 ≤ e → e < cn.toNat → m < so → halk (rdrop (ai + m) v) (rdrop (ai + e * so + m) v)) → (SA μ (q + 1) (frow v ai so cn.toNat 0 so) pa.toNat ∧ (sL (frow v ai so cn.toNat 0 so) : Int) = n) → (∀ j : Nat, (j < pa.toNat ∨ (pa + n).toNat ≤ j) → μ (q + 1) j = μ0 (q + 1) j) → (tu + 1 ≤ nx) → (p2 - tu).toNat < n9 → va_P (dC, dI) vwCl (fw (sE cI cZ cII cIII h0) h0 233 μ) H → va_S (fA h0 233 s.heap.size) s.heap H locs → lv_has ls 8 [(7, .int (iZ (tu))), (6, .int (iZ (nx))), (5, .int (iZ (cn))), (4, .int (iZ (p2))), (3, .int (iZ (n))), (2, .int (iZ (pa))), (1, .ref (h0 + q)), (0, .ref (h0 + 38))] → W p l e R s m args below meth c H locs cells slots Q (F0 m 11 ls []) := by
  intro n9
  induction n9 with
  | zero => intro nx cn tu μ H locs ls ht hf hs hd1 hx9 hD hcn hal9 hSA hot htu hm9 hP hS hl; exact absurd hm9 (Nat.not_lt_zero _)
  | succ n9 ih =>
    intro nx cn tu μ H locs ls ht hf hs hd1 hx9 hD hcn hal9 hSA hot htu hm9 hP hS hl
    have hrm := rG_rm hq hG
    have hqb := rowB_b hq
    have hr1 := hrg.1
    have x5 : μ q 5 = μ0 q 5 := hf _ _ (by show_term (have zq157 : True := trivial; omega))
    have hlen : 0 ≤ μ q 5 ∧ μ q 5 ≤ rm := by show_term (have zq158 : True := trivial; omega)
    refine lv_iload hx hb dX6_foldAt_11 (lv_at hl 0 rfl) ?_
    refine lv_iload hx hb dX6_foldAt_13 (lv_at hl 3 rfl) ?_
    refine fz_icmp_ge (tgt := 62) (by constructor <;> show_term (have zq159 : True := trivial; omega)) (by constructor <;> show_term (have zq160 : True := trivial; omega)) hx hb dX6_foldAt_15 (by decide) (fun c15_ => ?_) (fun c15_ => ?_)
    · exact hexit62 (nx) (cn) (tu) μ H locs ls (by exact hf) (by exact hs) (by exact hd1) (by exact hx9) (by exact hD) (by exact hcn) (by exact hal9) (by exact hSA) (by exact hot) (by
                    have FL := (fa_line (μ := μ) (c := q + 1) (n := n.toNat) (pa := pa.toNat) (nx := nx.toNat) hv0 hvA ho1 (by show_term (have zq161 : True := trivial; omega)) (by show_term (have zq162 : True := trivial; omega)) hcn.2.1 (by show_term (have zq163 : True := trivial; omega)) (by show_term (have zq164 : True := trivial; omega)) hal9 hSA.1 (by have := hSA.2; show_term (have zq165 : True := trivial; omega)) (fun j hj => hot j (by show_term (have zq166 : True := trivial; omega)))).1
                    refine fMx_of (fun h8 => ?_)
                    obtain ⟨h7, h6⟩ := FL.mpr h8
                    clear FL
                    first
                      | show_term (have zq167 : True := trivial; omega)
                      | (rcases hrq with ⟨g1, g2, g3⟩ | ⟨g1, g3⟩
                         · show_term (have zq168 : True := trivial; omega)
                         · exact g3 ⟨⟨by show_term (have zq169 : True := trivial; omega), by show_term (have zq170 : True := trivial; omega), by show_term (have zq171 : True := trivial; omega), by show_term (have zq172 : True := trivial; omega)⟩, fun t ht => h6 t (by show_term (have zq173 : True := trivial; omega))⟩)) hP hS (lv_sub hl [1, 2, 3, 4, 5, 6, 7] rfl)
    · refine lv_iload hx hb dX6_foldAt_18 (lv_at hl 1 rfl) ?_
      refine lv_iload_n hx hb dX6_foldAt_20 rfl (lv_at hl 4 rfl) ?_
      refine lv_iadd hx hb dX6_foldAt_21 ?_
      refine lv_topi (fun x9 ex9 => ?_)
      obtain rfl : x9 = iZ (nx + n) := ex9.trans (iZ_add _ _)
      refine lv_iload hx hb dX6_foldAt_22 (lv_at hl 3 rfl) ?_
      refine fz_icmp_gt (tgt := 62) (by constructor <;> show_term (have zq174 : True := trivial; omega)) (by constructor <;> show_term (have zq175 : True := trivial; omega)) hx hb dX6_foldAt_24 (by decide) (fun c24_ => ?_) (fun c24_ => ?_)
      · exact hexit62 (nx) (cn) (tu) μ H locs ls (by exact hf) (by exact hs) (by exact hd1) (by exact hx9) (by exact hD) (by exact hcn) (by exact hal9) (by exact hSA) (by exact hot) (by
                        have FL := (fa_line (μ := μ) (c := q + 1) (n := n.toNat) (pa := pa.toNat) (nx := nx.toNat) hv0 hvA ho1 (by show_term (have zq176 : True := trivial; omega)) (by show_term (have zq177 : True := trivial; omega)) hcn.2.1 (by show_term (have zq178 : True := trivial; omega)) (by show_term (have zq179 : True := trivial; omega)) hal9 hSA.1 (by have := hSA.2; show_term (have zq180 : True := trivial; omega)) (fun j hj => hot j (by show_term (have zq181 : True := trivial; omega)))).1
                        refine fMx_of (fun h8 => ?_)
                        obtain ⟨h7, h6⟩ := FL.mpr h8
                        clear FL
                        first
                          | show_term (have zq182 : True := trivial; omega)
                          | (rcases hrq with ⟨g1, g2, g3⟩ | ⟨g1, g3⟩
                             · show_term (have zq183 : True := trivial; omega)
                             · exact g3 ⟨⟨by show_term (have zq184 : True := trivial; omega), by show_term (have zq185 : True := trivial; omega), by show_term (have zq186 : True := trivial; omega), by show_term (have zq187 : True := trivial; omega)⟩, fun t ht => h6 t (by show_term (have zq188 : True := trivial; omega))⟩)) hP hS (lv_sub hl [1, 2, 3, 4, 5, 6, 7] rfl)
      · refine lv_aload_n hx hb dX6_foldAt_27 rfl (lv_at hl 6 rfl) ?_
        refine lv_iload_n hx hb dX6_foldAt_28 rfl (lv_at hl 5 rfl) ?_
        refine lv_aload_n hx hb dX6_foldAt_29 rfl (lv_at hl 6 rfl) ?_
        refine lv_iload hx hb dX6_foldAt_30 (lv_at hl 1 rfl) ?_
        refine lv_iload_n hx hb dX6_foldAt_32 rfl (lv_at hl 4 rfl) ?_
        refine va_calli (va_runV (As := [.int (iZ (pa)), .ref (h0 + q), .int (iZ (nx)), .int (iZ (n))]) (rest := []) ⟨hx, hb, hml, hown, hts⟩ (s_Rmatches l dC dI cI cZ cII cIII h0 H.size μ (q) (rm) (q) (rm) (pa) (nx) (n) (hq) (hq) (by exact hs) (by exact hs) (by exact hlen) (by exact hlen) (by first | assumption | show_term (have zq189 : True := trivial; omega) | exact ⟨by show_term (have zq190 : True := trivial; omega), by show_term (have zq191 : True := trivial; omega)⟩) (by first | assumption | show_term (have zq192 : True := trivial; omega) | exact ⟨by show_term (have zq193 : True := trivial; omega), by show_term (have zq194 : True := trivial; omega)⟩) (by first | assumption | show_term (have zq195 : True := trivial; omega) | exact ⟨by show_term (have zq196 : True := trivial; omega), by show_term (have zq197 : True := trivial; omega)⟩) (by first | assumption | show_term (have zq198 : True := trivial; omega) | exact ⟨by show_term (have zq199 : True := trivial; omega), by show_term (have zq200 : True := trivial; omega)⟩)) (cwV 4 hts (gV_G k441 k442 k443 k3 k444) rfl rfl rfl (by decide +kernel) ⟨by show 2 + 1 ≤ _; show_term (have zq201 : True := trivial; omega), by show 8 + (6 + 11) + (35) ≤ _; show_term (have zq202 : True := trivial; omega)⟩) ⟨fun a U g mk q => by obtain ⟨q0, q1, qP, qK, qM⟩ := q; exact ⟨q0, q1, qP, va_K.moved (u := U) (U := U.calling g mk a) (Vm.Alike.refl U.vm) qK, qM⟩, va_recv hK hP (ci := 4) (q0 := q) rfl ((fw_get (by show_term (have zq203 : True := trivial; omega))).trans (by rw [(sE_rowO hq)])), fun U hU hW => ⟨rfl, by rw [hU], by rw [hU]; exact hP, va_K.moved hW.alike hK, xM_warm hW hM⟩⟩ rfl rfl hl.1 rfl (lv_room (Nat.le_of_ble_eq_true rfl)) dX6_foldAt_33 ⟨hRc, hRs⟩) hS (fun q _ h => fA_le hS.1 q h) (fA_le hS.1) (fun r9 u9 t9 H1 locs ht9 hvm9 hw9 hB9 hz9 hk9 hS => ?_)
        obtain ⟨μq, rq⟩ := u9
        obtain ⟨hP, -⟩ := hB9
        rw [ht9] at hP
        generalize H1 = H at hP hS ⊢
        obtain ⟨e9, hw9⟩ := hw9
        have e9 : r9 = iZ rq := e9
        subst e9
        simp only at hP hw9
        have hμq := hw9; clear hw9
        rw [hμq.1] at hP; have hμq := hμq.2
        have hrq := hμq
        have hr01 : rq = 0 ∨ rq = 1 := hrq.elim (fun h => Or.inr h.1) (fun h => Or.inl h.1)
        refine fz_if_eq (tgt := 62) (by constructor <;> show_term (have zq204 : True := trivial; omega)) hx hb dX6_foldAt_36 (by decide) (fun c36_ => ?_) (fun c36_ => ?_)
        · exact hexit62 (nx) (cn) (tu) μ H locs ls (by exact hf) (by exact hs) (by exact hd1) (by exact hx9) (by exact hD) (by exact hcn) (by exact hal9) (by exact hSA) (by exact hot) (by
                            have FL := (fa_line (μ := μ) (c := q + 1) (n := n.toNat) (pa := pa.toNat) (nx := nx.toNat) hv0 hvA ho1 (by show_term (have zq205 : True := trivial; omega)) (by show_term (have zq206 : True := trivial; omega)) hcn.2.1 (by show_term (have zq207 : True := trivial; omega)) (by show_term (have zq208 : True := trivial; omega)) hal9 hSA.1 (by have := hSA.2; show_term (have zq209 : True := trivial; omega)) (fun j hj => hot j (by show_term (have zq210 : True := trivial; omega)))).1
                            refine fMx_of (fun h8 => ?_)
                            obtain ⟨h7, h6⟩ := FL.mpr h8
                            clear FL
                            first
                              | show_term (have zq211 : True := trivial; omega)
                              | (rcases hrq with ⟨g1, g2, g3⟩ | ⟨g1, g3⟩
                                 · show_term (have zq212 : True := trivial; omega)
                                 · exact g3 ⟨⟨by show_term (have zq213 : True := trivial; omega), by show_term (have zq214 : True := trivial; omega), by show_term (have zq215 : True := trivial; omega), by show_term (have zq216 : True := trivial; omega)⟩, fun t ht => h6 t (by show_term (have zq217 : True := trivial; omega))⟩)) hP hS (lv_sub hl [1, 2, 3, 4, 5, 6, 7] rfl)
        · have hmt := hrq.elim (fun h => h.2.2) (fun h => absurd h.1 (by show_term (have zq218 : True := trivial; omega)))
          refine lv_aload_n hx hb dX6_foldAt_39 rfl (lv_at hl 6 rfl) ?_
          refine lv_iload_n hx hb dX6_foldAt_40 rfl (lv_at hl 5 rfl) ?_
          refine lv_iload hx hb dX6_foldAt_41 (lv_at hl 1 rfl) ?_
          refine lv_iload_n hx hb dX6_foldAt_43 rfl (lv_at hl 4 rfl) ?_
          refine va_callv (va_runV (As := [.int (iZ (pa)), .int (iZ (nx)), .int (iZ (n))]) (rest := []) ⟨hx, hb, hml, hown, hts⟩ (s_RfuseInto l dC dI cI cZ cII cIII h0 H.size μ (q) (rm) (pa) (nx) (n) (hq) (by exact hs) (by first | assumption | show_term (have zq219 : True := trivial; omega) | exact ⟨by show_term (have zq220 : True := trivial; omega), by show_term (have zq221 : True := trivial; omega)⟩) (by first | assumption | show_term (have zq222 : True := trivial; omega) | exact ⟨by show_term (have zq223 : True := trivial; omega), by show_term (have zq224 : True := trivial; omega)⟩) (by first | assumption | show_term (have zq225 : True := trivial; omega) | exact ⟨by show_term (have zq226 : True := trivial; omega), by show_term (have zq227 : True := trivial; omega)⟩) (by first | assumption | show_term (have zq228 : True := trivial; omega) | exact ⟨by show_term (have zq229 : True := trivial; omega), by show_term (have zq230 : True := trivial; omega)⟩)) (cwV 3 hts (gV_G k452 k453 k454 k3 k455) rfl rfl rfl (by decide +kernel) ⟨by show 2 + 1 ≤ _; show_term (have zq231 : True := trivial; omega), by show 8 + (5 + 11) + (35) ≤ _; show_term (have zq232 : True := trivial; omega)⟩) ⟨fun a U g mk q => by obtain ⟨q0, q1, qP, qK, qM⟩ := q; exact ⟨q0, q1, qP, va_K.moved (u := U) (U := U.calling g mk a) (Vm.Alike.refl U.vm) qK, qM⟩, va_recv hK hP (ci := 4) (q0 := q) rfl ((fw_get (by show_term (have zq233 : True := trivial; omega))).trans (by rw [(sE_rowO hq)])), fun U hU hW => ⟨rfl, by rw [hU], by rw [hU]; exact hP, va_K.moved hW.alike hK, xM_warm hW hM⟩⟩ rfl rfl hl.1 rfl (lv_room (Nat.le_of_ble_eq_true rfl)) dX6_foldAt_44 ⟨hRc, hRs⟩) hS (fun q _ h => fA_le hS.1 q h) (fA_le hS.1) (fun u9 t9 H1 locs ht9 hvm9 hw9 hB9 hz9 hk9 hS => ?_)
          obtain ⟨hP, -⟩ := hB9
          rw [ht9] at hP
          generalize H1 = H at hP hS ⊢
          obtain ⟨μf, eμf⟩ : ∃ x : va_M, x = u9 := ⟨_, rfl⟩
          rw [← eμf] at hP hw9
          have hμf := hw9; clear hw9
          obtain ⟨f1_, v1_⟩ := hμf
          obtain ⟨d2_, s2_⟩ := fuse_d hd1 (fun t ht => hmt t (by show_term (have zq234 : True := trivial; omega))) f1_ v1_ hs
          have hDA := Dp_al (f := μ (q + 1)) (a := pa.toNat) (b := nx.toNat) (n := n.toNat) (fun t ht => hmt t (by show_term (have zq235 : True := trivial; omega)))
          have hE : ∀ x, Dp (μ (q + 1)) x = Dp (μ0 (q + 1)) x := fun x => Dp_eq x (fun j _ => (hd1 j).1)
          rw [hE, hE, hE, hE, show pa.toNat + n.toNat = (pa + n).toNat by show_term (have zq236 : True := trivial; omega), show nx.toNat + n.toNat = (nx + n).toNat by show_term (have zq237 : True := trivial; omega)] at hDA
          refine lv_iload hx hb dX6_foldAt_47 (lv_at hl 1 rfl) ?_
          refine lv_iload_n hx hb dX6_foldAt_49 rfl (lv_at hl 4 rfl) ?_
          refine lv_iadd hx hb dX6_foldAt_50 ?_
          refine lv_topi (fun x9 ex9 => ?_)
          obtain rfl : x9 = iZ (nx + n) := ex9.trans (iZ_add _ _)
          refine lv_istore (lv' := [(6, .int (iZ (nx + n))), (7, .int (iZ (tu))), (5, .int (iZ (cn))), (4, .int (iZ (p2))), (3, .int (iZ (n))), (2, .int (iZ (pa))), (1, .ref (h0 + q)), (0, .ref (h0 + 38))]) hx hb dX6_foldAt_51 hl (by decide) rfl (fun ls hl => ?_)
          refine lv_iinc (v := iZ (cn + 1)) (lv' := [(5, .int (iZ (cn + 1))), (6, .int (iZ (nx + n))), (7, .int (iZ (tu))), (4, .int (iZ (p2))), (3, .int (iZ (n))), (2, .int (iZ (pa))), (1, .ref (h0 + q)), (0, .ref (h0 + 38))]) hx hb dX6_foldAt_53 hl (k := 2) rfl (iZ_add _ _) (by decide) rfl (fun ls hl => ?_)
          refine lv_iinc (v := iZ (tu + 1)) (lv' := [(7, .int (iZ (tu + 1))), (5, .int (iZ (cn + 1))), (6, .int (iZ (nx + n))), (4, .int (iZ (p2))), (3, .int (iZ (n))), (2, .int (iZ (pa))), (1, .ref (h0 + q)), (0, .ref (h0 + 38))]) hx hb dX6_foldAt_56 hl (k := 2) rfl (iZ_add _ _) (by decide) rfl (fun ls hl => ?_)
          refine lv_goto (tgt := 11) hx hb dX6_foldAt_59 (by decide) ?_
          exact ih (nx + n) (cn + 1) (tu + 1) μf H locs ls (by show_term (have zq238 : True := trivial; omega)) (by exact fr_trans hf (fr_mono f1_ (fun x y h => h.1))) (by exact s2_) (by exact d2_) (by show_term (have zq239 : True := trivial; omega)) (by
                            have q1 := hd.1
                            have q2 := hd.2
                            show_term (have zq240 : True := trivial; omega)) (by
                            obtain ⟨FL1, FL2⟩ := fa_line (μ := μ) (c := q + 1) (n := n.toNat) (pa := pa.toNat) (nx := nx.toNat) hv0 hvA ho1 (by show_term (have zq241 : True := trivial; omega)) (by show_term (have zq242 : True := trivial; omega)) hcn.2.1 (by show_term (have zq243 : True := trivial; omega)) (by show_term (have zq244 : True := trivial; omega)) hal9 hSA.1 (by have := hSA.2; show_term (have zq245 : True := trivial; omega)) (fun j hj => hot j (by show_term (have zq246 : True := trivial; omega)))
                            obtain ⟨y1, y2⟩ := FL1.mp ⟨by show_term (have zq247 : True := trivial; omega), fun t ht => hmt t (by show_term (have zq248 : True := trivial; omega))⟩
                            obtain ⟨y3, y4⟩ := FL2 y1 y2
                            clear FL1 FL2
                            have e7 : (cn + 1).toNat = cn.toNat + 1 := by show_term (have zq249 : True := trivial; omega)
                            rw [e7]
                            exact ⟨by show_term (have zq250 : True := trivial; omega), y1, by show_term (have zq251 : True := trivial; omega)⟩) (by
                            obtain ⟨FL1, FL2⟩ := fa_line (μ := μ) (c := q + 1) (n := n.toNat) (pa := pa.toNat) (nx := nx.toNat) hv0 hvA ho1 (by show_term (have zq252 : True := trivial; omega)) (by show_term (have zq253 : True := trivial; omega)) hcn.2.1 (by show_term (have zq254 : True := trivial; omega)) (by show_term (have zq255 : True := trivial; omega)) hal9 hSA.1 (by have := hSA.2; show_term (have zq256 : True := trivial; omega)) (fun j hj => hot j (by show_term (have zq257 : True := trivial; omega)))
                            obtain ⟨y1, y2⟩ := FL1.mp ⟨by show_term (have zq258 : True := trivial; omega), fun t ht => hmt t (by show_term (have zq259 : True := trivial; omega))⟩
                            obtain ⟨y3, y4⟩ := FL2 y1 y2
                            clear FL1 FL2
                            have e7 : (cn + 1).toNat = cn.toNat + 1 := by show_term (have zq260 : True := trivial; omega)
                            intro e m h1 h2 h3
                            by_cases h4 : e < cn.toNat
                            · exact hal9 e m h1 h4 h3
                            · obtain rfl : e = cn.toNat := by show_term (have zq261 : True := trivial; omega)
                              exact y2 m h3) (by
                            obtain ⟨FL1, FL2⟩ := fa_line (μ := μ) (c := q + 1) (n := n.toNat) (pa := pa.toNat) (nx := nx.toNat) hv0 hvA ho1 (by show_term (have zq262 : True := trivial; omega)) (by show_term (have zq263 : True := trivial; omega)) hcn.2.1 (by show_term (have zq264 : True := trivial; omega)) (by show_term (have zq265 : True := trivial; omega)) hal9 hSA.1 (by have := hSA.2; show_term (have zq266 : True := trivial; omega)) (fun j hj => hot j (by show_term (have zq267 : True := trivial; omega)))
                            obtain ⟨y1, y2⟩ := FL1.mp ⟨by show_term (have zq268 : True := trivial; omega), fun t ht => hmt t (by show_term (have zq269 : True := trivial; omega))⟩
                            obtain ⟨y3, y4⟩ := FL2 y1 y2
                            clear FL1 FL2
                            have e7 : (cn + 1).toNat = cn.toNat + 1 := by show_term (have zq270 : True := trivial; omega)
                            obtain ⟨y5, y6⟩ := y4 μf (fun t ht => v1_ t (by show_term (have zq271 : True := trivial; omega)))
                            rw [e7]
                            exact ⟨y5, by show_term (have zq272 : True := trivial; omega)⟩) (by
                            intro j hj
                            rw [f1_ _ _ (by show_term (have zq273 : True := trivial; omega))]
                            exact hot j hj) (by show_term (have zq274 : True := trivial; omega)) (by show_term (have zq275 : True := trivial; omega)) hP hS (lv_sub hl [0, 2, 1, 3, 4, 5, 6, 7] rfl)
set_option maxHeartbeats 4000000 in
set_option maxRecDepth 100000 in
theorem s_TfoldAt2 (l : Launch) (dC : Nat → ClassId) (dI : Nat → Nat → Nat) (cI cZ cII cIII : ClassId) (h0 sz : Nat) (μ : va_M) (q : Nat) (rm : Nat) (pa : Int) (n : Int) (p1 : Int) (p2 : Int) (bh : Int) (v : Rw) (ai : Nat) (so : Nat) (hq : rowB q rm) (hG : rG μ q rm) (h7 : μ q 7 = 0) (hrg : rng μ q p1 bh) (hp2 : p2 = μ q 5 - bh) (hbp : p1 ≤ pa ∧ 1 ≤ n ∧ pa + n * 2 ≤ p2) (hal : ∀ t : Nat, (t : Int) < n → sAl (μ (q + 1) (pa.toNat + t)) (μ (q + 1) ((pa + n).toNat + t))) (hd : Dp (μ (q + 1)) pa.toNat = Dp (μ (q + 1)) p1.toNat ∧ Dp (μ (q + 1)) (pa + n).toNat = Dp (μ (q + 1)) p1.toNat) (hv0 : rWF v) (hvA : SA μ (q + 1) v p1.toNat) (hvL : p2 = p1 + sL v) (hv1 : p2 ≤ μ q 5) (ho1 : fo1 v so ai) (hpa : pa = p1 + sO v ai) (hn9 : n = sO v (ai + so) - sO v ai) (hrm9 : ∀ c : Nat, isFold v ai so c → μ q 5 - sL v + sL (rput v ai so c) ≤ rm) : Met l yX6_foldAt (Cond.code yX6_foldAt cX6_foldAt 8 (some .int) :: wsG) ({ frames := 3, cells := 0, slots := 0, locals := 70 } : Room) (va_Pc [.ref (h0 + 38), .ref (h0 + q), .int (iZ (pa)), .int (iZ (n)), .int (iZ (p2))] (fun U => U.heap.size = sz ∧ va_P (dC, dI) vwCl (fw (sE cI cZ cII cIII h0) h0 233 μ) U.heap ∧ va_K (dC, dI) vwCl (sT cI cZ cII cIII) U ∧ xM U)) (va_Qi (fun (r9 : Int32) (u : va_M × Int) => r9 = iZ u.2 ∧ (fun (u : va_M) (r : Int) => rG u q rm ∧ fr (LEq q) μ u ∧ rng u q p1 bh ∧ ∃ c : Nat, r = c ∧ isFold v ai so c ∧ fMx v so ai c ∧ u q 7 = 0 ∧ SA u (q + 1) (rput v ai so c) p1.toNat ∧ u q 5 = μ q 5 - sL v + sL (rput v ai so c) ∧ (∀ j : Nat, j < p1.toNat → u (q + 1) j = μ (q + 1) j) ∧ ∀ t : Nat, p2 + t < μ q 5 → u (q + 1) ((u q 5 - (μ q 5 - p2)).toNat + t) = μ (q + 1) (p2.toNat + t)) u.1 u.2) (fun u t => va_P (dC, dI) vwCl (fw (sE cI cZ cII cIII h0) h0 233 u.1) t.heap ∧ va_K (dC, dI) vwCl (sT cI cZ cII cIII) t) (fA h0 233 sz)) 0 0 (fA h0 233 sz) := by
  refine Met.ofW (cc := cX6_foldAt) (maxL := 8) (ret := (some .int)) (by decide) rfl ?_
  intro p e s m args below meth c s₁ B hml hv
  obtain ⟨rfl, hsz, hP, hK, hM⟩ := hv
  have hx := B.exec
  have hb := B.bytes
  have hr := B.returns
  have hts : ∀ w ∈ wsG, w.before _ s = true := hG_of (atoms_spec (ws := (Cond.code yX6_foldAt cX6_foldAt 8 (some .int) :: wsG)) B.pre)
  have hown : s.vm.findClass RX6 = some m.cls := findClass_of_methodNamed B.named
  have hlocks := B.notSynchronized
  subst hsz
  have hS : va_S (fA h0 233 s.heap.size) s.heap s.heap [] := va_S.rf
  have hl := lv_entry ([.ref (h0 + 38), .ref (h0 + q), .int (iZ (pa)), .int (iZ (n)), .int (iZ (p2))]) (n := 8) (Nat.le_of_ble_eq_true rfl)
  rw [lg_entry_eq]
  generalize (lg_sl ([.ref (h0 + 38), .ref (h0 + q), .int (iZ (pa)), .int (iZ (n)), .int (iZ (p2))]) ++ List.replicate (8 - (lg_sl ([.ref (h0 + 38), .ref (h0 + q), .int (iZ (pa)), .int (iZ (n)), .int (iZ (p2))])).length) Slot.unset).toArray = ls at hl ⊢
  have hl : lv_has ls 8 [(0, .ref (h0 + 38)), (1, .ref (h0 + q)), (2, .int (iZ (pa))), (3, .int (iZ (n))), (4, .int (iZ (p2)))] := hl
  have hqb := rowB_b hq
  have hrm := rG_rm hq hG
  have hr1 := hrg.1
  refine lv_iconst (v := iZ 1) hx hb dX6_foldAt_0 rfl ?_
  refine lv_istore (lv' := [(5, .int (iZ (1))), (0, .ref (h0 + 38)), (1, .ref (h0 + q)), (2, .int (iZ (pa))), (3, .int (iZ (n))), (4, .int (iZ (p2)))]) hx hb dX6_foldAt_1 hl (by decide) rfl (fun ls hl => ?_)
  refine lv_iload_n hx hb dX6_foldAt_3 rfl (lv_at hl 3 rfl) ?_
  refine lv_iload_n hx hb dX6_foldAt_4 rfl (lv_at hl 4 rfl) ?_
  refine lv_iadd hx hb dX6_foldAt_5 ?_
  refine lv_topi (fun x9 ex9 => ?_)
  obtain rfl : x9 = iZ (pa + n) := ex9.trans (iZ_add _ _)
  refine lv_istore (lv' := [(6, .int (iZ (pa + n))), (5, .int (iZ (1))), (0, .ref (h0 + 38)), (1, .ref (h0 + q)), (2, .int (iZ (pa))), (3, .int (iZ (n))), (4, .int (iZ (p2)))]) hx hb dX6_foldAt_6 hl (by decide) rfl (fun ls hl => ?_)
  refine lv_iload_n hx hb dX6_foldAt_8 rfl (lv_at hl 4 rfl) ?_
  refine lv_istore (lv' := [(7, .int (iZ (pa))), (6, .int (iZ (pa + n))), (5, .int (iZ (1))), (0, .ref (h0 + 38)), (1, .ref (h0 + q)), (2, .int (iZ (pa))), (3, .int (iZ (n))), (4, .int (iZ (p2)))]) hx hb dX6_foldAt_9 hl (by decide) rfl (fun ls hl => ?_)
  refine LX6_foldAt_11z hx hb hml hown hts hK hM (Nat.le_of_ble_eq_true rfl) (Nat.le_of_ble_eq_true rfl) (Nat.le_of_ble_eq_true rfl) (Nat.le_of_ble_eq_true rfl) (μ) (q) (rm) (pa) (n) (p1) (p2) (bh) (v) (ai) (so) (by assumption) (by exact hG) (by assumption) (by assumption) (by assumption) (by assumption) (by exact hal) (by exact hd) (by exact hv0) (by exact hvA) (by assumption) (by assumption) (by exact ho1) (by assumption) (by exact hn9) ?_ _ (pa + n) (1) (pa) μ s.heap [] ls (by show_term (have zq276 : True := trivial; omega)) (by exact fr_rfl) (by exact hG.1) (by exact fun j => ⟨rfl, id⟩) (by show_term (have zq277 : True := trivial; omega)) (by exact hd.2) (by
            have := ho1.2.1
            rw [show (1 : Int).toNat = 1 from rfl, Nat.one_mul]
            exact ⟨by decide, by show_term (have zq278 : True := trivial; omega), by show_term (have zq279 : True := trivial; omega)⟩) (by
            intro e m h1 h2 _
            have h2 : e < 1 := h2
            show_term (have zq280 : True := trivial; omega)) (by
            have h3 := ho1.2.1
            have h4 := frow1_SA (n1 := so) (a := ai) hvA so 0 (by show_term (have zq281 : True := trivial; omega))
            have h5 := sO_add ai so v
            rw [show ai + 0 = ai from rfl, show p1.toNat + sO v ai = pa.toNat by show_term (have zq282 : True := trivial; omega)] at h4
            exact ⟨h4.1, by have h6 : sL (frow v ai so (1 : Int).toNat 0 so) = _ := h4.2.1; show_term (have zq283 : True := trivial; omega)⟩) (by intro j _; rfl) (by show_term (have zq284 : True := trivial; omega)) (Nat.lt_succ_self _) hP hS (lv_sub hl [0, 1, 2, 7, 6, 5, 4, 3] rfl)
  · intro nx_1 cn_1 tu_1 μ1_ H locs ls q0_1 q1_1 q2_1 q3_1 q4_1 q5_1 q6_1 q7_1 q8_1 q9_1 hP hS hl
    have hl : lv_has ls 8 [(6, .int (iZ (nx_1))), (5, .int (iZ (cn_1))), (4, .int (iZ (p2))), (3, .int (iZ (n))), (2, .int (iZ (pa))), (1, .ref (h0 + q)), (0, .ref (h0 + 38))] := hl
    have x5 : μ1_ q 5 = μ q 5 := q0_1 _ _ (by show_term (have zq285 : True := trivial; omega))
    have q33 := q3_1
    have q44 := q4_1
    have q00 := q0_1
    have q11 := q1_1
    have q22 := q2_1
    skip
    have q55 := q5_1
    refine lv_aload_n hx hb dX6_foldAt_62 rfl (lv_at hl 5 rfl) ?_
    refine lv_iload_n hx hb dX6_foldAt_63 rfl (lv_at hl 4 rfl) ?_
    refine lv_iload_n hx hb dX6_foldAt_64 rfl (lv_at hl 3 rfl) ?_
    refine lv_iadd hx hb dX6_foldAt_65 ?_
    refine lv_topi (fun x9 ex9 => ?_)
    obtain rfl : x9 = iZ (pa + n) := ex9.trans (iZ_add _ _)
    refine lv_iload hx hb dX6_foldAt_66 (lv_at hl 0 rfl) ?_
    refine va_callv (va_runV (As := [.int (iZ (pa + n)), .int (iZ (nx_1))]) (rest := []) ⟨hx, hb, hml, hown, hts⟩ (s_Rremove l dC dI cI cZ cII cIII h0 H.size μ1_ (q) (rm) (pa + n) (nx_1) (hq) (by show_term (have zq286 : True := trivial; omega)) (by show_term (have zq287 : True := trivial; omega))) (cwV 2 hts (gV_G k459 k460 k461 k3 k462) rfl rfl rfl (by decide +kernel) ⟨Nat.le_of_ble_eq_true rfl, Nat.le_of_ble_eq_true rfl⟩) ⟨fun a U g mk q => by obtain ⟨q0, q1, qP, qK, qM⟩ := q; exact ⟨q0, q1, qP, va_K.moved (u := U) (U := U.calling g mk a) (Vm.Alike.refl U.vm) qK, qM⟩, va_recv hK hP (ci := 4) (q0 := q) rfl ((fw_get (by show_term (have zq288 : True := trivial; omega))).trans (by rw [(sE_rowO hq)])), fun U hU hW => ⟨rfl, by rw [hU], by rw [hU]; exact hP, va_K.moved hW.alike hK, xM_warm hW hM⟩⟩ rfl rfl hl.1 rfl (lv_room (Nat.le_of_ble_eq_true rfl)) dX6_foldAt_68 ⟨Nat.le_of_ble_eq_true rfl, Nat.le_of_ble_eq_true rfl⟩) hS (fun q _ h => fA_le hS.1 q h) (fA_le hS.1) (fun u9 t9 H1 locs ht9 hvm9 hw9 hB9 hz9 hk9 hS => ?_)
    obtain ⟨hP, -⟩ := hB9
    rw [ht9] at hP
    generalize H1 = H at hP hS ⊢
    obtain ⟨μ2, eμ2⟩ : ∃ x : va_M, x = u9 := ⟨_, rfl⟩
    rw [← eμ2] at hP hw9
    have hμ2 := hw9; clear hw9
    have E2 := hμ2
    have l2 : μ2 q 5 = μ q 5 - (nx_1 - (pa + n)) := by rw [E2, uz_s, x5]
    refine lv_aload_n hx hb dX6_foldAt_71 rfl (lv_at hl 5 rfl) ?_
    refine lv_iload_n hx hb dX6_foldAt_72 rfl (lv_at hl 4 rfl) ?_
    refine lv_iload_n hx hb dX6_foldAt_73 rfl (lv_at hl 3 rfl) ?_
    refine lv_iadd hx hb dX6_foldAt_74 ?_
    refine lv_topi (fun x9 ex9 => ?_)
    obtain rfl : x9 = iZ (pa + n) := ex9.trans (iZ_add _ _)
    refine lv_sipush (v := iZ 515) hx hb dX6_foldAt_75 rfl ?_
    refine va_callv (va_runV (As := [.int (iZ (pa + n)), .int (iZ (515))]) (rest := []) ⟨hx, hb, hml, hown, hts⟩ (s_Rinsert l dC dI cI cZ cII cIII h0 H.size μ2 (q) (rm) (pa + n) (515) (hq) (by show_term (have zq289 : True := trivial; omega)) (by show_term (have zq290 : True := trivial; omega))) (cwV 2 hts (gV_G k491 k492 k493 k3 k494) rfl rfl rfl (by decide +kernel) ⟨Nat.le_of_ble_eq_true rfl, Nat.le_of_ble_eq_true rfl⟩) ⟨fun a U g mk q => by obtain ⟨q0, q1, qP, qK, qM⟩ := q; exact ⟨q0, q1, qP, va_K.moved (u := U) (U := U.calling g mk a) (Vm.Alike.refl U.vm) qK, qM⟩, va_recv hK hP (ci := 4) (q0 := q) rfl ((fw_get (by show_term (have zq291 : True := trivial; omega))).trans (by rw [(sE_rowO hq)])), fun U hU hW => ⟨rfl, by rw [hU], by rw [hU]; exact hP, va_K.moved hW.alike hK, xM_warm hW hM⟩⟩ rfl rfl hl.1 rfl (lv_room (Nat.le_of_ble_eq_true rfl)) dX6_foldAt_78 ⟨Nat.le_of_ble_eq_true rfl, Nat.le_of_ble_eq_true rfl⟩) hS (fun q _ h => fA_le hS.1 q h) (fA_le hS.1) (fun u9 t9 H1 locs ht9 hvm9 hw9 hB9 hz9 hk9 hS => ?_)
    obtain ⟨hP, -⟩ := hB9
    rw [ht9] at hP
    generalize H1 = H at hP hS ⊢
    obtain ⟨μ3, eμ3⟩ : ∃ x : va_M, x = u9 := ⟨_, rfl⟩
    rw [← eμ3] at hP hw9
    have hμ3 := hw9; clear hw9
    have I3 := hμ3
    have l3 : (0 ≤ μ3 q 5 ∧ μ3 q 5 ≤ rm) ∧ pa ≤ μ3 q 5 := by
      by_cases h9 : μ2 q 5 < rm
      · have e := I3.1 h9
        have : μ3 q 5 = μ2 q 5 + 1 := by rw [e, uz_s]
        show_term (have zq292 : True := trivial; omega)
      · have e := I3.2 h9
        have : μ3 q 5 = μ2 q 5 := by rw [e, uz_n (by show_term (have zq293 : True := trivial; omega))]
        show_term (have zq294 : True := trivial; omega)
    refine lv_aload_n hx hb dX6_foldAt_81 rfl (lv_at hl 5 rfl) ?_
    refine lv_iload_n hx hb dX6_foldAt_82 rfl (lv_at hl 4 rfl) ?_
    refine lv_sipush (v := iZ 514) hx hb dX6_foldAt_83 rfl ?_
    refine va_callv (va_runV (As := [.int (iZ (pa)), .int (iZ (514))]) (rest := []) ⟨hx, hb, hml, hown, hts⟩ (s_Rinsert l dC dI cI cZ cII cIII h0 H.size μ3 (q) (rm) (pa) (514) (hq) (by exact l3.1) (by show_term (have zq295 : True := trivial; omega))) (cwV 2 hts (gV_G k491 k492 k493 k3 k494) rfl rfl rfl (by decide +kernel) ⟨Nat.le_of_ble_eq_true rfl, Nat.le_of_ble_eq_true rfl⟩) ⟨fun a U g mk q => by obtain ⟨q0, q1, qP, qK, qM⟩ := q; exact ⟨q0, q1, qP, va_K.moved (u := U) (U := U.calling g mk a) (Vm.Alike.refl U.vm) qK, qM⟩, va_recv hK hP (ci := 4) (q0 := q) rfl ((fw_get (by show_term (have zq296 : True := trivial; omega))).trans (by rw [(sE_rowO hq)])), fun U hU hW => ⟨rfl, by rw [hU], by rw [hU]; exact hP, va_K.moved hW.alike hK, xM_warm hW hM⟩⟩ rfl rfl hl.1 rfl (lv_room (Nat.le_of_ble_eq_true rfl)) dX6_foldAt_86 ⟨Nat.le_of_ble_eq_true rfl, Nat.le_of_ble_eq_true rfl⟩) hS (fun q _ h => fA_le hS.1 q h) (fA_le hS.1) (fun u9 t9 H1 locs ht9 hvm9 hw9 hB9 hz9 hk9 hS => ?_)
    obtain ⟨hP, -⟩ := hB9
    rw [ht9] at hP
    generalize H1 = H at hP hS ⊢
    obtain ⟨μ4, eμ4⟩ : ∃ x : va_M, x = u9 := ⟨_, rfl⟩
    rw [← eμ4] at hP hw9
    have hμ4 := hw9; clear hw9
    have I4 := hμ4
    obtain ⟨⟨w, w1_, w2_, w3_⟩, l4_, s4_, m4_, f4_, D4_⟩ := fold_mem (p := pa) (n := n) (x := nx_1) hG h7 (by show_term (have zq297 : True := trivial; omega)) (q44.trans hd.2.symm) q00 q11 q22 E2 I3 I4
    refine lv_aload_n hx hb dX6_foldAt_89 rfl (lv_at hl 5 rfl) ?_
    refine va_callv (va_runV (As := []) (rest := []) ⟨hx, hb, hml, hown, hts⟩ (s_Rseal l dC dI cI cZ cII cIII h0 H.size μ4 (q) (rm) (w) (hq) (by exact l4_) (by exact ⟨w1_, w3_⟩)) (cwV 0 hts (gV_G k466 k415 k416 k3 k417) rfl rfl rfl (by decide +kernel) ⟨Nat.le_of_ble_eq_true rfl, Nat.le_of_ble_eq_true rfl⟩) ⟨fun a U g mk q => by obtain ⟨q0, q1, qP, qK, qM⟩ := q; exact ⟨q0, q1, qP, va_K.moved (u := U) (U := U.calling g mk a) (Vm.Alike.refl U.vm) qK, qM⟩, va_recv hK hP (ci := 4) (q0 := q) rfl ((fw_get (by show_term (have zq298 : True := trivial; omega))).trans (by rw [(sE_rowO hq)])), fun U hU hW => ⟨rfl, by rw [hU], by rw [hU]; exact hP, va_K.moved hW.alike hK, xM_warm hW hM⟩⟩ rfl rfl hl.1 rfl (lv_room (Nat.le_of_ble_eq_true rfl)) dX6_foldAt_90 ⟨Nat.le_of_ble_eq_true rfl, Nat.le_of_ble_eq_true rfl⟩) hS (fun q _ h => fA_le hS.1 q h) (fA_le hS.1) (fun u9 t9 H1 locs ht9 hvm9 hw9 hB9 hz9 hk9 hS => ?_)
    obtain ⟨hP, -⟩ := hB9
    rw [ht9] at hP
    generalize H1 = H at hP hS ⊢
    obtain ⟨μ5, eμ5⟩ : ∃ x : va_M, x = u9 := ⟨_, rfl⟩
    rw [← eμ5] at hP hw9
    have hμ5 := hw9; clear hw9
    obtain ⟨r5_, f5_⟩ := hμ5
    refine lv_iload hx hb dX6_foldAt_93 (lv_at hl 1 rfl) ?_
    exact W.iret (v := iZ (cn_1)) hx hb hr (fun t9 ht9 hW9 => ⟨⟨iZ (cn_1), (μ5, cn_1), rfl, ⟨rfl, (by
                dsimp only
                have q66 := q6_1
                have q77 := q7_1
                have q88 := q8_1
                have q99 := q9_1
                have hif : isFold v ai so (cn_1).toNat := by
                  obtain ⟨g1, g2, g3, m1, g4, g5⟩ := ho1
                  refine ⟨g1, ?_, q55.2.1, q66, m1, g4, g5⟩
                  by_cases h9 : (cn_1).toNat = 1
                  · rw [h9] at q99
                    unfold fMx at q99
                    rw [Nat.one_mul] at q99
                    rcases q99 with h | h
                    · show_term (have zq299 : True := trivial; omega)
                    · exact absurd g3 h
                  · show_term (have zq300 : True := trivial; omega)
                have hI2 := hif.2.2.1
                have hln := rG_len hG
                have hrm8 := hrm9 _ hif
                have eL : (sL (rput v ai so (cn_1).toNat) : Int) + sO v (ai + (cn_1).toNat * so) = sO v ai + 2 + n + sL v := by
                  have h1 : sL (rput v ai so (cn_1).toNat) = sO v ai + (2 + sL (frow v ai so (cn_1).toNat 0 so) + sL (rdrop (ai + (cn_1).toNat * so) v)) := by
                    unfold rput
                    rw [rpre_sLx ai v _ (by show_term (have zq301 : True := trivial; omega)), sL_in]
                    rfl
                  have h2 := qdrop_L (ai + (cn_1).toNat * so) v
                  have h3 := q77.2
                  show_term (have zq302 : True := trivial; omega)
                have z7 : μ1_ q 7 = 0 := (q00 _ _ (by show_term (have zq303 : True := trivial; omega))).trans h7
                obtain ⟨b7, b5, b1, b2, b3, b4, b6⟩ := fold_line (μ1 := μ1_) (p := pa) (n := n) (x := nx_1) (rm := rm) z7 (by show_term (have zq304 : True := trivial; omega)) (by show_term (have zq305 : True := trivial; omega)) (by show_term (have zq306 : True := trivial; omega)) q11 E2 I3 I4
                have hAo : ∀ j : Nat, (j < pa.toNat ∨ (pa + n).toNat ≤ j) → μ1_ (q + 1) j = μ (q + 1) j := q88
                have q7n := q77.2
                have hput := rput_SA (u := μ4) (cu := q + 1) hvA hif (fun t ht => by rw [b1 _ (by show_term (have zq307 : True := trivial; omega))]; exact hAo _ (Or.inl (by show_term (have zq308 : True := trivial; omega)))) (by rw [show p1.toNat + sO v ai = pa.toNat by show_term (have zq309 : True := trivial; omega)]; exact b2) (SA_to _ _ _ q77.1 (fun d hd => by rw [show p1.toNat + sO v ai + 1 = pa.toNat + 1 by show_term (have zq310 : True := trivial; omega)]; exact b3 d (by show_term (have zq311 : True := trivial; omega)))) (by rw [show p1.toNat + sO v ai + 1 + sL (frow v ai so (cn_1).toNat 0 so) = pa.toNat + 1 + n.toNat by show_term (have zq312 : True := trivial; omega)]; exact b4) (fun t ht => by
                  rw [show p1.toNat + sO v ai + 2 + sL (frow v ai so (cn_1).toNat 0 so) + t = pa.toNat + n.toNat + 2 + t by show_term (have zq313 : True := trivial; omega), b6 t (by show_term (have zq314 : True := trivial; omega)), hAo _ (Or.inr (by show_term (have zq315 : True := trivial; omega)))]
                  congr 1
                  show_term (have zq316 : True := trivial; omega))
                have e1 : ∀ y, μ5 (q + 1) y = μ4 (q + 1) y := fun y => f5_ _ _ (by unfold SEw SEq; show_term (have zq317 : True := trivial; omega))
                have e7 : μ5 q 7 = μ4 q 7 := f5_ _ _ (by unfold SEw SEq; show_term (have zq318 : True := trivial; omega))
                have hg5 := rG_seal w1_ w2_ w3_ s4_ m4_ r5_ f5_
                have e55 : μ5 q 5 = μ4 q 5 := by
                  have h1 := r5_.1.1
                  rcases w3_ with ⟨k1, k2, k3⟩ | ⟨k1, k2⟩
                  · show_term (have zq319 : True := trivial; omega)
                  · show_term (have zq320 : True := trivial; omega)
                refine ⟨hg5, fr_trans (fr_mono f4_ (fun x y h => by unfold LEq; show_term (have zq321 : True := trivial; omega))) (fr_mono f5_ (fun x y h => by unfold SEw SEq at h; unfold LEq; show_term (have zq322 : True := trivial; omega))), ?_, (cn_1).toNat, by show_term (have zq323 : True := trivial; omega), hif, q99, by rw [e7]; exact b7, SA_fr e1 _ _ hput.1, ?_, fun j hj => ?_, fun t ht => ?_⟩
                rotate_left
                · show_term (have zq324 : True := trivial; omega)
                · rw [e1, b1 _ (by show_term (have zq325 : True := trivial; omega))]; exact hAo _ (Or.inl (by show_term (have zq326 : True := trivial; omega)))
                · rw [e1, show (μ5 q 5 - (μ q 5 - p2)).toNat + t = pa.toNat + n.toNat + 2 + ((p2 - nx_1).toNat + t) by show_term (have zq327 : True := trivial; omega), b6 _ (by show_term (have zq328 : True := trivial; omega)), hAo _ (Or.inr (by show_term (have zq329 : True := trivial; omega)))]
                  congr 1
                  show_term (have zq330 : True := trivial; omega)
                rcases w3_ with ⟨k1, k2, k3⟩ | ⟨k1, k2⟩
                · obtain ⟨D5, D6⟩ := D4_ k1
                  refine rng_fo (p := pa) (n := n) (x := nx_1) (by show_term (have zq331 : True := trivial; omega)) hrg (by show_term (have zq332 : True := trivial; omega)) (by show_term (have zq333 : True := trivial; omega)) ?_
                  rw [funext e1, e55]
                  exact D6
                · exact rng_ov hrg hg5 (by show_term (have zq334 : True := trivial; omega)))⟩, by rw [ht9]; exact hP, va_K.moved hW9.alike hK⟩, hS.F ht9⟩) hS.2.2 dX6_foldAt_95

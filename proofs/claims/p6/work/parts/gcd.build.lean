
/-! laying, told whole: build -/
set_option maxHeartbeats 4000000 in
set_option maxRecDepth 100000 in
theorem LX0_build_22t {p : Program} {l : Launch} {e : Env} {R : Room} {s : State} {m : MethodId} {args : Array Value} {below : List Frame} {meth : Method} {c : Code} {cells slots : Nat} {Q : State → Prop} {dC : Nat → ClassId} {dI : Nat → Nat → Nat} {h0 : Nat} {cI cZ cII cIII : ClassId} (hx : p.tables.exec = Jvm.exec) (hb : c.code = cX0_build) (hml : c.maxLocals = 6) (hown : s.vm.findClass RX0 = some m.cls) (hts : ∀ w ∈ wsG, w.before args s = true) (hK : va_K (dC, dI) vwCl (sT cI cZ cII cIII) s) (hM : xM s) (hRf : 4 ≤ R.frames) (hRl : 87 ≤ R.locals) (hRc : cells ≤ R.cells) (hRs : slots ≤ R.slots) (μ0 : va_M) (q : Nat) (rm : Nat) (q2 : Nat) (rm2 : Nat) (q3 : Nat) (rm3 : Nat) (w9 : Rw) (b9 : Rw) (hq : rowB q rm) (hq2 : rowB q2 rm2) (hq3 : rowB q3 rm3) (ha3 : apart q3 q) (ha32 : apart q3 q2) (hG : rG μ0 q rm) (hG2 : rG μ0 q2 rm2) (h96 : rm2 = 96) (hLK : LK μ0 q q2) (hLKv : LKv μ0 q q2 w9 b9) (hw9 : rwL μ0 q w9) (hb9 : rwL μ0 q2 b9) (hF9 : rWF w9 ∧ rWF b9 ∧ rPg b9 ∧ rN w9 + rN b9 ≤ 1800) (hexit165 : ∀ (tu : Int) (μ : va_M) (H : Heap) (locs : List Loc) (ls : Array Slot), (fr (BQ q3) μ0 μ) → (outS μ q3 rm3 (gI (μ 41 6))) → (gOK (μ 41 6)) → (∃ M : List Int, outT μ q3 rm3 M ∧ lsg (lrow w9 b9) = M ++ cl9 (μ 41 6).toNat) → va_P (dC, dI) vwCl (fw (sE cI cZ cII cIII h0) h0 233 μ) H → va_S (fA h0 233 s.heap.size) s.heap H locs → lv_has ls 6 [(3, .ref (h0 + q3)), (0, .ref (h0 + 41))] → W p l e R s m args below meth c H locs cells slots Q (F0 m 165 ls [])) :
    ∀ (n9 : Nat) (tu : Int) (μ : va_M) (H : Heap) (locs : List Loc) (ls : Array Slot), (0 ≤ tu ∧ tu ≤ μ 41 4 + μ 41 5) → (fr (BQ q3) μ0 μ) → (bS μ q q2 q3 rm3) → (bT μ q3 rm3 w9 b9 (lsg (lrow w9 b9))) → (1000000 - tu).toNat < n9 → va_P (dC, dI) vwCl (fw (sE cI cZ cII cIII h0) h0 233 μ) H → va_S (fA h0 233 s.heap.size) s.heap H locs → lv_has ls 6 [(4, .int (iZ (tu))), (3, .ref (h0 + q3)), (2, .ref (h0 + q2)), (1, .ref (h0 + q)), (0, .ref (h0 + 41))] → W p l e R s m args below meth c H locs cells slots Q (F0 m 22 ls []) := by
  intro n9
  induction n9 with
  | zero => intro tu μ H locs ls ht hf hbs hbT hm9 hP hS hl; exact absurd hm9 (Nat.not_lt_zero _)
  | succ n9 ih =>
    intro tu μ H locs ls ht hf hbs hbT hm9 hP hS hl
    have hrm := rG_rc hq hG
    have hrm2 := rG_rc hq2 hG2
    have hqb := rowB_c hq
    have hqb2 := rowB_c hq2
    have hqb3 := rowB_c hq3
    have xa : ag μ0 μ q := ag_BQ hq ha3 hf
    have xa2 : ag μ0 μ q2 := ag_BQ hq2 ha32 hf
    have x5 := ag_5 xa
    have x25 := ag_5 xa2
    have xst : μ 41 3 = μ0 41 3 := BQ_41 hq3 (by decide) hf
    have hG1 : rG μ q rm := rG_fr hG xa
    have hG21 : rG μ q2 rm2 := rG_fr hG2 xa2
    have hbs2 := hbs
    obtain ⟨hv1, hg1, ho1⟩ := hbs2
    have hv0 := hv1.1
    have hgb := gI_b (μ 41 6)
    have hg2 : 0 ≤ μ 41 6 ∧ μ 41 6 ≤ 5 := by unfold gOK at hg1; omega
    have xw9 : rwL μ q w9 := rwL_ag hw9 xa
    have xb9 : rwL μ q2 b9 := rwL_ag hb9 xa2
    have lw9 := xw9.2.2
    have lb9 := xb9.2.2
    have hLp : μ q 5 ≤ 1100 ∧ μ q2 5 ≤ 1100 := ⟨by omega, by omega⟩
    refine lv_iload hx hb dX0_build_22 (lv_at hl 0 rfl) ?_
    refine lv_ldc (v := iZ 1000000) hx hb hown (hts _ k818) dX0_build_24 ?_
    refine fz_icmp_ge (tgt := 165) (by constructor <;> omega) (by decide) hx hb dX0_build_26 (by decide) (fun c26_ => ?_) (fun c26_ => ?_)
    · exact hexit165 (tu) μ H locs ls (by exact hf) (by
                    exfalso
                    omega) (by exact hg1) (by
                    exfalso
                    omega) hP hS (lv_sub hl [1, 4] rfl)
    · refine lv_aload_n hx hb dX0_build_29 rfl (lv_at hl 4 rfl) ?_
      refine fz_get (D := (dC, dI)) (ci := 0) (v := .int (iZ (μ 41 4))) (C := RX0) (T := TX0) (N := 7) hx hb hts inG0 hown hK hP (k := 41) (by decide) (F := (sF41 h0)) sE_41 rfl 4 (by decide) (hts _ k186) (fun _ h9 => h9) rfl dX0_build_30 ?_
      refine lv_aload_n hx hb dX0_build_33 rfl (lv_at hl 3 rfl) ?_
      refine fz_get (D := (dC, dI)) (ci := 4) (v := .int (iZ (μ q 5))) (C := RX4) (T := TX4) (N := 8) hx hb hts inG4 hown hK hP (k := q) (by omega) (F := (sRF h0 q)) (sE_rowO hq) rfl 5 (by decide) (hts _ k94) (fun _ h9 => h9) rfl dX0_build_34 ?_
      refine fz_icmp_lt (tgt := 51) (by constructor <;> omega) (by constructor <;> omega) hx hb dX0_build_37 (by decide) (fun c37_ => ?_) (fun c37_ => ?_)
      · have hst := hLK.1
        have hvz : vis μ0 q q2 (μ 41 4) (μ 41 5) := by rw [← vis_eq xa xa2]; exact hv1
        have hco := hLK.2 _ _ hvz
        have x42 : ∀ y, μ 42 y = μ0 42 y := fun y => BQ_42 hq3 hf
        rw [← xst, ← x42, ← cO_eq xa xa2] at hco
        have hcb := hco.1
        unfold bnd at hcb
        have ml := mulC (i := μ 41 4) (s := μ 41 3) (by omega) (by omega) (by omega) (by omega)
        have hsa := hG1.1 (μ 41 4).toNat
        have hne : μ 41 4 < μ q 5 ∨ μ 41 5 < μ q2 5 := by omega
        have hev : μ 42 (μ 41 4 * μ 41 3 + μ 41 5).toNat = enc (sub w9 (μ 41 4).toNat) (sub b9 (μ 41 5).toNat) := by rw [x42, xst]; exact hLKv.2 _ _ hvz
        have hsg9 : μ 41 4 < μ q 5 → (μ (q + 1) (μ 41 4).toNat = 513 ↔ rk (sub w9 (μ 41 4).toNat) = 3) := fun h => (at_sg xw9 (by omega) h).2
        have hin9 : (μ 41 4).toNat < sL w9 ∨ (μ 41 5).toNat < sL b9 := by omega
        refine lv_aload_n hx hb dX0_build_51 rfl (lv_at hl 4 rfl) ?_
        refine fz_get (D := (dC, dI)) (ci := 0) (v := .ref (h0 + 42)) (C := RX0) (T := TX0) (N := 7) hx hb hts inG0 hown hK hP (k := 41) (by decide) (F := (sF41 h0)) sE_41 rfl 0 (by decide) (hts _ k182) (fun _ h9 => h9) rfl dX0_build_52 ?_
        refine lv_aload_n hx hb dX0_build_55 rfl (lv_at hl 4 rfl) ?_
        refine fz_get (D := (dC, dI)) (ci := 0) (v := .int (iZ (μ 41 4))) (C := RX0) (T := TX0) (N := 7) hx hb hts inG0 hown hK hP (k := 41) (by decide) (F := (sF41 h0)) sE_41 rfl 4 (by decide) (hts _ k186) (fun _ h9 => h9) rfl dX0_build_56 ?_
        refine lv_aload_n hx hb dX0_build_59 rfl (lv_at hl 4 rfl) ?_
        refine fz_get (D := (dC, dI)) (ci := 0) (v := .int (iZ (μ 41 3))) (C := RX0) (T := TX0) (N := 7) hx hb hts inG0 hown hK hP (k := 41) (by decide) (F := (sF41 h0)) sE_41 rfl 3 (by decide) (hts _ k185) (fun _ h9 => h9) rfl dX0_build_60 ?_
        refine lv_imul hx hb dX0_build_63 ?_
        refine lv_topi (fun x9 ex9 => ?_)
        obtain rfl : x9 = iZ ((μ 41 4) * (μ 41 3)) := ex9.trans (iZ_mul _ _)
        refine lv_aload_n hx hb dX0_build_64 rfl (lv_at hl 4 rfl) ?_
        refine fz_get (D := (dC, dI)) (ci := 0) (v := .int (iZ (μ 41 5))) (C := RX0) (T := TX0) (N := 7) hx hb hts inG0 hown hK hP (k := 41) (by decide) (F := (sF41 h0)) sE_41 rfl 5 (by decide) (hts _ k187) (fun _ h9 => h9) rfl dX0_build_65 ?_
        refine lv_iadd hx hb dX0_build_68 ?_
        refine lv_topi (fun x9 ex9 => ?_)
        obtain rfl : x9 = iZ (((μ 41 4) * (μ 41 3)) + (μ 41 5)) := ex9.trans (iZ_add _ _)
        refine fz_ld (k := 42) (n := 106797) hx hb hK hP 0 (by decide) sE_42 rfl ⟨by omega, by omega⟩ (by decide) dX0_build_69 ?_
        refine lv_iconst (v := iZ 1) hx hb dX0_build_70 rfl ?_
        refine lv_ishr hx hb dX0_build_71 ?_
        refine lv_topi (fun x9 ex9 => ?_)
        obtain ⟨z1, rfl, hz1⟩ := iZ_ex x9
        have ez1 := ex9; clear ex9
        have hs1 := shr1 hz1 (by constructor <;> omega) ez1
        refine lv_bipush (v := iZ 7) hx hb dX0_build_72 rfl ?_
        refine lv_iand hx hb dX0_build_74 ?_
        refine lv_topi (fun x9 ex9 => ?_)
        obtain ⟨z2, rfl, hz2⟩ := iZ_ex x9
        have ez2 := ex9; clear ex9
        have hs7 := and7 hz2 (by omega) ez2
        have hww := hco.2
        rw [← hs1, ← hs7] at hww
        have hwb : 0 ≤ z2 ∧ z2 ≤ 7 := by omega
        have hwz : wayOf (sub w9 (μ 41 4).toNat) (sub b9 (μ 41 5).toNat) = (z2).toNat := by
          have h9 := (enc_16 (sub w9 (μ 41 4).toNat) (sub b9 (μ 41 5).toNat)).2.2.1
          rw [← hev] at h9
          omega
        refine lv_istore (lv' := [(5, .int (iZ (z2))), (4, .int (iZ (tu))), (3, .ref (h0 + q3)), (2, .ref (h0 + q2)), (1, .ref (h0 + q)), (0, .ref (h0 + 41))]) hx hb dX0_build_75 hl (by decide) rfl (fun ls hl => ?_)
        refine lv_aload_n hx hb dX0_build_77 rfl (lv_at hl 5 rfl) ?_
        refine fz_get (D := (dC, dI)) (ci := 0) (v := .int (iZ (μ 41 6))) (C := RX0) (T := TX0) (N := 7) hx hb hts inG0 hown hK hP (k := 41) (by decide) (F := (sF41 h0)) sE_41 rfl 6 (by decide) (hts _ k188) (fun _ h9 => h9) rfl dX0_build_78 ?_
        refine fz_if_eq (tgt := 126) (by constructor <;> omega) hx hb dX0_build_81 (by decide) (fun c81_ => ?_) (fun c81_ => ?_)
        · have FN : fr (BQ q3) μ μ := fr_rfl
          have e4 : μ 41 4 = μ 41 4 := rfl
          have e5 : μ 41 5 = μ 41 5 := rfl
          have xb : ag μ μ q := ag_BQ hq ha3 FN
          have xb2 : ag μ μ q2 := ag_BQ hq2 ha32 FN
          have hGN : rG μ q rm := rG_fr hG1 xb
          have hG2N : rG μ q2 rm2 := rG_fr hG21 xb2
          have n5 := ag_5 xb
          have n25 := ag_5 xb2
          have nE := ag_E xb
          have nE2 := ag_E xb2
          have V126 : vis μ q q2 (μ 41 4) (μ 41 5) := hv1
          have W126 : wOK μ q q2 (μ 41 4) (μ 41 5) z2 := hww
          have O126 : outS μ q3 rm3 (Dp (μ (q + 1)) (μ 41 4).toNat + gI (μ 41 6)) := ho1
          have G126 : gOK (μ 41 6) := hg1
          have Z126 : z2 ≠ 4 → z2 ≠ 5 → μ 41 6 = 0 := fun h4 h5 => by unfold gOK at hg1; omega
          have C126 : cT μ q3 rm3 w9 b9 (z2).toNat (lsg (lrow w9 b9)) := cT_same hbT hin9 hwz (fun h => h.1 (by omega))
          have F126 : fr (BQ q3) μ0 μ := fr_trans hf FN
          have N126 : μ 41 4 < μ q 5 ∨ μ 41 5 < μ q2 5 := by omega
          have T126 : 0 ≤ tu ∧ tu ≤ μ 41 4 + μ 41 5 := by omega
          rcases (show z2 = 4 ∨ z2 = 5 ∨ (z2 ≠ 4 ∧ z2 ≠ 5) from by omega) with h4_ | h4_ | h4_
          · rw [h4_] at W126 C126 hl
            exact LX0_build_w4 hx hb hml hown hts hK hM hRf hRl hRc hRs μ0 q rm q2 rm2 q3 rm3 w9 b9 hq hq2 hq3 ha3 ha32 hG hG2 h96 hLK hLKv hw9 hb9 hF9 n9 tu μ  F126 V126 W126 O126 G126 N126 T126 C126 hm9 ih H locs ls hP hS hl
          · rw [h4_] at W126 C126 hl
            exact LX0_build_w5 hx hb hml hown hts hK hM hRf hRl hRc hRs μ0 q rm q2 rm2 q3 rm3 w9 b9 hq hq2 hq3 ha3 ha32 hG hG2 h96 hLK hLKv hw9 hb9 hF9 n9 tu μ  F126 V126 W126 O126 G126 N126 T126 C126 hm9 ih H locs ls hP hS hl
          · exact LX0_build_w1 hx hb hml hown hts hK hM hRf hRl hRc hRs μ0 q rm q2 rm2 q3 rm3 w9 b9 hq hq2 hq3 ha3 ha32 hG hG2 h96 hLK hLKv hw9 hb9 hF9 n9 tu μ (z2) (Z126 h4_.1 h4_.2) ⟨h4_.1, h4_.2, by omega, by omega⟩ F126 V126 W126 O126 G126 N126 T126 C126 hm9 ih H locs ls hP hS hl
        · refine lv_iload hx hb dX0_build_84 (lv_at hl 0 rfl) ?_
          refine lv_aload_n hx hb dX0_build_86 rfl (lv_at hl 5 rfl) ?_
          refine fz_get (D := (dC, dI)) (ci := 0) (v := .int (iZ (μ 41 6))) (C := RX0) (T := TX0) (N := 7) hx hb hts inG0 hown hK hP (k := 41) (by decide) (F := (sF41 h0)) sE_41 rfl 6 (by decide) (hts _ k188) (fun _ h9 => h9) rfl dX0_build_87 ?_
          refine fz_icmp_ne (tgt := 114) (by constructor <;> omega) (by constructor <;> omega) hx hb dX0_build_90 (by decide) (fun c90_ => ?_) (fun c90_ => ?_)
          · refine lv_aload_n hx hb dX0_build_114 rfl (lv_at hl 2 rfl) ?_
            refine lv_sipush (v := iZ 515) hx hb dX0_build_115 rfl ?_
            refine va_callv (va_runV (As := [.int (iZ (515))]) (rest := []) ⟨hx, hb, hml, hown, hts⟩ (s_Rput l dC dI cI cZ cII cIII h0 H.size μ (q3) (rm3) (515) (hq3) (by exact ho1.1)) (cwV 1 hts (gV_G k819 k411 k412 k3 k413) rfl rfl rfl (by decide +kernel) ⟨by show 1 + 1 ≤ _; omega, by show 8 + (2 + 11) + (14) ≤ _; omega⟩) ⟨fun a U g mk q => by obtain ⟨q0, q1, qP, qK, qM⟩ := q; exact ⟨q0, q1, qP, va_K.moved (u := U) (U := U.calling g mk a) (Vm.Alike.refl U.vm) qK, qM⟩, va_recv hK hP (ci := 4) (q0 := q3) rfl ((fw_get (by omega)).trans (by rw [(sE_rowO hq3)])), fun U hU hW => ⟨rfl, by rw [hU], by rw [hU]; exact hP, va_K.moved hW.alike hK, xM_warm hW hM⟩⟩ rfl rfl hl.1 rfl (lv_room (Nat.le_of_ble_eq_true rfl)) dX0_build_118 ⟨hRc, hRs⟩) hS (fun q _ h => fA_le hS.1 q h) (fA_le hS.1) (fun u9 t9 H1 locs ht9 hvm9 hw9 hB9 hz9 hk9 hS => ?_)
            obtain ⟨hP, -⟩ := hB9
            rw [ht9] at hP
            generalize H1 = H at hP hS ⊢
            obtain ⟨μo, eμo⟩ : ∃ x : va_M, x = u9 := ⟨_, rfl⟩
            rw [← eμo] at hP hw9
            have hμo := hw9; clear hw9
            obtain ⟨c1, c2⟩ := hμo
            have hDn := ((rG_bal hG1).2 (μ 41 4).toNat (by omega)).1
            rw [gI_n (by omega)] at ho1
            obtain ⟨o1_, f1_⟩ := outS_put ho1 (s := 515) (by unfold vS; omega) (by rw [dl_m]; omega) c1 c2
            rw [dl_m] at o1_
            refine lv_aload_n hx hb dX0_build_121 rfl (lv_at hl 5 rfl) ?_
            refine lv_iconst (v := iZ 0) hx hb dX0_build_122 rfl ?_
            refine fz_put (D := (dC, dI)) (ci := 0) (ty := .int) (z := 0) (C := RX0) (T := TX0) (N := 7) hx hb hts inG0 tyX0 tyX0_ok nmX0 hown hK hP fA_in hS (k := 41) (by decide) (F := (sF41 h0)) sE_41 rfl 6 (by decide) (hts _ k188) (fun _ h9 => h9) rfl (by decide +kernel) rfl rfl (fun _ => Nat.le_of_ble_eq_true rfl) (fun _ _ => rfl) dX0_build_123 (fun H locs hP hS => ?_)
            obtain ⟨μ3, eμ3⟩ : ∃ x : va_M, x = uz μo 41 6 (0) := ⟨_, rfl⟩
            rw [← eμ3] at hP
            have FN : fr (BQ q3) μ μ3 := by rw [eμ3]; exact fr_uz (fr_mono f1_ (fun x y h => Or.inl h)) (Or.inr ⟨rfl, by decide, by decide⟩)
            have e6 : μ3 41 6 = 0 := by rw [eμ3, uz_s]
            have e4 : μ3 41 4 = μ 41 4 := by rw [eμ3, uz_n (by decide)]; exact f1_ _ _ (n41 hq3)
            have e5 : μ3 41 5 = μ 41 5 := by rw [eμ3, uz_n (by decide)]; exact f1_ _ _ (n41 hq3)
            have hoN : outS μ3 q3 rm3 (Dp (μ (q + 1)) (μ 41 4).toNat) := outS_at (of_w hq3 rfl o1_ (by rw [eμ3])) (by omega)
            have xb : ag μ μ3 q := ag_BQ hq ha3 FN
            have xb2 : ag μ μ3 q2 := ag_BQ hq2 ha32 FN
            have hGN : rG μ3 q rm := rG_fr hG1 xb
            have hG2N : rG μ3 q2 rm2 := rG_fr hG21 xb2
            have n5 := ag_5 xb
            have n25 := ag_5 xb2
            have nE := ag_E xb
            have nE2 := ag_E xb2
            have V126 : vis μ3 q q2 (μ3 41 4) (μ3 41 5) := by rw [vis_eq xb xb2, e4, e5]; exact hv1
            have W126 : wOK μ3 q q2 (μ3 41 4) (μ3 41 5) z2 := by rw [wOK_eq xb xb2, e4, e5]; exact hww
            have O126 : outS μ3 q3 rm3 (Dp (μ3 (q + 1)) (μ3 41 4).toNat + gI (μ3 41 6)) := by rw [e6, gI_0, Int.add_zero, nE, e4]; exact hoN
            have G126 : gOK (μ3 41 6) := Or.inl e6
            have Z126 : z2 ≠ 4 → z2 ≠ 5 → μ3 41 6 = 0 := fun _ _ => e6
            have C126 : cT μ3 q3 rm3 w9 b9 (z2).toNat (lsg (lrow w9 b9)) := cT_close hbT hin9 hwz ⟨by omega, Or.inl (by omega)⟩ e4 e5 e6 (fun M9 oM9 => outT_fr (outT_put oM9 c1 c2) (by rw [eμ3, uz_n (r41c hq3)]) (by rw [eμ3, uz_n (r41c hq3)]) (fun y => by rw [eμ3, uz_n (r41b hq3)]))
            have F126 : fr (BQ q3) μ0 μ3 := fr_trans hf FN
            have N126 : μ3 41 4 < μ3 q 5 ∨ μ3 41 5 < μ3 q2 5 := by omega
            have T126 : 0 ≤ tu ∧ tu ≤ μ3 41 4 + μ3 41 5 := by omega
            rcases (show z2 = 4 ∨ z2 = 5 ∨ (z2 ≠ 4 ∧ z2 ≠ 5) from by omega) with h4_ | h4_ | h4_
            · rw [h4_] at W126 C126 hl
              exact LX0_build_w4 hx hb hml hown hts hK hM hRf hRl hRc hRs μ0 q rm q2 rm2 q3 rm3 w9 b9 hq hq2 hq3 ha3 ha32 hG hG2 h96 hLK hLKv hw9 hb9 hF9 n9 tu μ3  F126 V126 W126 O126 G126 N126 T126 C126 hm9 ih H locs ls hP hS hl
            · rw [h4_] at W126 C126 hl
              exact LX0_build_w5 hx hb hml hown hts hK hM hRf hRl hRc hRs μ0 q rm q2 rm2 q3 rm3 w9 b9 hq hq2 hq3 ha3 ha32 hG hG2 h96 hLK hLKv hw9 hb9 hF9 n9 tu μ3  F126 V126 W126 O126 G126 N126 T126 C126 hm9 ih H locs ls hP hS hl
            · exact LX0_build_w1 hx hb hml hown hts hK hM hRf hRl hRc hRs μ0 q rm q2 rm2 q3 rm3 w9 b9 hq hq2 hq3 ha3 ha32 hG hG2 h96 hLK hLKv hw9 hb9 hF9 n9 tu μ3 (z2) (Z126 h4_.1 h4_.2) ⟨h4_.1, h4_.2, by omega, by omega⟩ F126 V126 W126 O126 G126 N126 T126 C126 hm9 ih H locs ls hP hS hl
          · refine lv_iload hx hb dX0_build_93 (lv_at hl 0 rfl) ?_
            refine lv_iconst (v := iZ 4) hx hb dX0_build_95 rfl ?_
            refine fz_icmp_ne (tgt := 126) (by constructor <;> omega) (by decide) hx hb dX0_build_96 (by decide) (fun c96_ => ?_) (fun c96_ => ?_)
            · have FN : fr (BQ q3) μ μ := fr_rfl
              have e4 : μ 41 4 = μ 41 4 := rfl
              have e5 : μ 41 5 = μ 41 5 := rfl
              have xb : ag μ μ q := ag_BQ hq ha3 FN
              have xb2 : ag μ μ q2 := ag_BQ hq2 ha32 FN
              have hGN : rG μ q rm := rG_fr hG1 xb
              have hG2N : rG μ q2 rm2 := rG_fr hG21 xb2
              have n5 := ag_5 xb
              have n25 := ag_5 xb2
              have nE := ag_E xb
              have nE2 := ag_E xb2
              have V126 : vis μ q q2 (μ 41 4) (μ 41 5) := hv1
              have W126 : wOK μ q q2 (μ 41 4) (μ 41 5) z2 := hww
              have O126 : outS μ q3 rm3 (Dp (μ (q + 1)) (μ 41 4).toNat + gI (μ 41 6)) := ho1
              have G126 : gOK (μ 41 6) := hg1
              have Z126 : z2 ≠ 4 → z2 ≠ 5 → μ 41 6 = 0 := fun h4 h5 => by unfold gOK at hg1; omega
              have C126 : cT μ q3 rm3 w9 b9 (z2).toNat (lsg (lrow w9 b9)) := cT_same hbT hin9 hwz (by
                rintro ⟨-, h | h⟩
                · omega
                · first
                    | omega
                    | (have h8 := (hsg9 hil).mpr h.2
                       omega))
              have F126 : fr (BQ q3) μ0 μ := fr_trans hf FN
              have N126 : μ 41 4 < μ q 5 ∨ μ 41 5 < μ q2 5 := by omega
              have T126 : 0 ≤ tu ∧ tu ≤ μ 41 4 + μ 41 5 := by omega
              rcases (show z2 = 4 ∨ z2 = 5 ∨ (z2 ≠ 4 ∧ z2 ≠ 5) from by omega) with h4_ | h4_ | h4_
              · rw [h4_] at W126 C126 hl
                exact LX0_build_w4 hx hb hml hown hts hK hM hRf hRl hRc hRs μ0 q rm q2 rm2 q3 rm3 w9 b9 hq hq2 hq3 ha3 ha32 hG hG2 h96 hLK hLKv hw9 hb9 hF9 n9 tu μ  F126 V126 W126 O126 G126 N126 T126 C126 hm9 ih H locs ls hP hS hl
              · rw [h4_] at W126 C126 hl
                exact LX0_build_w5 hx hb hml hown hts hK hM hRf hRl hRc hRs μ0 q rm q2 rm2 q3 rm3 w9 b9 hq hq2 hq3 ha3 ha32 hG hG2 h96 hLK hLKv hw9 hb9 hF9 n9 tu μ  F126 V126 W126 O126 G126 N126 T126 C126 hm9 ih H locs ls hP hS hl
              · exact LX0_build_w1 hx hb hml hown hts hK hM hRf hRl hRc hRs μ0 q rm q2 rm2 q3 rm3 w9 b9 hq hq2 hq3 ha3 ha32 hG hG2 h96 hLK hLKv hw9 hb9 hF9 n9 tu μ (z2) (Z126 h4_.1 h4_.2) ⟨h4_.1, h4_.2, by omega, by omega⟩ F126 V126 W126 O126 G126 N126 T126 C126 hm9 ih H locs ls hP hS hl
            · have hil : μ 41 4 < μ q 5 := by
                rcases hww with h | h | h | h | h | h
                · exact absurd h.1 (by omega)
                · exact absurd h.1 (by omega)
                · exact absurd h.1 (by omega)
                · exact absurd h.1 (by omega)
                · exact h.2.1
                · exact absurd h.1 (by omega)
              refine lv_aload_n hx hb dX0_build_99 rfl (lv_at hl 4 rfl) ?_
              refine fz_get (D := (dC, dI)) (ci := 4) (v := .ref (h0 + (q + 1))) (C := RX4) (T := TX4) (N := 8) hx hb hts inG4 hown hK hP (k := q) (by omega) (F := (sRF h0 q)) (sE_rowO hq) rfl 0 (by decide) (hts _ k80) (fun _ h9 => h9) rfl dX0_build_100 ?_
              refine lv_aload_n hx hb dX0_build_103 rfl (lv_at hl 5 rfl) ?_
              refine fz_get (D := (dC, dI)) (ci := 0) (v := .int (iZ (μ 41 4))) (C := RX0) (T := TX0) (N := 7) hx hb hts inG0 hown hK hP (k := 41) (by decide) (F := (sF41 h0)) sE_41 rfl 4 (by decide) (hts _ k186) (fun _ h9 => h9) rfl dX0_build_104 ?_
              refine fz_ld (k := (q + 1)) (n := rm) hx hb hK hP 0 (by omega) (sE_rowA (r := 1) hq (by decide)) rfl ⟨by omega, by omega⟩ (by omega) dX0_build_107 ?_
              refine lv_sipush (v := iZ 513) hx hb dX0_build_108 rfl ?_
              refine fz_icmp_ne (tgt := 126) (by constructor <;> omega) (by decide) hx hb dX0_build_111 (by decide) (fun c111_ => ?_) (fun c111_ => ?_)
              · have FN : fr (BQ q3) μ μ := fr_rfl
                have e4 : μ 41 4 = μ 41 4 := rfl
                have e5 : μ 41 5 = μ 41 5 := rfl
                have xb : ag μ μ q := ag_BQ hq ha3 FN
                have xb2 : ag μ μ q2 := ag_BQ hq2 ha32 FN
                have hGN : rG μ q rm := rG_fr hG1 xb
                have hG2N : rG μ q2 rm2 := rG_fr hG21 xb2
                have n5 := ag_5 xb
                have n25 := ag_5 xb2
                have nE := ag_E xb
                have nE2 := ag_E xb2
                have V126 : vis μ q q2 (μ 41 4) (μ 41 5) := hv1
                have W126 : wOK μ q q2 (μ 41 4) (μ 41 5) z2 := hww
                have O126 : outS μ q3 rm3 (Dp (μ (q + 1)) (μ 41 4).toNat + gI (μ 41 6)) := ho1
                have G126 : gOK (μ 41 6) := hg1
                have Z126 : z2 ≠ 4 → z2 ≠ 5 → μ 41 6 = 0 := fun h4 h5 => by unfold gOK at hg1; omega
                have C126 : cT μ q3 rm3 w9 b9 (z2).toNat (lsg (lrow w9 b9)) := cT_same hbT hin9 hwz (by
                  rintro ⟨-, h | h⟩
                  · omega
                  · first
                      | omega
                      | (have h8 := (hsg9 hil).mpr h.2
                         omega))
                have F126 : fr (BQ q3) μ0 μ := fr_trans hf FN
                have N126 : μ 41 4 < μ q 5 ∨ μ 41 5 < μ q2 5 := by omega
                have T126 : 0 ≤ tu ∧ tu ≤ μ 41 4 + μ 41 5 := by omega
                rcases (show z2 = 4 ∨ z2 = 5 ∨ (z2 ≠ 4 ∧ z2 ≠ 5) from by omega) with h4_ | h4_ | h4_
                · rw [h4_] at W126 C126 hl
                  exact LX0_build_w4 hx hb hml hown hts hK hM hRf hRl hRc hRs μ0 q rm q2 rm2 q3 rm3 w9 b9 hq hq2 hq3 ha3 ha32 hG hG2 h96 hLK hLKv hw9 hb9 hF9 n9 tu μ  F126 V126 W126 O126 G126 N126 T126 C126 hm9 ih H locs ls hP hS hl
                · rw [h4_] at W126 C126 hl
                  exact LX0_build_w5 hx hb hml hown hts hK hM hRf hRl hRc hRs μ0 q rm q2 rm2 q3 rm3 w9 b9 hq hq2 hq3 ha3 ha32 hG hG2 h96 hLK hLKv hw9 hb9 hF9 n9 tu μ  F126 V126 W126 O126 G126 N126 T126 C126 hm9 ih H locs ls hP hS hl
                · exact LX0_build_w1 hx hb hml hown hts hK hM hRf hRl hRc hRs μ0 q rm q2 rm2 q3 rm3 w9 b9 hq hq2 hq3 ha3 ha32 hG hG2 h96 hLK hLKv hw9 hb9 hF9 n9 tu μ (z2) (Z126 h4_.1 h4_.2) ⟨h4_.1, h4_.2, by omega, by omega⟩ F126 V126 W126 O126 G126 N126 T126 C126 hm9 ih H locs ls hP hS hl
              · refine lv_aload_n hx hb dX0_build_114 rfl (lv_at hl 2 rfl) ?_
                refine lv_sipush (v := iZ 515) hx hb dX0_build_115 rfl ?_
                refine va_callv (va_runV (As := [.int (iZ (515))]) (rest := []) ⟨hx, hb, hml, hown, hts⟩ (s_Rput l dC dI cI cZ cII cIII h0 H.size μ (q3) (rm3) (515) (hq3) (by exact ho1.1)) (cwV 1 hts (gV_G k819 k411 k412 k3 k413) rfl rfl rfl (by decide +kernel) ⟨by show 1 + 1 ≤ _; omega, by show 8 + (2 + 11) + (14) ≤ _; omega⟩) ⟨fun a U g mk q => by obtain ⟨q0, q1, qP, qK, qM⟩ := q; exact ⟨q0, q1, qP, va_K.moved (u := U) (U := U.calling g mk a) (Vm.Alike.refl U.vm) qK, qM⟩, va_recv hK hP (ci := 4) (q0 := q3) rfl ((fw_get (by omega)).trans (by rw [(sE_rowO hq3)])), fun U hU hW => ⟨rfl, by rw [hU], by rw [hU]; exact hP, va_K.moved hW.alike hK, xM_warm hW hM⟩⟩ rfl rfl hl.1 rfl (lv_room (Nat.le_of_ble_eq_true rfl)) dX0_build_118 ⟨hRc, hRs⟩) hS (fun q _ h => fA_le hS.1 q h) (fA_le hS.1) (fun u9 t9 H1 locs ht9 hvm9 hw9 hB9 hz9 hk9 hS => ?_)
                obtain ⟨hP, -⟩ := hB9
                rw [ht9] at hP
                generalize H1 = H at hP hS ⊢
                obtain ⟨μo, eμo⟩ : ∃ x : va_M, x = u9 := ⟨_, rfl⟩
                rw [← eμo] at hP hw9
                have hμo := hw9; clear hw9
                obtain ⟨c1, c2⟩ := hμo
                have hDn := ((rG_bal hG1).2 (μ 41 4).toNat (by omega)).1
                rw [gI_n (by omega)] at ho1
                obtain ⟨o1_, f1_⟩ := outS_put ho1 (s := 515) (by unfold vS; omega) (by rw [dl_m]; omega) c1 c2
                rw [dl_m] at o1_
                refine lv_aload_n hx hb dX0_build_121 rfl (lv_at hl 5 rfl) ?_
                refine lv_iconst (v := iZ 0) hx hb dX0_build_122 rfl ?_
                refine fz_put (D := (dC, dI)) (ci := 0) (ty := .int) (z := 0) (C := RX0) (T := TX0) (N := 7) hx hb hts inG0 tyX0 tyX0_ok nmX0 hown hK hP fA_in hS (k := 41) (by decide) (F := (sF41 h0)) sE_41 rfl 6 (by decide) (hts _ k188) (fun _ h9 => h9) rfl (by decide +kernel) rfl rfl (fun _ => Nat.le_of_ble_eq_true rfl) (fun _ _ => rfl) dX0_build_123 (fun H locs hP hS => ?_)
                obtain ⟨μ4, eμ4⟩ : ∃ x : va_M, x = uz μo 41 6 (0) := ⟨_, rfl⟩
                rw [← eμ4] at hP
                have FN : fr (BQ q3) μ μ4 := by rw [eμ4]; exact fr_uz (fr_mono f1_ (fun x y h => Or.inl h)) (Or.inr ⟨rfl, by decide, by decide⟩)
                have e6 : μ4 41 6 = 0 := by rw [eμ4, uz_s]
                have e4 : μ4 41 4 = μ 41 4 := by rw [eμ4, uz_n (by decide)]; exact f1_ _ _ (n41 hq3)
                have e5 : μ4 41 5 = μ 41 5 := by rw [eμ4, uz_n (by decide)]; exact f1_ _ _ (n41 hq3)
                have hoN : outS μ4 q3 rm3 (Dp (μ (q + 1)) (μ 41 4).toNat) := outS_at (of_w hq3 rfl o1_ (by rw [eμ4])) (by omega)
                have xb : ag μ μ4 q := ag_BQ hq ha3 FN
                have xb2 : ag μ μ4 q2 := ag_BQ hq2 ha32 FN
                have hGN : rG μ4 q rm := rG_fr hG1 xb
                have hG2N : rG μ4 q2 rm2 := rG_fr hG21 xb2
                have n5 := ag_5 xb
                have n25 := ag_5 xb2
                have nE := ag_E xb
                have nE2 := ag_E xb2
                have V126 : vis μ4 q q2 (μ4 41 4) (μ4 41 5) := by rw [vis_eq xb xb2, e4, e5]; exact hv1
                have W126 : wOK μ4 q q2 (μ4 41 4) (μ4 41 5) z2 := by rw [wOK_eq xb xb2, e4, e5]; exact hww
                have O126 : outS μ4 q3 rm3 (Dp (μ4 (q + 1)) (μ4 41 4).toNat + gI (μ4 41 6)) := by rw [e6, gI_0, Int.add_zero, nE, e4]; exact hoN
                have G126 : gOK (μ4 41 6) := Or.inl e6
                have Z126 : z2 ≠ 4 → z2 ≠ 5 → μ4 41 6 = 0 := fun _ _ => e6
                have C126 : cT μ4 q3 rm3 w9 b9 (z2).toNat (lsg (lrow w9 b9)) := cT_close hbT hin9 hwz ⟨by omega, Or.inr ⟨by omega, (hsg9 hil).mp (by omega)⟩⟩ e4 e5 e6 (fun M9 oM9 => outT_fr (outT_put oM9 c1 c2) (by rw [eμ4, uz_n (r41c hq3)]) (by rw [eμ4, uz_n (r41c hq3)]) (fun y => by rw [eμ4, uz_n (r41b hq3)]))
                have F126 : fr (BQ q3) μ0 μ4 := fr_trans hf FN
                have N126 : μ4 41 4 < μ4 q 5 ∨ μ4 41 5 < μ4 q2 5 := by omega
                have T126 : 0 ≤ tu ∧ tu ≤ μ4 41 4 + μ4 41 5 := by omega
                rcases (show z2 = 4 ∨ z2 = 5 ∨ (z2 ≠ 4 ∧ z2 ≠ 5) from by omega) with h4_ | h4_ | h4_
                · rw [h4_] at W126 C126 hl
                  exact LX0_build_w4 hx hb hml hown hts hK hM hRf hRl hRc hRs μ0 q rm q2 rm2 q3 rm3 w9 b9 hq hq2 hq3 ha3 ha32 hG hG2 h96 hLK hLKv hw9 hb9 hF9 n9 tu μ4  F126 V126 W126 O126 G126 N126 T126 C126 hm9 ih H locs ls hP hS hl
                · rw [h4_] at W126 C126 hl
                  exact LX0_build_w5 hx hb hml hown hts hK hM hRf hRl hRc hRs μ0 q rm q2 rm2 q3 rm3 w9 b9 hq hq2 hq3 ha3 ha32 hG hG2 h96 hLK hLKv hw9 hb9 hF9 n9 tu μ4  F126 V126 W126 O126 G126 N126 T126 C126 hm9 ih H locs ls hP hS hl
                · exact LX0_build_w1 hx hb hml hown hts hK hM hRf hRl hRc hRs μ0 q rm q2 rm2 q3 rm3 w9 b9 hq hq2 hq3 ha3 ha32 hG hG2 h96 hLK hLKv hw9 hb9 hF9 n9 tu μ4 (z2) (Z126 h4_.1 h4_.2) ⟨h4_.1, h4_.2, by omega, by omega⟩ F126 V126 W126 O126 G126 N126 T126 C126 hm9 ih H locs ls hP hS hl
      · refine lv_aload_n hx hb dX0_build_40 rfl (lv_at hl 4 rfl) ?_
        refine fz_get (D := (dC, dI)) (ci := 0) (v := .int (iZ (μ 41 5))) (C := RX0) (T := TX0) (N := 7) hx hb hts inG0 hown hK hP (k := 41) (by decide) (F := (sF41 h0)) sE_41 rfl 5 (by decide) (hts _ k187) (fun _ h9 => h9) rfl dX0_build_41 ?_
        refine lv_aload_n hx hb dX0_build_44 rfl (lv_at hl 2 rfl) ?_
        refine fz_get (D := (dC, dI)) (ci := 4) (v := .int (iZ (μ q2 5))) (C := RX4) (T := TX4) (N := 8) hx hb hts inG4 hown hK hP (k := q2) (by omega) (F := (sRF h0 q2)) (sE_rowO hq2) rfl 5 (by decide) (hts _ k94) (fun _ h9 => h9) rfl dX0_build_45 ?_
        refine fz_icmp_ge (tgt := 165) (by constructor <;> omega) (by constructor <;> omega) hx hb dX0_build_48 (by decide) (fun c48_ => ?_) (fun c48_ => ?_)
        · exact hexit165 (tu) μ H locs ls (by exact hf) (by
                            have hz : Dp (μ (q + 1)) (μ 41 4).toNat = 0 := by
                              rw [show (μ 41 4).toNat = (μ q 5).toNat by omega]; exact (rG_bal hG1).1
                            rw [hz, Int.zero_add] at ho1
                            exact ho1) (by exact hg1) (by
                            obtain ⟨M_, f_, oM_, rm_, Te_⟩ := hbT
                            obtain ⟨f0, rfl⟩ : ∃ f0, f_ = f0 + 1 := ⟨f_ - 1, by omega⟩
                            rw [BLD_E (by omega)] at Te_
                            exact ⟨M_, oM_, Te_⟩) hP hS (lv_sub hl [1, 4] rfl)
        · have hst := hLK.1
          have hvz : vis μ0 q q2 (μ 41 4) (μ 41 5) := by rw [← vis_eq xa xa2]; exact hv1
          have hco := hLK.2 _ _ hvz
          have x42 : ∀ y, μ 42 y = μ0 42 y := fun y => BQ_42 hq3 hf
          rw [← xst, ← x42, ← cO_eq xa xa2] at hco
          have hcb := hco.1
          unfold bnd at hcb
          have ml := mulC (i := μ 41 4) (s := μ 41 3) (by omega) (by omega) (by omega) (by omega)
          have hsa := hG1.1 (μ 41 4).toNat
          have hne : μ 41 4 < μ q 5 ∨ μ 41 5 < μ q2 5 := by omega
          have hev : μ 42 (μ 41 4 * μ 41 3 + μ 41 5).toNat = enc (sub w9 (μ 41 4).toNat) (sub b9 (μ 41 5).toNat) := by rw [x42, xst]; exact hLKv.2 _ _ hvz
          have hsg9 : μ 41 4 < μ q 5 → (μ (q + 1) (μ 41 4).toNat = 513 ↔ rk (sub w9 (μ 41 4).toNat) = 3) := fun h => (at_sg xw9 (by omega) h).2
          have hin9 : (μ 41 4).toNat < sL w9 ∨ (μ 41 5).toNat < sL b9 := by omega
          refine lv_aload_n hx hb dX0_build_51 rfl (lv_at hl 4 rfl) ?_
          refine fz_get (D := (dC, dI)) (ci := 0) (v := .ref (h0 + 42)) (C := RX0) (T := TX0) (N := 7) hx hb hts inG0 hown hK hP (k := 41) (by decide) (F := (sF41 h0)) sE_41 rfl 0 (by decide) (hts _ k182) (fun _ h9 => h9) rfl dX0_build_52 ?_
          refine lv_aload_n hx hb dX0_build_55 rfl (lv_at hl 4 rfl) ?_
          refine fz_get (D := (dC, dI)) (ci := 0) (v := .int (iZ (μ 41 4))) (C := RX0) (T := TX0) (N := 7) hx hb hts inG0 hown hK hP (k := 41) (by decide) (F := (sF41 h0)) sE_41 rfl 4 (by decide) (hts _ k186) (fun _ h9 => h9) rfl dX0_build_56 ?_
          refine lv_aload_n hx hb dX0_build_59 rfl (lv_at hl 4 rfl) ?_
          refine fz_get (D := (dC, dI)) (ci := 0) (v := .int (iZ (μ 41 3))) (C := RX0) (T := TX0) (N := 7) hx hb hts inG0 hown hK hP (k := 41) (by decide) (F := (sF41 h0)) sE_41 rfl 3 (by decide) (hts _ k185) (fun _ h9 => h9) rfl dX0_build_60 ?_
          refine lv_imul hx hb dX0_build_63 ?_
          refine lv_topi (fun x9 ex9 => ?_)
          obtain rfl : x9 = iZ ((μ 41 4) * (μ 41 3)) := ex9.trans (iZ_mul _ _)
          refine lv_aload_n hx hb dX0_build_64 rfl (lv_at hl 4 rfl) ?_
          refine fz_get (D := (dC, dI)) (ci := 0) (v := .int (iZ (μ 41 5))) (C := RX0) (T := TX0) (N := 7) hx hb hts inG0 hown hK hP (k := 41) (by decide) (F := (sF41 h0)) sE_41 rfl 5 (by decide) (hts _ k187) (fun _ h9 => h9) rfl dX0_build_65 ?_
          refine lv_iadd hx hb dX0_build_68 ?_
          refine lv_topi (fun x9 ex9 => ?_)
          obtain rfl : x9 = iZ (((μ 41 4) * (μ 41 3)) + (μ 41 5)) := ex9.trans (iZ_add _ _)
          refine fz_ld (k := 42) (n := 106797) hx hb hK hP 0 (by decide) sE_42 rfl ⟨by omega, by omega⟩ (by decide) dX0_build_69 ?_
          refine lv_iconst (v := iZ 1) hx hb dX0_build_70 rfl ?_
          refine lv_ishr hx hb dX0_build_71 ?_
          refine lv_topi (fun x9 ex9 => ?_)
          obtain ⟨z5, rfl, hz5⟩ := iZ_ex x9
          have ez5 := ex9; clear ex9
          have hs1 := shr1 hz5 (by constructor <;> omega) ez5
          refine lv_bipush (v := iZ 7) hx hb dX0_build_72 rfl ?_
          refine lv_iand hx hb dX0_build_74 ?_
          refine lv_topi (fun x9 ex9 => ?_)
          obtain ⟨z6, rfl, hz6⟩ := iZ_ex x9
          have ez6 := ex9; clear ex9
          have hs7 := and7 hz6 (by omega) ez6
          have hww := hco.2
          rw [← hs1, ← hs7] at hww
          have hwb : 0 ≤ z6 ∧ z6 ≤ 7 := by omega
          have hwz : wayOf (sub w9 (μ 41 4).toNat) (sub b9 (μ 41 5).toNat) = (z6).toNat := by
            have h9 := (enc_16 (sub w9 (μ 41 4).toNat) (sub b9 (μ 41 5).toNat)).2.2.1
            rw [← hev] at h9
            omega
          refine lv_istore (lv' := [(5, .int (iZ (z6))), (4, .int (iZ (tu))), (3, .ref (h0 + q3)), (2, .ref (h0 + q2)), (1, .ref (h0 + q)), (0, .ref (h0 + 41))]) hx hb dX0_build_75 hl (by decide) rfl (fun ls hl => ?_)
          refine lv_aload_n hx hb dX0_build_77 rfl (lv_at hl 5 rfl) ?_
          refine fz_get (D := (dC, dI)) (ci := 0) (v := .int (iZ (μ 41 6))) (C := RX0) (T := TX0) (N := 7) hx hb hts inG0 hown hK hP (k := 41) (by decide) (F := (sF41 h0)) sE_41 rfl 6 (by decide) (hts _ k188) (fun _ h9 => h9) rfl dX0_build_78 ?_
          refine fz_if_eq (tgt := 126) (by constructor <;> omega) hx hb dX0_build_81 (by decide) (fun c81_ => ?_) (fun c81_ => ?_)
          · have FN : fr (BQ q3) μ μ := fr_rfl
            have e4 : μ 41 4 = μ 41 4 := rfl
            have e5 : μ 41 5 = μ 41 5 := rfl
            have xb : ag μ μ q := ag_BQ hq ha3 FN
            have xb2 : ag μ μ q2 := ag_BQ hq2 ha32 FN
            have hGN : rG μ q rm := rG_fr hG1 xb
            have hG2N : rG μ q2 rm2 := rG_fr hG21 xb2
            have n5 := ag_5 xb
            have n25 := ag_5 xb2
            have nE := ag_E xb
            have nE2 := ag_E xb2
            have V126 : vis μ q q2 (μ 41 4) (μ 41 5) := hv1
            have W126 : wOK μ q q2 (μ 41 4) (μ 41 5) z6 := hww
            have O126 : outS μ q3 rm3 (Dp (μ (q + 1)) (μ 41 4).toNat + gI (μ 41 6)) := ho1
            have G126 : gOK (μ 41 6) := hg1
            have Z126 : z6 ≠ 4 → z6 ≠ 5 → μ 41 6 = 0 := fun h4 h5 => by unfold gOK at hg1; omega
            have C126 : cT μ q3 rm3 w9 b9 (z6).toNat (lsg (lrow w9 b9)) := cT_same hbT hin9 hwz (fun h => h.1 (by omega))
            have F126 : fr (BQ q3) μ0 μ := fr_trans hf FN
            have N126 : μ 41 4 < μ q 5 ∨ μ 41 5 < μ q2 5 := by omega
            have T126 : 0 ≤ tu ∧ tu ≤ μ 41 4 + μ 41 5 := by omega
            rcases (show z6 = 4 ∨ z6 = 5 ∨ (z6 ≠ 4 ∧ z6 ≠ 5) from by omega) with h4_ | h4_ | h4_
            · rw [h4_] at W126 C126 hl
              exact LX0_build_w4 hx hb hml hown hts hK hM hRf hRl hRc hRs μ0 q rm q2 rm2 q3 rm3 w9 b9 hq hq2 hq3 ha3 ha32 hG hG2 h96 hLK hLKv hw9 hb9 hF9 n9 tu μ  F126 V126 W126 O126 G126 N126 T126 C126 hm9 ih H locs ls hP hS hl
            · rw [h4_] at W126 C126 hl
              exact LX0_build_w5 hx hb hml hown hts hK hM hRf hRl hRc hRs μ0 q rm q2 rm2 q3 rm3 w9 b9 hq hq2 hq3 ha3 ha32 hG hG2 h96 hLK hLKv hw9 hb9 hF9 n9 tu μ  F126 V126 W126 O126 G126 N126 T126 C126 hm9 ih H locs ls hP hS hl
            · exact LX0_build_w1 hx hb hml hown hts hK hM hRf hRl hRc hRs μ0 q rm q2 rm2 q3 rm3 w9 b9 hq hq2 hq3 ha3 ha32 hG hG2 h96 hLK hLKv hw9 hb9 hF9 n9 tu μ (z6) (Z126 h4_.1 h4_.2) ⟨h4_.1, h4_.2, by omega, by omega⟩ F126 V126 W126 O126 G126 N126 T126 C126 hm9 ih H locs ls hP hS hl
          · refine lv_iload hx hb dX0_build_84 (lv_at hl 0 rfl) ?_
            refine lv_aload_n hx hb dX0_build_86 rfl (lv_at hl 5 rfl) ?_
            refine fz_get (D := (dC, dI)) (ci := 0) (v := .int (iZ (μ 41 6))) (C := RX0) (T := TX0) (N := 7) hx hb hts inG0 hown hK hP (k := 41) (by decide) (F := (sF41 h0)) sE_41 rfl 6 (by decide) (hts _ k188) (fun _ h9 => h9) rfl dX0_build_87 ?_
            refine fz_icmp_ne (tgt := 114) (by constructor <;> omega) (by constructor <;> omega) hx hb dX0_build_90 (by decide) (fun c90_ => ?_) (fun c90_ => ?_)
            · refine lv_aload_n hx hb dX0_build_114 rfl (lv_at hl 2 rfl) ?_
              refine lv_sipush (v := iZ 515) hx hb dX0_build_115 rfl ?_
              refine va_callv (va_runV (As := [.int (iZ (515))]) (rest := []) ⟨hx, hb, hml, hown, hts⟩ (s_Rput l dC dI cI cZ cII cIII h0 H.size μ (q3) (rm3) (515) (hq3) (by exact ho1.1)) (cwV 1 hts (gV_G k819 k411 k412 k3 k413) rfl rfl rfl (by decide +kernel) ⟨by show 1 + 1 ≤ _; omega, by show 8 + (2 + 11) + (14) ≤ _; omega⟩) ⟨fun a U g mk q => by obtain ⟨q0, q1, qP, qK, qM⟩ := q; exact ⟨q0, q1, qP, va_K.moved (u := U) (U := U.calling g mk a) (Vm.Alike.refl U.vm) qK, qM⟩, va_recv hK hP (ci := 4) (q0 := q3) rfl ((fw_get (by omega)).trans (by rw [(sE_rowO hq3)])), fun U hU hW => ⟨rfl, by rw [hU], by rw [hU]; exact hP, va_K.moved hW.alike hK, xM_warm hW hM⟩⟩ rfl rfl hl.1 rfl (lv_room (Nat.le_of_ble_eq_true rfl)) dX0_build_118 ⟨hRc, hRs⟩) hS (fun q _ h => fA_le hS.1 q h) (fA_le hS.1) (fun u9 t9 H1 locs ht9 hvm9 hw9 hB9 hz9 hk9 hS => ?_)
              obtain ⟨hP, -⟩ := hB9
              rw [ht9] at hP
              generalize H1 = H at hP hS ⊢
              obtain ⟨μo, eμo⟩ : ∃ x : va_M, x = u9 := ⟨_, rfl⟩
              rw [← eμo] at hP hw9
              have hμo := hw9; clear hw9
              obtain ⟨c1, c2⟩ := hμo
              have hDn := ((rG_bal hG1).2 (μ 41 4).toNat (by omega)).1
              rw [gI_n (by omega)] at ho1
              obtain ⟨o1_, f1_⟩ := outS_put ho1 (s := 515) (by unfold vS; omega) (by rw [dl_m]; omega) c1 c2
              rw [dl_m] at o1_
              refine lv_aload_n hx hb dX0_build_121 rfl (lv_at hl 5 rfl) ?_
              refine lv_iconst (v := iZ 0) hx hb dX0_build_122 rfl ?_
              refine fz_put (D := (dC, dI)) (ci := 0) (ty := .int) (z := 0) (C := RX0) (T := TX0) (N := 7) hx hb hts inG0 tyX0 tyX0_ok nmX0 hown hK hP fA_in hS (k := 41) (by decide) (F := (sF41 h0)) sE_41 rfl 6 (by decide) (hts _ k188) (fun _ h9 => h9) rfl (by decide +kernel) rfl rfl (fun _ => Nat.le_of_ble_eq_true rfl) (fun _ _ => rfl) dX0_build_123 (fun H locs hP hS => ?_)
              obtain ⟨μ7, eμ7⟩ : ∃ x : va_M, x = uz μo 41 6 (0) := ⟨_, rfl⟩
              rw [← eμ7] at hP
              have FN : fr (BQ q3) μ μ7 := by rw [eμ7]; exact fr_uz (fr_mono f1_ (fun x y h => Or.inl h)) (Or.inr ⟨rfl, by decide, by decide⟩)
              have e6 : μ7 41 6 = 0 := by rw [eμ7, uz_s]
              have e4 : μ7 41 4 = μ 41 4 := by rw [eμ7, uz_n (by decide)]; exact f1_ _ _ (n41 hq3)
              have e5 : μ7 41 5 = μ 41 5 := by rw [eμ7, uz_n (by decide)]; exact f1_ _ _ (n41 hq3)
              have hoN : outS μ7 q3 rm3 (Dp (μ (q + 1)) (μ 41 4).toNat) := outS_at (of_w hq3 rfl o1_ (by rw [eμ7])) (by omega)
              have xb : ag μ μ7 q := ag_BQ hq ha3 FN
              have xb2 : ag μ μ7 q2 := ag_BQ hq2 ha32 FN
              have hGN : rG μ7 q rm := rG_fr hG1 xb
              have hG2N : rG μ7 q2 rm2 := rG_fr hG21 xb2
              have n5 := ag_5 xb
              have n25 := ag_5 xb2
              have nE := ag_E xb
              have nE2 := ag_E xb2
              have V126 : vis μ7 q q2 (μ7 41 4) (μ7 41 5) := by rw [vis_eq xb xb2, e4, e5]; exact hv1
              have W126 : wOK μ7 q q2 (μ7 41 4) (μ7 41 5) z6 := by rw [wOK_eq xb xb2, e4, e5]; exact hww
              have O126 : outS μ7 q3 rm3 (Dp (μ7 (q + 1)) (μ7 41 4).toNat + gI (μ7 41 6)) := by rw [e6, gI_0, Int.add_zero, nE, e4]; exact hoN
              have G126 : gOK (μ7 41 6) := Or.inl e6
              have Z126 : z6 ≠ 4 → z6 ≠ 5 → μ7 41 6 = 0 := fun _ _ => e6
              have C126 : cT μ7 q3 rm3 w9 b9 (z6).toNat (lsg (lrow w9 b9)) := cT_close hbT hin9 hwz ⟨by omega, Or.inl (by omega)⟩ e4 e5 e6 (fun M9 oM9 => outT_fr (outT_put oM9 c1 c2) (by rw [eμ7, uz_n (r41c hq3)]) (by rw [eμ7, uz_n (r41c hq3)]) (fun y => by rw [eμ7, uz_n (r41b hq3)]))
              have F126 : fr (BQ q3) μ0 μ7 := fr_trans hf FN
              have N126 : μ7 41 4 < μ7 q 5 ∨ μ7 41 5 < μ7 q2 5 := by omega
              have T126 : 0 ≤ tu ∧ tu ≤ μ7 41 4 + μ7 41 5 := by omega
              rcases (show z6 = 4 ∨ z6 = 5 ∨ (z6 ≠ 4 ∧ z6 ≠ 5) from by omega) with h4_ | h4_ | h4_
              · rw [h4_] at W126 C126 hl
                exact LX0_build_w4 hx hb hml hown hts hK hM hRf hRl hRc hRs μ0 q rm q2 rm2 q3 rm3 w9 b9 hq hq2 hq3 ha3 ha32 hG hG2 h96 hLK hLKv hw9 hb9 hF9 n9 tu μ7  F126 V126 W126 O126 G126 N126 T126 C126 hm9 ih H locs ls hP hS hl
              · rw [h4_] at W126 C126 hl
                exact LX0_build_w5 hx hb hml hown hts hK hM hRf hRl hRc hRs μ0 q rm q2 rm2 q3 rm3 w9 b9 hq hq2 hq3 ha3 ha32 hG hG2 h96 hLK hLKv hw9 hb9 hF9 n9 tu μ7  F126 V126 W126 O126 G126 N126 T126 C126 hm9 ih H locs ls hP hS hl
              · exact LX0_build_w1 hx hb hml hown hts hK hM hRf hRl hRc hRs μ0 q rm q2 rm2 q3 rm3 w9 b9 hq hq2 hq3 ha3 ha32 hG hG2 h96 hLK hLKv hw9 hb9 hF9 n9 tu μ7 (z6) (Z126 h4_.1 h4_.2) ⟨h4_.1, h4_.2, by omega, by omega⟩ F126 V126 W126 O126 G126 N126 T126 C126 hm9 ih H locs ls hP hS hl
            · refine lv_iload hx hb dX0_build_93 (lv_at hl 0 rfl) ?_
              refine lv_iconst (v := iZ 4) hx hb dX0_build_95 rfl ?_
              refine fz_icmp_ne (tgt := 126) (by constructor <;> omega) (by decide) hx hb dX0_build_96 (by decide) (fun c96_ => ?_) (fun c96_ => ?_)
              · have FN : fr (BQ q3) μ μ := fr_rfl
                have e4 : μ 41 4 = μ 41 4 := rfl
                have e5 : μ 41 5 = μ 41 5 := rfl
                have xb : ag μ μ q := ag_BQ hq ha3 FN
                have xb2 : ag μ μ q2 := ag_BQ hq2 ha32 FN
                have hGN : rG μ q rm := rG_fr hG1 xb
                have hG2N : rG μ q2 rm2 := rG_fr hG21 xb2
                have n5 := ag_5 xb
                have n25 := ag_5 xb2
                have nE := ag_E xb
                have nE2 := ag_E xb2
                have V126 : vis μ q q2 (μ 41 4) (μ 41 5) := hv1
                have W126 : wOK μ q q2 (μ 41 4) (μ 41 5) z6 := hww
                have O126 : outS μ q3 rm3 (Dp (μ (q + 1)) (μ 41 4).toNat + gI (μ 41 6)) := ho1
                have G126 : gOK (μ 41 6) := hg1
                have Z126 : z6 ≠ 4 → z6 ≠ 5 → μ 41 6 = 0 := fun h4 h5 => by unfold gOK at hg1; omega
                have C126 : cT μ q3 rm3 w9 b9 (z6).toNat (lsg (lrow w9 b9)) := cT_same hbT hin9 hwz (by
                  rintro ⟨-, h | h⟩
                  · omega
                  · first
                      | omega
                      | (have h8 := (hsg9 hil).mpr h.2
                         omega))
                have F126 : fr (BQ q3) μ0 μ := fr_trans hf FN
                have N126 : μ 41 4 < μ q 5 ∨ μ 41 5 < μ q2 5 := by omega
                have T126 : 0 ≤ tu ∧ tu ≤ μ 41 4 + μ 41 5 := by omega
                rcases (show z6 = 4 ∨ z6 = 5 ∨ (z6 ≠ 4 ∧ z6 ≠ 5) from by omega) with h4_ | h4_ | h4_
                · rw [h4_] at W126 C126 hl
                  exact LX0_build_w4 hx hb hml hown hts hK hM hRf hRl hRc hRs μ0 q rm q2 rm2 q3 rm3 w9 b9 hq hq2 hq3 ha3 ha32 hG hG2 h96 hLK hLKv hw9 hb9 hF9 n9 tu μ  F126 V126 W126 O126 G126 N126 T126 C126 hm9 ih H locs ls hP hS hl
                · rw [h4_] at W126 C126 hl
                  exact LX0_build_w5 hx hb hml hown hts hK hM hRf hRl hRc hRs μ0 q rm q2 rm2 q3 rm3 w9 b9 hq hq2 hq3 ha3 ha32 hG hG2 h96 hLK hLKv hw9 hb9 hF9 n9 tu μ  F126 V126 W126 O126 G126 N126 T126 C126 hm9 ih H locs ls hP hS hl
                · exact LX0_build_w1 hx hb hml hown hts hK hM hRf hRl hRc hRs μ0 q rm q2 rm2 q3 rm3 w9 b9 hq hq2 hq3 ha3 ha32 hG hG2 h96 hLK hLKv hw9 hb9 hF9 n9 tu μ (z6) (Z126 h4_.1 h4_.2) ⟨h4_.1, h4_.2, by omega, by omega⟩ F126 V126 W126 O126 G126 N126 T126 C126 hm9 ih H locs ls hP hS hl
              · have hil : μ 41 4 < μ q 5 := by
                  rcases hww with h | h | h | h | h | h
                  · exact absurd h.1 (by omega)
                  · exact absurd h.1 (by omega)
                  · exact absurd h.1 (by omega)
                  · exact absurd h.1 (by omega)
                  · exact h.2.1
                  · exact absurd h.1 (by omega)
                refine lv_aload_n hx hb dX0_build_99 rfl (lv_at hl 4 rfl) ?_
                refine fz_get (D := (dC, dI)) (ci := 4) (v := .ref (h0 + (q + 1))) (C := RX4) (T := TX4) (N := 8) hx hb hts inG4 hown hK hP (k := q) (by omega) (F := (sRF h0 q)) (sE_rowO hq) rfl 0 (by decide) (hts _ k80) (fun _ h9 => h9) rfl dX0_build_100 ?_
                refine lv_aload_n hx hb dX0_build_103 rfl (lv_at hl 5 rfl) ?_
                refine fz_get (D := (dC, dI)) (ci := 0) (v := .int (iZ (μ 41 4))) (C := RX0) (T := TX0) (N := 7) hx hb hts inG0 hown hK hP (k := 41) (by decide) (F := (sF41 h0)) sE_41 rfl 4 (by decide) (hts _ k186) (fun _ h9 => h9) rfl dX0_build_104 ?_
                refine fz_ld (k := (q + 1)) (n := rm) hx hb hK hP 0 (by omega) (sE_rowA (r := 1) hq (by decide)) rfl ⟨by omega, by omega⟩ (by omega) dX0_build_107 ?_
                refine lv_sipush (v := iZ 513) hx hb dX0_build_108 rfl ?_
                refine fz_icmp_ne (tgt := 126) (by constructor <;> omega) (by decide) hx hb dX0_build_111 (by decide) (fun c111_ => ?_) (fun c111_ => ?_)
                · have FN : fr (BQ q3) μ μ := fr_rfl
                  have e4 : μ 41 4 = μ 41 4 := rfl
                  have e5 : μ 41 5 = μ 41 5 := rfl
                  have xb : ag μ μ q := ag_BQ hq ha3 FN
                  have xb2 : ag μ μ q2 := ag_BQ hq2 ha32 FN
                  have hGN : rG μ q rm := rG_fr hG1 xb
                  have hG2N : rG μ q2 rm2 := rG_fr hG21 xb2
                  have n5 := ag_5 xb
                  have n25 := ag_5 xb2
                  have nE := ag_E xb
                  have nE2 := ag_E xb2
                  have V126 : vis μ q q2 (μ 41 4) (μ 41 5) := hv1
                  have W126 : wOK μ q q2 (μ 41 4) (μ 41 5) z6 := hww
                  have O126 : outS μ q3 rm3 (Dp (μ (q + 1)) (μ 41 4).toNat + gI (μ 41 6)) := ho1
                  have G126 : gOK (μ 41 6) := hg1
                  have Z126 : z6 ≠ 4 → z6 ≠ 5 → μ 41 6 = 0 := fun h4 h5 => by unfold gOK at hg1; omega
                  have C126 : cT μ q3 rm3 w9 b9 (z6).toNat (lsg (lrow w9 b9)) := cT_same hbT hin9 hwz (by
                    rintro ⟨-, h | h⟩
                    · omega
                    · first
                        | omega
                        | (have h8 := (hsg9 hil).mpr h.2
                           omega))
                  have F126 : fr (BQ q3) μ0 μ := fr_trans hf FN
                  have N126 : μ 41 4 < μ q 5 ∨ μ 41 5 < μ q2 5 := by omega
                  have T126 : 0 ≤ tu ∧ tu ≤ μ 41 4 + μ 41 5 := by omega
                  rcases (show z6 = 4 ∨ z6 = 5 ∨ (z6 ≠ 4 ∧ z6 ≠ 5) from by omega) with h4_ | h4_ | h4_
                  · rw [h4_] at W126 C126 hl
                    exact LX0_build_w4 hx hb hml hown hts hK hM hRf hRl hRc hRs μ0 q rm q2 rm2 q3 rm3 w9 b9 hq hq2 hq3 ha3 ha32 hG hG2 h96 hLK hLKv hw9 hb9 hF9 n9 tu μ  F126 V126 W126 O126 G126 N126 T126 C126 hm9 ih H locs ls hP hS hl
                  · rw [h4_] at W126 C126 hl
                    exact LX0_build_w5 hx hb hml hown hts hK hM hRf hRl hRc hRs μ0 q rm q2 rm2 q3 rm3 w9 b9 hq hq2 hq3 ha3 ha32 hG hG2 h96 hLK hLKv hw9 hb9 hF9 n9 tu μ  F126 V126 W126 O126 G126 N126 T126 C126 hm9 ih H locs ls hP hS hl
                  · exact LX0_build_w1 hx hb hml hown hts hK hM hRf hRl hRc hRs μ0 q rm q2 rm2 q3 rm3 w9 b9 hq hq2 hq3 ha3 ha32 hG hG2 h96 hLK hLKv hw9 hb9 hF9 n9 tu μ (z6) (Z126 h4_.1 h4_.2) ⟨h4_.1, h4_.2, by omega, by omega⟩ F126 V126 W126 O126 G126 N126 T126 C126 hm9 ih H locs ls hP hS hl
                · refine lv_aload_n hx hb dX0_build_114 rfl (lv_at hl 2 rfl) ?_
                  refine lv_sipush (v := iZ 515) hx hb dX0_build_115 rfl ?_
                  refine va_callv (va_runV (As := [.int (iZ (515))]) (rest := []) ⟨hx, hb, hml, hown, hts⟩ (s_Rput l dC dI cI cZ cII cIII h0 H.size μ (q3) (rm3) (515) (hq3) (by exact ho1.1)) (cwV 1 hts (gV_G k819 k411 k412 k3 k413) rfl rfl rfl (by decide +kernel) ⟨by show 1 + 1 ≤ _; omega, by show 8 + (2 + 11) + (14) ≤ _; omega⟩) ⟨fun a U g mk q => by obtain ⟨q0, q1, qP, qK, qM⟩ := q; exact ⟨q0, q1, qP, va_K.moved (u := U) (U := U.calling g mk a) (Vm.Alike.refl U.vm) qK, qM⟩, va_recv hK hP (ci := 4) (q0 := q3) rfl ((fw_get (by omega)).trans (by rw [(sE_rowO hq3)])), fun U hU hW => ⟨rfl, by rw [hU], by rw [hU]; exact hP, va_K.moved hW.alike hK, xM_warm hW hM⟩⟩ rfl rfl hl.1 rfl (lv_room (Nat.le_of_ble_eq_true rfl)) dX0_build_118 ⟨hRc, hRs⟩) hS (fun q _ h => fA_le hS.1 q h) (fA_le hS.1) (fun u9 t9 H1 locs ht9 hvm9 hw9 hB9 hz9 hk9 hS => ?_)
                  obtain ⟨hP, -⟩ := hB9
                  rw [ht9] at hP
                  generalize H1 = H at hP hS ⊢
                  obtain ⟨μo, eμo⟩ : ∃ x : va_M, x = u9 := ⟨_, rfl⟩
                  rw [← eμo] at hP hw9
                  have hμo := hw9; clear hw9
                  obtain ⟨c1, c2⟩ := hμo
                  have hDn := ((rG_bal hG1).2 (μ 41 4).toNat (by omega)).1
                  rw [gI_n (by omega)] at ho1
                  obtain ⟨o1_, f1_⟩ := outS_put ho1 (s := 515) (by unfold vS; omega) (by rw [dl_m]; omega) c1 c2
                  rw [dl_m] at o1_
                  refine lv_aload_n hx hb dX0_build_121 rfl (lv_at hl 5 rfl) ?_
                  refine lv_iconst (v := iZ 0) hx hb dX0_build_122 rfl ?_
                  refine fz_put (D := (dC, dI)) (ci := 0) (ty := .int) (z := 0) (C := RX0) (T := TX0) (N := 7) hx hb hts inG0 tyX0 tyX0_ok nmX0 hown hK hP fA_in hS (k := 41) (by decide) (F := (sF41 h0)) sE_41 rfl 6 (by decide) (hts _ k188) (fun _ h9 => h9) rfl (by decide +kernel) rfl rfl (fun _ => Nat.le_of_ble_eq_true rfl) (fun _ _ => rfl) dX0_build_123 (fun H locs hP hS => ?_)
                  obtain ⟨μ8, eμ8⟩ : ∃ x : va_M, x = uz μo 41 6 (0) := ⟨_, rfl⟩
                  rw [← eμ8] at hP
                  have FN : fr (BQ q3) μ μ8 := by rw [eμ8]; exact fr_uz (fr_mono f1_ (fun x y h => Or.inl h)) (Or.inr ⟨rfl, by decide, by decide⟩)
                  have e6 : μ8 41 6 = 0 := by rw [eμ8, uz_s]
                  have e4 : μ8 41 4 = μ 41 4 := by rw [eμ8, uz_n (by decide)]; exact f1_ _ _ (n41 hq3)
                  have e5 : μ8 41 5 = μ 41 5 := by rw [eμ8, uz_n (by decide)]; exact f1_ _ _ (n41 hq3)
                  have hoN : outS μ8 q3 rm3 (Dp (μ (q + 1)) (μ 41 4).toNat) := outS_at (of_w hq3 rfl o1_ (by rw [eμ8])) (by omega)
                  have xb : ag μ μ8 q := ag_BQ hq ha3 FN
                  have xb2 : ag μ μ8 q2 := ag_BQ hq2 ha32 FN
                  have hGN : rG μ8 q rm := rG_fr hG1 xb
                  have hG2N : rG μ8 q2 rm2 := rG_fr hG21 xb2
                  have n5 := ag_5 xb
                  have n25 := ag_5 xb2
                  have nE := ag_E xb
                  have nE2 := ag_E xb2
                  have V126 : vis μ8 q q2 (μ8 41 4) (μ8 41 5) := by rw [vis_eq xb xb2, e4, e5]; exact hv1
                  have W126 : wOK μ8 q q2 (μ8 41 4) (μ8 41 5) z6 := by rw [wOK_eq xb xb2, e4, e5]; exact hww
                  have O126 : outS μ8 q3 rm3 (Dp (μ8 (q + 1)) (μ8 41 4).toNat + gI (μ8 41 6)) := by rw [e6, gI_0, Int.add_zero, nE, e4]; exact hoN
                  have G126 : gOK (μ8 41 6) := Or.inl e6
                  have Z126 : z6 ≠ 4 → z6 ≠ 5 → μ8 41 6 = 0 := fun _ _ => e6
                  have C126 : cT μ8 q3 rm3 w9 b9 (z6).toNat (lsg (lrow w9 b9)) := cT_close hbT hin9 hwz ⟨by omega, Or.inr ⟨by omega, (hsg9 hil).mp (by omega)⟩⟩ e4 e5 e6 (fun M9 oM9 => outT_fr (outT_put oM9 c1 c2) (by rw [eμ8, uz_n (r41c hq3)]) (by rw [eμ8, uz_n (r41c hq3)]) (fun y => by rw [eμ8, uz_n (r41b hq3)]))
                  have F126 : fr (BQ q3) μ0 μ8 := fr_trans hf FN
                  have N126 : μ8 41 4 < μ8 q 5 ∨ μ8 41 5 < μ8 q2 5 := by omega
                  have T126 : 0 ≤ tu ∧ tu ≤ μ8 41 4 + μ8 41 5 := by omega
                  rcases (show z6 = 4 ∨ z6 = 5 ∨ (z6 ≠ 4 ∧ z6 ≠ 5) from by omega) with h4_ | h4_ | h4_
                  · rw [h4_] at W126 C126 hl
                    exact LX0_build_w4 hx hb hml hown hts hK hM hRf hRl hRc hRs μ0 q rm q2 rm2 q3 rm3 w9 b9 hq hq2 hq3 ha3 ha32 hG hG2 h96 hLK hLKv hw9 hb9 hF9 n9 tu μ8  F126 V126 W126 O126 G126 N126 T126 C126 hm9 ih H locs ls hP hS hl
                  · rw [h4_] at W126 C126 hl
                    exact LX0_build_w5 hx hb hml hown hts hK hM hRf hRl hRc hRs μ0 q rm q2 rm2 q3 rm3 w9 b9 hq hq2 hq3 ha3 ha32 hG hG2 h96 hLK hLKv hw9 hb9 hF9 n9 tu μ8  F126 V126 W126 O126 G126 N126 T126 C126 hm9 ih H locs ls hP hS hl
                  · exact LX0_build_w1 hx hb hml hown hts hK hM hRf hRl hRc hRs μ0 q rm q2 rm2 q3 rm3 w9 b9 hq hq2 hq3 ha3 ha32 hG hG2 h96 hLK hLKv hw9 hb9 hF9 n9 tu μ8 (z6) (Z126 h4_.1 h4_.2) ⟨h4_.1, h4_.2, by omega, by omega⟩ F126 V126 W126 O126 G126 N126 T126 C126 hm9 ih H locs ls hP hS hl
set_option maxHeartbeats 4000000 in
set_option maxRecDepth 100000 in
theorem s_YbuildT (l : Launch) (dC : Nat → ClassId) (dI : Nat → Nat → Nat) (cI cZ cII cIII : ClassId) (h0 sz : Nat) (μ : va_M) (q : Nat) (rm : Nat) (q2 : Nat) (rm2 : Nat) (q3 : Nat) (rm3 : Nat) (w9 : Rw) (b9 : Rw) (hq : rowB q rm) (hq2 : rowB q2 rm2) (hq3 : rowB q3 rm3) (ha3 : apart q3 q) (ha32 : apart q3 q2) (hG : rG μ q rm) (hG2 : rG μ q2 rm2) (h96 : rm2 = 96) (hLK : LK μ q q2) (hG3 : rG μ q3 rm3) (hLKv : LKv μ q q2 w9 b9) (hw9 : rwL μ q w9) (hb9 : rwL μ q2 b9) (hF9 : rWF w9 ∧ rWF b9 ∧ rPg b9 ∧ rN w9 + rN b9 ≤ 1800) : Met l yX0_build (Cond.code yX0_build cX0_build 6 none :: wsG) ({ frames := 4, cells := 0, slots := 0, locals := 87 } : Room) (va_Pc [.ref (h0 + 41), .ref (h0 + q), .ref (h0 + q2), .ref (h0 + q3)] (fun U => U.heap.size = sz ∧ va_P (dC, dI) vwCl (fw (sE cI cZ cII cIII h0) h0 233 μ) U.heap ∧ va_K (dC, dI) vwCl (sT cI cZ cII cIII) U ∧ xM U)) (va_Qv (fun (u : va_M) => rG u q3 rm3 ∧ fr (fun x y => LEq q3 x y ∨ (x = 41 ∧ 4 ≤ y ∧ y ≤ 6)) μ u ∧ rowS u q3 (rcut rm3 (lrow w9 b9)) ∧ (sL (lrow w9 b9) ≤ rm3 → u q3 7 = 0) ∧ (rm3 < sL (lrow w9 b9) → u q3 7 = 1)) (fun u t => va_P (dC, dI) vwCl (fw (sE cI cZ cII cIII h0) h0 233 u) t.heap ∧ va_K (dC, dI) vwCl (sT cI cZ cII cIII) t) (fA h0 233 sz)) 0 0 (fA h0 233 sz) := by
  refine Met.ofW (cc := cX0_build) (maxL := 6) (ret := none) (by decide) rfl ?_
  intro p e s m args below meth c s₁ B hml hv
  obtain ⟨rfl, hsz, hP, hK, hM⟩ := hv
  have hx := B.exec
  have hb := B.bytes
  have hr := B.returns
  have hts : ∀ w ∈ wsG, w.before _ s = true := hG_of (atoms_spec (ws := (Cond.code yX0_build cX0_build 6 none :: wsG)) B.pre)
  have hown : s.vm.findClass RX0 = some m.cls := findClass_of_methodNamed B.named
  have hlocks := B.notSynchronized
  subst hsz
  have hS : va_S (fA h0 233 s.heap.size) s.heap s.heap [] := va_S.rf
  have hl := lv_entry ([.ref (h0 + 41), .ref (h0 + q), .ref (h0 + q2), .ref (h0 + q3)]) (n := 6) (Nat.le_of_ble_eq_true rfl)
  rw [lg_entry_eq]
  generalize (lg_sl ([.ref (h0 + 41), .ref (h0 + q), .ref (h0 + q2), .ref (h0 + q3)]) ++ List.replicate (6 - (lg_sl ([.ref (h0 + 41), .ref (h0 + q), .ref (h0 + q2), .ref (h0 + q3)])).length) Slot.unset).toArray = ls at hl ⊢
  have hl : lv_has ls 6 [(0, .ref (h0 + 41)), (1, .ref (h0 + q)), (2, .ref (h0 + q2)), (3, .ref (h0 + q3))] := hl
  have hqb := rowB_c hq
  have hqb2 := rowB_c hq2
  have hqb3 := rowB_c hq3
  have hrm := rG_rc hq hG
  have hrm2 := rG_rc hq2 hG2
  refine lv_aload_n hx hb dX0_build_0 rfl (lv_at hl 3 rfl) ?_
  refine va_callv (va_runV (As := []) (rest := []) ⟨hx, hb, hml, hown, hts⟩ (s_Rempty l dC dI cI cZ cII cIII h0 s.heap.size μ (q3) (rm3) (hq3)) (cwV 0 hts (gV_G k817 k407 k408 k3 k409) rfl rfl rfl (by decide +kernel) ⟨Nat.le_of_ble_eq_true rfl, Nat.le_of_ble_eq_true rfl⟩) ⟨fun a U g mk q => by obtain ⟨q0, q1, qP, qK, qM⟩ := q; exact ⟨q0, q1, qP, va_K.moved (u := U) (U := U.calling g mk a) (Vm.Alike.refl U.vm) qK, qM⟩, va_recv hK hP (ci := 4) (q0 := q3) rfl ((fw_get (by omega)).trans (by rw [(sE_rowO hq3)])), fun U hU hW => ⟨rfl, by rw [hU], by rw [hU]; exact hP, va_K.moved hW.alike hK, xM_warm hW hM⟩⟩ rfl rfl hl.1 rfl (lv_room (Nat.le_of_ble_eq_true rfl)) dX0_build_1 ⟨Nat.le_of_ble_eq_true rfl, Nat.le_of_ble_eq_true rfl⟩) hS (fun q _ h => fA_le hS.1 q h) (fA_le hS.1) (fun u9 t9 H1 locs ht9 hvm9 hw9 hB9 hz9 hk9 hS => ?_)
  obtain ⟨hP, -⟩ := hB9
  rw [ht9] at hP
  generalize H1 = H at hP hS ⊢
  obtain ⟨μe, eμe⟩ : ∃ x : va_M, x = u9 := ⟨_, rfl⟩
  rw [← eμe] at hP hw9
  have hμe := hw9; clear hw9
  have he := hμe
  refine lv_aload_n hx hb dX0_build_4 rfl (lv_at hl 0 rfl) ?_
  refine lv_iconst (v := iZ 0) hx hb dX0_build_5 rfl ?_
  refine fz_put (D := (dC, dI)) (ci := 0) (ty := .int) (z := 0) (C := RX0) (T := TX0) (N := 7) hx hb hts inG0 tyX0 tyX0_ok nmX0 hown hK hP fA_in hS (k := 41) (by decide) (F := (sF41 h0)) sE_41 rfl 4 (by decide) (hts _ k186) (fun _ h9 => h9) rfl (by decide +kernel) rfl rfl (fun _ => Nat.le_of_ble_eq_true rfl) (fun _ _ => rfl) dX0_build_6 (fun H locs hP hS => ?_)
  obtain ⟨μ10, eμ10⟩ : ∃ x : va_M, x = uz μe 41 4 (0) := ⟨_, rfl⟩
  rw [← eμ10] at hP
  refine lv_aload_n hx hb dX0_build_9 rfl (lv_at hl 0 rfl) ?_
  refine lv_iconst (v := iZ 0) hx hb dX0_build_10 rfl ?_
  refine fz_put (D := (dC, dI)) (ci := 0) (ty := .int) (z := 0) (C := RX0) (T := TX0) (N := 7) hx hb hts inG0 tyX0 tyX0_ok nmX0 hown hK hP fA_in hS (k := 41) (by decide) (F := (sF41 h0)) sE_41 rfl 5 (by decide) (hts _ k187) (fun _ h9 => h9) rfl (by decide +kernel) rfl rfl (fun _ => Nat.le_of_ble_eq_true rfl) (fun _ _ => rfl) dX0_build_11 (fun H locs hP hS => ?_)
  obtain ⟨μ11, eμ11⟩ : ∃ x : va_M, x = uz μ10 41 5 (0) := ⟨_, rfl⟩
  rw [← eμ11] at hP
  refine lv_aload_n hx hb dX0_build_14 rfl (lv_at hl 0 rfl) ?_
  refine lv_iconst (v := iZ 0) hx hb dX0_build_15 rfl ?_
  refine fz_put (D := (dC, dI)) (ci := 0) (ty := .int) (z := 0) (C := RX0) (T := TX0) (N := 7) hx hb hts inG0 tyX0 tyX0_ok nmX0 hown hK hP fA_in hS (k := 41) (by decide) (F := (sF41 h0)) sE_41 rfl 6 (by decide) (hts _ k188) (fun _ h9 => h9) rfl (by decide +kernel) rfl rfl (fun _ => Nat.le_of_ble_eq_true rfl) (fun _ _ => rfl) dX0_build_16 (fun H locs hP hS => ?_)
  obtain ⟨μ12, eμ12⟩ : ∃ x : va_M, x = uz μ11 41 6 (0) := ⟨_, rfl⟩
  rw [← eμ12] at hP
  refine lv_iconst (v := iZ 0) hx hb dX0_build_19 rfl ?_
  have E4 : μ12 41 4 = 0 := by rw [eμ12, eμ11, eμ10, uz_n (by omega), uz_n (by omega), uz_s]
  have E5 : μ12 41 5 = 0 := by rw [eμ12, eμ11, eμ10, uz_n (by omega), uz_s]
  have E6 : μ12 41 6 = 0 := by rw [eμ12, eμ11, eμ10, uz_s]
  have F0 : fr (BQ q3) μ μ12 := by
    rw [eμ12, eμ11, eμ10]
    refine fr_uz (fr_uz (fr_uz ?_ (Or.inr ⟨rfl, by decide, by decide⟩)) (Or.inr ⟨rfl, by decide, by decide⟩)) (Or.inr ⟨rfl, by decide, by decide⟩)
    rw [he]
    exact fr_uz (fr_uz fr_rfl (Or.inl (Or.inl rfl))) (Or.inl (Or.inl rfl))
  have O0 : outS μ12 q3 rm3 0 := by
    refine outS_0 (fun i => ?_) ?_ ?_
    · rw [eμ12, eμ11, eμ10, uz_n (r41b hq3), uz_n (r41b hq3), uz_n (r41b hq3), he, uz_n (by omega), uz_n (by omega)]
      exact hG3.1 i
    · rw [eμ12, eμ11, eμ10, uz_n (r41c hq3), uz_n (r41c hq3), uz_n (r41c hq3), he, uz_n (by omega), uz_s]
    · rw [eμ12, eμ11, eμ10, uz_n (r41c hq3), uz_n (r41c hq3), uz_n (r41c hq3), he, uz_s]
  refine lv_istore (lv' := [(4, .int (iZ (0))), (0, .ref (h0 + 41)), (1, .ref (h0 + q)), (2, .ref (h0 + q2)), (3, .ref (h0 + q3))]) hx hb dX0_build_20 hl (by decide) rfl (fun ls hl => ?_)
  refine LX0_build_22t hx hb hml hown hts hK hM (Nat.le_of_ble_eq_true rfl) (Nat.le_of_ble_eq_true rfl) (Nat.le_of_ble_eq_true rfl) (Nat.le_of_ble_eq_true rfl) (μ) (q) (rm) (q2) (rm2) (q3) (rm3) (w9) (b9) (by assumption) (by assumption) (by assumption) (by assumption) (by assumption) (by exact hG) (by exact hG2) (by exact h96) (by exact hLK) (by exact hLKv) (by exact hw9) (by exact hb9) (by exact hF9) ?_ _ (0) μ12 H locs ls (by omega) (by exact F0) (by
            have A0 : ag μ μ12 q := ag_BQ hq ha3 F0
            have B0 : ag μ μ12 q2 := ag_BQ hq2 ha32 F0
            refine ⟨by rw [vis_eq A0 B0, E4, E5]; exact vis_0 hG hG2, Or.inl E6, ?_⟩
            rw [E4, E6, gI_0, Int.add_zero, show (0 : Int).toNat = 0 from rfl]
            exact O0) (by
            have M0_ : outT μ12 q3 rm3 [] := by
              refine Or.inl ⟨Nat.zero_le _, ?_, ?_, fun t ht => absurd ht (Nat.not_lt_zero t)⟩
              · rw [eμ12, eμ11, eμ10, uz_n (r41c hq3), uz_n (r41c hq3), uz_n (r41c hq3), he, uz_n (by omega), uz_s]; rfl
              · rw [eμ12, eμ11, eμ10, uz_n (r41c hq3), uz_n (r41c hq3), uz_n (r41c hq3), he, uz_s]
            refine bT_mk (M := []) (f := sL w9 + sL b9 + 1) (i := 0) (j := 0) (o := 0) M0_ ?_ (by rw [E4]; rfl) (by rw [E5]; rfl) (by rw [E6]; rfl) (by omega)
            rw [BLD_is hF9.1 hF9.2.1 hF9.2.2.1 hF9.2.2.2]
            rfl) (Nat.lt_succ_self _) hP hS (lv_sub hl [0, 4, 3, 2, 1] rfl)
  · intro tu_13 μ13_ H locs ls q1_13 q2_13 q3_13 q4_13 hP hS hl
    have hl : lv_has ls 6 [(3, .ref (h0 + q3)), (0, .ref (h0 + 41))] := hl
    have Q1 := q1_13
    have Q2 := q2_13
    have Q3 := q3_13
    have Q4 : 0 ≤ μ13_ 41 6 ∧ μ13_ 41 6 ≤ 5 := by unfold gOK at Q3; omega
    obtain ⟨M_, Q5, Q6⟩ := q4_13
    refine lv_aload_n hx hb dX0_build_165 rfl (lv_at hl 1 rfl) ?_
    refine fz_get (D := (dC, dI)) (ci := 0) (v := .int (iZ (μ13_ 41 6))) (C := RX0) (T := TX0) (N := 7) hx hb hts inG0 hown hK hP (k := 41) (by decide) (F := (sF41 h0)) sE_41 rfl 6 (by decide) (hts _ k188) (fun _ h9 => h9) rfl dX0_build_166 ?_
    refine fz_if_eq (tgt := 179) (by constructor <;> omega) hx hb dX0_build_169 (by decide) (fun c169_ => ?_) (fun c169_ => ?_)
    · have OZ : outS μ13_ q3 rm3 0 ∧ fr (BQ q3) μ μ13_ := ⟨outS_at Q2 (by rw [show μ13_ 41 6 = 0 by omega]; rfl), Q1⟩
      obtain ⟨OZ1, OZ2⟩ := OZ
      have OT : outT μ13_ q3 rm3 (lsg (lrow w9 b9)) := by
        rw [show (μ13_ 41 6).toNat = 0 by omega, cl9_0, List.append_nil] at Q6
        rw [Q6]
        exact Q5
      obtain ⟨w1_, w2_, w3_, w4_, w5_⟩ := outT_cut OT (rWF_0 _ (lay_WF _ 0 w9 b9 (Nat.lt_succ_self _) hF9.2.2.2 hF9.1 hF9.2.1 hF9.2.2.1).2)
      have MZ : mA μ13_ q3 rm3 := fun y => by rw [OZ2 _ _ (BQ_2 hq3)]; exact hG3.2.1 y
      refine lv_aload_n hx hb dX0_build_179 rfl (lv_at hl 0 rfl) ?_
      refine va_callv (va_runV (As := []) (rest := []) ⟨hx, hb, hml, hown, hts⟩ (s_Rseal l dC dI cI cZ cII cIII h0 H.size μ13_ (q3) (rm3) ((rcut rm3 (lrow w9 b9))) (hq3) (by exact OZ1.1) (by exact ⟨w1_, w3_⟩)) (cwV 0 hts (gV_G k836 k415 k416 k3 k417) rfl rfl rfl (by decide +kernel) ⟨Nat.le_of_ble_eq_true rfl, Nat.le_of_ble_eq_true rfl⟩) ⟨fun a U g mk q => by obtain ⟨q0, q1, qP, qK, qM⟩ := q; exact ⟨q0, q1, qP, va_K.moved (u := U) (U := U.calling g mk a) (Vm.Alike.refl U.vm) qK, qM⟩, va_recv hK hP (ci := 4) (q0 := q3) rfl ((fw_get (by omega)).trans (by rw [(sE_rowO hq3)])), fun U hU hW => ⟨rfl, by rw [hU], by rw [hU]; exact hP, va_K.moved hW.alike hK, xM_warm hW hM⟩⟩ rfl rfl hl.1 rfl (lv_room (Nat.le_of_ble_eq_true rfl)) dX0_build_180 ⟨Nat.le_of_ble_eq_true rfl, Nat.le_of_ble_eq_true rfl⟩) hS (fun q _ h => fA_le hS.1 q h) (fA_le hS.1) (fun u9 t9 H1 locs ht9 hvm9 hw9 hB9 hz9 hk9 hS => ?_)
      obtain ⟨hP, -⟩ := hB9
      rw [ht9] at hP
      generalize H1 = H at hP hS ⊢
      obtain ⟨μs, eμs⟩ : ∃ x : va_M, x = u9 := ⟨_, rfl⟩
      rw [← eμs] at hP hw9
      have hμs := hw9; clear hw9
      obtain ⟨r5_, f5_⟩ := hμs
      exact W.vret hx hb hr (fun t9 ht9 hW9 => ⟨⟨μs, rfl, (by
                    try dsimp only
                    exact ⟨rG_seal w1_ w2_ w3_ OZ1.2.1 MZ r5_ f5_, fr_trans (fr_mono OZ2 (fun x y h => by unfold BQ at h; unfold LEq; omega)) (fr_mono f5_ (fun x y h => by unfold SEw SEq at h; unfold LEq; omega)), r5_, fun h9 => by rw [f5_ _ _ (by unfold SEw SEq; omega)]; exact w4_ h9, fun h9 => by rw [f5_ _ _ (by unfold SEw SEq; omega)]; exact w5_ h9⟩), by rw [ht9]; exact hP, va_K.moved hW9.alike hK⟩, hS.F ht9⟩) hS.2.2 dX0_build_183
    · refine lv_aload_n hx hb dX0_build_172 rfl (lv_at hl 0 rfl) ?_
      refine lv_sipush (v := iZ 515) hx hb dX0_build_173 rfl ?_
      refine va_callv (va_runV (As := [.int (iZ (515))]) (rest := []) ⟨hx, hb, hml, hown, hts⟩ (s_Rput l dC dI cI cZ cII cIII h0 H.size μ13_ (q3) (rm3) (515) (hq3) (by exact Q2.1)) (cwV 1 hts (gV_G k819 k411 k412 k3 k413) rfl rfl rfl (by decide +kernel) ⟨Nat.le_of_ble_eq_true rfl, Nat.le_of_ble_eq_true rfl⟩) ⟨fun a U g mk q => by obtain ⟨q0, q1, qP, qK, qM⟩ := q; exact ⟨q0, q1, qP, va_K.moved (u := U) (U := U.calling g mk a) (Vm.Alike.refl U.vm) qK, qM⟩, va_recv hK hP (ci := 4) (q0 := q3) rfl ((fw_get (by omega)).trans (by rw [(sE_rowO hq3)])), fun U hU hW => ⟨rfl, by rw [hU], by rw [hU]; exact hP, va_K.moved hW.alike hK, xM_warm hW hM⟩⟩ rfl rfl hl.1 rfl (lv_room (Nat.le_of_ble_eq_true rfl)) dX0_build_176 ⟨Nat.le_of_ble_eq_true rfl, Nat.le_of_ble_eq_true rfl⟩) hS (fun q _ h => fA_le hS.1 q h) (fA_le hS.1) (fun u9 t9 H1 locs ht9 hvm9 hw9 hB9 hz9 hk9 hS => ?_)
      obtain ⟨hP, -⟩ := hB9
      rw [ht9] at hP
      generalize H1 = H at hP hS ⊢
      obtain ⟨μc, eμc⟩ : ∃ x : va_M, x = u9 := ⟨_, rfl⟩
      rw [← eμc] at hP hw9
      have hμc := hw9; clear hw9
      obtain ⟨c1, c2⟩ := hμc
      rw [gI_n (by omega)] at Q2
      obtain ⟨o4_, f4_⟩ := outS_put Q2 (s := 515) (by unfold vS; omega) (by rw [dl_m]; decide) c1 c2
      rw [dl_m] at o4_
      have Q7 : outT μc q3 rm3 (lsg (lrow w9 b9)) := by
        rw [cl9_n (by omega)] at Q6
        rw [Q6]
        exact outT_put Q5 c1 c2
      have OZ : outS μc q3 rm3 0 ∧ fr (BQ q3) μ μc := ⟨outS_at o4_ (by decide), fr_trans Q1 (fr_mono f4_ (fun x y h => Or.inl h))⟩
      obtain ⟨OZ1, OZ2⟩ := OZ
      have OT : outT μc q3 rm3 (lsg (lrow w9 b9)) := Q7
      obtain ⟨w1_, w2_, w3_, w4_, w5_⟩ := outT_cut OT (rWF_0 _ (lay_WF _ 0 w9 b9 (Nat.lt_succ_self _) hF9.2.2.2 hF9.1 hF9.2.1 hF9.2.2.1).2)
      have MZ : mA μc q3 rm3 := fun y => by rw [OZ2 _ _ (BQ_2 hq3)]; exact hG3.2.1 y
      refine lv_aload_n hx hb dX0_build_179 rfl (lv_at hl 0 rfl) ?_
      refine va_callv (va_runV (As := []) (rest := []) ⟨hx, hb, hml, hown, hts⟩ (s_Rseal l dC dI cI cZ cII cIII h0 H.size μc (q3) (rm3) ((rcut rm3 (lrow w9 b9))) (hq3) (by exact OZ1.1) (by exact ⟨w1_, w3_⟩)) (cwV 0 hts (gV_G k836 k415 k416 k3 k417) rfl rfl rfl (by decide +kernel) ⟨Nat.le_of_ble_eq_true rfl, Nat.le_of_ble_eq_true rfl⟩) ⟨fun a U g mk q => by obtain ⟨q0, q1, qP, qK, qM⟩ := q; exact ⟨q0, q1, qP, va_K.moved (u := U) (U := U.calling g mk a) (Vm.Alike.refl U.vm) qK, qM⟩, va_recv hK hP (ci := 4) (q0 := q3) rfl ((fw_get (by omega)).trans (by rw [(sE_rowO hq3)])), fun U hU hW => ⟨rfl, by rw [hU], by rw [hU]; exact hP, va_K.moved hW.alike hK, xM_warm hW hM⟩⟩ rfl rfl hl.1 rfl (lv_room (Nat.le_of_ble_eq_true rfl)) dX0_build_180 ⟨Nat.le_of_ble_eq_true rfl, Nat.le_of_ble_eq_true rfl⟩) hS (fun q _ h => fA_le hS.1 q h) (fA_le hS.1) (fun u9 t9 H1 locs ht9 hvm9 hw9 hB9 hz9 hk9 hS => ?_)
      obtain ⟨hP, -⟩ := hB9
      rw [ht9] at hP
      generalize H1 = H at hP hS ⊢
      obtain ⟨μs, eμs⟩ : ∃ x : va_M, x = u9 := ⟨_, rfl⟩
      rw [← eμs] at hP hw9
      have hμs := hw9; clear hw9
      obtain ⟨r5_, f5_⟩ := hμs
      exact W.vret hx hb hr (fun t9 ht9 hW9 => ⟨⟨μs, rfl, (by
                    try dsimp only
                    exact ⟨rG_seal w1_ w2_ w3_ OZ1.2.1 MZ r5_ f5_, fr_trans (fr_mono OZ2 (fun x y h => by unfold BQ at h; unfold LEq; omega)) (fr_mono f5_ (fun x y h => by unfold SEw SEq at h; unfold LEq; omega)), r5_, fun h9 => by rw [f5_ _ _ (by unfold SEw SEq; omega)]; exact w4_ h9, fun h9 => by rw [f5_ _ _ (by unfold SEw SEq; omega)]; exact w5_ h9⟩), by rw [ht9]; exact hP, va_K.moved hW9.alike hK⟩, hS.F ht9⟩) hS.2.2 dX0_build_183

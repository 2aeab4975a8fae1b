
/-! laying, told whole: build, way 5 -/
set_option maxHeartbeats 40000000 in
set_option maxRecDepth 100000 in
theorem LX0_build_w5 {p : Program} {l : Launch} {e : Env} {R : Room} {s : State} {m : MethodId} {args : Array Value} {below : List Frame} {meth : Method} {c : Code} {cells slots : Nat} {Q : State → Prop} {dC : Nat → ClassId} {dI : Nat → Nat → Nat} {h0 : Nat} {cI cZ cII cIII : ClassId} (hx : p.tables.exec = Jvm.exec) (hb : c.code = cX0_build) (hml : c.maxLocals = 6) (hown : s.vm.findClass RX0 = some m.cls) (hts : ∀ w ∈ wsG, w.before args s = true) (hK : va_K (dC, dI) vwCl (sT cI cZ cII cIII) s) (hM : xM s) (hRf : 4 ≤ R.frames) (hRl : 87 ≤ R.locals) (hRc : cells ≤ R.cells) (hRs : slots ≤ R.slots) (μ0 : va_M) (q : Nat) (rm : Nat) (q2 : Nat) (rm2 : Nat) (q3 : Nat) (rm3 : Nat) (w9 : Rw) (b9 : Rw) (hq : rowB q rm) (hq2 : rowB q2 rm2) (hq3 : rowB q3 rm3) (ha3 : apart q3 q) (ha32 : apart q3 q2) (hG : rG μ0 q rm) (hG2 : rG μ0 q2 rm2) (h96 : rm2 = 96) (hLK : LK μ0 q q2) (hLKv : LKv μ0 q q2 w9 b9) (hw9 : rwL μ0 q w9) (hb9 : rwL μ0 q2 b9) (hF9 : rWF w9 ∧ rWF b9 ∧ rPg b9 ∧ rN w9 + rN b9 ≤ 1800) (n9 : Nat) (tu : Int) (μ : va_M)  (hf : fr (BQ q3) μ0 μ) (hv1 : vis μ q q2 (μ 41 4) (μ 41 5)) (hww : wOK μ q q2 (μ 41 4) (μ 41 5) 5) (ho1 : outS μ q3 rm3 (Dp (μ (q + 1)) (μ 41 4).toNat + gI (μ 41 6))) (hg1 : gOK (μ 41 6)) (hne : μ 41 4 < μ q 5 ∨ μ 41 5 < μ q2 5) (ht : 0 ≤ tu ∧ tu ≤ μ 41 4 + μ 41 5) (hcT : cT μ q3 rm3 w9 b9 (5 : Int).toNat (lsg (lrow w9 b9))) (hm9 : (1000000 - tu).toNat < n9 + 1) (ih : ∀ (tu : Int) (μ : va_M) (H : Heap) (locs : List Loc) (ls : Array Slot), (0 ≤ tu ∧ tu ≤ μ 41 4 + μ 41 5) → (fr (BQ q3) μ0 μ) → (bS μ q q2 q3 rm3) → (bT μ q3 rm3 w9 b9 (lsg (lrow w9 b9))) → (1000000 - tu).toNat < n9 → va_P (dC, dI) vwCl (fw (sE cI cZ cII cIII h0) h0 233 μ) H → va_S (fA h0 233 s.heap.size) s.heap H locs → lv_has ls 6 [(4, .int (iZ (tu))), (3, .ref (h0 + q3)), (2, .ref (h0 + q2)), (1, .ref (h0 + q)), (0, .ref (h0 + 41))] → W p l e R s m args below meth c H locs cells slots Q (F0 m 22 ls [])) :
    ∀ (H : Heap) (locs : List Loc) (ls : Array Slot), va_P (dC, dI) vwCl (fw (sE cI cZ cII cIII h0) h0 233 μ) H → va_S (fA h0 233 s.heap.size) s.heap H locs → lv_has ls 6 [(5, .int (iZ (5))), (4, .int (iZ (tu))), (3, .ref (h0 + q3)), (2, .ref (h0 + q2)), (1, .ref (h0 + q)), (0, .ref (h0 + 41))] → W p l e R s m args below meth c H locs cells slots Q (F0 m 126 ls []) := by
  intro H locs ls hP hS hl
  have hrm := rG_rc hq hG
  have hrm2 := rG_rc hq2 hG2
  have hqb := rowB_c hq
  have hqb2 := rowB_c hq2
  have hqb3 := rowB_c hq3
  have xa : ag μ0 μ q := ag_BQ hq ha3 hf
  have xa2 : ag μ0 μ q2 := ag_BQ hq2 ha32 hf
  have x5 := ag_5 xa
  have x25 := ag_5 xa2
  have xst : μ 41 3 = μ0 41 3 := BQ_41 hq3 (by decide) hf
  have hG1 : rG μ q rm := rG_fr hG xa
  have hG21 : rG μ q2 rm2 := rG_fr hG2 xa2
  have hv0 := hv1.1
  have hgb := gI_b (μ 41 6)
  have hg2 : 0 ≤ μ 41 6 ∧ μ 41 6 ≤ 5 := by unfold gOK at hg1; omega
  have xw9 : rwL μ q w9 := rwL_ag hw9 xa
  have xb9 : rwL μ q2 b9 := rwL_ag hb9 xa2
  have lw9 := xw9.2.2
  have lb9 := xb9.2.2
  have hLp : μ q 5 ≤ 1100 ∧ μ q2 5 ≤ 1100 := ⟨by omega, by omega⟩
  obtain ⟨M_, f_, oM_, rm_, hwz, Te_⟩ := hcT
  obtain ⟨x9, hx9⟩ : ∃ x, sub w9 (μ 41 4).toNat = x := ⟨_, rfl⟩
  obtain ⟨y9, hy9⟩ : ∃ y, sub b9 (μ 41 5).toNat = y := ⟨_, rfl⟩
  rw [hx9, hy9] at hwz Te_
  have hwz : wayOf x9 y9 = 5 := hwz
  have Te_ : lsg (lrow w9 b9) = M_ ++ (BX x9 y9 5 (μ 41 6).toNat ++ BLD w9 b9 f_ ((μ 41 4).toNat + Bi x9 y9 5) ((μ 41 5).toNat + Bj x9 y9 5) (Bo x9 y9 5 (μ 41 6).toNat)) := Te_
  have ci_ := at_hs xb9 ⟨hv0.2.1, hv0.2.2⟩ (by rw [hy9]; exact way_hsd.2.2 hwz)
  have it_ := at_it hG21 xb9 hv0.2.1 ci_
  have sg_ := (at_sg xb9 hv0.2.1 ci_.1).2
  rw [hy9] at it_ sg_
  obtain ⟨it1_, it2_, it3_, it4_⟩ := it_
  have Te2_ := te_5 Te_
  have hw9a : ((5 : Int) = 4 ∧ μ 41 4 < μ q 5 ∧ μ (q + 1) (μ 41 4).toNat ≠ 515) ∨ ((5 : Int) = 5 ∧ μ 41 5 < μ q2 5 ∧ μ (q2 + 1) (μ 41 5).toNat ≠ 515) := Or.inr ⟨rfl, ci_⟩
  clear hww hne
  refine lv_iload hx hb dX0_build_126 (lv_at hl 0 rfl) ?_
  refine lv_iconst (v := iZ 4) hx hb dX0_build_128 rfl ?_
  refine fz_icmp_eq (tgt := 138) (by decide) (by decide) hx hb dX0_build_129 (by decide) (fun h9 => absurd h9 (by decide)) (fun c129_ => ?_)
  refine lv_iload hx hb dX0_build_132 (lv_at hl 0 rfl) ?_
  refine lv_iconst (v := iZ 5) hx hb dX0_build_134 rfl ?_
  refine fz_icmp_ne (tgt := 150) (by decide) (by decide) hx hb dX0_build_135 (by decide) (fun h9 => absurd h9 (by decide)) (fun c135_ => ?_)
  refine lv_aload_n hx hb dX0_build_138 rfl (lv_at hl 5 rfl) ?_
  refine lv_aload_n hx hb dX0_build_139 rfl (lv_at hl 4 rfl) ?_
  refine lv_aload_n hx hb dX0_build_140 rfl (lv_at hl 3 rfl) ?_
  refine lv_iload hx hb dX0_build_141 (lv_at hl 0 rfl) ?_
  refine lv_aload_n hx hb dX0_build_143 rfl (lv_at hl 2 rfl) ?_
  refine va_callv (va_runV (As := [.ref (h0 + q), .ref (h0 + q2), .int (iZ (5)), .ref (h0 + q3)]) (rest := []) ⟨hx, hb, hml, hown, hts⟩ (s_YleaveOutT l dC dI cI cZ cII cIII h0 H.size μ (q) (rm) (q2) (rm2) (q3) (rm3) (5) (M_) ((rit y9)) ((if (μ 41 6).toNat = 0 ∧ rk y9 ≠ 3 then [513] else [])) (hq) (hq2) (hq3) (by exact ha3) (by exact ha32) (by exact hG1) (by exact hG21) (by exact h96) (by exact ⟨hv1, hg1, ho1⟩) (by exact hw9a) (by exact oM_) (by
            intro h9
            omega) (by
            intro _
            exact ⟨it1_, it2_, oP_eq rfl (by omega) sg_⟩)) (cwV 4 hts (gV_G k820 k822 ks_yX0_leaveOut k7 k823) rfl rfl rfl (by decide +kernel) ⟨by show 3 + 1 ≤ _; omega, by show 8 + (8 + 11) + (59) ≤ _; omega⟩) ⟨fun a U g mk q => by obtain ⟨q0, q1, qP, qK, qM⟩ := q; exact ⟨q0, q1, qP, va_K.moved (u := U) (U := U.calling g mk a) (Vm.Alike.refl U.vm) qK, qM⟩, va_recv hK hP (ci := 0) (q0 := 41) rfl ((fw_get (by decide)).trans (by rw [sE_41])), fun U hU hW => ⟨rfl, by rw [hU], by rw [hU]; exact hP, va_K.moved hW.alike hK, xM_warm hW hM⟩⟩ rfl rfl hl.1 rfl (lv_room (Nat.le_of_ble_eq_true rfl)) dX0_build_144 ⟨hRc, hRs⟩) hS (fun q _ h => fA_le hS.1 q h) (fA_le hS.1) (fun u9 t9 H1 locs ht9 hvm9 hw9 hB9 hz9 hk9 hS => ?_)
  obtain ⟨hP, -⟩ := hB9
  rw [ht9] at hP
  generalize H1 = H at hP hS ⊢
  obtain ⟨μl, eμl⟩ : ∃ x : va_M, x = u9 := ⟨_, rfl⟩
  rw [← eμl] at hP hw9
  have hμl := hw9; clear hw9
  obtain ⟨f2_, b2_, i2_, T2_, p4_, p5_, p6_, p7_⟩ := hμl
  obtain ⟨r1_, r2_⟩ := p5_ rfl
  have BT_ : bT μl q3 rm3 w9 b9 (lsg (lrow w9 b9)) := bT_mk T2_ Te2_ (by omega) (by omega) (oP_o rfl (fun h => (p6_ h).trans rfl) p7_) (by omega)
  refine lv_goto (tgt := 159) hx hb dX0_build_147 (by decide) ?_
  refine lv_iinc (v := iZ (tu + 1)) (lv' := [(4, .int (iZ (tu + 1))), (5, .int (iZ (5))), (3, .ref (h0 + q3)), (2, .ref (h0 + q2)), (1, .ref (h0 + q)), (0, .ref (h0 + 41))]) hx hb dX0_build_159 hl (k := 1) rfl (iZ_add _ _) (by decide) rfl (fun ls hl => ?_)
  refine lv_goto (tgt := 22) hx hb dX0_build_162 (by decide) ?_
  exact ih (tu + 1) μl H locs ls (by omega) (by exact fr_trans hf f2_) (by exact b2_) (by exact BT_) (by omega) hP hS (lv_sub hl [0, 2, 3, 4, 5] rfl)

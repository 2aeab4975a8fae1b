
/-! laying, told whole: build, the other ways -/
set_option maxHeartbeats 40000000 in
set_option maxRecDepth 100000 in
theorem LX0_build_w1 {p : Program} {l : Launch} {e : Env} {R : Room} {s : State} {m : MethodId} {args : Array Value} {below : List Frame} {meth : Method} {c : Code} {cells slots : Nat} {Q : State → Prop} {dC : Nat → ClassId} {dI : Nat → Nat → Nat} {h0 : Nat} {cI cZ cII cIII : ClassId} (hx : p.tables.exec = Jvm.exec) (hb : c.code = cX0_build) (hml : c.maxLocals = 6) (hown : s.vm.findClass RX0 = some m.cls) (hts : ∀ w ∈ wsG, w.before args s = true) (hK : va_K (dC, dI) vwCl (sT cI cZ cII cIII) s) (hM : xM s) (hRf : 4 ≤ R.frames) (hRl : 87 ≤ R.locals) (hRc : cells ≤ R.cells) (hRs : slots ≤ R.slots) (μ0 : va_M) (q : Nat) (rm : Nat) (q2 : Nat) (rm2 : Nat) (q3 : Nat) (rm3 : Nat) (w9 : Rw) (b9 : Rw) (hq : rowB q rm) (hq2 : rowB q2 rm2) (hq3 : rowB q3 rm3) (ha3 : apart q3 q) (ha32 : apart q3 q2) (hG : rG μ0 q rm) (hG2 : rG μ0 q2 rm2) (h96 : rm2 = 96) (hLK : LK μ0 q q2) (hLKv : LKv μ0 q q2 w9 b9) (hw9 : rwL μ0 q w9) (hb9 : rwL μ0 q2 b9) (hF9 : rWF w9 ∧ rWF b9 ∧ rPg b9 ∧ rN w9 + rN b9 ≤ 1800) (n9 : Nat) (tu : Int) (μ : va_M) (wy : Int) (hg0 : μ 41 6 = 0) (hy45 : wy ≠ 4 ∧ wy ≠ 5 ∧ 0 ≤ wy ∧ wy ≤ 7) (hf : fr (BQ q3) μ0 μ) (hv1 : vis μ q q2 (μ 41 4) (μ 41 5)) (hww : wOK μ q q2 (μ 41 4) (μ 41 5) wy) (ho1 : outS μ q3 rm3 (Dp (μ (q + 1)) (μ 41 4).toNat + gI (μ 41 6))) (hg1 : gOK (μ 41 6)) (hne : μ 41 4 < μ q 5 ∨ μ 41 5 < μ q2 5) (ht : 0 ≤ tu ∧ tu ≤ μ 41 4 + μ 41 5) (hcT : cT μ q3 rm3 w9 b9 (wy : Int).toNat (lsg (lrow w9 b9))) (hm9 : (1000000 - tu).toNat < n9 + 1) (ih : ∀ (tu : Int) (μ : va_M) (H : Heap) (locs : List Loc) (ls : Array Slot), (0 ≤ tu ∧ tu ≤ μ 41 4 + μ 41 5) → (fr (BQ q3) μ0 μ) → (bS μ q q2 q3 rm3) → (bT μ q3 rm3 w9 b9 (lsg (lrow w9 b9))) → (1000000 - tu).toNat < n9 → va_P (dC, dI) vwCl (fw (sE cI cZ cII cIII h0) h0 233 μ) H → va_S (fA h0 233 s.heap.size) s.heap H locs → lv_has ls 6 [(4, .int (iZ (tu))), (3, .ref (h0 + q3)), (2, .ref (h0 + q2)), (1, .ref (h0 + q)), (0, .ref (h0 + 41))] → W p l e R s m args below meth c H locs cells slots Q (F0 m 22 ls [])) :
    ∀ (H : Heap) (locs : List Loc) (ls : Array Slot), va_P (dC, dI) vwCl (fw (sE cI cZ cII cIII h0) h0 233 μ) H → va_S (fA h0 233 s.heap.size) s.heap H locs → lv_has ls 6 [(5, .int (iZ (wy))), (4, .int (iZ (tu))), (3, .ref (h0 + q3)), (2, .ref (h0 + q2)), (1, .ref (h0 + q)), (0, .ref (h0 + 41))] → W p l e R s m args below meth c H locs cells slots Q (F0 m 126 ls []) := by
  intro H locs ls hP hS hl
  have hrm := rG_rc hq hG
  have hrm2 := rG_rc hq2 hG2
  have hqb := rowB_c hq
  have hqb2 := rowB_c hq2
  have hqb3 := rowB_c hq3
  have xa : ag μ0 μ q := ag_BQ hq ha3 hf
  have xa2 : ag μ0 μ q2 := ag_BQ hq2 ha32 hf
  have x5 := ag_5 xa
  have x25 := ag_5 xa2
  have xst : μ 41 3 = μ0 41 3 := BQ_41 hq3 (by decide) hf
  have hG1 : rG μ q rm := rG_fr hG xa
  have hG21 : rG μ q2 rm2 := rG_fr hG2 xa2
  have hv0 := hv1.1
  have hgb := gI_b (μ 41 6)
  have hg2 : 0 ≤ μ 41 6 ∧ μ 41 6 ≤ 5 := by unfold gOK at hg1; omega
  have xw9 : rwL μ q w9 := rwL_ag hw9 xa
  have xb9 : rwL μ q2 b9 := rwL_ag hb9 xa2
  have lw9 := xw9.2.2
  have lb9 := xb9.2.2
  have hLp : μ q 5 ≤ 1100 ∧ μ q2 5 ≤ 1100 := ⟨by omega, by omega⟩
  obtain ⟨M_, f_, oM_, rm_, hwz, Te_⟩ := hcT
  obtain ⟨x9, hx9⟩ : ∃ x, sub w9 (μ 41 4).toNat = x := ⟨_, rfl⟩
  obtain ⟨y9, hy9⟩ : ∃ y, sub b9 (μ 41 5).toNat = y := ⟨_, rfl⟩
  rw [hx9, hy9] at hwz Te_
  have ho2_ : outS μ q3 rm3 (Dp (μ (q + 1)) (μ 41 4).toNat) := by
    rw [hg0, gI_0, Int.add_zero] at ho1
    exact ho1
  have w2_ : wy.toNat = 2 → _ := fun h9 => at_w2 hG1 xw9 xb9 hv1 hLp (by rw [hx9, hy9, hwz]; exact h9)
  have w3_ : wy.toNat = 3 → _ := fun h9 => at_w3 hG21 xw9 xb9 hv1 hLp (by rw [hx9, hy9, hwz]; exact h9)
  rw [hx9, hy9] at w2_ w3_
  have lt_ : wy.toNat ≠ 2 → wy.toNat ≠ 3 → μ 41 4 < μ q 5 ∧ μ 41 5 < μ q2 5 := by
    intro h2 h3
    rcases hww with h | h | h | h | h | h
    · have h7 := vis_e hG1 hG21 hv1 h.2.1 h.2.2 hne
      exact ⟨h7.1, h7.2.1⟩
    · exact h.2.1
    · have := h.1; omega
    · have := h.1; omega
    · have := h.1; omega
    · have := h.1; omega
  obtain ⟨hy4, hy5, hy0, hy7⟩ := hy45
  have n45_ := hid_i (show wy.toNat ≠ 4 ∧ wy.toNat ≠ 5 from ⟨by omega, by omega⟩)
  have hy45 := hid_i (show wy ≠ 4 ∧ wy ≠ 5 ∧ 0 ≤ wy ∧ wy ≤ 7 from ⟨hy4, hy5, hy0, hy7⟩)
  replace hne := hid_i hne
  replace w2_ := hid_i w2_
  replace w3_ := hid_i w3_
  replace lt_ := hid_i lt_
  refine lv_iload hx hb dX0_build_126 (lv_at hl 0 rfl) ?_
  refine lv_iconst (v := iZ 4) hx hb dX0_build_128 rfl ?_
  refine fz_icmp_eq (tgt := 138) (by constructor <;> omega) (by decide) hx hb dX0_build_129 (by decide) (fun h9 => (by omega)) (fun c129_ => ?_)
  refine lv_iload hx hb dX0_build_132 (lv_at hl 0 rfl) ?_
  refine lv_iconst (v := iZ 5) hx hb dX0_build_134 rfl ?_
  refine fz_icmp_ne (tgt := 150) (by constructor <;> omega) (by decide) hx hb dX0_build_135 (by decide) (fun c135_ => ?_) (fun h9 => (by omega))
  clear hy4 hy5 c129_ c135_
  refine lv_aload_n hx hb dX0_build_150 rfl (lv_at hl 5 rfl) ?_
  refine lv_aload_n hx hb dX0_build_151 rfl (lv_at hl 4 rfl) ?_
  refine lv_aload_n hx hb dX0_build_152 rfl (lv_at hl 3 rfl) ?_
  refine lv_iload hx hb dX0_build_153 (lv_at hl 0 rfl) ?_
  refine lv_aload_n hx hb dX0_build_155 rfl (lv_at hl 2 rfl) ?_
  refine va_callv (va_runV (As := [.ref (h0 + q), .ref (h0 + q2), .int (iZ (wy)), .ref (h0 + q3)]) (rest := []) ⟨hx, hb, hml, hown, hts⟩ (s_YfuseNextT l dC dI cI cZ cII cIII h0 H.size μ (q) (rm) (q2) (rm2) (q3) (rm3) (wy) (M_) ((if wy.toNat = 2 then List.zipWith sFu (lsg (rl x9)) (lsg y9) else List.zipWith sFu (lsg x9) (lsg (rl y9)))) (hq) (hq2) (hq3) (by exact ha3) (by exact ha32) (by exact hG1) (by exact hG21) (by exact h96) (by exact hv1) (by exact hww) (by exact hid_e hy45) (by exact hid_e hne) (by exact ho2_) (by exact oM_) (by
            intro h9
            have h8 : wy.toNat = 2 := by rw [h9]; rfl
            obtain ⟨a1, a2, a3, a4, a5, a6, a7⟩ := hid_e w2_ h8
            rw [if_pos h8]
            exact ⟨a6, a7⟩) (by
            intro h9
            have h8 : wy.toNat = 3 := by rw [h9]; rfl
            obtain ⟨a1, a2, a3, a4, a5, a6, a7⟩ := hid_e w3_ h8
            rw [if_neg (by rw [h8]; decide)]
            exact ⟨a6, a7⟩)) (cwV 4 hts (gV_G k828 k830 ks_yX0_fuseNext k7 k831) rfl rfl rfl (by decide +kernel) ⟨by show 3 + 1 ≤ _; omega, by show 8 + (6 + 11) + (62) ≤ _; omega⟩) ⟨fun a U g mk q => by obtain ⟨q0, q1, qP, qK, qM⟩ := q; exact ⟨q0, q1, qP, va_K.moved (u := U) (U := U.calling g mk a) (Vm.Alike.refl U.vm) qK, qM⟩, va_recv hK hP (ci := 0) (q0 := 41) rfl ((fw_get (by decide)).trans (by rw [sE_41])), fun U hU hW => ⟨rfl, by rw [hU], by rw [hU]; exact hP, va_K.moved hW.alike hK, xM_warm hW hM⟩⟩ rfl rfl hl.1 rfl (lv_room (Nat.le_of_ble_eq_true rfl)) dX0_build_156 ⟨hRc, hRs⟩) hS (fun q _ h => fA_le hS.1 q h) (fA_le hS.1) (fun u9 t9 H1 locs ht9 hvm9 hw9 hB9 hz9 hk9 hS => ?_)
  obtain ⟨hP, -⟩ := hB9
  rw [ht9] at hP
  generalize H1 = H at hP hS ⊢
  obtain ⟨μl, eμl⟩ : ∃ x : va_M, x = u9 := ⟨_, rfl⟩
  rw [← eμl] at hP hw9
  have hμl := hw9; clear hw9
  obtain ⟨f2_, f3_, v3_, o3_, i2_, g2_, g3_, g1_⟩ := hμl
  replace g2_ := hid_i g2_
  replace g3_ := hid_i g3_
  replace g1_ := hid_i g1_
  have g6_ : μl 41 6 = 0 := f3_.trans hg0
  have b2_ : bS μl q q2 q3 rm3 := ⟨v3_, Or.inl g6_, by rw [g6_, gI_0, Int.add_zero]; exact o3_⟩
  have z6_ : (μl 41 6).toNat = 0 := by rw [g6_]; rfl
  have BT_ : bT μl q3 rm3 w9 b9 (lsg (lrow w9 b9)) := by
    by_cases h2 : wy.toNat = 2
    · obtain ⟨a1, a2, a3, a4, a5, a6, a7⟩ := hid_e w2_ h2
      obtain ⟨T2_, r1_, r2_⟩ := hid_e g2_ (tn_2 h2)
      rw [if_pos h2, (at_sg xw9 hv0.1.1 a1).1, hx9] at T2_
      rw [h2] at Te_
      exact bT_mk T2_ (te_2 Te_) (by omega) (by omega) z6_ (by omega)
    · by_cases h3 : wy.toNat = 3
      · obtain ⟨a1, a2, a3, a4, a5, a6, a7⟩ := hid_e w3_ h3
        obtain ⟨T2_, r1_, r2_⟩ := hid_e g3_ (tn_3 h3)
        rw [if_neg h2] at T2_
        rw [h3] at Te_
        exact bT_mk T2_ (te_3 Te_) (by omega) (by omega) z6_ (by omega)
      · obtain ⟨a1, a2⟩ := hid_e lt_ h2 h3
        obtain ⟨T2_, r1_, r2_⟩ := hid_e g1_ (tn_n h2) (tn_n h3)
        rw [(at_sg xw9 hv0.1.1 a1).1, (at_sg xb9 hv0.2.1 a2).1, hx9, hy9] at T2_
        exact bT_mk T2_ (te_1 ⟨h2, h3, (hid_e n45_).1, (hid_e n45_).2⟩ Te_) (by omega) (by omega) z6_ (by omega)
  refine lv_iinc (v := iZ (tu + 1)) (lv' := [(4, .int (iZ (tu + 1))), (5, .int (iZ (wy))), (3, .ref (h0 + q3)), (2, .ref (h0 + q2)), (1, .ref (h0 + q)), (0, .ref (h0 + 41))]) hx hb dX0_build_159 hl (k := 1) rfl (iZ_add _ _) (by decide) rfl (fun ls hl => ?_)
  refine lv_goto (tgt := 22) hx hb dX0_build_162 (by decide) ?_
  exact ih (tu + 1) μl H locs ls (by omega) (by exact fr_trans hf f2_) (by exact b2_) (by exact BT_) (by omega) hP hS (lv_sub hl [0, 2, 3, 4, 5] rfl)

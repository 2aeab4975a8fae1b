theorem dX10_putsRepeat_0 : decode cX10_putsRepeat 0 = .ok (.aload_n 0, 1) := by decide +kernel
theorem dX10_putsRepeat_1 : decode cX10_putsRepeat 1 = .ok (.bipush 52, 2) := by decide +kernel
theorem dX10_putsRepeat_3 : decode cX10_putsRepeat 3 = .ok (.invokevirtual 197, 3) := by decide +kernel
theorem dX10_putsRepeat_6 : decode cX10_putsRepeat 6 = .ok (.iconst 0, 1) := by decide +kernel
theorem dX10_putsRepeat_7 : decode cX10_putsRepeat 7 = .ok (.istore 7, 2) := by decide +kernel
theorem dX10_putsRepeat_33 : decode cX10_putsRepeat 33 = .ok (.aload_n 0, 1) := by decide +kernel
theorem dX10_putsRepeat_34 : decode cX10_putsRepeat 34 = .ok (.bipush 52, 2) := by decide +kernel
theorem dX10_putsRepeat_36 : decode cX10_putsRepeat 36 = .ok (.iconst 4, 1) := by decide +kernel
theorem dX10_putsRepeat_37 : decode cX10_putsRepeat 37 = .ok (.iconst (-1), 1) := by decide +kernel
theorem dX10_putsRepeat_38 : decode cX10_putsRepeat 38 = .ok (.invokevirtual 193, 3) := by decide +kernel
theorem dX10_putsRepeat_41 : decode cX10_putsRepeat 41 = .ok (.istore 7, 2) := by decide +kernel
theorem dX10_putsRepeat_43 : decode cX10_putsRepeat 43 = .ok (.iconst 0, 1) := by decide +kernel
theorem dX10_putsRepeat_44 : decode cX10_putsRepeat 44 = .ok (.istore 8, 2) := by decide +kernel
theorem dX10_putsRepeat_142 : decode cX10_putsRepeat 142 = .ok (.aload_n 0, 1) := by decide +kernel
theorem dX10_putsRepeat_143 : decode cX10_putsRepeat 143 = .ok (.bipush 52, 2) := by decide +kernel
theorem dX10_putsRepeat_145 : decode cX10_putsRepeat 145 = .ok (.iload 7, 2) := by decide +kernel
theorem dX10_putsRepeat_147 : decode cX10_putsRepeat 147 = .ok (.invokevirtual 219, 3) := by decide +kernel
theorem dX10_putsRepeat_150 : decode cX10_putsRepeat 150 = .ok (.iload 4, 2) := by decide +kernel
theorem dX10_putsRepeat_152 : decode cX10_putsRepeat 152 = .ok (.iload 6, 2) := by decide +kernel
theorem dX10_putsRepeat_154 : decode cX10_putsRepeat 154 = .ok (.iload 5, 2) := by decide +kernel
theorem dX10_putsRepeat_156 : decode cX10_putsRepeat 156 = .ok (.imul, 1) := by decide +kernel
theorem dX10_putsRepeat_157 : decode cX10_putsRepeat 157 = .ok (.iadd, 1) := by decide +kernel
theorem dX10_putsRepeat_158 : decode cX10_putsRepeat 158 = .ok (.istore 8, 2) := by decide +kernel
theorem dX10_putsRepeat_183 : decode cX10_putsRepeat 183 = .ok (.aload_n 0, 1) := by decide +kernel
theorem dX10_putsRepeat_184 : decode cX10_putsRepeat 184 = .ok (.bipush 52, 2) := by decide +kernel
theorem dX10_putsRepeat_186 : decode cX10_putsRepeat 186 = .ok (.iload_n 1, 1) := by decide +kernel
theorem dX10_putsRepeat_187 : decode cX10_putsRepeat 187 = .ok (.invokevirtual 241, 3) := by decide +kernel
theorem dX10_putsRepeat_190 : decode cX10_putsRepeat 190 = .ok (.return_, 1) := by decide +kernel
/-- the row that comes of it: n copies of n1 items from a on are one repeat -/
def rput (w : Rw) (a n1 n : Nat) : Rw := rpre a w (Std.DTreeMap.Internal.Impl.inner 0 4 (-1) (frow w a n1 n 0 n1) (rdrop (a + n * n1) w))
set_option maxHeartbeats 40000000 in
set_option maxRecDepth 100000 in
theorem m_putsRepeat (l : Launch) (dC : Nat → ClassId) (dI : Nat → Nat → Nat) (cI cZ cII cIII : ClassId) (h0 sz : Nat) (μ : va_M) (t : Int) (q : Nat) (m9 : Int) (a : Int) (n1 : Int) (n : Int) (w : Rw) (ht : 0 ≤ t ∧ t < 70) (hq : (723 ≤ q ∧ q < 737) ∨ (738 ≤ q ∧ q < 752)) (hR : RA μ t.toNat w 0) (hN : rN w ≤ 900) (hwf : rWF w) (hHH : rH w ≤ 20) (hrow : rowIs μ q w 0) (h260 : rI w ≤ 260) (ht3 : t ≠ 50 ∧ t ≠ 51 ∧ t ≠ 52) (hm9 : m9 = rI w) (hal : ∀ e m : Nat, 1 ≤ e → e < n.toNat → m < n1.toNat → halk (rdrop (a.toNat + m) w) (rdrop (a.toNat + e * n1.toNat + m) w)) (hbd : 0 ≤ a ∧ 1 ≤ n1 ∧ 2 ≤ n ∧ a + n * n1 ≤ rI w) : Met l yX10_putsRepeat (Cond.code yX10_putsRepeat cX10_putsRepeat 10 none :: wsG) ({ frames := 24, cells := 0, slots := 0, locals := 760 } : Room) (va_Pc [.ref h0, .int (iZ (t)), .ref (h0 + q), .int (iZ (m9)), .int (iZ (a)), .int (iZ (n1)), .int (iZ (n))] (fun U => U.heap.size = sz ∧ va_P (dC, dI) vwCl (fw (mE cI cZ cII cIII h0) h0 6325 μ) U.heap ∧ va_K (dC, dI) vwCl (mT cI cZ cII cIII) U)) (va_Qv (fun (u : va_M) => TR u t.toNat (rput w a.toNat n1.toNat n.toNat) ∧ fr (fun x y => P8 x y ∨ PT t.toNat x y) μ u) (fun u t => va_P (dC, dI) vwCl (fw (mE cI cZ cII cIII h0) h0 6325 u) t.heap ∧ va_K (dC, dI) vwCl (mT cI cZ cII cIII) t) (fA h0 6325 sz)) 0 0 (fA h0 6325 sz) := by
  refine Met.ofW (cc := cX10_putsRepeat) (maxL := 10) (ret := none) (by decide) rfl ?_
  intro p e s m args below meth c s₁ B hml hv
  obtain ⟨rfl, hsz, hP, hK⟩ := hv
  have hx := B.exec
  have hb := B.bytes
  have hr := B.returns
  have hts : ∀ w ∈ wsG, w.before _ s = true := hG_of (atoms_spec (ws := (Cond.code yX10_putsRepeat cX10_putsRepeat 10 none :: wsG)) B.pre)
  have hown : s.vm.findClass RX10 = some m.cls := findClass_of_methodNamed B.named
  have hlocks := B.notSynchronized
  subst hsz
  have hS : va_S (fA h0 6325 s.heap.size) s.heap s.heap [] := va_S.rf
  have hl := lv_entry ([.ref h0, .int (iZ (t)), .ref (h0 + q), .int (iZ (m9)), .int (iZ (a)), .int (iZ (n1)), .int (iZ (n))]) (n := 10) (Nat.le_of_ble_eq_true rfl)
  rw [lg_entry_eq]
  generalize (lg_sl ([.ref h0, .int (iZ (t)), .ref (h0 + q), .int (iZ (m9)), .int (iZ (a)), .int (iZ (n1)), .int (iZ (n))]) ++ List.replicate (10 - (lg_sl ([.ref h0, .int (iZ (t)), .ref (h0 + q), .int (iZ (m9)), .int (iZ (a)), .int (iZ (n1)), .int (iZ (n))])).length) Slot.unset).toArray = ls at hl ⊢
  have hl : lv_has ls 10 [(0, .ref h0), (1, .int (iZ (t))), (2, .ref (h0 + q)), (3, .int (iZ (m9))), (4, .int (iZ (a))), (5, .int (iZ (n1))), (6, .int (iZ (n)))] := hl
  have hqq : 723 ≤ q ∧ q < 752 := by omega
  have hq9 : rowQ q := hq
  clear hq
  have hn2 : 2 * n1 ≤ n * n1 := Int.mul_le_mul_of_nonneg_right (by omega) (by omega)
  have hn3 : n * 1 ≤ n * n1 := Int.mul_le_mul_of_nonneg_left (by omega) (by omega)
  rw [Int.mul_one] at hn3
  have hbq : 0 ≤ a ∧ 1 ≤ n1 ∧ 2 ≤ n ∧ a ≤ 260 ∧ n1 ≤ 260 ∧ n ≤ 260 ∧ a + 2 * n1 ≤ rI w := by omega
  obtain ⟨k0, hk0, hk0z, hk0l, hk0m⟩ : ∃ k0 : Nat, k0 = a.toNat + n.toNat * n1.toNat ∧ a + n * n1 = (k0 : Int) ∧ k0 ≤ rI w ∧ a.toNat + n1.toNat + 1 ≤ k0 := by
    have hp : n * n1 = ((n.toNat * n1.toNat : Nat) : Int) := by rw [Int.natCast_mul, Int.toNat_of_nonneg (by omega), Int.toNat_of_nonneg (by omega)]
    exact ⟨_, rfl, by omega, by omega, by omega⟩
  have hm1 := rO_mono a.toNat (a.toNat + n1.toNat) w (by omega)
  have hm2 := rO_mono (a.toNat + n1.toNat + 1) k0 w (by omega)
  have hm3 := rdrop_N k0 w
  have hm5 := rdrop_I (a.toNat + n1.toNat) w
  have hm6 : rO w (a.toNat + n1.toNat) + 1 ≤ rO w (a.toNat + n1.toNat + 1) := by
    obtain ⟨z5, k5, v5, l5, r5, h5⟩ := rI_pos (w := rdrop (a.toNat + n1.toNat) w) (by omega)
    have h6 := rO_S _ _ _ _ _ _ _ h5
    omega
  have hfN := frow_N (n := n.toNat) (by omega) hwf hal (by omega) n1.toNat 0 (by omega)
  rw [Nat.add_zero] at hfN
  refine lv_aload_n hx hb dX10_putsRepeat_0 rfl (lv_at hl 0 rfl) ?_
  refine lv_bipush (v := iZ 52) hx hb dX10_putsRepeat_1 rfl ?_
  refine va_callv (va_runV (As := [.int (iZ (52))]) (rest := []) ⟨hx, hb, hml, hown, hts⟩ (m_empties l dC dI cI cZ cII cIII h0 s.heap.size μ (52) (by first | assumption | omega | exact ⟨by omega, by omega⟩)) (cwV 1 hts (gV_G k1373 k1375 ks_yX10_empties k13 k1376) rfl rfl rfl (by decide +kernel) ⟨Nat.le_of_ble_eq_true rfl, Nat.le_of_ble_eq_true rfl⟩) ⟨fun a U g mk q => by obtain ⟨q0, q1, qP, qK⟩ := q; exact ⟨q0, q1, qP, va_K.moved (u := U) (U := U.calling g mk a) (Vm.Alike.refl U.vm) qK⟩, va_recv hK hP (ci := 10) (q0 := 0) rfl ((fw_get (by decide)).trans (by rw [mE_obj]; rfl)), fun U hU hW => ⟨rfl, by rw [hU], by rw [hU]; exact hP, va_K.moved hW.alike hK⟩⟩ rfl rfl hl.1 rfl (lv_room (Nat.le_of_ble_eq_true rfl)) dX10_putsRepeat_3 ⟨Nat.le_of_ble_eq_true rfl, Nat.le_of_ble_eq_true rfl⟩) hS (fun q _ h => fA_le hS.1 q h) (fA_le hS.1) (fun u9 t9 H1 locs ht9 hvm9 hw9 hB9 hz9 hk9 hS => ?_)
  obtain ⟨hP, -⟩ := hB9
  rw [ht9] at hP
  generalize H1 = H at hP hS ⊢
  obtain ⟨μa, eμa⟩ : ∃ x : va_M, x = u9 := ⟨_, rfl⟩
  rw [← eμa] at hP hw9
  have hμa := hw9; clear hw9
  rw [show (52 : Int).toNat = 52 from rfl] at hμa
  have fa : fr P8 μ μa := by rw [hμa]; exact fr_uz fr_rfl (Or.inr (Or.inr (by unfold PT; omega)))
  have h52 : μa 719 52 = 0 := by rw [hμa, uz_s]
  have hcfa : ∀ x, μa (507 + t.toNat) x = μ (507 + t.toNat) x ∧ μa (578 + t.toNat) x = μ (578 + t.toNat) x ∧ μa (649 + t.toNat) x = μ (649 + t.toNat) x := fun x => ⟨fa _ x (by unfold P8 PT; omega), fa _ x (by unfold P8 PT; omega), fa _ x (by unfold P8 PT; omega)⟩
  have h00 : rO w 0 = 0 := by cases w <;> rfl
  refine lv_iconst (v := iZ 0) hx hb dX10_putsRepeat_6 rfl ?_
  refine lv_istore (lv' := [(7, .int (iZ (0))), (0, .ref h0), (1, .int (iZ (t))), (2, .ref (h0 + q)), (3, .int (iZ (m9))), (4, .int (iZ (a))), (5, .int (iZ (n1))), (6, .int (iZ (n)))]) hx hb dX10_putsRepeat_7 hl (by decide) rfl (fun ls hl => ?_)
  refine LX10_putsRepeat_9 hx hb hml hown hts hK (Nat.le_of_ble_eq_true rfl) (Nat.le_of_ble_eq_true rfl) (Nat.le_of_ble_eq_true rfl) (Nat.le_of_ble_eq_true rfl) (μa) (t) (q) (m9) (a) (n1) (n) (w) (by assumption) (by exact hq9) (by exact RA_kept hR (fun x _ _ => hcfa x)) (by assumption) (by assumption) (by assumption) (by exact fun m hm => by rw [fa _ _ (by unfold P8 PT; omega)]; exact hrow m hm) (by assumption) (by assumption) (by exact ⟨by omega, by omega⟩) ?_ _ (0) μa H locs ls (by omega) (by exact fr_rfl) (by rw [h52]; show (0 : Int) = (rO w 0 : Int); rw [h00]; rfl) (by
            intro u8 x _ hx8
            have hx8 : RA u8 52 x (rO w 0) := hx8
            rw [h00] at hx8
            exact hx8) (Nat.lt_succ_self _) hP hS (lv_sub hl [0, 1, 2, 3, 4, 5, 6, 7] rfl)
  · intro k_1 μ1_ H locs ls q1_1 q2_1 q3_1 hP hS hl
    have hl : lv_has ls 10 [(0, .ref h0), (1, .int (iZ (t))), (2, .ref (h0 + q)), (3, .int (iZ (m9))), (4, .int (iZ (a))), (5, .int (iZ (n1))), (6, .int (iZ (n)))] := hl
    have r1 := q1_1
    have r2 := q2_1
    have r3 := q3_1
    have fp : fr P8 μ μ1_ := fr_trans fa (fr_mono r1 (fun _ _ h => Or.inr (Or.inr h)))
    refine lv_aload_n hx hb dX10_putsRepeat_33 rfl (lv_at hl 0 rfl) ?_
    refine lv_bipush (v := iZ 52) hx hb dX10_putsRepeat_34 rfl ?_
    refine lv_iconst (v := iZ 4) hx hb dX10_putsRepeat_36 rfl ?_
    refine lv_iconst (v := iZ (-1)) hx hb dX10_putsRepeat_37 rfl ?_
    refine va_calli (va_runV (As := [.int (iZ (52)), .int (iZ (4)), .int (iZ ((-1)))]) (rest := []) ⟨hx, hb, hml, hown, hts⟩ (m_adds l dC dI cI cZ cII cIII h0 H.size μ1_ (52) (4) ((-1)) (by decide) (by intro _; show 0 ≤ μ1_ 719 52 ∧ μ1_ 719 52 < 900; omega)) (cwV 3 hts (gV_G k1377 k1379 ks_yX10_adds k13 k1380) rfl rfl rfl (by decide +kernel) ⟨Nat.le_of_ble_eq_true rfl, Nat.le_of_ble_eq_true rfl⟩) ⟨fun a U g mk q => by obtain ⟨q0, q1, qP, qK⟩ := q; exact ⟨q0, q1, qP, va_K.moved (u := U) (U := U.calling g mk a) (Vm.Alike.refl U.vm) qK⟩, va_recv hK hP (ci := 10) (q0 := 0) rfl ((fw_get (by decide)).trans (by rw [mE_obj]; rfl)), fun U hU hW => ⟨rfl, by rw [hU], by rw [hU]; exact hP, va_K.moved hW.alike hK⟩⟩ rfl rfl hl.1 rfl (lv_room (Nat.le_of_ble_eq_true rfl)) dX10_putsRepeat_38 ⟨Nat.le_of_ble_eq_true rfl, Nat.le_of_ble_eq_true rfl⟩) hS (fun q _ h => fA_le hS.1 q h) (fA_le hS.1) (fun r9 u9 t9 H1 locs ht9 hvm9 hw9 hB9 hz9 hk9 hS => ?_)
    obtain ⟨μb, yb⟩ := u9
    obtain ⟨hP, -⟩ := hB9
    rw [ht9] at hP
    generalize H1 = H at hP hS ⊢
    obtain ⟨e9, hw9⟩ := hw9
    have e9 : r9 = iZ yb := e9
    subst e9
    simp only at hP hw9
    have hμb := hw9; clear hw9
    obtain ⟨e1, e2⟩ := hμb.2 (by decide)
    have eN : (μ1_ 719 52).toNat = rO w a.toNat := by omega
    rw [show (52 : Int).toNat = 52 from rfl] at e1 e2
    rw [eN] at e1
    have fbp : fr (PG 52 (rO w a.toNat)) μ1_ μb := by rw [e1]; exact fr_uz (fr_uz (fr_uz (fr_uz fr_rfl (by unfold PG; omega)) (by unfold PG; omega)) (by unfold PG; omega)) (by unfold PG; omega)
    have fb : fr P8 μ μb := fr_trans fp (fr_mono fbp (fun _ _ h => Or.inr (Or.inr (PG_PT h))))
    have hcfb : ∀ x, μb (507 + t.toNat) x = μ (507 + t.toNat) x ∧ μb (578 + t.toNat) x = μ (578 + t.toNat) x ∧ μb (649 + t.toNat) x = μ (649 + t.toNat) x := fun x => ⟨fb _ x (by unfold P8 PT; omega), fb _ x (by unfold P8 PT; omega), fb _ x (by unfold P8 PT; omega)⟩
    refine lv_istore (lv' := [(7, .int (iZ (yb))), (0, .ref h0), (1, .int (iZ (t))), (2, .ref (h0 + q)), (3, .int (iZ (m9))), (4, .int (iZ (a))), (5, .int (iZ (n1))), (6, .int (iZ (n)))]) hx hb dX10_putsRepeat_41 hl (by decide) rfl (fun ls hl => ?_)
    refine lv_iconst (v := iZ 0) hx hb dX10_putsRepeat_43 rfl ?_
    refine lv_istore (lv' := [(8, .int (iZ (0))), (7, .int (iZ (yb))), (0, .ref h0), (1, .int (iZ (t))), (2, .ref (h0 + q)), (3, .int (iZ (m9))), (4, .int (iZ (a))), (5, .int (iZ (n1))), (6, .int (iZ (n)))]) hx hb dX10_putsRepeat_44 hl (by decide) rfl (fun ls hl => ?_)
    refine LX10_putsRepeat_46 hx hb hml hown hts hK (Nat.le_of_ble_eq_true rfl) (Nat.le_of_ble_eq_true rfl) (Nat.le_of_ble_eq_true rfl) (Nat.le_of_ble_eq_true rfl) (μb) (yb) (t) (q) (m9) (a) (n1) (n) (w) (by assumption) (by exact hq9) (by exact RA_kept hR (fun x _ _ => hcfb x)) (by assumption) (by assumption) (by assumption) (by exact fun m hm => by rw [fb _ _ (by unfold P8 PT; omega)]; exact hrow m hm) (by assumption) (by assumption) (by assumption) (by assumption) ?_ _ (0) μb H locs ls (by omega) (by exact fr_rfl) (by
                show μb 719 52 = 1 + (rO w (a.toNat + 0) : Int)
                rw [Nat.add_zero, e1, uz_s]; omega) (by exact fun _ _ _ => ⟨rfl, rfl, rfl⟩) (by
                intro u8 _ hx8
                exact hx8) (Nat.lt_succ_self _) hP hS (lv_sub hl [0, 1, 2, 3, 4, 5, 6, 7, 8] rfl)
    · intro k_2 μ2_ H locs ls q1_2 q2_2 q3_2 q4_2 hP hS hl
      have hl : lv_has ls 10 [(7, .int (iZ (yb))), (0, .ref h0), (1, .int (iZ (t))), (2, .ref (h0 + q)), (3, .int (iZ (m9))), (4, .int (iZ (a))), (5, .int (iZ (n1))), (6, .int (iZ (n)))] := hl
      have w1_ := q1_2
      have w2_ := q2_2
      have w3_ := q3_2
      have w4_ := q4_2
      have fe : fr P8 μ μ2_ := fr_trans fb w1_
      refine lv_aload_n hx hb dX10_putsRepeat_142 rfl (lv_at hl 1 rfl) ?_
      refine lv_bipush (v := iZ 52) hx hb dX10_putsRepeat_143 rfl ?_
      refine lv_iload hx hb dX10_putsRepeat_145 (lv_at hl 0 rfl) ?_
      refine va_callv (va_runV (As := [.int (iZ (52)), .int (iZ (yb))]) (rest := []) ⟨hx, hb, hml, hown, hts⟩ (m_closes l dC dI cI cZ cII cIII h0 H.size μ2_ (52) (yb) (by decide) (by intro _; omega)) (cwV 2 hts (gV_G k1420 k1422 ks_yX10_closes k13 k1423) rfl rfl rfl (by decide +kernel) ⟨Nat.le_of_ble_eq_true rfl, Nat.le_of_ble_eq_true rfl⟩) ⟨fun a U g mk q => by obtain ⟨q0, q1, qP, qK⟩ := q; exact ⟨q0, q1, qP, va_K.moved (u := U) (U := U.calling g mk a) (Vm.Alike.refl U.vm) qK⟩, va_recv hK hP (ci := 10) (q0 := 0) rfl ((fw_get (by decide)).trans (by rw [mE_obj]; rfl)), fun U hU hW => ⟨rfl, by rw [hU], by rw [hU]; exact hP, va_K.moved hW.alike hK⟩⟩ rfl rfl hl.1 rfl (lv_room (Nat.le_of_ble_eq_true rfl)) dX10_putsRepeat_147 ⟨Nat.le_of_ble_eq_true rfl, Nat.le_of_ble_eq_true rfl⟩) hS (fun q _ h => fA_le hS.1 q h) (fA_le hS.1) (fun u9 t9 H1 locs ht9 hvm9 hw9 hB9 hz9 hk9 hS => ?_)
      obtain ⟨hP, -⟩ := hB9
      rw [ht9] at hP
      generalize H1 = H at hP hS ⊢
      obtain ⟨μc, eμc⟩ : ∃ x : va_M, x = u9 := ⟨_, rfl⟩
      rw [← eμc] at hP hw9
      have hμc := hw9; clear hw9
      have e3 := hμc.2 (by decide)
      rw [show (52 : Int).toNat = 52 from rfl, show yb.toNat = rO w a.toNat by omega] at e3
      have fcp : fr (fun x y => x = 649 + 52 ∧ y = rO w a.toNat) μ2_ μc := by rw [e3]; exact fr_uz fr_rfl ⟨rfl, rfl⟩
      have fc : fr P8 μ μc := fr_trans fe (fr_mono fcp (fun x y h => Or.inr (Or.inr (by have h : x = 649 + 52 ∧ y = rO w a.toNat := h; unfold PT; omega))))
      have hcfc : ∀ x, μc (507 + t.toNat) x = μ (507 + t.toNat) x ∧ μc (578 + t.toNat) x = μ (578 + t.toNat) x ∧ μc (649 + t.toNat) x = μ (649 + t.toNat) x := fun x => ⟨fc _ x (by unfold P8 PT; omega), fc _ x (by unfold P8 PT; omega), fc _ x (by unfold P8 PT; omega)⟩
      have c52 : μc 719 52 = 1 + rO w (a.toNat + n1.toNat) := by rw [fcp _ _ (by omega)]; exact w2_
      refine lv_iload hx hb dX10_putsRepeat_150 (lv_at hl 5 rfl) ?_
      refine lv_iload hx hb dX10_putsRepeat_152 (lv_at hl 7 rfl) ?_
      refine lv_iload hx hb dX10_putsRepeat_154 (lv_at hl 6 rfl) ?_
      refine lv_imul hx hb dX10_putsRepeat_156 ?_
      refine lv_topi (fun x9 ex9 => ?_)
      obtain rfl : x9 = iZ (n * n1) := ex9.trans (iZ_mul _ _)
      refine lv_iadd hx hb dX10_putsRepeat_157 ?_
      refine lv_topi (fun x9 ex9 => ?_)
      obtain rfl : x9 = iZ (a + (n * n1)) := ex9.trans (iZ_add _ _)
      refine lv_istore (lv' := [(8, .int (iZ (a + (n * n1)))), (7, .int (iZ (yb))), (0, .ref h0), (1, .int (iZ (t))), (2, .ref (h0 + q)), (3, .int (iZ (m9))), (4, .int (iZ (a))), (5, .int (iZ (n1))), (6, .int (iZ (n)))]) hx hb dX10_putsRepeat_158 hl (by decide) rfl (fun ls hl => ?_)
      refine LX10_putsRepeat_160 hx hb hml hown hts hK (Nat.le_of_ble_eq_true rfl) (Nat.le_of_ble_eq_true rfl) (Nat.le_of_ble_eq_true rfl) (Nat.le_of_ble_eq_true rfl) (μc) (t) (q) (m9) (w) ((k0 : Int)) (μc 719 52) (rput w a.toNat n1.toNat n.toNat) (by assumption) (by exact hq9) (by exact RA_kept hR (fun x _ _ => hcfc x)) (by assumption) (by assumption) (by assumption) (by exact fun m hm => by rw [fc _ _ (by unfold P8 PT; omega)]; exact hrow m hm) (by assumption) (by assumption) (by assumption) (by show 0 ≤ μc 719 52 ∧ μc 719 52 + (rN w - rO w k0) ≤ 900; omega) (by omega) ?_ _ (a + (n * n1)) μc H locs ls (by omega) (by exact fr_rfl) (by rw [show (a + (n * n1)).toNat = k0 by omega, show ((k0 : Nat) : Int).toNat = k0 from rfl]; omega) (by
                    rw [show (a + (n * n1)).toNat = k0 by omega, show (μc 719 52).toNat = 1 + rO w (a.toNat + n1.toNat) by omega]
                    intro u8 ha8 hx8
                    unfold rput
                    rw [← hk0]
                    refine r3 u8 _ (fun y hy1 hy2 => ?_) ?_
                    · have h7 := ha8 y hy1 (by omega)
                      have h6 := w3_ y hy1 (by omega)
                      rw [h7.1, h7.2.1, h7.2.2, fcp _ _ (by omega), fcp _ _ (by omega), fcp _ _ (by omega), h6.1, h6.2.1, h6.2.2]
                      exact ⟨fbp _ _ (by unfold PG; omega), fbp _ _ (by unfold PG; omega), fbp _ _ (by unfold PG; omega)⟩
                    · have h7 := ha8 (rO w a.toNat) (by omega) (by omega)
                      have h6 := w3_ (rO w a.toNat) (by omega) (by omega)
                      refine ⟨?_, ?_, ?_, ?_, ?_⟩
                      · rw [h7.1, fcp _ _ (by omega), h6.1, e1, uz_n (by omega), uz_n (by omega), uz_n (by omega), uz_s]; rfl
                      · rw [h7.2.1, fcp _ _ (by omega), h6.2.1, e1, uz_n (by omega), uz_n (by omega), uz_s]
                      · rw [h7.2.2, e3, uz_s]; omega
                      · rw [show rO w a.toNat + 1 = 1 + rO w a.toNat by omega]
                        refine RA_kept w4_ (fun y hy1 hy2 => ?_)
                        have h5 := ha8 y (by omega) (by omega)
                        rw [h5.1, h5.2.1, h5.2.2]
                        exact ⟨fcp _ _ (by omega), fcp _ _ (by omega), fcp _ _ (by omega)⟩
                      · rw [show rO w a.toNat + 1 + rN (frow w a.toNat n1.toNat n.toNat 0 n1.toNat) = 1 + rO w (a.toNat + n1.toNat) by omega]
                        exact hx8) (Nat.lt_succ_self _) hP hS (lv_sub hl [0, 2, 3, 4, 5] rfl)
      · intro k_3 μ3_ H locs ls q1_3 q2_3 q3_3 hP hS hl
        have hl : lv_has ls 10 [(0, .ref h0), (1, .int (iZ (t)))] := hl
        have v1_ := q1_3
        have v2_ := q2_3
        have v3_ := q3_3
        have fd : fr P8 μ μ3_ := fr_trans fc (fr_mono v1_ (fun _ _ h => Or.inr (Or.inr h)))
        have hNF : rN (rput w a.toNat n1.toNat n.toNat) = rO w a.toNat + (1 + rN (frow w a.toNat n1.toNat n.toNat 0 n1.toNat) + rN (rdrop k0 w)) := by unfold rput; rw [← hk0, rpre_N _ _ _ (by omega), rN_in]
        rw [show ((k0 : Nat) : Int).toNat = k0 from rfl] at v2_
        refine lv_aload_n hx hb dX10_putsRepeat_183 rfl (lv_at hl 0 rfl) ?_
        refine lv_bipush (v := iZ 52) hx hb dX10_putsRepeat_184 rfl ?_
        refine lv_iload_n hx hb dX10_putsRepeat_186 rfl (lv_at hl 1 rfl) ?_
        refine va_callv (va_runV (As := [.int (iZ (52)), .int (iZ (t))]) (rest := []) ⟨hx, hb, hml, hown, hts⟩ (m_copiesAll l dC dI cI cZ cII cIII h0 H.size μ3_ (52) (t) (rput w a.toNat n1.toNat n.toNat) (by decide) (by first | assumption | omega | exact ⟨by omega, by omega⟩) (by omega) (by exact ⟨by show μ3_ 719 52 = _; omega, v3_⟩) (by omega)) (cwV 2 hts (gV_G k1424 k1426 ks_yX10_copiesAll k13 k1427) rfl rfl rfl (by decide +kernel) ⟨Nat.le_of_ble_eq_true rfl, Nat.le_of_ble_eq_true rfl⟩) ⟨fun a U g mk q => by obtain ⟨q0, q1, qP, qK⟩ := q; exact ⟨q0, q1, qP, va_K.moved (u := U) (U := U.calling g mk a) (Vm.Alike.refl U.vm) qK⟩, va_recv hK hP (ci := 10) (q0 := 0) rfl ((fw_get (by decide)).trans (by rw [mE_obj]; rfl)), fun U hU hW => ⟨rfl, by rw [hU], by rw [hU]; exact hP, va_K.moved hW.alike hK⟩⟩ rfl rfl hl.1 rfl (lv_room (Nat.le_of_ble_eq_true rfl)) dX10_putsRepeat_187 ⟨Nat.le_of_ble_eq_true rfl, Nat.le_of_ble_eq_true rfl⟩) hS (fun q _ h => fA_le hS.1 q h) (fA_le hS.1) (fun u9 t9 H1 locs ht9 hvm9 hw9 hB9 hz9 hk9 hS => ?_)
        obtain ⟨hP, -⟩ := hB9
        rw [ht9] at hP
        generalize H1 = H at hP hS ⊢
        obtain ⟨μ4, eμ4⟩ : ∃ x : va_M, x = u9 := ⟨_, rfl⟩
        rw [← eμ4] at hP hw9
        have hμ4 := hw9; clear hw9
        exact W.vret hx hb hr (fun t9 ht9 hW9 => ⟨⟨μ4, rfl, (by
                        try dsimp only
                        exact ⟨hμ4.1, fr_trans (fr_mono fd (fun _ _ h => Or.inl h)) (fr_mono hμ4.2 (fun _ _ h => Or.inr h))⟩), by rw [ht9]; exact hP, va_K.moved hW9.alike hK⟩, hS.F ht9⟩) hS.2.2 dX10_putsRepeat_190

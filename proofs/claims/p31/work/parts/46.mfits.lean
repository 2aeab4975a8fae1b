set_option maxRecDepth 100000 in
theorem k1500 : (Cond.methodLink "PageSkeletonModel" (310 : Nat) ({ cls := "PageSkeletonModel", name := "isFit", desc := "(I)Z" } : MethodName)) ∈ wsG := wsG_a7 60 rfl rfl
set_option maxRecDepth 100000 in
theorem k1502 : (Cond.instanceMethod ({ cls := "PageSkeletonModel", name := "isFit", desc := "(I)Z" } : MethodName)) ∈ wsG := wsG_a7 62 rfl rfl
set_option maxRecDepth 100000 in
theorem k1503 : (Cond.code ({ cls := "PageSkeletonModel", name := "isFit", desc := "(I)Z" } : MethodName) prog_12_method_81_code (2 : Nat) (Option.some FieldType.boolean)) ∈ wsG := wsG_a7 63 rfl rfl
set_option maxRecDepth 100000 in
theorem k1504 : (Cond.methodLink "PageSkeletonModel" (389 : Nat) ({ cls := "PageSkeletonModel", name := "laysWays", desc := "(I)V" } : MethodName)) ∈ wsG := wsG_a7 64 rfl rfl
set_option maxRecDepth 100000 in
theorem k1506 : (Cond.instanceMethod ({ cls := "PageSkeletonModel", name := "laysWays", desc := "(I)V" } : MethodName)) ∈ wsG := wsG_a7 66 rfl rfl
set_option maxRecDepth 100000 in
theorem k1507 : (Cond.code ({ cls := "PageSkeletonModel", name := "laysWays", desc := "(I)V" } : MethodName) prog_12_method_79_code (7 : Nat) (Option.none : Option Jvm.ClassFile.FieldType)) ∈ wsG := wsG_a7 67 rfl rfl
set_option maxRecDepth 100000 in
theorem ks_yX10_laysWays : Cond.selects RX10 yX10_laysWays yX10_laysWays ∈ wsG := wsG_p 84 rfl rfl
set_option maxRecDepth 100000 in
theorem ks_yX10_isFit : Cond.selects RX10 yX10_isFit yX10_isFit ∈ wsG := wsG_p 83 rfl rfl
theorem dX10_fitMany_0 : decode cX10_fitMany 0 = .ok (.iconst 0, 1) := by decide +kernel
theorem dX10_fitMany_1 : decode cX10_fitMany 1 = .ok (.istore_n 1, 1) := by decide +kernel
theorem dX10_fitMany_2 : decode cX10_fitMany 2 = .ok (.iconst 0, 1) := by decide +kernel
theorem dX10_fitMany_3 : decode cX10_fitMany 3 = .ok (.istore_n 2, 1) := by decide +kernel
theorem dX10_fitMany_4 : decode cX10_fitMany 4 = .ok (.iload_n 2, 1) := by decide +kernel
theorem dX10_fitMany_5 : decode cX10_fitMany 5 = .ok (.aload_n 0, 1) := by decide +kernel
theorem dX10_fitMany_6 : decode cX10_fitMany 6 = .ok (.getfield 181, 3) := by decide +kernel
theorem dX10_fitMany_9 : decode cX10_fitMany 9 = .ok (.if_icmp .ge 25, 3) := by decide +kernel
theorem dX10_fitMany_12 : decode cX10_fitMany 12 = .ok (.iload_n 1, 1) := by decide +kernel
theorem dX10_fitMany_13 : decode cX10_fitMany 13 = .ok (.aload_n 0, 1) := by decide +kernel
theorem dX10_fitMany_14 : decode cX10_fitMany 14 = .ok (.iload_n 2, 1) := by decide +kernel
theorem dX10_fitMany_15 : decode cX10_fitMany 15 = .ok (.invokevirtual 310, 3) := by decide +kernel
theorem dX10_fitMany_18 : decode cX10_fitMany 18 = .ok (.ifCond .eq 7, 3) := by decide +kernel
theorem dX10_fitMany_21 : decode cX10_fitMany 21 = .ok (.iconst 1, 1) := by decide +kernel
theorem dX10_fitMany_22 : decode cX10_fitMany 22 = .ok (.goto 4, 3) := by decide +kernel
theorem dX10_fitMany_25 : decode cX10_fitMany 25 = .ok (.iconst 0, 1) := by decide +kernel
theorem dX10_fitMany_26 : decode cX10_fitMany 26 = .ok (.iadd, 1) := by decide +kernel
theorem dX10_fitMany_27 : decode cX10_fitMany 27 = .ok (.istore_n 1, 1) := by decide +kernel
theorem dX10_fitMany_28 : decode cX10_fitMany 28 = .ok (.iinc 2 1, 3) := by decide +kernel
theorem dX10_fitMany_31 : decode cX10_fitMany 31 = .ok (.goto (-27), 3) := by decide +kernel
theorem dX10_fitMany_34 : decode cX10_fitMany 34 = .ok (.iload_n 1, 1) := by decide +kernel
theorem dX10_fitMany_35 : decode cX10_fitMany 35 = .ok (.ireturn, 1) := by decide +kernel
theorem dX10_fits_0 : decode cX10_fits 0 = .ok (.aload_n 0, 1) := by decide +kernel
theorem dX10_fits_1 : decode cX10_fits 1 = .ok (.iconst 0, 1) := by decide +kernel
theorem dX10_fits_2 : decode cX10_fits 2 = .ok (.putfield 127, 3) := by decide +kernel
theorem dX10_fits_5 : decode cX10_fits 5 = .ok (.aload_n 0, 1) := by decide +kernel
theorem dX10_fits_6 : decode cX10_fits 6 = .ok (.aload_n 0, 1) := by decide +kernel
theorem dX10_fits_7 : decode cX10_fits 7 = .ok (.iload_n 1, 1) := by decide +kernel
theorem dX10_fits_8 : decode cX10_fits 8 = .ok (.invokevirtual 346, 3) := by decide +kernel
theorem dX10_fits_11 : decode cX10_fits 11 = .ok (.ifCond .ne 7, 3) := by decide +kernel
theorem dX10_fits_14 : decode cX10_fits 14 = .ok (.iconst 1, 1) := by decide +kernel
theorem dX10_fits_15 : decode cX10_fits 15 = .ok (.goto 4, 3) := by decide +kernel
theorem dX10_fits_18 : decode cX10_fits 18 = .ok (.iconst 0, 1) := by decide +kernel
theorem dX10_fits_19 : decode cX10_fits 19 = .ok (.iconst 1, 1) := by decide +kernel
theorem dX10_fits_20 : decode cX10_fits 20 = .ok (.iconst 0, 1) := by decide +kernel
theorem dX10_fits_21 : decode cX10_fits 21 = .ok (.invokevirtual 177, 3) := by decide +kernel
theorem dX10_fits_24 : decode cX10_fits 24 = .ok (.ifCond .eq 5, 3) := by decide +kernel
theorem dX10_fits_27 : decode cX10_fits 27 = .ok (.iconst 0, 1) := by decide +kernel
theorem dX10_fits_28 : decode cX10_fits 28 = .ok (.ireturn, 1) := by decide +kernel
theorem dX10_fits_29 : decode cX10_fits 29 = .ok (.aload_n 0, 1) := by decide +kernel
theorem dX10_fits_30 : decode cX10_fits 30 = .ok (.iload_n 1, 1) := by decide +kernel
theorem dX10_fits_31 : decode cX10_fits 31 = .ok (.invokevirtual 310, 3) := by decide +kernel
theorem dX10_fits_34 : decode cX10_fits 34 = .ok (.ireturn, 1) := by decide +kernel
theorem dX10_fitting_0 : decode cX10_fitting 0 = .ok (.aload_n 0, 1) := by decide +kernel
theorem dX10_fitting_1 : decode cX10_fitting 1 = .ok (.iconst 0, 1) := by decide +kernel
theorem dX10_fitting_2 : decode cX10_fitting 2 = .ok (.putfield 127, 3) := by decide +kernel
theorem dX10_fitting_5 : decode cX10_fitting 5 = .ok (.iconst 0, 1) := by decide +kernel
theorem dX10_fitting_6 : decode cX10_fitting 6 = .ok (.istore_n 1, 1) := by decide +kernel
theorem dX10_fitting_7 : decode cX10_fitting 7 = .ok (.iconst 0, 1) := by decide +kernel
theorem dX10_fitting_8 : decode cX10_fitting 8 = .ok (.istore_n 2, 1) := by decide +kernel
theorem dX10_fitting_9 : decode cX10_fitting 9 = .ok (.iload_n 2, 1) := by decide +kernel
theorem dX10_fitting_10 : decode cX10_fitting 10 = .ok (.aload_n 0, 1) := by decide +kernel
theorem dX10_fitting_11 : decode cX10_fitting 11 = .ok (.getfield 181, 3) := by decide +kernel
theorem dX10_fitting_14 : decode cX10_fitting 14 = .ok (.if_icmp .ge 27, 3) := by decide +kernel
theorem dX10_fitting_17 : decode cX10_fitting 17 = .ok (.iload_n 1, 1) := by decide +kernel
theorem dX10_fitting_18 : decode cX10_fitting 18 = .ok (.aload_n 0, 1) := by decide +kernel
theorem dX10_fitting_19 : decode cX10_fitting 19 = .ok (.iload_n 2, 1) := by decide +kernel
theorem dX10_fitting_20 : decode cX10_fitting 20 = .ok (.invokevirtual 310, 3) := by decide +kernel
theorem dX10_fitting_23 : decode cX10_fitting 23 = .ok (.ifCond .eq 9, 3) := by decide +kernel
theorem dX10_fitting_26 : decode cX10_fitting 26 = .ok (.iconst 1, 1) := by decide +kernel
theorem dX10_fitting_27 : decode cX10_fitting 27 = .ok (.iload_n 2, 1) := by decide +kernel
theorem dX10_fitting_28 : decode cX10_fitting 28 = .ok (.ishl, 1) := by decide +kernel
theorem dX10_fitting_29 : decode cX10_fitting 29 = .ok (.goto 4, 3) := by decide +kernel
theorem dX10_fitting_32 : decode cX10_fitting 32 = .ok (.iconst 0, 1) := by decide +kernel
theorem dX10_fitting_33 : decode cX10_fitting 33 = .ok (.ior, 1) := by decide +kernel
theorem dX10_fitting_34 : decode cX10_fitting 34 = .ok (.istore_n 1, 1) := by decide +kernel
theorem dX10_fitting_35 : decode cX10_fitting 35 = .ok (.iinc 2 1, 3) := by decide +kernel
theorem dX10_fitting_38 : decode cX10_fitting 38 = .ok (.goto (-29), 3) := by decide +kernel
theorem dX10_fitting_41 : decode cX10_fitting 41 = .ok (.iload_n 1, 1) := by decide +kernel
theorem dX10_fitting_42 : decode cX10_fitting 42 = .ok (.ireturn, 1) := by decide +kernel
theorem dX10_isFit_0 : decode cX10_isFit 0 = .ok (.aload_n 0, 1) := by decide +kernel
theorem dX10_isFit_1 : decode cX10_isFit 1 = .ok (.iload_n 1, 1) := by decide +kernel
theorem dX10_isFit_2 : decode cX10_isFit 2 = .ok (.invokevirtual 389, 3) := by decide +kernel
theorem dX10_isFit_5 : decode cX10_isFit 5 = .ok (.aload_n 0, 1) := by decide +kernel
theorem dX10_isFit_6 : decode cX10_isFit 6 = .ok (.getfield 97, 3) := by decide +kernel
theorem dX10_isFit_9 : decode cX10_isFit 9 = .ok (.iconst 0, 1) := by decide +kernel
theorem dX10_isFit_10 : decode cX10_isFit 10 = .ok (.aaload, 1) := by decide +kernel
theorem dX10_isFit_11 : decode cX10_isFit 11 = .ok (.iconst 0, 1) := by decide +kernel
theorem dX10_isFit_12 : decode cX10_isFit 12 = .ok (.iaload, 1) := by decide +kernel
theorem dX10_isFit_13 : decode cX10_isFit 13 = .ok (.ifCond .le 7, 3) := by decide +kernel
theorem dX10_isFit_16 : decode cX10_isFit 16 = .ok (.iconst 1, 1) := by decide +kernel
theorem dX10_isFit_17 : decode cX10_isFit 17 = .ok (.goto 4, 3) := by decide +kernel
theorem dX10_isFit_20 : decode cX10_isFit 20 = .ok (.iconst 0, 1) := by decide +kernel
theorem dX10_isFit_21 : decode cX10_isFit 21 = .ok (.ireturn, 1) := by decide +kernel
theorem dX10_ways_0 : decode cX10_ways 0 = .ok (.aload_n 0, 1) := by decide +kernel
theorem dX10_ways_1 : decode cX10_ways 1 = .ok (.iconst 0, 1) := by decide +kernel
theorem dX10_ways_2 : decode cX10_ways 2 = .ok (.putfield 127, 3) := by decide +kernel
theorem dX10_ways_5 : decode cX10_ways 5 = .ok (.aload_n 0, 1) := by decide +kernel
theorem dX10_ways_6 : decode cX10_ways 6 = .ok (.aload_n 0, 1) := by decide +kernel
theorem dX10_ways_7 : decode cX10_ways 7 = .ok (.iload_n 1, 1) := by decide +kernel
theorem dX10_ways_8 : decode cX10_ways 8 = .ok (.invokevirtual 346, 3) := by decide +kernel
theorem dX10_ways_11 : decode cX10_ways 11 = .ok (.ifCond .ne 7, 3) := by decide +kernel
theorem dX10_ways_14 : decode cX10_ways 14 = .ok (.iconst 1, 1) := by decide +kernel
theorem dX10_ways_15 : decode cX10_ways 15 = .ok (.goto 4, 3) := by decide +kernel
theorem dX10_ways_18 : decode cX10_ways 18 = .ok (.iconst 0, 1) := by decide +kernel
theorem dX10_ways_19 : decode cX10_ways 19 = .ok (.iconst 1, 1) := by decide +kernel
theorem dX10_ways_20 : decode cX10_ways 20 = .ok (.iconst 0, 1) := by decide +kernel
theorem dX10_ways_21 : decode cX10_ways 21 = .ok (.invokevirtual 177, 3) := by decide +kernel
theorem dX10_ways_24 : decode cX10_ways 24 = .ok (.ifCond .eq 5, 3) := by decide +kernel
theorem dX10_ways_27 : decode cX10_ways 27 = .ok (.iconst 0, 1) := by decide +kernel
theorem dX10_ways_28 : decode cX10_ways 28 = .ok (.ireturn, 1) := by decide +kernel
theorem dX10_ways_29 : decode cX10_ways 29 = .ok (.aload_n 0, 1) := by decide +kernel
theorem dX10_ways_30 : decode cX10_ways 30 = .ok (.iload_n 1, 1) := by decide +kernel
theorem dX10_ways_31 : decode cX10_ways 31 = .ok (.invokevirtual 389, 3) := by decide +kernel
theorem dX10_ways_34 : decode cX10_ways 34 = .ok (.aload_n 0, 1) := by decide +kernel
theorem dX10_ways_35 : decode cX10_ways 35 = .ok (.getfield 97, 3) := by decide +kernel
theorem dX10_ways_38 : decode cX10_ways 38 = .ok (.iconst 0, 1) := by decide +kernel
theorem dX10_ways_39 : decode cX10_ways 39 = .ok (.aaload, 1) := by decide +kernel
theorem dX10_ways_40 : decode cX10_ways 40 = .ok (.iconst 0, 1) := by decide +kernel
theorem dX10_ways_41 : decode cX10_ways 41 = .ok (.iaload, 1) := by decide +kernel
theorem dX10_ways_42 : decode cX10_ways 42 = .ok (.ireturn, 1) := by decide +kernel
theorem SW_PS {x y : Nat} (h : SW x y) : PS x y := by unfold SW SF CF at h; unfold PS; omega
theorem SF_PS {x y : Nat} (h : SF x y) : PS x y := by unfold SF at h; unfold PS; omega
/-- the ways of a page are laid; whether it fits -/
def fitR (μ u : va_M) (pp : Nat) (r : Int) : Prop := fr SW μ u ∧ (r = 0 ∨ r = 1) ∧ (∃ w : Rw, skB w ∧ TR u 0 w ∧ u 0 39 = rS w ∧ RS u w 0 0) ∧ (∀ c : Nat, (c : Int) ≤ μ 15 pp → cFix u (μ 15 pp) pp c) ∧ (r = 1 → 0 < u 4416 0)
set_option maxHeartbeats 4000000 in
set_option maxRecDepth 100000 in
theorem m_isFit (l : Launch) (dC : Nat → ClassId) (dI : Nat → Nat → Nat) (cI cZ cII cIII : ClassId) (h0 sz : Nat) (μ : va_M) (pp : Int) (hQ : RQ μ) (hpp : 0 ≤ pp ∧ pp < μ 0 10) : Met l yX10_isFit (Cond.code yX10_isFit cX10_isFit 2 (some .boolean) :: wsG) ({ frames := 6, cells := 0, slots := 0, locals := 146 } : Room) (va_Pc [.ref h0, .int (iZ (pp))] (fun U => U.heap.size = sz ∧ va_P (dC, dI) vwCl (fw (mE cI cZ cII cIII h0) h0 6325 μ) U.heap ∧ va_K (dC, dI) vwCl (mT cI cZ cII cIII) U)) (va_Qi (fun (r9 : Int32) (u : va_M × Int) => r9 = iZ u.2 ∧ (fun (u : va_M) (r : Int) => fitR μ u pp.toNat r) u.1 u.2) (fun u t => va_P (dC, dI) vwCl (fw (mE cI cZ cII cIII h0) h0 6325 u.1) t.heap ∧ va_K (dC, dI) vwCl (mT cI cZ cII cIII) t) (fA h0 6325 sz)) 0 0 (fA h0 6325 sz) := by
  refine Met.ofW (cc := cX10_isFit) (maxL := 2) (ret := (some .boolean)) (by decide) rfl ?_
  intro p e s m args below meth c s₁ B hml hv
  obtain ⟨rfl, hsz, hP, hK⟩ := hv
  have hx := B.exec
  have hb := B.bytes
  have hr := B.returns
  have hts : ∀ w ∈ wsG, w.before _ s = true := hG_of (atoms_spec (ws := (Cond.code yX10_isFit cX10_isFit 2 (some .boolean) :: wsG)) B.pre)
  have hown : s.vm.findClass RX10 = some m.cls := findClass_of_methodNamed B.named
  have hlocks := B.notSynchronized
  subst hsz
  have hS : va_S (fA h0 6325 s.heap.size) s.heap s.heap [] := va_S.rf
  have hl := lv_entry ([.ref h0, .int (iZ (pp))]) (n := 2) (Nat.le_of_ble_eq_true rfl)
  rw [lg_entry_eq]
  generalize (lg_sl ([.ref h0, .int (iZ (pp))]) ++ List.replicate (2 - (lg_sl ([.ref h0, .int (iZ (pp))])).length) Slot.unset).toArray = ls at hl ⊢
  have hl : lv_has ls 2 [(0, .ref h0), (1, .int (iZ (pp)))] := hl
  have hQc := hQ
  obtain ⟨k10, ⟨kT, kTb, kTw⟩, kS3, kPg, kw, kwB, kwT⟩ := hQc
  obtain ⟨p1, p2, p3, pw, pw1, pw2, pw3⟩ := kPg pp.toNat (by (first | ((try clear pw3); (try clear pw2); (try clear pw1); (try clear pw); (try clear p3); (try clear p2); (try clear p1); (try clear kwT); (try clear kwB); (try clear kw); (try clear kPg); (try clear kS3); (try clear kTw); (try clear kTb); (try clear kT); (try clear hQc); (try clear hsz); (try clear s₁); omega) | omega))
  have kT1 := kTb.1
  have kT2 := kTb.2.1
  refine lv_aload_n hx hb dX10_isFit_0 rfl (lv_at hl 0 rfl) ?_
  refine lv_iload_n hx hb dX10_isFit_1 rfl (lv_at hl 1 rfl) ?_
  refine va_callv (va_runV (As := [.int (iZ (pp))]) (rest := []) ⟨hx, hb, hml, hown, hts⟩ (m_laysWays l dC dI cI cZ cII cIII h0 s.heap.size μ (pp) (kw) (by exact kwT) (by exact kwB.1) (by exact kwB.2.1) (by (first | ((try clear kT2); (try clear kT1); (try clear pw3); (try clear pw2); (try clear pw1); (try clear p3); (try clear p2); (try clear p1); (try clear kwT); (try clear kwB); (try clear kw); (try clear kPg); (try clear kS3); (try clear kTw); (try clear kTb); (try clear hQc); (try clear hsz); (try clear s₁); omega) | omega)) (by (first | ((try clear kT2); (try clear kT1); (try clear pw3); (try clear pw2); (try clear pw1); (try clear p3); (try clear p2); (try clear kwT); (try clear kwB); (try clear kw); (try clear kPg); (try clear kS3); (try clear kTw); (try clear kTb); (try clear k10); (try clear hQc); (try clear hsz); (try clear s₁); (try clear hpp); omega) | omega)) (by intro k hk; have := p3 k hk; (first | ((try clear hk); (try clear pw3); (try clear pw2); (try clear pw1); (try clear p3); (try clear p2); (try clear p1); (try clear kwT); (try clear kwB); (try clear kw); (try clear kPg); (try clear kS3); (try clear kTw); (try clear kTb); (try clear k10); (try clear hQc); (try clear hsz); (try clear s₁); (try clear hpp); omega) | omega)) (by exact kS3)) (cwV 1 hts (gV_G k1504 k1506 ks_yX10_laysWays k13 k1507) rfl rfl rfl (by decide +kernel) ⟨Nat.le_of_ble_eq_true rfl, Nat.le_of_ble_eq_true rfl⟩) ⟨fun a U g mk q => by obtain ⟨q0, q1, qP, qK⟩ := q; exact ⟨q0, q1, qP, va_K.moved (u := U) (U := U.calling g mk a) (Vm.Alike.refl U.vm) qK⟩, va_recv hK hP (ci := 10) (q0 := 0) rfl ((fw_get (by decide)).trans (by rw [mE_obj]; rfl)), fun U hU hW => ⟨rfl, by rw [hU], by rw [hU]; exact hP, va_K.moved hW.alike hK⟩⟩ rfl rfl hl.1 rfl (lv_room (Nat.le_of_ble_eq_true rfl)) dX10_isFit_2 ⟨Nat.le_of_ble_eq_true rfl, Nat.le_of_ble_eq_true rfl⟩) hS (fun q _ h => fA_le hS.1 q h) (fA_le hS.1) (fun u9 t9 H1 locs ht9 hvm9 hw9 hB9 hz9 hk9 hS => ?_)
  obtain ⟨hP, -⟩ := hB9
  rw [ht9] at hP
  generalize H1 = H at hP hS ⊢
  obtain ⟨μa, eμa⟩ : ∃ x : va_M, x = u9 := ⟨_, rfl⟩
  rw [← eμa] at hP hw9
  have hμa := hw9; clear hw9
  obtain ⟨a1, a2, a3, a4⟩ := hμa
  have a40 := (a4 0 (by (first | ((try clear a40); (try clear a4); (try clear a3); (try clear a2); (try clear a1); (try clear hμa); (try clear x); (try clear eμa); (try clear hz9); (try clear kT2); (try clear kT1); (try clear pw3); (try clear pw2); (try clear pw1); (try clear p3); (try clear p2); (try clear kwT); (try clear kwB); (try clear kPg); (try clear kS3); (try clear kTw); (try clear kTb); (try clear k10); (try clear hQc); (try clear hsz); (try clear s₁); (try clear hpp); omega) | omega))).1 0 (by rw [a2]; (first | ((try clear a40); (try clear a4); (try clear a3); (try clear a2); (try clear a1); (try clear hμa); (try clear x); (try clear eμa); (try clear hz9); (try clear kT2); (try clear kT1); (try clear pw3); (try clear pw2); (try clear pw1); (try clear p3); (try clear p2); (try clear p1); (try clear kwT); (try clear kwB); (try clear kPg); (try clear kS3); (try clear kTw); (try clear kTb); (try clear k10); (try clear hQc); (try clear hsz); (try clear s₁); (try clear hpp); omega) | omega))
  have a40 : 0 ≤ μa (4416 + 0) 0 ∧ μa (4416 + 0) 0 ≤ 1000000000 := a40
  refine lv_aload_n hx hb dX10_isFit_5 rfl (lv_at hl 0 rfl) ?_
  refine fz_get (D := (dC, dI)) (ci := 10) (v := .ref (h0 + 4415)) (C := RX10) (T := TX10) (N := 53) hx hb hts inG10 hown hK hP (k := 0) (by decide) (F := mF h0) mE_obj rfl 43 (by decide) (hts _ k1209) (fun _ h9 => h9) rfl dX10_isFit_6 ?_
  refine lv_iconst (v := iZ 0) hx hb dX10_isFit_9 rfl ?_
  refine fz_ald (k := 4415) (n := 1900) (k2 := (4416 + 0)) hx hb hK hP 2 rfl (by decide) mE_can rfl ⟨by (first | ((try clear a40); (try clear a4); (try clear a3); (try clear a2); (try clear a1); (try clear hμa); (try clear x); (try clear eμa); (try clear hz9); (try clear kT2); (try clear kT1); (try clear pw3); (try clear pw2); (try clear pw1); (try clear p3); (try clear p2); (try clear p1); (try clear kwT); (try clear kwB); (try clear kPg); (try clear kS3); (try clear kTw); (try clear kTb); (try clear k10); (try clear hQc); (try clear hsz); (try clear s₁); (try clear hpp); omega) | omega), by (first | ((try clear a40); (try clear a4); (try clear a3); (try clear a2); (try clear a1); (try clear hμa); (try clear x); (try clear eμa); (try clear hz9); (try clear kT2); (try clear kT1); (try clear pw3); (try clear pw2); (try clear pw1); (try clear p3); (try clear p2); (try clear p1); (try clear kwT); (try clear kwB); (try clear kPg); (try clear kS3); (try clear kTw); (try clear kTb); (try clear k10); (try clear hQc); (try clear hsz); (try clear s₁); (try clear hpp); omega) | omega)⟩ (by decide) (if_pos (by (first | ((try clear a40); (try clear a4); (try clear a3); (try clear a2); (try clear a1); (try clear hμa); (try clear x); (try clear eμa); (try clear hz9); (try clear kT2); (try clear kT1); (try clear pw3); (try clear pw2); (try clear pw1); (try clear p3); (try clear p2); (try clear p1); (try clear kwT); (try clear kwB); (try clear kPg); (try clear kS3); (try clear kTw); (try clear kTb); (try clear k10); (try clear hQc); (try clear hsz); (try clear s₁); (try clear hpp); omega) | omega))) dX10_isFit_10 ?_
  refine lv_iconst (v := iZ 0) hx hb dX10_isFit_11 rfl ?_
  refine fz_ld (k := (4416 + 0)) (n := 62) hx hb hK hP 0 (by (first | ((try clear a40); (try clear a4); (try clear a3); (try clear a2); (try clear a1); (try clear hμa); (try clear x); (try clear eμa); (try clear hz9); (try clear kT2); (try clear kT1); (try clear pw3); (try clear pw2); (try clear pw1); (try clear p3); (try clear p2); (try clear p1); (try clear kwT); (try clear kwB); (try clear kPg); (try clear kS3); (try clear kTw); (try clear kTb); (try clear k10); (try clear hQc); (try clear hsz); (try clear s₁); (try clear hpp); omega) | omega)) (mE_canR (by (first | ((try clear a40); (try clear a4); (try clear a3); (try clear a2); (try clear a1); (try clear hμa); (try clear x); (try clear eμa); (try clear hz9); (try clear kT2); (try clear kT1); (try clear pw3); (try clear pw2); (try clear pw1); (try clear p3); (try clear p2); (try clear p1); (try clear kwT); (try clear kwB); (try clear kPg); (try clear kS3); (try clear kTw); (try clear kTb); (try clear k10); (try clear hQc); (try clear hsz); (try clear s₁); (try clear hpp); omega) | omega))) rfl ⟨by (first | ((try clear a40); (try clear a4); (try clear a3); (try clear a2); (try clear a1); (try clear hμa); (try clear x); (try clear eμa); (try clear hz9); (try clear kT2); (try clear kT1); (try clear pw3); (try clear pw2); (try clear pw1); (try clear p3); (try clear p2); (try clear p1); (try clear kwT); (try clear kwB); (try clear kPg); (try clear kS3); (try clear kTw); (try clear kTb); (try clear k10); (try clear hQc); (try clear hsz); (try clear s₁); (try clear hpp); omega) | omega), by (first | ((try clear a40); (try clear a4); (try clear a3); (try clear a2); (try clear a1); (try clear hμa); (try clear x); (try clear eμa); (try clear hz9); (try clear kT2); (try clear kT1); (try clear pw3); (try clear pw2); (try clear pw1); (try clear p3); (try clear p2); (try clear p1); (try clear kwT); (try clear kwB); (try clear kPg); (try clear kS3); (try clear kTw); (try clear kTb); (try clear k10); (try clear hQc); (try clear hsz); (try clear s₁); (try clear hpp); omega) | omega)⟩ (by decide) dX10_isFit_12 ?_
  rw [show (0 : Int).toNat = 0 from rfl]
  refine fz_if_le (tgt := 20) (by constructor <;> (first | ((try clear a40); (try clear a4); (try clear a3); (try clear a2); (try clear a1); (try clear hμa); (try clear x); (try clear eμa); (try clear hz9); (try clear kT2); (try clear kT1); (try clear pw3); (try clear pw2); (try clear pw1); (try clear p3); (try clear p2); (try clear p1); (try clear kwT); (try clear kwB); (try clear kPg); (try clear kS3); (try clear kTw); (try clear kTb); (try clear k10); (try clear hQc); (try clear hsz); (try clear s₁); (try clear hpp); omega) | omega)) hx hb dX10_isFit_13 (by decide) (fun c13_ => ?_) (fun c13_ => ?_)
  · refine lv_iconst (v := iZ 0) hx hb dX10_isFit_20 rfl ?_
    exact W.zret (v := iZ (0)) hx hb hr (by decide +kernel) (fun t9 ht9 hW9 => ⟨⟨iZ (0), (μa, 0), rfl, ⟨rfl, (by
                dsimp only
                refine ⟨a1, by (first | ((try clear c13_); (try clear a40); (try clear a4); (try clear a3); (try clear a2); (try clear a1); (try clear hμa); (try clear x); (try clear eμa); (try clear hz9); (try clear kT2); (try clear kT1); (try clear pw3); (try clear pw2); (try clear pw1); (try clear p3); (try clear p2); (try clear p1); (try clear kwT); (try clear kwB); (try clear kPg); (try clear kS3); (try clear kTw); (try clear kTb); (try clear k10); (try clear hQc); (try clear hsz); (try clear s₁); (try clear hpp); omega) | omega), ⟨kw, kwB, TR_PS kwT (fr_mono a1 (fun _ _ h => SW_PS h)) (by (first | ((try clear c13_); (try clear a40); (try clear a4); (try clear a3); (try clear a2); (try clear a1); (try clear hμa); (try clear x); (try clear eμa); (try clear hz9); (try clear kT2); (try clear kT1); (try clear pw3); (try clear pw2); (try clear pw1); (try clear p3); (try clear p2); (try clear p1); (try clear kwT); (try clear kwB); (try clear kPg); (try clear kS3); (try clear kTw); (try clear kTb); (try clear k10); (try clear hQc); (try clear hsz); (try clear s₁); (try clear hpp); omega) | omega)), a2, a3⟩, a4, fun h => ?_⟩
                show 0 < μa (4416 + 0) 0
                (first | ((try clear c13_); (try clear a40); (try clear a4); (try clear a3); (try clear a2); (try clear a1); (try clear hμa); (try clear x); (try clear eμa); (try clear hz9); (try clear kT2); (try clear kT1); (try clear pw3); (try clear pw2); (try clear pw1); (try clear p3); (try clear p2); (try clear p1); (try clear kwT); (try clear kwB); (try clear kPg); (try clear kS3); (try clear kTw); (try clear kTb); (try clear k10); (try clear hQc); (try clear hsz); (try clear s₁); (try clear hpp); omega) | omega))⟩, by rw [ht9]; exact hP, va_K.moved hW9.alike hK⟩, hS.F ht9⟩) hS.2.2 dX10_isFit_21
  · refine lv_iconst (v := iZ 1) hx hb dX10_isFit_16 rfl ?_
    refine lv_goto (tgt := 21) hx hb dX10_isFit_17 (by decide) ?_
    exact W.zret (v := iZ (1)) hx hb hr (by decide +kernel) (fun t9 ht9 hW9 => ⟨⟨iZ (1), (μa, 1), rfl, ⟨rfl, (by
                dsimp only
                refine ⟨a1, by (first | ((try clear c13_); (try clear a40); (try clear a4); (try clear a3); (try clear a2); (try clear a1); (try clear hμa); (try clear x); (try clear eμa); (try clear hz9); (try clear kT2); (try clear kT1); (try clear pw3); (try clear pw2); (try clear pw1); (try clear p3); (try clear p2); (try clear p1); (try clear kwT); (try clear kwB); (try clear kPg); (try clear kS3); (try clear kTw); (try clear kTb); (try clear k10); (try clear hQc); (try clear hsz); (try clear s₁); (try clear hpp); omega) | omega), ⟨kw, kwB, TR_PS kwT (fr_mono a1 (fun _ _ h => SW_PS h)) (by (first | ((try clear c13_); (try clear a40); (try clear a4); (try clear a3); (try clear a2); (try clear a1); (try clear hμa); (try clear x); (try clear eμa); (try clear hz9); (try clear kT2); (try clear kT1); (try clear pw3); (try clear pw2); (try clear pw1); (try clear p3); (try clear p2); (try clear p1); (try clear kwT); (try clear kwB); (try clear kPg); (try clear kS3); (try clear kTw); (try clear kTb); (try clear k10); (try clear hQc); (try clear hsz); (try clear s₁); (try clear hpp); omega) | omega)), a2, a3⟩, a4, fun h => ?_⟩
                show 0 < μa (4416 + 0) 0
                (first | ((try clear h); (try clear a40); (try clear a4); (try clear a3); (try clear a2); (try clear a1); (try clear hμa); (try clear x); (try clear eμa); (try clear μa); (try clear hz9); (try clear kT2); (try clear kT1); (try clear pw3); (try clear pw2); (try clear pw1); (try clear pw); (try clear p3); (try clear p2); (try clear p1); (try clear kwT); (try clear kwB); (try clear kw); (try clear kPg); (try clear kS3); (try clear kTw); (try clear kTb); (try clear kT); (try clear k10); (try clear hQc); (try clear hsz); (try clear s₁); (try clear hpp); omega) | omega))⟩, by rw [ht9]; exact hP, va_K.moved hW9.alike hK⟩, hS.F ht9⟩) hS.2.2 dX10_isFit_21
set_option maxHeartbeats 4000000 in
set_option maxRecDepth 100000 in
theorem m_ways (l : Launch) (dC : Nat → ClassId) (dI : Nat → Nat → Nat) (cI cZ cII cIII : ClassId) (h0 sz : Nat) (μ : va_M) (pp : Int) (hQ : RQ μ) (hp : inR pp) : Met l yX10_ways (Cond.code yX10_ways cX10_ways 2 (some .int) :: wsG) ({ frames := 6, cells := 0, slots := 0, locals := 146 } : Room) (va_Pc [.ref h0, .int (iZ (pp))] (fun U => U.heap.size = sz ∧ va_P (dC, dI) vwCl (fw (mE cI cZ cII cIII h0) h0 6325 μ) U.heap ∧ va_K (dC, dI) vwCl (mT cI cZ cII cIII) U)) (va_Qi (fun (r9 : Int32) (u : va_M × Int) => r9 = iZ u.2 ∧ (fun (u : va_M) (r : Int) => fr PS μ u ∧ (u 0 0 = 0 ∨ u 0 0 = 1 ∨ u 0 0 = 2)) u.1 u.2) (fun u t => va_P (dC, dI) vwCl (fw (mE cI cZ cII cIII h0) h0 6325 u.1) t.heap ∧ va_K (dC, dI) vwCl (mT cI cZ cII cIII) t) (fA h0 6325 sz)) 0 0 (fA h0 6325 sz) := by
  refine Met.ofW (cc := cX10_ways) (maxL := 2) (ret := (some .int)) (by decide) rfl ?_
  intro p e s m args below meth c s₁ B hml hv
  obtain ⟨rfl, hsz, hP, hK⟩ := hv
  have hx := B.exec
  have hb := B.bytes
  have hr := B.returns
  have hts : ∀ w ∈ wsG, w.before _ s = true := hG_of (atoms_spec (ws := (Cond.code yX10_ways cX10_ways 2 (some .int) :: wsG)) B.pre)
  have hown : s.vm.findClass RX10 = some m.cls := findClass_of_methodNamed B.named
  have hlocks := B.notSynchronized
  subst hsz
  have hS : va_S (fA h0 6325 s.heap.size) s.heap s.heap [] := va_S.rf
  have hl := lv_entry ([.ref h0, .int (iZ (pp))]) (n := 2) (Nat.le_of_ble_eq_true rfl)
  rw [lg_entry_eq]
  generalize (lg_sl ([.ref h0, .int (iZ (pp))]) ++ List.replicate (2 - (lg_sl ([.ref h0, .int (iZ (pp))])).length) Slot.unset).toArray = ls at hl ⊢
  have hl : lv_has ls 2 [(0, .ref h0), (1, .int (iZ (pp)))] := hl
  refine lv_aload_n hx hb dX10_ways_0 rfl (lv_at hl 0 rfl) ?_
  refine lv_iconst (v := iZ 0) hx hb dX10_ways_1 rfl ?_
  refine fz_put (D := (dC, dI)) (ci := 10) (ty := .int) (z := 0) (C := RX10) (T := TX10) (N := 53) hx hb hts inG10 tyX10 tyX10_ok nmX10 hown hK hP fA_in hS (k := 0) (by decide) (F := mF h0) mE_obj rfl 0 (by decide) (hts _ k1166) (fun _ h9 => h9) rfl (by decide +kernel) rfl rfl (fun _ => Nat.le_of_ble_eq_true rfl) (fun _ _ => rfl) dX10_ways_2 (fun H locs hP hS => ?_)
  obtain ⟨μ1, eμ1⟩ : ∃ x : va_M, x = uz μ 0 0 (0) := ⟨_, rfl⟩
  rw [← eμ1] at hP
  have hfr : fr PS μ μ1 := by rw [eμ1]; exact fr_uz fr_rfl (by unfold PS; (first | ((try clear x); (try clear eμ1); (try clear μ1); (try clear hsz); (try clear s₁); omega) | omega))
  have ht0 : μ1 0 0 = 0 := by rw [eμ1, uz_s]
  have e10 := hfr 0 10 (PS_n (by (first | ((try clear e10); (try clear ht0); (try clear x); (try clear eμ1); (try clear hsz); (try clear s₁); omega) | omega)))
  have e9 := hfr 0 9 (PS_n (by (first | ((try clear e10); (try clear ht0); (try clear x); (try clear eμ1); (try clear hsz); (try clear s₁); omega) | omega)))
  have e71 := hfr 719 0 (PS_n (by (first | ((try clear e71); (try clear e10); (try clear ht0); (try clear x); (try clear eμ1); (try clear hsz); (try clear s₁); omega) | omega)))
  have hQ1 := RQ_fr hQ hfr
  have hQc := hQ
  obtain ⟨f10, ⟨fT, fTb, fTw⟩, fS3, fPg, fw9, fwB, fwT⟩ := hQc
  obtain ⟨g10, ⟨gT, gTb, gTw⟩, gS3, gPg, gw, gwB, gwT⟩ := hQ1
  have gtk := TR_tok gwT gwB.1 gwB.2.1
  have gt1 := gtk.1
  have gt2 := gtk.2.1
  refine lv_aload_n hx hb dX10_ways_5 rfl (lv_at hl 0 rfl) ?_
  refine lv_aload_n hx hb dX10_ways_6 rfl (lv_at hl 0 rfl) ?_
  refine lv_iload_n hx hb dX10_ways_7 rfl (lv_at hl 1 rfl) ?_
  refine va_calli (va_runV (As := [.int (iZ (pp))]) (rest := [.ref h0]) ⟨hx, hb, hml, hown, hts⟩ (m_isPage l dC dI cI cZ cII cIII h0 H.size μ1 (pp) (by first | assumption | omega | exact ⟨by omega, by omega⟩) (by first | assumption | omega | exact ⟨by omega, by omega⟩)) (cwV 1 hts (gV_G k1588 k1590 ks_yX10_isPage k13 k1591) rfl rfl rfl (by decide +kernel) ⟨Nat.le_of_ble_eq_true rfl, Nat.le_of_ble_eq_true rfl⟩) ⟨fun a U g mk q => by obtain ⟨q0, q1, qP, qK⟩ := q; exact ⟨q0, q1, qP, va_K.moved (u := U) (U := U.calling g mk a) (Vm.Alike.refl U.vm) qK⟩, va_recv hK hP (ci := 10) (q0 := 0) rfl ((fw_get (by decide)).trans (by rw [mE_obj]; rfl)), fun U hU hW => ⟨rfl, by rw [hU], by rw [hU]; exact hP, va_K.moved hW.alike hK⟩⟩ rfl rfl hl.1 rfl (lv_room (Nat.le_of_ble_eq_true rfl)) dX10_ways_8 ⟨Nat.le_of_ble_eq_true rfl, Nat.le_of_ble_eq_true rfl⟩) hS (fun q _ h => fA_le hS.1 q h) (fA_le hS.1) (fun r9 u9 t9 H1 locs ht9 hvm9 hw9 hB9 hz9 hk9 hS => ?_)
  obtain ⟨μ2, r3⟩ := u9
  obtain ⟨hP, -⟩ := hB9
  rw [ht9] at hP
  generalize H1 = H at hP hS ⊢
  obtain ⟨e9, hw9⟩ := hw9
  have e9 : r9 = iZ r3 := e9
  subst e9
  simp only at hP hw9
  have hμ2 := hw9; clear hw9
  rw [hμ2.1] at hP; have hμ2 := hμ2.2
  have hip := hμ2
  have hip2 := if_01 hμ2
  refine fz_if_ne (tgt := 18) (by constructor <;> (first | ((try clear hip); (try clear hμ2); (try clear hz9); (try clear gt2); (try clear gt1); (try clear gtk); (try clear gwT); (try clear gwB); (try clear gw); (try clear gPg); (try clear gS3); (try clear gTw); (try clear gTb); (try clear gT); (try clear g10); (try clear fwT); (try clear fwB); (try clear fw9); (try clear fPg); (try clear fS3); (try clear fTw); (try clear fTb); (try clear fT); (try clear f10); (try clear hQc); (try clear hQ1); (try clear e71); (try clear e10); (try clear ht0); (try clear x); (try clear eμ1); (try clear hsz); (try clear s₁); omega) | omega)) hx hb dX10_ways_11 (by decide) (fun c11_ => ?_) (fun c11_ => ?_)
  · have hpp := if_get hip (by (first | ((try clear hpp); (try clear hip2); (try clear hip); (try clear hμ2); (try clear r3); (try clear μ2); (try clear hz9); (try clear gt2); (try clear gt1); (try clear gtk); (try clear gwT); (try clear gwB); (try clear gw); (try clear gPg); (try clear gS3); (try clear gTw); (try clear gTb); (try clear gT); (try clear g10); (try clear fwT); (try clear fwB); (try clear fw9); (try clear fPg); (try clear fS3); (try clear fTw); (try clear fTb); (try clear fT); (try clear f10); (try clear hQc); (try clear hQ1); (try clear e71); (try clear e10); (try clear ht0); (try clear x); (try clear eμ1); (try clear μ1); (try clear hsz); (try clear s₁); omega) | omega))
    refine lv_iconst (v := iZ 0) hx hb dX10_ways_18 rfl ?_
    refine lv_iconst (v := iZ 1) hx hb dX10_ways_19 rfl ?_
    refine lv_iconst (v := iZ 0) hx hb dX10_ways_20 rfl ?_
    refine va_calli (va_runV (As := [.int (iZ (0)), .int (iZ (1)), .int (iZ (0))]) (rest := []) ⟨hx, hb, hml, hown, hts⟩ (m_bad2 l dC dI cI cZ cII cIII h0 H.size μ1 (0) (1) (0) (by first | assumption | (first | ((try clear hpp); (try clear c11_); (try clear hip2); (try clear hip); (try clear hμ2); (try clear μ2); (try clear hz9); (try clear gt2); (try clear gt1); (try clear gtk); (try clear gwT); (try clear gwB); (try clear gw); (try clear gPg); (try clear gS3); (try clear gTw); (try clear gTb); (try clear gT); (try clear g10); (try clear fwT); (try clear fwB); (try clear fw9); (try clear fPg); (try clear fS3); (try clear fTw); (try clear fTb); (try clear fT); (try clear f10); (try clear hQc); (try clear hQ1); (try clear e71); (try clear e10); (try clear ht0); (try clear x); (try clear eμ1); (try clear hsz); (try clear s₁); omega) | omega) | exact ⟨by omega, by omega⟩) (by first | assumption | (first | ((try clear hpp); (try clear c11_); (try clear hip2); (try clear hip); (try clear hμ2); (try clear μ2); (try clear hz9); (try clear gt2); (try clear gt1); (try clear gtk); (try clear gwT); (try clear gwB); (try clear gw); (try clear gPg); (try clear gS3); (try clear gTw); (try clear gTb); (try clear gT); (try clear g10); (try clear fwT); (try clear fwB); (try clear fw9); (try clear fPg); (try clear fS3); (try clear fTw); (try clear fTb); (try clear fT); (try clear f10); (try clear hQc); (try clear hQ1); (try clear e71); (try clear e10); (try clear ht0); (try clear x); (try clear eμ1); (try clear hsz); (try clear s₁); omega) | omega) | exact ⟨by omega, by omega⟩) (by first | assumption | (first | ((try clear hpp); (try clear c11_); (try clear hip2); (try clear hip); (try clear hμ2); (try clear μ2); (try clear hz9); (try clear gt2); (try clear gt1); (try clear gtk); (try clear gwT); (try clear gwB); (try clear gw); (try clear gPg); (try clear gS3); (try clear gTw); (try clear gTb); (try clear gT); (try clear g10); (try clear fwT); (try clear fwB); (try clear fw9); (try clear fPg); (try clear fS3); (try clear fTw); (try clear fTb); (try clear fT); (try clear f10); (try clear hQc); (try clear hQ1); (try clear e71); (try clear e10); (try clear ht0); (try clear x); (try clear eμ1); (try clear hsz); (try clear s₁); omega) | omega) | exact ⟨by omega, by omega⟩) (by first | assumption | omega | exact ⟨by omega, by omega⟩)) (cwV 3 hts (gV_G k1342 k1344 ks_yX10_bad k13 k1345) rfl rfl rfl (by decide +kernel) ⟨Nat.le_of_ble_eq_true rfl, Nat.le_of_ble_eq_true rfl⟩) ⟨fun a U g mk q => by obtain ⟨q0, q1, qP, qK⟩ := q; exact ⟨q0, q1, qP, va_K.moved (u := U) (U := U.calling g mk a) (Vm.Alike.refl U.vm) qK⟩, va_recv hK hP (ci := 10) (q0 := 0) rfl ((fw_get (by decide)).trans (by rw [mE_obj]; rfl)), fun U hU hW => ⟨rfl, by rw [hU], by rw [hU]; exact hP, va_K.moved hW.alike hK⟩⟩ rfl rfl hl.1 rfl (lv_room (Nat.le_of_ble_eq_true rfl)) dX10_ways_21 ⟨Nat.le_of_ble_eq_true rfl, Nat.le_of_ble_eq_true rfl⟩) hS (fun q _ h => fA_le hS.1 q h) (fA_le hS.1) (fun r9 u9 t9 H1 locs ht9 hvm9 hw9 hB9 hz9 hk9 hS => ?_)
    obtain ⟨μ4, r5⟩ := u9
    obtain ⟨hP, -⟩ := hB9
    rw [ht9] at hP
    generalize H1 = H at hP hS ⊢
    obtain ⟨e9, hw9⟩ := hw9
    have e9 : r9 = iZ r5 := e9
    subst e9
    simp only at hP hw9
    have hμ4 := hw9; clear hw9
    have hfr := fr_trans hfr (badP_fr hμ4)
    have hrb := badP_r hμ4
    obtain rfl : r5 = 0 := by (first | ((try clear hfr); (try clear hμ4); (try clear hz9); (try clear hpp); (try clear c11_); (try clear hip2); (try clear hip); (try clear hμ2); (try clear μ2); (try clear gt2); (try clear gt1); (try clear gtk); (try clear gwT); (try clear gwB); (try clear gw); (try clear gPg); (try clear gS3); (try clear gTw); (try clear gTb); (try clear gT); (try clear g10); (try clear fwT); (try clear fwB); (try clear fw9); (try clear fPg); (try clear fS3); (try clear fTw); (try clear fTb); (try clear fT); (try clear f10); (try clear hQc); (try clear hQ1); (try clear e71); (try clear e10); (try clear ht0); (try clear x); (try clear eμ1); (try clear hsz); (try clear s₁); omega) | omega)
    refine fz_if_eq (tgt := 29) (by decide) hx hb dX10_ways_24 (by decide) (fun c24_ => ?_) (fun h9 => absurd h9 (by decide))
    have hQ2 := RQ_fr hQ hfr
    obtain ⟨k10, ⟨kT, kTb, kTw⟩, kS3, kPg, kw, kwB, kwT⟩ := hQ2
    have e10k := hfr 0 10 (PS_n (by (first | ((try clear e10k); (try clear kwT); (try clear kwB); (try clear kw); (try clear kPg); (try clear kS3); (try clear kTw); (try clear kTb); (try clear kT); (try clear k10); (try clear hQ2); (try clear c24_); (try clear hrb); (try clear hfr); (try clear hμ4); (try clear r5); (try clear hz9); (try clear hpp); (try clear c11_); (try clear hip2); (try clear hip); (try clear hμ2); (try clear μ2); (try clear gt2); (try clear gt1); (try clear gtk); (try clear gwT); (try clear gwB); (try clear gw); (try clear gPg); (try clear gS3); (try clear gTw); (try clear gTb); (try clear gT); (try clear g10); (try clear fwT); (try clear fwB); (try clear fw9); (try clear fPg); (try clear fS3); (try clear fTw); (try clear fTb); (try clear fT); (try clear f10); (try clear hQc); (try clear hQ1); (try clear e71); (try clear e10); (try clear ht0); (try clear x); (try clear eμ1); (try clear hsz); (try clear s₁); omega) | omega)))
    have e9k := hfr 0 9 (PS_n (by (first | ((try clear e9k); (try clear e10k); (try clear kwT); (try clear kwB); (try clear kw); (try clear kPg); (try clear kS3); (try clear kTw); (try clear kTb); (try clear kT); (try clear k10); (try clear hQ2); (try clear c24_); (try clear hrb); (try clear hfr); (try clear hμ4); (try clear r5); (try clear hz9); (try clear hpp); (try clear c11_); (try clear hip2); (try clear hip); (try clear hμ2); (try clear μ2); (try clear gt2); (try clear gt1); (try clear gtk); (try clear gwT); (try clear gwB); (try clear gw); (try clear gPg); (try clear gS3); (try clear gTw); (try clear gTb); (try clear gT); (try clear g10); (try clear fwT); (try clear fwB); (try clear fw9); (try clear fPg); (try clear fS3); (try clear fTw); (try clear fTb); (try clear fT); (try clear f10); (try clear hQc); (try clear hQ1); (try clear e71); (try clear e10); (try clear ht0); (try clear x); (try clear eμ1); (try clear hsz); (try clear s₁); omega) | omega)))
    have e71k := hfr 719 0 (PS_n (by (first | ((try clear e71k); (try clear e9k); (try clear e10k); (try clear kwT); (try clear kwB); (try clear kw); (try clear kPg); (try clear kS3); (try clear kTw); (try clear kTb); (try clear kT); (try clear k10); (try clear hQ2); (try clear c24_); (try clear hrb); (try clear hfr); (try clear hμ4); (try clear r5); (try clear hz9); (try clear hpp); (try clear c11_); (try clear hip2); (try clear hip); (try clear hμ2); (try clear μ2); (try clear gt2); (try clear gt1); (try clear gtk); (try clear gwT); (try clear gwB); (try clear gw); (try clear gPg); (try clear gS3); (try clear gTw); (try clear gTb); (try clear gT); (try clear g10); (try clear fwT); (try clear fwB); (try clear fw9); (try clear fPg); (try clear fS3); (try clear fTw); (try clear fTb); (try clear fT); (try clear f10); (try clear hQc); (try clear hQ1); (try clear e71); (try clear e10); (try clear ht0); (try clear x); (try clear eμ1); (try clear hsz); (try clear s₁); omega) | omega)))
    have ktk := TR_tok kwT kwB.1 kwB.2.1
    have kt1 := ktk.1
    have kt2 := ktk.2.1
    obtain ⟨p1, p2, p3, pw, pw1, pw2, pw3⟩ := kPg pp.toNat (by (first | ((try clear pw3); (try clear pw2); (try clear pw1); (try clear pw); (try clear p3); (try clear p2); (try clear p1); (try clear kt2); (try clear kt1); (try clear ktk); (try clear e71k); (try clear e9k); (try clear kwT); (try clear kwB); (try clear kw); (try clear kPg); (try clear kS3); (try clear kTw); (try clear kTb); (try clear kT); (try clear hQ2); (try clear c24_); (try clear hrb); (try clear hfr); (try clear hμ4); (try clear r5); (try clear hz9); (try clear c11_); (try clear hip2); (try clear hip); (try clear hμ2); (try clear μ2); (try clear gt2); (try clear gt1); (try clear gtk); (try clear gwT); (try clear gwB); (try clear gw); (try clear gPg); (try clear gS3); (try clear gTw); (try clear gTb); (try clear gT); (try clear g10); (try clear fwT); (try clear fwB); (try clear fw9); (try clear fPg); (try clear fS3); (try clear fTw); (try clear fTb); (try clear fT); (try clear f10); (try clear hQc); (try clear hQ1); (try clear e71); (try clear ht0); (try clear x); (try clear eμ1); (try clear hsz); (try clear s₁); omega) | omega))
    have kT1 := kTb.1
    have kT2 := kTb.2.1
    refine lv_aload_n hx hb dX10_ways_29 rfl (lv_at hl 0 rfl) ?_
    refine lv_iload_n hx hb dX10_ways_30 rfl (lv_at hl 1 rfl) ?_
    refine va_callv (va_runV (As := [.int (iZ (pp))]) (rest := []) ⟨hx, hb, hml, hown, hts⟩ (m_laysWays l dC dI cI cZ cII cIII h0 H.size μ4 (pp) (kw) (by exact kwT) (by exact kwB.1) (by exact kwB.2.1) (by (first | ((try clear kT2); (try clear kT1); (try clear pw3); (try clear pw2); (try clear pw1); (try clear p3); (try clear p2); (try clear p1); (try clear kt2); (try clear kt1); (try clear ktk); (try clear e71k); (try clear e9k); (try clear kwT); (try clear kwB); (try clear kw); (try clear kPg); (try clear kS3); (try clear kTw); (try clear kTb); (try clear hQ2); (try clear c24_); (try clear hrb); (try clear hfr); (try clear hμ4); (try clear r5); (try clear hz9); (try clear c11_); (try clear hip2); (try clear hip); (try clear hμ2); (try clear μ2); (try clear gt2); (try clear gt1); (try clear gtk); (try clear gwT); (try clear gwB); (try clear gw); (try clear gPg); (try clear gS3); (try clear gTw); (try clear gTb); (try clear gT); (try clear g10); (try clear fwT); (try clear fwB); (try clear fw9); (try clear fPg); (try clear fS3); (try clear fTw); (try clear fTb); (try clear fT); (try clear f10); (try clear hQc); (try clear hQ1); (try clear e71); (try clear ht0); (try clear x); (try clear eμ1); (try clear hsz); (try clear s₁); omega) | omega)) (by (first | ((try clear kT2); (try clear kT1); (try clear pw3); (try clear pw2); (try clear pw1); (try clear p3); (try clear p2); (try clear kt2); (try clear kt1); (try clear ktk); (try clear e71k); (try clear e9k); (try clear e10k); (try clear kwT); (try clear kwB); (try clear kw); (try clear kPg); (try clear kS3); (try clear kTw); (try clear kTb); (try clear k10); (try clear hQ2); (try clear c24_); (try clear hrb); (try clear hfr); (try clear hμ4); (try clear r5); (try clear hz9); (try clear hpp); (try clear c11_); (try clear hip2); (try clear hip); (try clear hμ2); (try clear μ2); (try clear gt2); (try clear gt1); (try clear gtk); (try clear gwT); (try clear gwB); (try clear gw); (try clear gPg); (try clear gS3); (try clear gTw); (try clear gTb); (try clear gT); (try clear g10); (try clear fwT); (try clear fwB); (try clear fw9); (try clear fPg); (try clear fS3); (try clear fTw); (try clear fTb); (try clear fT); (try clear f10); (try clear hQc); (try clear hQ1); (try clear e71); (try clear e10); (try clear ht0); (try clear x); (try clear eμ1); (try clear hsz); (try clear s₁); omega) | omega)) (by intro k hk; have := p3 k hk; (first | ((try clear hk); (try clear pw3); (try clear pw2); (try clear pw1); (try clear p3); (try clear p2); (try clear p1); (try clear kt2); (try clear kt1); (try clear ktk); (try clear e71k); (try clear e9k); (try clear e10k); (try clear kwT); (try clear kwB); (try clear kw); (try clear kPg); (try clear kS3); (try clear kTw); (try clear kTb); (try clear k10); (try clear hQ2); (try clear c24_); (try clear hrb); (try clear hfr); (try clear hμ4); (try clear r5); (try clear hz9); (try clear hpp); (try clear c11_); (try clear hip2); (try clear hip); (try clear hμ2); (try clear μ2); (try clear gt2); (try clear gt1); (try clear gtk); (try clear gwT); (try clear gwB); (try clear gw); (try clear gPg); (try clear gS3); (try clear gTw); (try clear gTb); (try clear gT); (try clear g10); (try clear fwT); (try clear fwB); (try clear fw9); (try clear fPg); (try clear fS3); (try clear fTw); (try clear fTb); (try clear fT); (try clear f10); (try clear hQc); (try clear hQ1); (try clear e71); (try clear e10); (try clear ht0); (try clear x); (try clear eμ1); (try clear hsz); (try clear s₁); omega) | omega)) (by exact kS3)) (cwV 1 hts (gV_G k1504 k1506 ks_yX10_laysWays k13 k1507) rfl rfl rfl (by decide +kernel) ⟨Nat.le_of_ble_eq_true rfl, Nat.le_of_ble_eq_true rfl⟩) ⟨fun a U g mk q => by obtain ⟨q0, q1, qP, qK⟩ := q; exact ⟨q0, q1, qP, va_K.moved (u := U) (U := U.calling g mk a) (Vm.Alike.refl U.vm) qK⟩, va_recv hK hP (ci := 10) (q0 := 0) rfl ((fw_get (by decide)).trans (by rw [mE_obj]; rfl)), fun U hU hW => ⟨rfl, by rw [hU], by rw [hU]; exact hP, va_K.moved hW.alike hK⟩⟩ rfl rfl hl.1 rfl (lv_room (Nat.le_of_ble_eq_true rfl)) dX10_ways_31 ⟨Nat.le_of_ble_eq_true rfl, Nat.le_of_ble_eq_true rfl⟩) hS (fun q _ h => fA_le hS.1 q h) (fA_le hS.1) (fun u9 t9 H1 locs ht9 hvm9 hw9 hB9 hz9 hk9 hS => ?_)
    obtain ⟨hP, -⟩ := hB9
    rw [ht9] at hP
    generalize H1 = H at hP hS ⊢
    obtain ⟨μ6, eμ6⟩ : ∃ x : va_M, x = u9 := ⟨_, rfl⟩
    rw [← eμ6] at hP hw9
    have hμ6 := hw9; clear hw9
    refine lv_aload_n hx hb dX10_ways_34 rfl (lv_at hl 0 rfl) ?_
    refine fz_get (D := (dC, dI)) (ci := 10) (v := .ref (h0 + 4415)) (C := RX10) (T := TX10) (N := 53) hx hb hts inG10 hown hK hP (k := 0) (by decide) (F := mF h0) mE_obj rfl 43 (by decide) (hts _ k1209) (fun _ h9 => h9) rfl dX10_ways_35 ?_
    refine lv_iconst (v := iZ 0) hx hb dX10_ways_38 rfl ?_
    refine fz_ald (k := 4415) (n := 1900) (k2 := (4416 + 0)) hx hb hK hP 2 rfl (by decide) mE_can rfl ⟨by (first | ((try clear hμ6); (try clear x); (try clear eμ6); (try clear hz9); (try clear kT2); (try clear kT1); (try clear pw3); (try clear pw2); (try clear pw1); (try clear p3); (try clear p2); (try clear p1); (try clear kt2); (try clear kt1); (try clear ktk); (try clear e71k); (try clear e9k); (try clear e10k); (try clear kwT); (try clear kwB); (try clear kPg); (try clear kS3); (try clear kTw); (try clear kTb); (try clear k10); (try clear hQ2); (try clear c24_); (try clear hrb); (try clear hfr); (try clear hμ4); (try clear r5); (try clear hpp); (try clear c11_); (try clear hip2); (try clear hip); (try clear hμ2); (try clear μ2); (try clear gt2); (try clear gt1); (try clear gtk); (try clear gwT); (try clear gwB); (try clear gw); (try clear gPg); (try clear gS3); (try clear gTw); (try clear gTb); (try clear gT); (try clear g10); (try clear fwT); (try clear fwB); (try clear fw9); (try clear fPg); (try clear fS3); (try clear fTw); (try clear fTb); (try clear fT); (try clear f10); (try clear hQc); (try clear hQ1); (try clear e71); (try clear e10); (try clear ht0); (try clear eμ1); (try clear hsz); (try clear s₁); omega) | omega), by (first | ((try clear hμ6); (try clear x); (try clear eμ6); (try clear hz9); (try clear kT2); (try clear kT1); (try clear pw3); (try clear pw2); (try clear pw1); (try clear p3); (try clear p2); (try clear p1); (try clear kt2); (try clear kt1); (try clear ktk); (try clear e71k); (try clear e9k); (try clear e10k); (try clear kwT); (try clear kwB); (try clear kPg); (try clear kS3); (try clear kTw); (try clear kTb); (try clear k10); (try clear hQ2); (try clear c24_); (try clear hrb); (try clear hfr); (try clear hμ4); (try clear r5); (try clear hpp); (try clear c11_); (try clear hip2); (try clear hip); (try clear hμ2); (try clear μ2); (try clear gt2); (try clear gt1); (try clear gtk); (try clear gwT); (try clear gwB); (try clear gw); (try clear gPg); (try clear gS3); (try clear gTw); (try clear gTb); (try clear gT); (try clear g10); (try clear fwT); (try clear fwB); (try clear fw9); (try clear fPg); (try clear fS3); (try clear fTw); (try clear fTb); (try clear fT); (try clear f10); (try clear hQc); (try clear hQ1); (try clear e71); (try clear e10); (try clear ht0); (try clear eμ1); (try clear hsz); (try clear s₁); omega) | omega)⟩ (by decide) (if_pos (by (first | ((try clear hμ6); (try clear x); (try clear eμ6); (try clear hz9); (try clear kT2); (try clear kT1); (try clear pw3); (try clear pw2); (try clear pw1); (try clear p3); (try clear p2); (try clear p1); (try clear kt2); (try clear kt1); (try clear ktk); (try clear e71k); (try clear e9k); (try clear e10k); (try clear kwT); (try clear kwB); (try clear kPg); (try clear kS3); (try clear kTw); (try clear kTb); (try clear k10); (try clear hQ2); (try clear c24_); (try clear hrb); (try clear hfr); (try clear hμ4); (try clear r5); (try clear hpp); (try clear c11_); (try clear hip2); (try clear hip); (try clear hμ2); (try clear μ2); (try clear gt2); (try clear gt1); (try clear gtk); (try clear gwT); (try clear gwB); (try clear gw); (try clear gPg); (try clear gS3); (try clear gTw); (try clear gTb); (try clear gT); (try clear g10); (try clear fwT); (try clear fwB); (try clear fw9); (try clear fPg); (try clear fS3); (try clear fTw); (try clear fTb); (try clear fT); (try clear f10); (try clear hQc); (try clear hQ1); (try clear e71); (try clear e10); (try clear ht0); (try clear eμ1); (try clear hsz); (try clear s₁); omega) | omega))) dX10_ways_39 ?_
    refine lv_iconst (v := iZ 0) hx hb dX10_ways_40 rfl ?_
    refine fz_ld (k := (4416 + 0)) (n := 62) hx hb hK hP 0 (by (first | ((try clear hμ6); (try clear x); (try clear eμ6); (try clear hz9); (try clear kT2); (try clear kT1); (try clear pw3); (try clear pw2); (try clear pw1); (try clear p3); (try clear p2); (try clear p1); (try clear kt2); (try clear kt1); (try clear ktk); (try clear e71k); (try clear e9k); (try clear e10k); (try clear kwT); (try clear kwB); (try clear kPg); (try clear kS3); (try clear kTw); (try clear kTb); (try clear k10); (try clear hQ2); (try clear c24_); (try clear hrb); (try clear hfr); (try clear hμ4); (try clear r5); (try clear hpp); (try clear c11_); (try clear hip2); (try clear hip); (try clear hμ2); (try clear μ2); (try clear gt2); (try clear gt1); (try clear gtk); (try clear gwT); (try clear gwB); (try clear gw); (try clear gPg); (try clear gS3); (try clear gTw); (try clear gTb); (try clear gT); (try clear g10); (try clear fwT); (try clear fwB); (try clear fw9); (try clear fPg); (try clear fS3); (try clear fTw); (try clear fTb); (try clear fT); (try clear f10); (try clear hQc); (try clear hQ1); (try clear e71); (try clear e10); (try clear ht0); (try clear eμ1); (try clear hsz); (try clear s₁); omega) | omega)) (mE_canR (by (first | ((try clear hμ6); (try clear x); (try clear eμ6); (try clear hz9); (try clear kT2); (try clear kT1); (try clear pw3); (try clear pw2); (try clear pw1); (try clear p3); (try clear p2); (try clear p1); (try clear kt2); (try clear kt1); (try clear ktk); (try clear e71k); (try clear e9k); (try clear e10k); (try clear kwT); (try clear kwB); (try clear kPg); (try clear kS3); (try clear kTw); (try clear kTb); (try clear k10); (try clear hQ2); (try clear c24_); (try clear hrb); (try clear hfr); (try clear hμ4); (try clear r5); (try clear hpp); (try clear c11_); (try clear hip2); (try clear hip); (try clear hμ2); (try clear μ2); (try clear gt2); (try clear gt1); (try clear gtk); (try clear gwT); (try clear gwB); (try clear gw); (try clear gPg); (try clear gS3); (try clear gTw); (try clear gTb); (try clear gT); (try clear g10); (try clear fwT); (try clear fwB); (try clear fw9); (try clear fPg); (try clear fS3); (try clear fTw); (try clear fTb); (try clear fT); (try clear f10); (try clear hQc); (try clear hQ1); (try clear e71); (try clear e10); (try clear ht0); (try clear eμ1); (try clear hsz); (try clear s₁); omega) | omega))) rfl ⟨by (first | ((try clear hμ6); (try clear x); (try clear eμ6); (try clear hz9); (try clear kT2); (try clear kT1); (try clear pw3); (try clear pw2); (try clear pw1); (try clear p3); (try clear p2); (try clear p1); (try clear kt2); (try clear kt1); (try clear ktk); (try clear e71k); (try clear e9k); (try clear e10k); (try clear kwT); (try clear kwB); (try clear kPg); (try clear kS3); (try clear kTw); (try clear kTb); (try clear k10); (try clear hQ2); (try clear c24_); (try clear hrb); (try clear hfr); (try clear hμ4); (try clear r5); (try clear hpp); (try clear c11_); (try clear hip2); (try clear hip); (try clear hμ2); (try clear μ2); (try clear gt2); (try clear gt1); (try clear gtk); (try clear gwT); (try clear gwB); (try clear gw); (try clear gPg); (try clear gS3); (try clear gTw); (try clear gTb); (try clear gT); (try clear g10); (try clear fwT); (try clear fwB); (try clear fw9); (try clear fPg); (try clear fS3); (try clear fTw); (try clear fTb); (try clear fT); (try clear f10); (try clear hQc); (try clear hQ1); (try clear e71); (try clear e10); (try clear ht0); (try clear eμ1); (try clear hsz); (try clear s₁); omega) | omega), by (first | ((try clear hμ6); (try clear x); (try clear eμ6); (try clear hz9); (try clear kT2); (try clear kT1); (try clear pw3); (try clear pw2); (try clear pw1); (try clear p3); (try clear p2); (try clear p1); (try clear kt2); (try clear kt1); (try clear ktk); (try clear e71k); (try clear e9k); (try clear e10k); (try clear kwT); (try clear kwB); (try clear kPg); (try clear kS3); (try clear kTw); (try clear kTb); (try clear k10); (try clear hQ2); (try clear c24_); (try clear hrb); (try clear hfr); (try clear hμ4); (try clear r5); (try clear hpp); (try clear c11_); (try clear hip2); (try clear hip); (try clear hμ2); (try clear μ2); (try clear gt2); (try clear gt1); (try clear gtk); (try clear gwT); (try clear gwB); (try clear gw); (try clear gPg); (try clear gS3); (try clear gTw); (try clear gTb); (try clear gT); (try clear g10); (try clear fwT); (try clear fwB); (try clear fw9); (try clear fPg); (try clear fS3); (try clear fTw); (try clear fTb); (try clear fT); (try clear f10); (try clear hQc); (try clear hQ1); (try clear e71); (try clear e10); (try clear ht0); (try clear eμ1); (try clear hsz); (try clear s₁); omega) | omega)⟩ (by decide) dX10_ways_41 ?_
    rw [show (0 : Int).toNat = 0 from rfl]
    exact W.iret (v := iZ (μ6 (4416 + 0) 0)) hx hb hr (fun t9 ht9 hW9 => ⟨⟨iZ (μ6 (4416 + 0) 0), (μ6, μ6 (4416 + 0) 0), rfl, ⟨rfl, (by
                dsimp only
                obtain ⟨a1, a2, a3, a4⟩ := hμ6
                have e00 := a1 0 0 (by unfold SW SF CF; (first | ((try clear e00); (try clear a4); (try clear a3); (try clear a2); (try clear a1); (try clear hμ6); (try clear x); (try clear eμ6); (try clear hz9); (try clear kT2); (try clear kT1); (try clear pw3); (try clear pw2); (try clear pw1); (try clear p3); (try clear p2); (try clear p1); (try clear kt2); (try clear kt1); (try clear ktk); (try clear e71k); (try clear e9k); (try clear e10k); (try clear kwT); (try clear kwB); (try clear kPg); (try clear kS3); (try clear kTw); (try clear kTb); (try clear k10); (try clear hQ2); (try clear c24_); (try clear hrb); (try clear hfr); (try clear hμ4); (try clear r5); (try clear hpp); (try clear c11_); (try clear hip2); (try clear hip); (try clear hμ2); (try clear μ2); (try clear gt2); (try clear gt1); (try clear gtk); (try clear gwT); (try clear gwB); (try clear gw); (try clear gPg); (try clear gS3); (try clear gTw); (try clear gTb); (try clear gT); (try clear g10); (try clear fwT); (try clear fwB); (try clear fw9); (try clear fPg); (try clear fS3); (try clear fTw); (try clear fTb); (try clear fT); (try clear f10); (try clear hQc); (try clear hQ1); (try clear e71); (try clear e10); (try clear ht0); (try clear eμ1); (try clear hsz); (try clear s₁); omega) | omega))
                exact ⟨fr_trans hfr (fr_mono a1 (fun _ _ h => SW_PS h)), by (first | ((try clear a4); (try clear a3); (try clear a2); (try clear a1); (try clear hμ6); (try clear x); (try clear eμ6); (try clear hz9); (try clear kT2); (try clear kT1); (try clear pw3); (try clear pw2); (try clear pw1); (try clear p3); (try clear p2); (try clear p1); (try clear kt2); (try clear kt1); (try clear ktk); (try clear e71k); (try clear e9k); (try clear e10k); (try clear kwT); (try clear kwB); (try clear kPg); (try clear kS3); (try clear kTw); (try clear kTb); (try clear k10); (try clear hQ2); (try clear c24_); (try clear hfr); (try clear hμ4); (try clear r5); (try clear hpp); (try clear c11_); (try clear hip2); (try clear hip); (try clear hμ2); (try clear μ2); (try clear gt2); (try clear gt1); (try clear gtk); (try clear gwT); (try clear gwB); (try clear gw); (try clear gPg); (try clear gS3); (try clear gTw); (try clear gTb); (try clear gT); (try clear g10); (try clear fwT); (try clear fwB); (try clear fw9); (try clear fPg); (try clear fS3); (try clear fTw); (try clear fTb); (try clear fT); (try clear f10); (try clear hQc); (try clear hQ1); (try clear e71); (try clear e10); (try clear eμ1); (try clear hsz); (try clear s₁); omega) | omega)⟩)⟩, by rw [ht9]; exact hP, va_K.moved hW9.alike hK⟩, hS.F ht9⟩) hS.2.2 dX10_ways_42
  · refine lv_iconst (v := iZ 1) hx hb dX10_ways_14 rfl ?_
    refine lv_goto (tgt := 19) hx hb dX10_ways_15 (by decide) ?_
    refine lv_iconst (v := iZ 1) hx hb dX10_ways_19 rfl ?_
    refine lv_iconst (v := iZ 0) hx hb dX10_ways_20 rfl ?_
    refine va_calli (va_runV (As := [.int (iZ (1)), .int (iZ (1)), .int (iZ (0))]) (rest := []) ⟨hx, hb, hml, hown, hts⟩ (m_bad2 l dC dI cI cZ cII cIII h0 H.size μ1 (1) (1) (0) (by first | assumption | (first | ((try clear c11_); (try clear hip2); (try clear hip); (try clear hμ2); (try clear μ2); (try clear hz9); (try clear gt2); (try clear gt1); (try clear gtk); (try clear gwT); (try clear gwB); (try clear gw); (try clear gPg); (try clear gS3); (try clear gTw); (try clear gTb); (try clear gT); (try clear g10); (try clear fwT); (try clear fwB); (try clear fw9); (try clear fPg); (try clear fS3); (try clear fTw); (try clear fTb); (try clear fT); (try clear f10); (try clear hQc); (try clear hQ1); (try clear e71); (try clear e10); (try clear ht0); (try clear x); (try clear eμ1); (try clear hsz); (try clear s₁); omega) | omega) | exact ⟨by omega, by omega⟩) (by first | assumption | (first | ((try clear c11_); (try clear hip2); (try clear hip); (try clear hμ2); (try clear μ2); (try clear hz9); (try clear gt2); (try clear gt1); (try clear gtk); (try clear gwT); (try clear gwB); (try clear gw); (try clear gPg); (try clear gS3); (try clear gTw); (try clear gTb); (try clear gT); (try clear g10); (try clear fwT); (try clear fwB); (try clear fw9); (try clear fPg); (try clear fS3); (try clear fTw); (try clear fTb); (try clear fT); (try clear f10); (try clear hQc); (try clear hQ1); (try clear e71); (try clear e10); (try clear ht0); (try clear x); (try clear eμ1); (try clear hsz); (try clear s₁); omega) | omega) | exact ⟨by omega, by omega⟩) (by first | assumption | (first | ((try clear c11_); (try clear hip2); (try clear hip); (try clear hμ2); (try clear μ2); (try clear hz9); (try clear gt2); (try clear gt1); (try clear gtk); (try clear gwT); (try clear gwB); (try clear gw); (try clear gPg); (try clear gS3); (try clear gTw); (try clear gTb); (try clear gT); (try clear g10); (try clear fwT); (try clear fwB); (try clear fw9); (try clear fPg); (try clear fS3); (try clear fTw); (try clear fTb); (try clear fT); (try clear f10); (try clear hQc); (try clear hQ1); (try clear e71); (try clear e10); (try clear ht0); (try clear x); (try clear eμ1); (try clear hsz); (try clear s₁); omega) | omega) | exact ⟨by omega, by omega⟩) (by first | assumption | omega | exact ⟨by omega, by omega⟩)) (cwV 3 hts (gV_G k1342 k1344 ks_yX10_bad k13 k1345) rfl rfl rfl (by decide +kernel) ⟨Nat.le_of_ble_eq_true rfl, Nat.le_of_ble_eq_true rfl⟩) ⟨fun a U g mk q => by obtain ⟨q0, q1, qP, qK⟩ := q; exact ⟨q0, q1, qP, va_K.moved (u := U) (U := U.calling g mk a) (Vm.Alike.refl U.vm) qK⟩, va_recv hK hP (ci := 10) (q0 := 0) rfl ((fw_get (by decide)).trans (by rw [mE_obj]; rfl)), fun U hU hW => ⟨rfl, by rw [hU], by rw [hU]; exact hP, va_K.moved hW.alike hK⟩⟩ rfl rfl hl.1 rfl (lv_room (Nat.le_of_ble_eq_true rfl)) dX10_ways_21 ⟨Nat.le_of_ble_eq_true rfl, Nat.le_of_ble_eq_true rfl⟩) hS (fun q _ h => fA_le hS.1 q h) (fA_le hS.1) (fun r9 u9 t9 H1 locs ht9 hvm9 hw9 hB9 hz9 hk9 hS => ?_)
    obtain ⟨μ7, r8⟩ := u9
    obtain ⟨hP, -⟩ := hB9
    rw [ht9] at hP
    generalize H1 = H at hP hS ⊢
    obtain ⟨e9, hw9⟩ := hw9
    have e9 : r9 = iZ r8 := e9
    subst e9
    simp only at hP hw9
    have hμ7 := hw9; clear hw9
    have hfr := fr_trans hfr (badP_fr hμ7)
    have hrb := badP_r hμ7
    obtain rfl : r8 = 1 := by (first | ((try clear hfr); (try clear hμ7); (try clear hz9); (try clear c11_); (try clear hip2); (try clear hip); (try clear hμ2); (try clear μ2); (try clear gt2); (try clear gt1); (try clear gtk); (try clear gwT); (try clear gwB); (try clear gw); (try clear gPg); (try clear gS3); (try clear gTw); (try clear gTb); (try clear gT); (try clear g10); (try clear fwT); (try clear fwB); (try clear fw9); (try clear fPg); (try clear fS3); (try clear fTw); (try clear fTb); (try clear fT); (try clear f10); (try clear hQc); (try clear hQ1); (try clear e71); (try clear e10); (try clear ht0); (try clear x); (try clear eμ1); (try clear hsz); (try clear s₁); omega) | omega)
    refine fz_if_eq (tgt := 29) (by decide) hx hb dX10_ways_24 (by decide) (fun h9 => absurd h9 (by decide)) (fun c24_ => ?_)
    refine lv_iconst (v := iZ 0) hx hb dX10_ways_27 rfl ?_
    exact W.iret (v := iZ (0)) hx hb hr (fun t9 ht9 hW9 => ⟨⟨iZ (0), (μ7, 0), rfl, ⟨rfl, (by
                dsimp only
                exact ⟨hfr, by (first | ((try clear hfr); (try clear hμ7); (try clear r8); (try clear hz9); (try clear c11_); (try clear hip2); (try clear hip); (try clear hμ2); (try clear μ2); (try clear gt2); (try clear gt1); (try clear gtk); (try clear gwT); (try clear gwB); (try clear gw); (try clear gPg); (try clear gS3); (try clear gTw); (try clear gTb); (try clear gT); (try clear g10); (try clear fwT); (try clear fwB); (try clear fw9); (try clear fPg); (try clear fS3); (try clear fTw); (try clear fTb); (try clear fT); (try clear f10); (try clear hQc); (try clear hQ1); (try clear e71); (try clear e10); (try clear ht0); (try clear x); (try clear eμ1); (try clear hsz); (try clear s₁); omega) | omega)⟩)⟩, by rw [ht9]; exact hP, va_K.moved hW9.alike hK⟩, hS.F ht9⟩) hS.2.2 dX10_ways_28
set_option maxHeartbeats 4000000 in
set_option maxRecDepth 100000 in
theorem m_fits (l : Launch) (dC : Nat → ClassId) (dI : Nat → Nat → Nat) (cI cZ cII cIII : ClassId) (h0 sz : Nat) (μ : va_M) (pp : Int) (hQ : RQ μ) (hp : inR pp) : Met l yX10_fits (Cond.code yX10_fits cX10_fits 2 (some .boolean) :: wsG) ({ frames := 7, cells := 0, slots := 0, locals := 167 } : Room) (va_Pc [.ref h0, .int (iZ (pp))] (fun U => U.heap.size = sz ∧ va_P (dC, dI) vwCl (fw (mE cI cZ cII cIII h0) h0 6325 μ) U.heap ∧ va_K (dC, dI) vwCl (mT cI cZ cII cIII) U)) (va_Qi (fun (r9 : Int32) (u : va_M × Int) => r9 = iZ u.2 ∧ (fun (u : va_M) (r : Int) => fr PS μ u ∧ (u 0 0 = 0 ∨ u 0 0 = 1 ∨ u 0 0 = 2)) u.1 u.2) (fun u t => va_P (dC, dI) vwCl (fw (mE cI cZ cII cIII h0) h0 6325 u.1) t.heap ∧ va_K (dC, dI) vwCl (mT cI cZ cII cIII) t) (fA h0 6325 sz)) 0 0 (fA h0 6325 sz) := by
  refine Met.ofW (cc := cX10_fits) (maxL := 2) (ret := (some .boolean)) (by decide) rfl ?_
  intro p e s m args below meth c s₁ B hml hv
  obtain ⟨rfl, hsz, hP, hK⟩ := hv
  have hx := B.exec
  have hb := B.bytes
  have hr := B.returns
  have hts : ∀ w ∈ wsG, w.before _ s = true := hG_of (atoms_spec (ws := (Cond.code yX10_fits cX10_fits 2 (some .boolean) :: wsG)) B.pre)
  have hown : s.vm.findClass RX10 = some m.cls := findClass_of_methodNamed B.named
  have hlocks := B.notSynchronized
  subst hsz
  have hS : va_S (fA h0 6325 s.heap.size) s.heap s.heap [] := va_S.rf
  have hl := lv_entry ([.ref h0, .int (iZ (pp))]) (n := 2) (Nat.le_of_ble_eq_true rfl)
  rw [lg_entry_eq]
  generalize (lg_sl ([.ref h0, .int (iZ (pp))]) ++ List.replicate (2 - (lg_sl ([.ref h0, .int (iZ (pp))])).length) Slot.unset).toArray = ls at hl ⊢
  have hl : lv_has ls 2 [(0, .ref h0), (1, .int (iZ (pp)))] := hl
  refine lv_aload_n hx hb dX10_fits_0 rfl (lv_at hl 0 rfl) ?_
  refine lv_iconst (v := iZ 0) hx hb dX10_fits_1 rfl ?_
  refine fz_put (D := (dC, dI)) (ci := 10) (ty := .int) (z := 0) (C := RX10) (T := TX10) (N := 53) hx hb hts inG10 tyX10 tyX10_ok nmX10 hown hK hP fA_in hS (k := 0) (by decide) (F := mF h0) mE_obj rfl 0 (by decide) (hts _ k1166) (fun _ h9 => h9) rfl (by decide +kernel) rfl rfl (fun _ => Nat.le_of_ble_eq_true rfl) (fun _ _ => rfl) dX10_fits_2 (fun H locs hP hS => ?_)
  obtain ⟨μ1, eμ1⟩ : ∃ x : va_M, x = uz μ 0 0 (0) := ⟨_, rfl⟩
  rw [← eμ1] at hP
  have hfr : fr PS μ μ1 := by rw [eμ1]; exact fr_uz fr_rfl (by unfold PS; (first | ((try clear x); (try clear eμ1); (try clear μ1); (try clear hsz); (try clear s₁); omega) | omega))
  have ht0 : μ1 0 0 = 0 := by rw [eμ1, uz_s]
  have e10 := hfr 0 10 (PS_n (by (first | ((try clear e10); (try clear ht0); (try clear x); (try clear eμ1); (try clear hsz); (try clear s₁); omega) | omega)))
  have e9 := hfr 0 9 (PS_n (by (first | ((try clear e10); (try clear ht0); (try clear x); (try clear eμ1); (try clear hsz); (try clear s₁); omega) | omega)))
  have e71 := hfr 719 0 (PS_n (by (first | ((try clear e71); (try clear e10); (try clear ht0); (try clear x); (try clear eμ1); (try clear hsz); (try clear s₁); omega) | omega)))
  have hQ1 := RQ_fr hQ hfr
  have hQc := hQ
  obtain ⟨f10, ⟨fT, fTb, fTw⟩, fS3, fPg, fw9, fwB, fwT⟩ := hQc
  obtain ⟨g10, ⟨gT, gTb, gTw⟩, gS3, gPg, gw, gwB, gwT⟩ := hQ1
  have gtk := TR_tok gwT gwB.1 gwB.2.1
  have gt1 := gtk.1
  have gt2 := gtk.2.1
  refine lv_aload_n hx hb dX10_fits_5 rfl (lv_at hl 0 rfl) ?_
  refine lv_aload_n hx hb dX10_fits_6 rfl (lv_at hl 0 rfl) ?_
  refine lv_iload_n hx hb dX10_fits_7 rfl (lv_at hl 1 rfl) ?_
  refine va_calli (va_runV (As := [.int (iZ (pp))]) (rest := [.ref h0]) ⟨hx, hb, hml, hown, hts⟩ (m_isPage l dC dI cI cZ cII cIII h0 H.size μ1 (pp) (by first | assumption | omega | exact ⟨by omega, by omega⟩) (by first | assumption | omega | exact ⟨by omega, by omega⟩)) (cwV 1 hts (gV_G k1588 k1590 ks_yX10_isPage k13 k1591) rfl rfl rfl (by decide +kernel) ⟨Nat.le_of_ble_eq_true rfl, Nat.le_of_ble_eq_true rfl⟩) ⟨fun a U g mk q => by obtain ⟨q0, q1, qP, qK⟩ := q; exact ⟨q0, q1, qP, va_K.moved (u := U) (U := U.calling g mk a) (Vm.Alike.refl U.vm) qK⟩, va_recv hK hP (ci := 10) (q0 := 0) rfl ((fw_get (by decide)).trans (by rw [mE_obj]; rfl)), fun U hU hW => ⟨rfl, by rw [hU], by rw [hU]; exact hP, va_K.moved hW.alike hK⟩⟩ rfl rfl hl.1 rfl (lv_room (Nat.le_of_ble_eq_true rfl)) dX10_fits_8 ⟨Nat.le_of_ble_eq_true rfl, Nat.le_of_ble_eq_true rfl⟩) hS (fun q _ h => fA_le hS.1 q h) (fA_le hS.1) (fun r9 u9 t9 H1 locs ht9 hvm9 hw9 hB9 hz9 hk9 hS => ?_)
  obtain ⟨μ2, r3⟩ := u9
  obtain ⟨hP, -⟩ := hB9
  rw [ht9] at hP
  generalize H1 = H at hP hS ⊢
  obtain ⟨e9, hw9⟩ := hw9
  have e9 : r9 = iZ r3 := e9
  subst e9
  simp only at hP hw9
  have hμ2 := hw9; clear hw9
  rw [hμ2.1] at hP; have hμ2 := hμ2.2
  have hip := hμ2
  have hip2 := if_01 hμ2
  refine fz_if_ne (tgt := 18) (by constructor <;> (first | ((try clear hip); (try clear hμ2); (try clear hz9); (try clear gt2); (try clear gt1); (try clear gtk); (try clear gwT); (try clear gwB); (try clear gw); (try clear gPg); (try clear gS3); (try clear gTw); (try clear gTb); (try clear gT); (try clear g10); (try clear fwT); (try clear fwB); (try clear fw9); (try clear fPg); (try clear fS3); (try clear fTw); (try clear fTb); (try clear fT); (try clear f10); (try clear hQc); (try clear hQ1); (try clear e71); (try clear e10); (try clear ht0); (try clear x); (try clear eμ1); (try clear hsz); (try clear s₁); omega) | omega)) hx hb dX10_fits_11 (by decide) (fun c11_ => ?_) (fun c11_ => ?_)
  · have hpp := if_get hip (by (first | ((try clear hpp); (try clear hip2); (try clear hip); (try clear hμ2); (try clear r3); (try clear μ2); (try clear hz9); (try clear gt2); (try clear gt1); (try clear gtk); (try clear gwT); (try clear gwB); (try clear gw); (try clear gPg); (try clear gS3); (try clear gTw); (try clear gTb); (try clear gT); (try clear g10); (try clear fwT); (try clear fwB); (try clear fw9); (try clear fPg); (try clear fS3); (try clear fTw); (try clear fTb); (try clear fT); (try clear f10); (try clear hQc); (try clear hQ1); (try clear e71); (try clear e10); (try clear ht0); (try clear x); (try clear eμ1); (try clear μ1); (try clear hsz); (try clear s₁); omega) | omega))
    refine lv_iconst (v := iZ 0) hx hb dX10_fits_18 rfl ?_
    refine lv_iconst (v := iZ 1) hx hb dX10_fits_19 rfl ?_
    refine lv_iconst (v := iZ 0) hx hb dX10_fits_20 rfl ?_
    refine va_calli (va_runV (As := [.int (iZ (0)), .int (iZ (1)), .int (iZ (0))]) (rest := []) ⟨hx, hb, hml, hown, hts⟩ (m_bad2 l dC dI cI cZ cII cIII h0 H.size μ1 (0) (1) (0) (by first | assumption | (first | ((try clear hpp); (try clear c11_); (try clear hip2); (try clear hip); (try clear hμ2); (try clear μ2); (try clear hz9); (try clear gt2); (try clear gt1); (try clear gtk); (try clear gwT); (try clear gwB); (try clear gw); (try clear gPg); (try clear gS3); (try clear gTw); (try clear gTb); (try clear gT); (try clear g10); (try clear fwT); (try clear fwB); (try clear fw9); (try clear fPg); (try clear fS3); (try clear fTw); (try clear fTb); (try clear fT); (try clear f10); (try clear hQc); (try clear hQ1); (try clear e71); (try clear e10); (try clear ht0); (try clear x); (try clear eμ1); (try clear hsz); (try clear s₁); omega) | omega) | exact ⟨by omega, by omega⟩) (by first | assumption | (first | ((try clear hpp); (try clear c11_); (try clear hip2); (try clear hip); (try clear hμ2); (try clear μ2); (try clear hz9); (try clear gt2); (try clear gt1); (try clear gtk); (try clear gwT); (try clear gwB); (try clear gw); (try clear gPg); (try clear gS3); (try clear gTw); (try clear gTb); (try clear gT); (try clear g10); (try clear fwT); (try clear fwB); (try clear fw9); (try clear fPg); (try clear fS3); (try clear fTw); (try clear fTb); (try clear fT); (try clear f10); (try clear hQc); (try clear hQ1); (try clear e71); (try clear e10); (try clear ht0); (try clear x); (try clear eμ1); (try clear hsz); (try clear s₁); omega) | omega) | exact ⟨by omega, by omega⟩) (by first | assumption | (first | ((try clear hpp); (try clear c11_); (try clear hip2); (try clear hip); (try clear hμ2); (try clear μ2); (try clear hz9); (try clear gt2); (try clear gt1); (try clear gtk); (try clear gwT); (try clear gwB); (try clear gw); (try clear gPg); (try clear gS3); (try clear gTw); (try clear gTb); (try clear gT); (try clear g10); (try clear fwT); (try clear fwB); (try clear fw9); (try clear fPg); (try clear fS3); (try clear fTw); (try clear fTb); (try clear fT); (try clear f10); (try clear hQc); (try clear hQ1); (try clear e71); (try clear e10); (try clear ht0); (try clear x); (try clear eμ1); (try clear hsz); (try clear s₁); omega) | omega) | exact ⟨by omega, by omega⟩) (by first | assumption | omega | exact ⟨by omega, by omega⟩)) (cwV 3 hts (gV_G k1342 k1344 ks_yX10_bad k13 k1345) rfl rfl rfl (by decide +kernel) ⟨Nat.le_of_ble_eq_true rfl, Nat.le_of_ble_eq_true rfl⟩) ⟨fun a U g mk q => by obtain ⟨q0, q1, qP, qK⟩ := q; exact ⟨q0, q1, qP, va_K.moved (u := U) (U := U.calling g mk a) (Vm.Alike.refl U.vm) qK⟩, va_recv hK hP (ci := 10) (q0 := 0) rfl ((fw_get (by decide)).trans (by rw [mE_obj]; rfl)), fun U hU hW => ⟨rfl, by rw [hU], by rw [hU]; exact hP, va_K.moved hW.alike hK⟩⟩ rfl rfl hl.1 rfl (lv_room (Nat.le_of_ble_eq_true rfl)) dX10_fits_21 ⟨Nat.le_of_ble_eq_true rfl, Nat.le_of_ble_eq_true rfl⟩) hS (fun q _ h => fA_le hS.1 q h) (fA_le hS.1) (fun r9 u9 t9 H1 locs ht9 hvm9 hw9 hB9 hz9 hk9 hS => ?_)
    obtain ⟨μ4, r5⟩ := u9
    obtain ⟨hP, -⟩ := hB9
    rw [ht9] at hP
    generalize H1 = H at hP hS ⊢
    obtain ⟨e9, hw9⟩ := hw9
    have e9 : r9 = iZ r5 := e9
    subst e9
    simp only at hP hw9
    have hμ4 := hw9; clear hw9
    have hfr := fr_trans hfr (badP_fr hμ4)
    have hrb := badP_r hμ4
    obtain rfl : r5 = 0 := by (first | ((try clear hfr); (try clear hμ4); (try clear hz9); (try clear hpp); (try clear c11_); (try clear hip2); (try clear hip); (try clear hμ2); (try clear μ2); (try clear gt2); (try clear gt1); (try clear gtk); (try clear gwT); (try clear gwB); (try clear gw); (try clear gPg); (try clear gS3); (try clear gTw); (try clear gTb); (try clear gT); (try clear g10); (try clear fwT); (try clear fwB); (try clear fw9); (try clear fPg); (try clear fS3); (try clear fTw); (try clear fTb); (try clear fT); (try clear f10); (try clear hQc); (try clear hQ1); (try clear e71); (try clear e10); (try clear ht0); (try clear x); (try clear eμ1); (try clear hsz); (try clear s₁); omega) | omega)
    refine fz_if_eq (tgt := 29) (by decide) hx hb dX10_fits_24 (by decide) (fun c24_ => ?_) (fun h9 => absurd h9 (by decide))
    have hQ2 := RQ_fr hQ hfr
    obtain ⟨k10, ⟨kT, kTb, kTw⟩, kS3, kPg, kw, kwB, kwT⟩ := hQ2
    have e10k := hfr 0 10 (PS_n (by (first | ((try clear e10k); (try clear kwT); (try clear kwB); (try clear kw); (try clear kPg); (try clear kS3); (try clear kTw); (try clear kTb); (try clear kT); (try clear k10); (try clear hQ2); (try clear c24_); (try clear hrb); (try clear hfr); (try clear hμ4); (try clear r5); (try clear hz9); (try clear hpp); (try clear c11_); (try clear hip2); (try clear hip); (try clear hμ2); (try clear μ2); (try clear gt2); (try clear gt1); (try clear gtk); (try clear gwT); (try clear gwB); (try clear gw); (try clear gPg); (try clear gS3); (try clear gTw); (try clear gTb); (try clear gT); (try clear g10); (try clear fwT); (try clear fwB); (try clear fw9); (try clear fPg); (try clear fS3); (try clear fTw); (try clear fTb); (try clear fT); (try clear f10); (try clear hQc); (try clear hQ1); (try clear e71); (try clear e10); (try clear ht0); (try clear x); (try clear eμ1); (try clear hsz); (try clear s₁); omega) | omega)))
    have e9k := hfr 0 9 (PS_n (by (first | ((try clear e9k); (try clear e10k); (try clear kwT); (try clear kwB); (try clear kw); (try clear kPg); (try clear kS3); (try clear kTw); (try clear kTb); (try clear kT); (try clear k10); (try clear hQ2); (try clear c24_); (try clear hrb); (try clear hfr); (try clear hμ4); (try clear r5); (try clear hz9); (try clear hpp); (try clear c11_); (try clear hip2); (try clear hip); (try clear hμ2); (try clear μ2); (try clear gt2); (try clear gt1); (try clear gtk); (try clear gwT); (try clear gwB); (try clear gw); (try clear gPg); (try clear gS3); (try clear gTw); (try clear gTb); (try clear gT); (try clear g10); (try clear fwT); (try clear fwB); (try clear fw9); (try clear fPg); (try clear fS3); (try clear fTw); (try clear fTb); (try clear fT); (try clear f10); (try clear hQc); (try clear hQ1); (try clear e71); (try clear e10); (try clear ht0); (try clear x); (try clear eμ1); (try clear hsz); (try clear s₁); omega) | omega)))
    have e71k := hfr 719 0 (PS_n (by (first | ((try clear e71k); (try clear e9k); (try clear e10k); (try clear kwT); (try clear kwB); (try clear kw); (try clear kPg); (try clear kS3); (try clear kTw); (try clear kTb); (try clear kT); (try clear k10); (try clear hQ2); (try clear c24_); (try clear hrb); (try clear hfr); (try clear hμ4); (try clear r5); (try clear hz9); (try clear hpp); (try clear c11_); (try clear hip2); (try clear hip); (try clear hμ2); (try clear μ2); (try clear gt2); (try clear gt1); (try clear gtk); (try clear gwT); (try clear gwB); (try clear gw); (try clear gPg); (try clear gS3); (try clear gTw); (try clear gTb); (try clear gT); (try clear g10); (try clear fwT); (try clear fwB); (try clear fw9); (try clear fPg); (try clear fS3); (try clear fTw); (try clear fTb); (try clear fT); (try clear f10); (try clear hQc); (try clear hQ1); (try clear e71); (try clear e10); (try clear ht0); (try clear x); (try clear eμ1); (try clear hsz); (try clear s₁); omega) | omega)))
    have ktk := TR_tok kwT kwB.1 kwB.2.1
    have kt1 := ktk.1
    have kt2 := ktk.2.1
    refine lv_aload_n hx hb dX10_fits_29 rfl (lv_at hl 0 rfl) ?_
    refine lv_iload_n hx hb dX10_fits_30 rfl (lv_at hl 1 rfl) ?_
    refine va_calli (va_runV (As := [.int (iZ (pp))]) (rest := []) ⟨hx, hb, hml, hown, hts⟩ (m_isFit l dC dI cI cZ cII cIII h0 H.size μ4 (pp) (by exact RQ_fr hQ hfr) (by (first | ((try clear kt2); (try clear kt1); (try clear ktk); (try clear e71k); (try clear e9k); (try clear kwT); (try clear kwB); (try clear kw); (try clear kPg); (try clear kS3); (try clear kTw); (try clear kTb); (try clear kT); (try clear k10); (try clear hQ2); (try clear c24_); (try clear hrb); (try clear hfr); (try clear hμ4); (try clear r5); (try clear hz9); (try clear c11_); (try clear hip2); (try clear hip); (try clear hμ2); (try clear μ2); (try clear gt2); (try clear gt1); (try clear gtk); (try clear gwT); (try clear gwB); (try clear gw); (try clear gPg); (try clear gS3); (try clear gTw); (try clear gTb); (try clear gT); (try clear g10); (try clear fwT); (try clear fwB); (try clear fw9); (try clear fPg); (try clear fS3); (try clear fTw); (try clear fTb); (try clear fT); (try clear f10); (try clear hQc); (try clear hQ1); (try clear e71); (try clear ht0); (try clear x); (try clear eμ1); (try clear hsz); (try clear s₁); omega) | omega))) (cwV 1 hts (gV_G k1500 k1502 ks_yX10_isFit k13 k1503) rfl rfl rfl (by decide +kernel) ⟨Nat.le_of_ble_eq_true rfl, Nat.le_of_ble_eq_true rfl⟩) ⟨fun a U g mk q => by obtain ⟨q0, q1, qP, qK⟩ := q; exact ⟨q0, q1, qP, va_K.moved (u := U) (U := U.calling g mk a) (Vm.Alike.refl U.vm) qK⟩, va_recv hK hP (ci := 10) (q0 := 0) rfl ((fw_get (by decide)).trans (by rw [mE_obj]; rfl)), fun U hU hW => ⟨rfl, by rw [hU], by rw [hU]; exact hP, va_K.moved hW.alike hK⟩⟩ rfl rfl hl.1 rfl (lv_room (Nat.le_of_ble_eq_true rfl)) dX10_fits_31 ⟨Nat.le_of_ble_eq_true rfl, Nat.le_of_ble_eq_true rfl⟩) hS (fun q _ h => fA_le hS.1 q h) (fA_le hS.1) (fun r9 u9 t9 H1 locs ht9 hvm9 hw9 hB9 hz9 hk9 hS => ?_)
    obtain ⟨μ6, r7⟩ := u9
    obtain ⟨hP, -⟩ := hB9
    rw [ht9] at hP
    generalize H1 = H at hP hS ⊢
    obtain ⟨e9, hw9⟩ := hw9
    have e9 : r9 = iZ r7 := e9
    subst e9
    simp only at hP hw9
    have hμ6 := hw9; clear hw9
    obtain ⟨a1, a2, a3, a4, a5⟩ := hμ6
    have e00 := a1 0 0 (by unfold SW SF CF; (first | ((try clear e00); (try clear a5); (try clear a4); (try clear a2); (try clear a1); (try clear hμ6); (try clear r7); (try clear hz9); (try clear kt2); (try clear kt1); (try clear ktk); (try clear e71k); (try clear e9k); (try clear e10k); (try clear kwT); (try clear kwB); (try clear kw); (try clear kPg); (try clear kS3); (try clear kTw); (try clear kTb); (try clear kT); (try clear k10); (try clear hQ2); (try clear c24_); (try clear hrb); (try clear hfr); (try clear hμ4); (try clear r5); (try clear hpp); (try clear c11_); (try clear hip2); (try clear hip); (try clear hμ2); (try clear μ2); (try clear gt2); (try clear gt1); (try clear gtk); (try clear gwT); (try clear gwB); (try clear gw); (try clear gPg); (try clear gS3); (try clear gTw); (try clear gTb); (try clear gT); (try clear g10); (try clear fwT); (try clear fwB); (try clear fw9); (try clear fPg); (try clear fS3); (try clear fTw); (try clear fTb); (try clear fT); (try clear f10); (try clear hQc); (try clear hQ1); (try clear e71); (try clear e10); (try clear ht0); (try clear x); (try clear eμ1); (try clear hsz); (try clear s₁); omega) | omega))
    exact W.zret (v := iZ (r7)) hx hb hr (by exact fz_narZ a2) (fun t9 ht9 hW9 => ⟨⟨iZ (r7), (μ6, r7), rfl, ⟨rfl, (by
                dsimp only
                exact ⟨fr_trans hfr (fr_mono a1 (fun _ _ h => SW_PS h)), by (first | ((try clear a4); (try clear a1); (try clear hμ6); (try clear hz9); (try clear kt2); (try clear kt1); (try clear ktk); (try clear e71k); (try clear e9k); (try clear e10k); (try clear kwT); (try clear kwB); (try clear kw); (try clear kPg); (try clear kS3); (try clear kTw); (try clear kTb); (try clear kT); (try clear k10); (try clear hQ2); (try clear c24_); (try clear hfr); (try clear hμ4); (try clear r5); (try clear hpp); (try clear c11_); (try clear hip2); (try clear hip); (try clear hμ2); (try clear μ2); (try clear gt2); (try clear gt1); (try clear gtk); (try clear gwT); (try clear gwB); (try clear gw); (try clear gPg); (try clear gS3); (try clear gTw); (try clear gTb); (try clear gT); (try clear g10); (try clear fwT); (try clear fwB); (try clear fw9); (try clear fPg); (try clear fS3); (try clear fTw); (try clear fTb); (try clear fT); (try clear f10); (try clear hQc); (try clear hQ1); (try clear e71); (try clear e10); (try clear x); (try clear eμ1); (try clear hsz); (try clear s₁); omega) | omega)⟩)⟩, by rw [ht9]; exact hP, va_K.moved hW9.alike hK⟩, hS.F ht9⟩) hS.2.2 dX10_fits_34
  · refine lv_iconst (v := iZ 1) hx hb dX10_fits_14 rfl ?_
    refine lv_goto (tgt := 19) hx hb dX10_fits_15 (by decide) ?_
    refine lv_iconst (v := iZ 1) hx hb dX10_fits_19 rfl ?_
    refine lv_iconst (v := iZ 0) hx hb dX10_fits_20 rfl ?_
    refine va_calli (va_runV (As := [.int (iZ (1)), .int (iZ (1)), .int (iZ (0))]) (rest := []) ⟨hx, hb, hml, hown, hts⟩ (m_bad2 l dC dI cI cZ cII cIII h0 H.size μ1 (1) (1) (0) (by first | assumption | (first | ((try clear c11_); (try clear hip2); (try clear hip); (try clear hμ2); (try clear μ2); (try clear hz9); (try clear gt2); (try clear gt1); (try clear gtk); (try clear gwT); (try clear gwB); (try clear gw); (try clear gPg); (try clear gS3); (try clear gTw); (try clear gTb); (try clear gT); (try clear g10); (try clear fwT); (try clear fwB); (try clear fw9); (try clear fPg); (try clear fS3); (try clear fTw); (try clear fTb); (try clear fT); (try clear f10); (try clear hQc); (try clear hQ1); (try clear e71); (try clear e10); (try clear ht0); (try clear x); (try clear eμ1); (try clear hsz); (try clear s₁); omega) | omega) | exact ⟨by omega, by omega⟩) (by first | assumption | (first | ((try clear c11_); (try clear hip2); (try clear hip); (try clear hμ2); (try clear μ2); (try clear hz9); (try clear gt2); (try clear gt1); (try clear gtk); (try clear gwT); (try clear gwB); (try clear gw); (try clear gPg); (try clear gS3); (try clear gTw); (try clear gTb); (try clear gT); (try clear g10); (try clear fwT); (try clear fwB); (try clear fw9); (try clear fPg); (try clear fS3); (try clear fTw); (try clear fTb); (try clear fT); (try clear f10); (try clear hQc); (try clear hQ1); (try clear e71); (try clear e10); (try clear ht0); (try clear x); (try clear eμ1); (try clear hsz); (try clear s₁); omega) | omega) | exact ⟨by omega, by omega⟩) (by first | assumption | (first | ((try clear c11_); (try clear hip2); (try clear hip); (try clear hμ2); (try clear μ2); (try clear hz9); (try clear gt2); (try clear gt1); (try clear gtk); (try clear gwT); (try clear gwB); (try clear gw); (try clear gPg); (try clear gS3); (try clear gTw); (try clear gTb); (try clear gT); (try clear g10); (try clear fwT); (try clear fwB); (try clear fw9); (try clear fPg); (try clear fS3); (try clear fTw); (try clear fTb); (try clear fT); (try clear f10); (try clear hQc); (try clear hQ1); (try clear e71); (try clear e10); (try clear ht0); (try clear x); (try clear eμ1); (try clear hsz); (try clear s₁); omega) | omega) | exact ⟨by omega, by omega⟩) (by first | assumption | omega | exact ⟨by omega, by omega⟩)) (cwV 3 hts (gV_G k1342 k1344 ks_yX10_bad k13 k1345) rfl rfl rfl (by decide +kernel) ⟨Nat.le_of_ble_eq_true rfl, Nat.le_of_ble_eq_true rfl⟩) ⟨fun a U g mk q => by obtain ⟨q0, q1, qP, qK⟩ := q; exact ⟨q0, q1, qP, va_K.moved (u := U) (U := U.calling g mk a) (Vm.Alike.refl U.vm) qK⟩, va_recv hK hP (ci := 10) (q0 := 0) rfl ((fw_get (by decide)).trans (by rw [mE_obj]; rfl)), fun U hU hW => ⟨rfl, by rw [hU], by rw [hU]; exact hP, va_K.moved hW.alike hK⟩⟩ rfl rfl hl.1 rfl (lv_room (Nat.le_of_ble_eq_true rfl)) dX10_fits_21 ⟨Nat.le_of_ble_eq_true rfl, Nat.le_of_ble_eq_true rfl⟩) hS (fun q _ h => fA_le hS.1 q h) (fA_le hS.1) (fun r9 u9 t9 H1 locs ht9 hvm9 hw9 hB9 hz9 hk9 hS => ?_)
    obtain ⟨μ8, r10⟩ := u9
    obtain ⟨hP, -⟩ := hB9
    rw [ht9] at hP
    generalize H1 = H at hP hS ⊢
    obtain ⟨e9, hw9⟩ := hw9
    have e9 : r9 = iZ r10 := e9
    subst e9
    simp only at hP hw9
    have hμ8 := hw9; clear hw9
    have hfr := fr_trans hfr (badP_fr hμ8)
    have hrb := badP_r hμ8
    obtain rfl : r10 = 1 := by (first | ((try clear hfr); (try clear hμ8); (try clear hz9); (try clear c11_); (try clear hip2); (try clear hip); (try clear hμ2); (try clear μ2); (try clear gt2); (try clear gt1); (try clear gtk); (try clear gwT); (try clear gwB); (try clear gw); (try clear gPg); (try clear gS3); (try clear gTw); (try clear gTb); (try clear gT); (try clear g10); (try clear fwT); (try clear fwB); (try clear fw9); (try clear fPg); (try clear fS3); (try clear fTw); (try clear fTb); (try clear fT); (try clear f10); (try clear hQc); (try clear hQ1); (try clear e71); (try clear e10); (try clear ht0); (try clear x); (try clear eμ1); (try clear hsz); (try clear s₁); omega) | omega)
    refine fz_if_eq (tgt := 29) (by decide) hx hb dX10_fits_24 (by decide) (fun h9 => absurd h9 (by decide)) (fun c24_ => ?_)
    refine lv_iconst (v := iZ 0) hx hb dX10_fits_27 rfl ?_
    exact W.zret (v := iZ (0)) hx hb hr (by decide +kernel) (fun t9 ht9 hW9 => ⟨⟨iZ (0), (μ8, 0), rfl, ⟨rfl, (by
                dsimp only
                exact ⟨hfr, by (first | ((try clear hfr); (try clear hμ8); (try clear r10); (try clear hz9); (try clear c11_); (try clear hip2); (try clear hip); (try clear hμ2); (try clear μ2); (try clear gt2); (try clear gt1); (try clear gtk); (try clear gwT); (try clear gwB); (try clear gw); (try clear gPg); (try clear gS3); (try clear gTw); (try clear gTb); (try clear gT); (try clear g10); (try clear fwT); (try clear fwB); (try clear fw9); (try clear fPg); (try clear fS3); (try clear fTw); (try clear fTb); (try clear fT); (try clear f10); (try clear hQc); (try clear hQ1); (try clear e71); (try clear e10); (try clear ht0); (try clear x); (try clear eμ1); (try clear hsz); (try clear s₁); omega) | omega)⟩)⟩, by rw [ht9]; exact hP, va_K.moved hW9.alike hK⟩, hS.F ht9⟩) hS.2.2 dX10_fits_28
set_option maxHeartbeats 4000000 in
set_option maxRecDepth 100000 in
theorem LX10_fitting_9 {p : Program} {l : Launch} {e : Env} {R : Room} {s : State} {m : MethodId} {args : Array Value} {below : List Frame} {meth : Method} {c : Code} {cells slots : Nat} {Q : State → Prop} {dC : Nat → ClassId} {dI : Nat → Nat → Nat} {h0 : Nat} {cI cZ cII cIII : ClassId} (hx : p.tables.exec = Jvm.exec) (hb : c.code = cX10_fitting) (hml : c.maxLocals = 3) (hown : s.vm.findClass RX10 = some m.cls) (hts : ∀ w ∈ wsG, w.before args s = true) (hK : va_K (dC, dI) vwCl (mT cI cZ cII cIII) s) (hRf : 7 ≤ R.frames) (hRl : 167 ≤ R.locals) (hRc : cells ≤ R.cells) (hRs : slots ≤ R.slots) (μ0 : va_M) (hexit41 : ∀ (b9 : Int) (pp : Int) (μ : va_M) (H : Heap) (locs : List Loc) (ls : Array Slot), (fr SW μ0 μ) → va_P (dC, dI) vwCl (fw (mE cI cZ cII cIII h0) h0 6325 μ) H → va_S (fA h0 6325 s.heap.size) s.heap H locs → lv_has ls 3 [(1, .int (iZ (b9)))] → W p l e R s m args below meth c H locs cells slots Q (F0 m 41 ls [])) :
    ∀ (n9 : Nat) (b9 : Int) (pp : Int) (μ : va_M) (H : Heap) (locs : List Loc) (ls : Array Slot), (RQ μ) → (fr SW μ0 μ) → (0 ≤ pp ∧ pp ≤ μ0 0 10) → (inR b9) → (20 - pp).toNat < n9 → va_P (dC, dI) vwCl (fw (mE cI cZ cII cIII h0) h0 6325 μ) H → va_S (fA h0 6325 s.heap.size) s.heap H locs → lv_has ls 3 [(2, .int (iZ (pp))), (1, .int (iZ (b9))), (0, .ref h0)] → W p l e R s m args below meth c H locs cells slots Q (F0 m 9 ls []) := by
  intro n9
  induction n9 with
  | zero => intro b9 pp μ H locs ls hQ hf hk hb9 hm9 hP hS hl; exact absurd hm9 (Nat.not_lt_zero _)
  | succ n9 ih =>
    intro b9 pp μ H locs ls hQ hf hk hb9 hm9 hP hS hl
    have e10 : μ 0 10 = μ0 0 10 := hf 0 10 (by unfold SW SF CF; (first | ((try clear e10); (try clear hm9); (try clear hb9); (try clear hk); (try clear hf); (try clear hQ); (try clear hexit41); (try clear hRs); (try clear hRc); (try clear hRl); (try clear hRf); omega) | omega))
    have k10 := hQ.1
    refine lv_iload_n hx hb dX10_fitting_9 rfl (lv_at hl 0 rfl) ?_
    refine lv_aload_n hx hb dX10_fitting_10 rfl (lv_at hl 2 rfl) ?_
    refine fz_get (D := (dC, dI)) (ci := 10) (v := .int (iZ (μ 0 10))) (C := RX10) (T := TX10) (N := 53) hx hb hts inG10 hown hK hP (k := 0) (by decide) (F := mF h0) mE_obj rfl 10 (by decide) (hts _ k1176) (fun _ h9 => h9) rfl dX10_fitting_11 ?_
    refine fz_icmp_ge (tgt := 41) (by constructor <;> (first | ((try clear hm9); (try clear hb9); (try clear hf); (try clear hQ); (try clear hexit41); (try clear hRs); (try clear hRc); (try clear hRl); (try clear hRf); omega) | omega)) (by constructor <;> (first | ((try clear e10); (try clear hm9); (try clear hb9); (try clear hk); (try clear hf); (try clear hQ); (try clear hexit41); (try clear hRs); (try clear hRc); (try clear hRl); (try clear hRf); omega) | omega)) hx hb dX10_fitting_14 (by decide) (fun c14_ => ?_) (fun c14_ => ?_)
    · exact hexit41 (b9) (pp) μ H locs ls (by exact hf) hP hS (lv_sub hl [1] rfl)
    · refine lv_iload_n hx hb dX10_fitting_17 rfl (lv_at hl 1 rfl) ?_
      refine lv_aload_n hx hb dX10_fitting_18 rfl (lv_at hl 2 rfl) ?_
      refine lv_iload_n hx hb dX10_fitting_19 rfl (lv_at hl 0 rfl) ?_
      refine va_calli (va_runV (As := [.int (iZ (pp))]) (rest := [.int (iZ (b9))]) ⟨hx, hb, hml, hown, hts⟩ (m_isFit l dC dI cI cZ cII cIII h0 H.size μ (pp) (by exact hQ) (by (first | ((try clear k10); (try clear e10); (try clear hm9); (try clear hb9); (try clear hf); (try clear hQ); (try clear hexit41); (try clear hRs); (try clear hRc); (try clear hRl); (try clear hRf); omega) | omega))) (cwV 1 hts (gV_G k1500 k1502 ks_yX10_isFit k13 k1503) rfl rfl rfl (by decide +kernel) ⟨by show 6 + 1 ≤ _; (first | ((try clear c14_); (try clear k10); (try clear e10); (try clear hm9); (try clear hb9); (try clear hk); (try clear hf); (try clear hQ); (try clear hexit41); (try clear hRs); (try clear hRc); (try clear hRl); omega) | omega), by show 8 + (2 + 11) + (146) ≤ _; (first | ((try clear c14_); (try clear k10); (try clear e10); (try clear hm9); (try clear hb9); (try clear hk); (try clear hf); (try clear hQ); (try clear hexit41); (try clear hRs); (try clear hRc); (try clear hRf); omega) | omega)⟩) ⟨fun a U g mk q => by obtain ⟨q0, q1, qP, qK⟩ := q; exact ⟨q0, q1, qP, va_K.moved (u := U) (U := U.calling g mk a) (Vm.Alike.refl U.vm) qK⟩, va_recv hK hP (ci := 10) (q0 := 0) rfl ((fw_get (by decide)).trans (by rw [mE_obj]; rfl)), fun U hU hW => ⟨rfl, by rw [hU], by rw [hU]; exact hP, va_K.moved hW.alike hK⟩⟩ rfl rfl hl.1 rfl (lv_room (Nat.le_of_ble_eq_true rfl)) dX10_fitting_20 ⟨hRc, hRs⟩) hS (fun q _ h => fA_le hS.1 q h) (fA_le hS.1) (fun r9 u9 t9 H1 locs ht9 hvm9 hw9 hB9 hz9 hk9 hS => ?_)
      obtain ⟨μ1, r2⟩ := u9
      obtain ⟨hP, -⟩ := hB9
      rw [ht9] at hP
      generalize H1 = H at hP hS ⊢
      obtain ⟨e9, hw9⟩ := hw9
      have e9 : r9 = iZ r2 := e9
      subst e9
      simp only at hP hw9
      have hμ1 := hw9; clear hw9
      obtain ⟨a1, a2, a3, a4, a5⟩ := hμ1
      have hQ2 := RQ_fr hQ (fr_mono a1 (fun _ _ h => SW_PS h))
      refine fz_if_eq (tgt := 32) (by constructor <;> (first | ((try clear hQ2); (try clear a4); (try clear a1); (try clear hμ1); (try clear hz9); (try clear c14_); (try clear k10); (try clear e10); (try clear hm9); (try clear hb9); (try clear hk); (try clear hf); (try clear hQ); (try clear hexit41); (try clear hRs); (try clear hRc); (try clear hRl); (try clear hRf); omega) | omega)) hx hb dX10_fitting_23 (by decide) (fun c23_ => ?_) (fun c23_ => ?_)
      · refine lv_iconst (v := iZ 0) hx hb dX10_fitting_32 rfl ?_
        refine lv_ior hx hb dX10_fitting_33 ?_
        refine lv_topi (fun x9 ex9 => ?_)
        obtain ⟨z3, rfl, hz3⟩ := iZ_ex x9
        have ez3 := ex9; clear ex9
        refine lv_istore_n (lv' := [(1, .int (iZ (z3))), (2, .int (iZ (pp))), (0, .ref h0)]) hx hb dX10_fitting_34 rfl hl (by decide) rfl (fun ls hl => ?_)
        refine lv_iinc (v := iZ (pp + 1)) (lv' := [(2, .int (iZ (pp + 1))), (1, .int (iZ (z3))), (0, .ref h0)]) hx hb dX10_fitting_35 hl (k := 1) rfl (iZ_add _ _) (by decide) rfl (fun ls hl => ?_)
        refine lv_goto (tgt := 9) hx hb dX10_fitting_38 (by decide) ?_
        exact ih (z3) (pp + 1) μ1 H locs ls (by exact hQ2) (by exact fr_trans hf a1) (by (first | ((try clear ez3); (try clear hz3); (try clear ex9); (try clear c23_); (try clear hQ2); (try clear a5); (try clear a4); (try clear a2); (try clear a1); (try clear hμ1); (try clear hz9); (try clear k10); (try clear hm9); (try clear hb9); (try clear hf); (try clear hQ); (try clear hexit41); (try clear hRs); (try clear hRc); (try clear hRl); (try clear hRf); omega) | omega)) (by exact hz3) (by (first | ((try clear ez3); (try clear hz3); (try clear ex9); (try clear hQ2); (try clear a4); (try clear a1); (try clear hμ1); (try clear hz9); (try clear e10); (try clear hb9); (try clear hf); (try clear hQ); (try clear hexit41); (try clear hRs); (try clear hRc); (try clear hRl); (try clear hRf); omega) | omega)) hP hS (lv_sub hl [0, 1, 2] rfl)
      · refine lv_iconst (v := iZ 1) hx hb dX10_fitting_26 rfl ?_
        refine lv_iload_n hx hb dX10_fitting_27 rfl (lv_at hl 0 rfl) ?_
        refine lv_ishl hx hb dX10_fitting_28 ?_
        refine lv_topi (fun x9 ex9 => ?_)
        obtain ⟨z4, rfl, hz4⟩ := iZ_ex x9
        have ez4 := ex9; clear ex9
        refine lv_goto (tgt := 33) hx hb dX10_fitting_29 (by decide) ?_
        refine lv_ior hx hb dX10_fitting_33 ?_
        refine lv_topi (fun x9 ex9 => ?_)
        obtain ⟨z5, rfl, hz5⟩ := iZ_ex x9
        have ez5 := ex9; clear ex9
        refine lv_istore_n (lv' := [(1, .int (iZ (z5))), (2, .int (iZ (pp))), (0, .ref h0)]) hx hb dX10_fitting_34 rfl hl (by decide) rfl (fun ls hl => ?_)
        refine lv_iinc (v := iZ (pp + 1)) (lv' := [(2, .int (iZ (pp + 1))), (1, .int (iZ (z5))), (0, .ref h0)]) hx hb dX10_fitting_35 hl (k := 1) rfl (iZ_add _ _) (by decide) rfl (fun ls hl => ?_)
        refine lv_goto (tgt := 9) hx hb dX10_fitting_38 (by decide) ?_
        exact ih (z5) (pp + 1) μ1 H locs ls (by exact hQ2) (by exact fr_trans hf a1) (by (first | ((try clear ez5); (try clear hz5); (try clear ex9); (try clear ez4); (try clear hz4); (try clear c23_); (try clear hQ2); (try clear a5); (try clear a4); (try clear a2); (try clear a1); (try clear hμ1); (try clear r2); (try clear hz9); (try clear k10); (try clear hm9); (try clear hb9); (try clear hf); (try clear hQ); (try clear hexit41); (try clear hRs); (try clear hRc); (try clear hRl); (try clear hRf); omega) | omega)) (by exact hz5) (by (first | ((try clear ez5); (try clear hz5); (try clear ex9); (try clear ez4); (try clear hz4); (try clear hQ2); (try clear a4); (try clear a1); (try clear hμ1); (try clear hz9); (try clear e10); (try clear hb9); (try clear hf); (try clear hQ); (try clear hexit41); (try clear hRs); (try clear hRc); (try clear hRl); (try clear hRf); omega) | omega)) hP hS (lv_sub hl [0, 1, 2] rfl)
set_option maxHeartbeats 4000000 in
set_option maxRecDepth 100000 in
theorem m_fitting (l : Launch) (dC : Nat → ClassId) (dI : Nat → Nat → Nat) (cI cZ cII cIII : ClassId) (h0 sz : Nat) (μ : va_M)  (hQ : RQ μ) : Met l yX10_fitting (Cond.code yX10_fitting cX10_fitting 3 (some .int) :: wsG) ({ frames := 7, cells := 0, slots := 0, locals := 167 } : Room) (va_Pc [.ref h0] (fun U => U.heap.size = sz ∧ va_P (dC, dI) vwCl (fw (mE cI cZ cII cIII h0) h0 6325 μ) U.heap ∧ va_K (dC, dI) vwCl (mT cI cZ cII cIII) U)) (va_Qi (fun (r9 : Int32) (u : va_M × Int) => r9 = iZ u.2 ∧ (fun (u : va_M) (r : Int) => fr PS μ u ∧ (u 0 0 = 0 ∨ u 0 0 = 1 ∨ u 0 0 = 2)) u.1 u.2) (fun u t => va_P (dC, dI) vwCl (fw (mE cI cZ cII cIII h0) h0 6325 u.1) t.heap ∧ va_K (dC, dI) vwCl (mT cI cZ cII cIII) t) (fA h0 6325 sz)) 0 0 (fA h0 6325 sz) := by
  refine Met.ofW (cc := cX10_fitting) (maxL := 3) (ret := (some .int)) (by decide) rfl ?_
  intro p e s m args below meth c s₁ B hml hv
  obtain ⟨rfl, hsz, hP, hK⟩ := hv
  have hx := B.exec
  have hb := B.bytes
  have hr := B.returns
  have hts : ∀ w ∈ wsG, w.before _ s = true := hG_of (atoms_spec (ws := (Cond.code yX10_fitting cX10_fitting 3 (some .int) :: wsG)) B.pre)
  have hown : s.vm.findClass RX10 = some m.cls := findClass_of_methodNamed B.named
  have hlocks := B.notSynchronized
  subst hsz
  have hS : va_S (fA h0 6325 s.heap.size) s.heap s.heap [] := va_S.rf
  have hl := lv_entry ([.ref h0]) (n := 3) (Nat.le_of_ble_eq_true rfl)
  rw [lg_entry_eq]
  generalize (lg_sl ([.ref h0]) ++ List.replicate (3 - (lg_sl ([.ref h0])).length) Slot.unset).toArray = ls at hl ⊢
  have hl : lv_has ls 3 [(0, .ref h0)] := hl
  refine lv_aload_n hx hb dX10_fitting_0 rfl (lv_at hl 0 rfl) ?_
  refine lv_iconst (v := iZ 0) hx hb dX10_fitting_1 rfl ?_
  refine fz_put (D := (dC, dI)) (ci := 10) (ty := .int) (z := 0) (C := RX10) (T := TX10) (N := 53) hx hb hts inG10 tyX10 tyX10_ok nmX10 hown hK hP fA_in hS (k := 0) (by decide) (F := mF h0) mE_obj rfl 0 (by decide) (hts _ k1166) (fun _ h9 => h9) rfl (by decide +kernel) rfl rfl (fun _ => Nat.le_of_ble_eq_true rfl) (fun _ _ => rfl) dX10_fitting_2 (fun H locs hP hS => ?_)
  obtain ⟨μ6, eμ6⟩ : ∃ x : va_M, x = uz μ 0 0 (0) := ⟨_, rfl⟩
  rw [← eμ6] at hP
  have hfr : fr PS μ μ6 := by rw [eμ6]; exact fr_uz fr_rfl (by unfold PS; (first | ((try clear x); (try clear eμ6); (try clear μ6); (try clear hsz); (try clear s₁); omega) | omega))
  have ht0 : μ6 0 0 = 0 := by rw [eμ6, uz_s]
  have e10 := hfr 0 10 (PS_n (by (first | ((try clear e10); (try clear ht0); (try clear x); (try clear eμ6); (try clear hsz); (try clear s₁); omega) | omega)))
  have e9 := hfr 0 9 (PS_n (by (first | ((try clear e10); (try clear ht0); (try clear x); (try clear eμ6); (try clear hsz); (try clear s₁); omega) | omega)))
  have e71 := hfr 719 0 (PS_n (by (first | ((try clear e71); (try clear e10); (try clear ht0); (try clear x); (try clear eμ6); (try clear hsz); (try clear s₁); omega) | omega)))
  have hQ1 := RQ_fr hQ hfr
  have hQc := hQ
  obtain ⟨f10, ⟨fT, fTb, fTw⟩, fS3, fPg, fw9, fwB, fwT⟩ := hQc
  obtain ⟨g10, ⟨gT, gTb, gTw⟩, gS3, gPg, gw, gwB, gwT⟩ := hQ1
  have gtk := TR_tok gwT gwB.1 gwB.2.1
  have gt1 := gtk.1
  have gt2 := gtk.2.1
  refine lv_iconst (v := iZ 0) hx hb dX10_fitting_5 rfl ?_
  refine lv_istore_n (lv' := [(1, .int (iZ (0))), (0, .ref h0)]) hx hb dX10_fitting_6 rfl hl (by decide) rfl (fun ls hl => ?_)
  refine lv_iconst (v := iZ 0) hx hb dX10_fitting_7 rfl ?_
  refine lv_istore_n (lv' := [(2, .int (iZ (0))), (1, .int (iZ (0))), (0, .ref h0)]) hx hb dX10_fitting_8 rfl hl (by decide) rfl (fun ls hl => ?_)
  refine LX10_fitting_9 hx hb hml hown hts hK (Nat.le_of_ble_eq_true rfl) (Nat.le_of_ble_eq_true rfl) (Nat.le_of_ble_eq_true rfl) (Nat.le_of_ble_eq_true rfl) (μ6)  ?_ _ (0) (0) μ6 H locs ls (by exact RQ_fr hQ hfr) (by exact fr_rfl) (by (first | ((try clear gt2); (try clear gt1); (try clear gtk); (try clear gwT); (try clear gwB); (try clear gw); (try clear gPg); (try clear gS3); (try clear gTw); (try clear gTb); (try clear gT); (try clear g10); (try clear fwT); (try clear fwB); (try clear fw9); (try clear fPg); (try clear fS3); (try clear fTw); (try clear fTb); (try clear fT); (try clear hQc); (try clear hQ1); (try clear e71); (try clear ht0); (try clear x); (try clear eμ6); (try clear hsz); (try clear s₁); omega) | omega)) (by constructor <;> decide) (Nat.lt_succ_self _) hP hS (lv_sub hl [0, 1, 2] rfl)
  · intro b9_7 pp_7 μ7_ H locs ls q1_7 hP hS hl
    have hl : lv_has ls 3 [(1, .int (iZ (b9_7)))] := hl
    refine lv_iload_n hx hb dX10_fitting_41 rfl (lv_at hl 0 rfl) ?_
    exact W.iret (v := iZ (b9_7)) hx hb hr (fun t9 ht9 hW9 => ⟨⟨iZ (b9_7), (μ7_, b9_7), rfl, ⟨rfl, (by
                dsimp only
                have e00 := q1_7 0 0 (by unfold SW SF CF; (first | ((try clear e00); (try clear q1_7); (try clear μ7_); (try clear pp_7); (try clear b9_7); (try clear gt2); (try clear gt1); (try clear gtk); (try clear gwT); (try clear gwB); (try clear gw); (try clear gPg); (try clear gS3); (try clear gTw); (try clear gTb); (try clear gT); (try clear g10); (try clear fwT); (try clear fwB); (try clear fw9); (try clear fPg); (try clear fS3); (try clear fTw); (try clear fTb); (try clear fT); (try clear f10); (try clear hQc); (try clear hQ1); (try clear e71); (try clear e10); (try clear ht0); (try clear x); (try clear eμ6); (try clear hsz); (try clear s₁); omega) | omega))
                exact ⟨fr_trans hfr (fr_mono q1_7 (fun _ _ h => SW_PS h)), by (first | ((try clear q1_7); (try clear pp_7); (try clear b9_7); (try clear gt2); (try clear gt1); (try clear gtk); (try clear gwT); (try clear gwB); (try clear gw); (try clear gPg); (try clear gS3); (try clear gTw); (try clear gTb); (try clear gT); (try clear g10); (try clear fwT); (try clear fwB); (try clear fw9); (try clear fPg); (try clear fS3); (try clear fTw); (try clear fTb); (try clear fT); (try clear f10); (try clear hQc); (try clear hQ1); (try clear e71); (try clear e10); (try clear x); (try clear eμ6); (try clear hsz); (try clear s₁); omega) | omega)⟩)⟩, by rw [ht9]; exact hP, va_K.moved hW9.alike hK⟩, hS.F ht9⟩) hS.2.2 dX10_fitting_42
set_option maxHeartbeats 4000000 in
set_option maxRecDepth 100000 in
theorem LX10_fitMany_4 {p : Program} {l : Launch} {e : Env} {R : Room} {s : State} {m : MethodId} {args : Array Value} {below : List Frame} {meth : Method} {c : Code} {cells slots : Nat} {Q : State → Prop} {dC : Nat → ClassId} {dI : Nat → Nat → Nat} {h0 : Nat} {cI cZ cII cIII : ClassId} (hx : p.tables.exec = Jvm.exec) (hb : c.code = cX10_fitMany) (hml : c.maxLocals = 3) (hown : s.vm.findClass RX10 = some m.cls) (hts : ∀ w ∈ wsG, w.before args s = true) (hK : va_K (dC, dI) vwCl (mT cI cZ cII cIII) s) (hRf : 7 ≤ R.frames) (hRl : 167 ≤ R.locals) (hRc : cells ≤ R.cells) (hRs : slots ≤ R.slots) (μ0 : va_M) (hexit34 : ∀ (b9 : Int) (pp : Int) (μ : va_M) (H : Heap) (locs : List Loc) (ls : Array Slot), (fr SW μ0 μ) → va_P (dC, dI) vwCl (fw (mE cI cZ cII cIII h0) h0 6325 μ) H → va_S (fA h0 6325 s.heap.size) s.heap H locs → lv_has ls 3 [(1, .int (iZ (b9)))] → W p l e R s m args below meth c H locs cells slots Q (F0 m 34 ls [])) :
    ∀ (n9 : Nat) (b9 : Int) (pp : Int) (μ : va_M) (H : Heap) (locs : List Loc) (ls : Array Slot), (RQ μ) → (fr SW μ0 μ) → (0 ≤ pp ∧ pp ≤ μ0 0 10) → (0 ≤ b9 ∧ b9 ≤ pp) → (20 - pp).toNat < n9 → va_P (dC, dI) vwCl (fw (mE cI cZ cII cIII h0) h0 6325 μ) H → va_S (fA h0 6325 s.heap.size) s.heap H locs → lv_has ls 3 [(2, .int (iZ (pp))), (1, .int (iZ (b9))), (0, .ref h0)] → W p l e R s m args below meth c H locs cells slots Q (F0 m 4 ls []) := by
  intro n9
  induction n9 with
  | zero => intro b9 pp μ H locs ls hQ hf hk hb9 hm9 hP hS hl; exact absurd hm9 (Nat.not_lt_zero _)
  | succ n9 ih =>
    intro b9 pp μ H locs ls hQ hf hk hb9 hm9 hP hS hl
    have e10 : μ 0 10 = μ0 0 10 := hf 0 10 (by unfold SW SF CF; (first | ((try clear e10); (try clear hm9); (try clear hb9); (try clear hk); (try clear hf); (try clear hQ); (try clear hexit34); (try clear hRs); (try clear hRc); (try clear hRl); (try clear hRf); omega) | omega))
    have k10 := hQ.1
    refine lv_iload_n hx hb dX10_fitMany_4 rfl (lv_at hl 0 rfl) ?_
    refine lv_aload_n hx hb dX10_fitMany_5 rfl (lv_at hl 2 rfl) ?_
    refine fz_get (D := (dC, dI)) (ci := 10) (v := .int (iZ (μ 0 10))) (C := RX10) (T := TX10) (N := 53) hx hb hts inG10 hown hK hP (k := 0) (by decide) (F := mF h0) mE_obj rfl 10 (by decide) (hts _ k1176) (fun _ h9 => h9) rfl dX10_fitMany_6 ?_
    refine fz_icmp_ge (tgt := 34) (by constructor <;> (first | ((try clear hm9); (try clear hb9); (try clear hf); (try clear hQ); (try clear hexit34); (try clear hRs); (try clear hRc); (try clear hRl); (try clear hRf); omega) | omega)) (by constructor <;> (first | ((try clear e10); (try clear hm9); (try clear hb9); (try clear hk); (try clear hf); (try clear hQ); (try clear hexit34); (try clear hRs); (try clear hRc); (try clear hRl); (try clear hRf); omega) | omega)) hx hb dX10_fitMany_9 (by decide) (fun c9_ => ?_) (fun c9_ => ?_)
    · exact hexit34 (b9) (pp) μ H locs ls (by exact hf) hP hS (lv_sub hl [1] rfl)
    · refine lv_iload_n hx hb dX10_fitMany_12 rfl (lv_at hl 1 rfl) ?_
      refine lv_aload_n hx hb dX10_fitMany_13 rfl (lv_at hl 2 rfl) ?_
      refine lv_iload_n hx hb dX10_fitMany_14 rfl (lv_at hl 0 rfl) ?_
      refine va_calli (va_runV (As := [.int (iZ (pp))]) (rest := [.int (iZ (b9))]) ⟨hx, hb, hml, hown, hts⟩ (m_isFit l dC dI cI cZ cII cIII h0 H.size μ (pp) (by exact hQ) (by (first | ((try clear k10); (try clear e10); (try clear hm9); (try clear hb9); (try clear hf); (try clear hQ); (try clear hexit34); (try clear hRs); (try clear hRc); (try clear hRl); (try clear hRf); omega) | omega))) (cwV 1 hts (gV_G k1500 k1502 ks_yX10_isFit k13 k1503) rfl rfl rfl (by decide +kernel) ⟨by show 6 + 1 ≤ _; (first | ((try clear c9_); (try clear k10); (try clear e10); (try clear hm9); (try clear hb9); (try clear hk); (try clear hf); (try clear hQ); (try clear hexit34); (try clear hRs); (try clear hRc); (try clear hRl); omega) | omega), by show 8 + (2 + 11) + (146) ≤ _; (first | ((try clear c9_); (try clear k10); (try clear e10); (try clear hm9); (try clear hb9); (try clear hk); (try clear hf); (try clear hQ); (try clear hexit34); (try clear hRs); (try clear hRc); (try clear hRf); omega) | omega)⟩) ⟨fun a U g mk q => by obtain ⟨q0, q1, qP, qK⟩ := q; exact ⟨q0, q1, qP, va_K.moved (u := U) (U := U.calling g mk a) (Vm.Alike.refl U.vm) qK⟩, va_recv hK hP (ci := 10) (q0 := 0) rfl ((fw_get (by decide)).trans (by rw [mE_obj]; rfl)), fun U hU hW => ⟨rfl, by rw [hU], by rw [hU]; exact hP, va_K.moved hW.alike hK⟩⟩ rfl rfl hl.1 rfl (lv_room (Nat.le_of_ble_eq_true rfl)) dX10_fitMany_15 ⟨hRc, hRs⟩) hS (fun q _ h => fA_le hS.1 q h) (fA_le hS.1) (fun r9 u9 t9 H1 locs ht9 hvm9 hw9 hB9 hz9 hk9 hS => ?_)
      obtain ⟨μ1, r2⟩ := u9
      obtain ⟨hP, -⟩ := hB9
      rw [ht9] at hP
      generalize H1 = H at hP hS ⊢
      obtain ⟨e9, hw9⟩ := hw9
      have e9 : r9 = iZ r2 := e9
      subst e9
      simp only at hP hw9
      have hμ1 := hw9; clear hw9
      obtain ⟨a1, a2, a3, a4, a5⟩ := hμ1
      have hQ2 := RQ_fr hQ (fr_mono a1 (fun _ _ h => SW_PS h))
      refine fz_if_eq (tgt := 25) (by constructor <;> (first | ((try clear hQ2); (try clear a4); (try clear a1); (try clear hμ1); (try clear hz9); (try clear c9_); (try clear k10); (try clear e10); (try clear hm9); (try clear hb9); (try clear hk); (try clear hf); (try clear hQ); (try clear hexit34); (try clear hRs); (try clear hRc); (try clear hRl); (try clear hRf); omega) | omega)) hx hb dX10_fitMany_18 (by decide) (fun c18_ => ?_) (fun c18_ => ?_)
      · refine lv_iconst (v := iZ 0) hx hb dX10_fitMany_25 rfl ?_
        refine lv_iadd hx hb dX10_fitMany_26 ?_
        refine lv_topi (fun x9 ex9 => ?_)
        obtain rfl : x9 = iZ (b9 + 0) := ex9.trans (iZ_add _ _)
        refine lv_istore_n (lv' := [(1, .int (iZ (b9 + 0))), (2, .int (iZ (pp))), (0, .ref h0)]) hx hb dX10_fitMany_27 rfl hl (by decide) rfl (fun ls hl => ?_)
        refine lv_iinc (v := iZ (pp + 1)) (lv' := [(2, .int (iZ (pp + 1))), (1, .int (iZ (b9 + 0))), (0, .ref h0)]) hx hb dX10_fitMany_28 hl (k := 1) rfl (iZ_add _ _) (by decide) rfl (fun ls hl => ?_)
        refine lv_goto (tgt := 4) hx hb dX10_fitMany_31 (by decide) ?_
        exact ih (b9 + 0) (pp + 1) μ1 H locs ls (by exact hQ2) (by exact fr_trans hf a1) (by (first | ((try clear ex9); (try clear c18_); (try clear hQ2); (try clear a5); (try clear a4); (try clear a2); (try clear a1); (try clear hμ1); (try clear hz9); (try clear k10); (try clear hm9); (try clear hb9); (try clear hf); (try clear hQ); (try clear hexit34); (try clear hRs); (try clear hRc); (try clear hRl); (try clear hRf); omega) | omega)) (by (first | ((try clear ex9); (try clear c18_); (try clear hQ2); (try clear a5); (try clear a4); (try clear a2); (try clear a1); (try clear hμ1); (try clear hz9); (try clear c9_); (try clear k10); (try clear e10); (try clear hm9); (try clear hk); (try clear hf); (try clear hQ); (try clear hexit34); (try clear hRs); (try clear hRc); (try clear hRl); (try clear hRf); omega) | omega)) (by (first | ((try clear ex9); (try clear hQ2); (try clear a4); (try clear a1); (try clear hμ1); (try clear hz9); (try clear e10); (try clear hf); (try clear hQ); (try clear hexit34); (try clear hRs); (try clear hRc); (try clear hRl); (try clear hRf); omega) | omega)) hP hS (lv_sub hl [0, 1, 2] rfl)
      · refine lv_iconst (v := iZ 1) hx hb dX10_fitMany_21 rfl ?_
        refine lv_goto (tgt := 26) hx hb dX10_fitMany_22 (by decide) ?_
        refine lv_iadd hx hb dX10_fitMany_26 ?_
        refine lv_topi (fun x9 ex9 => ?_)
        obtain rfl : x9 = iZ (b9 + 1) := ex9.trans (iZ_add _ _)
        refine lv_istore_n (lv' := [(1, .int (iZ (b9 + 1))), (2, .int (iZ (pp))), (0, .ref h0)]) hx hb dX10_fitMany_27 rfl hl (by decide) rfl (fun ls hl => ?_)
        refine lv_iinc (v := iZ (pp + 1)) (lv' := [(2, .int (iZ (pp + 1))), (1, .int (iZ (b9 + 1))), (0, .ref h0)]) hx hb dX10_fitMany_28 hl (k := 1) rfl (iZ_add _ _) (by decide) rfl (fun ls hl => ?_)
        refine lv_goto (tgt := 4) hx hb dX10_fitMany_31 (by decide) ?_
        exact ih (b9 + 1) (pp + 1) μ1 H locs ls (by exact hQ2) (by exact fr_trans hf a1) (by (first | ((try clear ex9); (try clear c18_); (try clear hQ2); (try clear a5); (try clear a4); (try clear a2); (try clear a1); (try clear hμ1); (try clear r2); (try clear hz9); (try clear k10); (try clear hm9); (try clear hb9); (try clear hf); (try clear hQ); (try clear hexit34); (try clear hRs); (try clear hRc); (try clear hRl); (try clear hRf); omega) | omega)) (by (first | ((try clear ex9); (try clear c18_); (try clear hQ2); (try clear a5); (try clear a4); (try clear a2); (try clear a1); (try clear hμ1); (try clear r2); (try clear hz9); (try clear c9_); (try clear k10); (try clear e10); (try clear hm9); (try clear hk); (try clear hf); (try clear hQ); (try clear hexit34); (try clear hRs); (try clear hRc); (try clear hRl); (try clear hRf); omega) | omega)) (by (first | ((try clear ex9); (try clear hQ2); (try clear a4); (try clear a1); (try clear hμ1); (try clear hz9); (try clear e10); (try clear hf); (try clear hQ); (try clear hexit34); (try clear hRs); (try clear hRc); (try clear hRl); (try clear hRf); omega) | omega)) hP hS (lv_sub hl [0, 1, 2] rfl)
set_option maxHeartbeats 4000000 in
set_option maxRecDepth 100000 in
theorem m_fitMany (l : Launch) (dC : Nat → ClassId) (dI : Nat → Nat → Nat) (cI cZ cII cIII : ClassId) (h0 sz : Nat) (μ : va_M)  (hQ : RQ μ) : Met l yX10_fitMany (Cond.code yX10_fitMany cX10_fitMany 3 (some .int) :: wsG) ({ frames := 7, cells := 0, slots := 0, locals := 167 } : Room) (va_Pc [.ref h0] (fun U => U.heap.size = sz ∧ va_P (dC, dI) vwCl (fw (mE cI cZ cII cIII h0) h0 6325 μ) U.heap ∧ va_K (dC, dI) vwCl (mT cI cZ cII cIII) U)) (va_Qi (fun (r9 : Int32) (u : va_M × Int) => r9 = iZ u.2 ∧ (fun (u : va_M) (r : Int) => fr SW μ u) u.1 u.2) (fun u t => va_P (dC, dI) vwCl (fw (mE cI cZ cII cIII h0) h0 6325 u.1) t.heap ∧ va_K (dC, dI) vwCl (mT cI cZ cII cIII) t) (fA h0 6325 sz)) 0 0 (fA h0 6325 sz) := by
  refine Met.ofW (cc := cX10_fitMany) (maxL := 3) (ret := (some .int)) (by decide) rfl ?_
  intro p e s m args below meth c s₁ B hml hv
  obtain ⟨rfl, hsz, hP, hK⟩ := hv
  have hx := B.exec
  have hb := B.bytes
  have hr := B.returns
  have hts : ∀ w ∈ wsG, w.before _ s = true := hG_of (atoms_spec (ws := (Cond.code yX10_fitMany cX10_fitMany 3 (some .int) :: wsG)) B.pre)
  have hown : s.vm.findClass RX10 = some m.cls := findClass_of_methodNamed B.named
  have hlocks := B.notSynchronized
  subst hsz
  have hS : va_S (fA h0 6325 s.heap.size) s.heap s.heap [] := va_S.rf
  have hl := lv_entry ([.ref h0]) (n := 3) (Nat.le_of_ble_eq_true rfl)
  rw [lg_entry_eq]
  generalize (lg_sl ([.ref h0]) ++ List.replicate (3 - (lg_sl ([.ref h0])).length) Slot.unset).toArray = ls at hl ⊢
  have hl : lv_has ls 3 [(0, .ref h0)] := hl
  refine lv_iconst (v := iZ 0) hx hb dX10_fitMany_0 rfl ?_
  refine lv_istore_n (lv' := [(1, .int (iZ (0))), (0, .ref h0)]) hx hb dX10_fitMany_1 rfl hl (by decide) rfl (fun ls hl => ?_)
  refine lv_iconst (v := iZ 0) hx hb dX10_fitMany_2 rfl ?_
  refine lv_istore_n (lv' := [(2, .int (iZ (0))), (1, .int (iZ (0))), (0, .ref h0)]) hx hb dX10_fitMany_3 rfl hl (by decide) rfl (fun ls hl => ?_)
  refine LX10_fitMany_4 hx hb hml hown hts hK (Nat.le_of_ble_eq_true rfl) (Nat.le_of_ble_eq_true rfl) (Nat.le_of_ble_eq_true rfl) (Nat.le_of_ble_eq_true rfl) (μ)  ?_ _ (0) (0) μ s.heap [] ls (by exact hQ) (by exact fr_rfl) (by have := hQ.1; (first | ((try clear hsz); (try clear s₁); omega) | omega)) (by (first | ((try clear hsz); (try clear s₁); omega) | omega)) (Nat.lt_succ_self _) hP hS (lv_sub hl [0, 1, 2] rfl)
  · intro b9_3 pp_3 μ3_ H locs ls q1_3 hP hS hl
    have hl : lv_has ls 3 [(1, .int (iZ (b9_3)))] := hl
    refine lv_iload_n hx hb dX10_fitMany_34 rfl (lv_at hl 0 rfl) ?_
    exact W.iret (v := iZ (b9_3)) hx hb hr (fun t9 ht9 hW9 => ⟨⟨iZ (b9_3), (μ3_, b9_3), rfl, ⟨rfl, (by
                dsimp only
                exact q1_3)⟩, by rw [ht9]; exact hP, va_K.moved hW9.alike hK⟩, hS.F ht9⟩) hS.2.2 dX10_fitMany_35

theorem k1715 : (Cond.methodLink "PageSkeletonModel" (405 : Nat) ({ cls := "PageSkeletonModel", name := "laysOrder", desc := "(II)V" } : MethodName)) ∈ wsG := wsG_at 1715 (by decide +kernel) (by decide +kernel)
theorem k1717 : (Cond.instanceMethod ({ cls := "PageSkeletonModel", name := "laysOrder", desc := "(II)V" } : MethodName)) ∈ wsG := wsG_at 1717 (by decide +kernel) (by decide +kernel)
theorem k1718 : (Cond.code ({ cls := "PageSkeletonModel", name := "laysOrder", desc := "(II)V" } : MethodName) prog_12_method_100_code (9 : Nat) (Option.none : Option Jvm.ClassFile.FieldType)) ∈ wsG := wsG_at 1718 (by decide +kernel) (by decide +kernel)
theorem ks_yX10_laysOrder : Cond.selects RX10 yX10_laysOrder yX10_laysOrder ∈ wsG := wsG_mem (by decide +kernel) (by decide +kernel)
theorem dX10_goesInOrder_0 : decode cX10_goesInOrder 0 = .ok (.aload_n 0, 1) := by decide +kernel
theorem dX10_goesInOrder_1 : decode cX10_goesInOrder 1 = .ok (.iload_n 1, 1) := by decide +kernel
theorem dX10_goesInOrder_2 : decode cX10_goesInOrder 2 = .ok (.iload_n 2, 1) := by decide +kernel
theorem dX10_goesInOrder_3 : decode cX10_goesInOrder 3 = .ok (.invokevirtual 405, 3) := by decide +kernel
theorem dX10_goesInOrder_6 : decode cX10_goesInOrder 6 = .ok (.aload_n 0, 1) := by decide +kernel
theorem dX10_goesInOrder_7 : decode cX10_goesInOrder 7 = .ok (.bipush 17, 2) := by decide +kernel
theorem dX10_goesInOrder_9 : decode cX10_goesInOrder 9 = .ok (.aload_n 0, 1) := by decide +kernel
theorem dX10_goesInOrder_10 : decode cX10_goesInOrder 10 = .ok (.getfield 121, 3) := by decide +kernel
theorem dX10_goesInOrder_13 : decode cX10_goesInOrder 13 = .ok (.iconst 0, 1) := by decide +kernel
theorem dX10_goesInOrder_14 : decode cX10_goesInOrder 14 = .ok (.iaload, 1) := by decide +kernel
theorem dX10_goesInOrder_15 : decode cX10_goesInOrder 15 = .ok (.iadd, 1) := by decide +kernel
theorem dX10_goesInOrder_16 : decode cX10_goesInOrder 16 = .ok (.bipush 50, 2) := by decide +kernel
theorem dX10_goesInOrder_18 : decode cX10_goesInOrder 18 = .ok (.invokevirtual 241, 3) := by decide +kernel
theorem dX10_goesInOrder_21 : decode cX10_goesInOrder 21 = .ok (.aload_n 0, 1) := by decide +kernel
theorem dX10_goesInOrder_22 : decode cX10_goesInOrder 22 = .ok (.getfield 124, 3) := by decide +kernel
theorem dX10_goesInOrder_25 : decode cX10_goesInOrder 25 = .ok (.iload_n 1, 1) := by decide +kernel
theorem dX10_goesInOrder_26 : decode cX10_goesInOrder 26 = .ok (.iconst 0, 1) := by decide +kernel
theorem dX10_goesInOrder_27 : decode cX10_goesInOrder 27 = .ok (.iastore, 1) := by decide +kernel
theorem dX10_goesInOrder_28 : decode cX10_goesInOrder 28 = .ok (.iconst 1, 1) := by decide +kernel
theorem dX10_goesInOrder_29 : decode cX10_goesInOrder 29 = .ok (.istore_n 3, 1) := by decide +kernel
theorem dX10_goesInOrder_30 : decode cX10_goesInOrder 30 = .ok (.iload_n 3, 1) := by decide +kernel
theorem dX10_goesInOrder_31 : decode cX10_goesInOrder 31 = .ok (.iload_n 2, 1) := by decide +kernel
theorem dX10_goesInOrder_32 : decode cX10_goesInOrder 32 = .ok (.if_icmp .ge 43, 3) := by decide +kernel
theorem dX10_goesInOrder_35 : decode cX10_goesInOrder 35 = .ok (.aload_n 0, 1) := by decide +kernel
theorem dX10_goesInOrder_36 : decode cX10_goesInOrder 36 = .ok (.getfield 124, 3) := by decide +kernel
theorem dX10_goesInOrder_39 : decode cX10_goesInOrder 39 = .ok (.iload_n 1, 1) := by decide +kernel
theorem dX10_goesInOrder_40 : decode cX10_goesInOrder 40 = .ok (.dup2, 1) := by decide +kernel
theorem dX10_goesInOrder_41 : decode cX10_goesInOrder 41 = .ok (.iaload, 1) := by decide +kernel
theorem dX10_goesInOrder_42 : decode cX10_goesInOrder 42 = .ok (.aload_n 0, 1) := by decide +kernel
theorem dX10_goesInOrder_43 : decode cX10_goesInOrder 43 = .ok (.bipush 50, 2) := by decide +kernel
theorem dX10_goesInOrder_45 : decode cX10_goesInOrder 45 = .ok (.bipush 17, 2) := by decide +kernel
theorem dX10_goesInOrder_47 : decode cX10_goesInOrder 47 = .ok (.aload_n 0, 1) := by decide +kernel
theorem dX10_goesInOrder_48 : decode cX10_goesInOrder 48 = .ok (.getfield 121, 3) := by decide +kernel
theorem dX10_goesInOrder_51 : decode cX10_goesInOrder 51 = .ok (.iload_n 3, 1) := by decide +kernel
theorem dX10_goesInOrder_52 : decode cX10_goesInOrder 52 = .ok (.iaload, 1) := by decide +kernel
theorem dX10_goesInOrder_53 : decode cX10_goesInOrder 53 = .ok (.iadd, 1) := by decide +kernel
theorem dX10_goesInOrder_54 : decode cX10_goesInOrder 54 = .ok (.bipush 51, 2) := by decide +kernel
theorem dX10_goesInOrder_56 : decode cX10_goesInOrder 56 = .ok (.invokevirtual 334, 3) := by decide +kernel
theorem dX10_goesInOrder_59 : decode cX10_goesInOrder 59 = .ok (.iadd, 1) := by decide +kernel
theorem dX10_goesInOrder_60 : decode cX10_goesInOrder 60 = .ok (.iastore, 1) := by decide +kernel
theorem dX10_goesInOrder_61 : decode cX10_goesInOrder 61 = .ok (.aload_n 0, 1) := by decide +kernel
theorem dX10_goesInOrder_62 : decode cX10_goesInOrder 62 = .ok (.bipush 51, 2) := by decide +kernel
theorem dX10_goesInOrder_64 : decode cX10_goesInOrder 64 = .ok (.bipush 50, 2) := by decide +kernel
theorem dX10_goesInOrder_66 : decode cX10_goesInOrder 66 = .ok (.invokevirtual 241, 3) := by decide +kernel
theorem dX10_goesInOrder_69 : decode cX10_goesInOrder 69 = .ok (.iinc 3 1, 3) := by decide +kernel
theorem dX10_goesInOrder_72 : decode cX10_goesInOrder 72 = .ok (.goto (-42), 3) := by decide +kernel
theorem dX10_goesInOrder_75 : decode cX10_goesInOrder 75 = .ok (.aload_n 0, 1) := by decide +kernel
theorem dX10_goesInOrder_76 : decode cX10_goesInOrder 76 = .ok (.bipush 50, 2) := by decide +kernel
theorem dX10_goesInOrder_78 : decode cX10_goesInOrder 78 = .ok (.bipush 25, 2) := by decide +kernel
theorem dX10_goesInOrder_80 : decode cX10_goesInOrder 80 = .ok (.iload_n 1, 1) := by decide +kernel
theorem dX10_goesInOrder_81 : decode cX10_goesInOrder 81 = .ok (.iadd, 1) := by decide +kernel
theorem dX10_goesInOrder_82 : decode cX10_goesInOrder 82 = .ok (.invokevirtual 241, 3) := by decide +kernel
theorem dX10_goesInOrder_85 : decode cX10_goesInOrder 85 = .ok (.return_, 1) := by decide +kernel
/-! what it costs to lay all pages in an order; and the answers about the orders -/
def OQo (k x y : Nat) : Prop := LD 0 x y ∨ PT 50 x y ∨ PT 51 x y ∨ PT (25 + k) x y ∨ x = 6323 ∨ (x = 6324 ∧ y = k)
theorem OQo_n {k x y : Nat} (hk : k < 24) (h : x = 0 ∧ y ≠ 33 ∨ (507 + 17 ≤ x ∧ x < 507 + 25) ∨ (578 + 17 ≤ x ∧ x < 578 + 25) ∨ (649 + 17 ≤ x ∧ x < 649 + 25) ∨ (x = 719 ∧ 17 ≤ y ∧ y < 25)) : ¬ OQo k x y := by unfold OQo LD PT; omega
set_option maxHeartbeats 4000000 in
set_option maxRecDepth 100000 in
theorem LX10_goesInOrder_30 {p : Program} {l : Launch} {e : Env} {R : Room} {s : State} {m : MethodId} {args : Array Value} {below : List Frame} {meth : Method} {c : Code} {cells slots : Nat} {Q : State → Prop} {dC : Nat → ClassId} {dI : Nat → Nat → Nat} {h0 : Nat} {cI cZ cII cIII : ClassId} (hx : p.tables.exec = Jvm.exec) (hb : c.code = cX10_goesInOrder) (hml : c.maxLocals = 4) (hown : s.vm.findClass RX10 = some m.cls) (hts : ∀ w ∈ wsG, w.before args s = true) (hK : va_K (dC, dI) vwCl (mT cI cZ cII cIII) s) (hRf : 69 ≤ R.frames) (hRl : 2355 ≤ R.locals) (hRc : cells ≤ R.cells) (hRs : slots ≤ R.slots) (μ0 : va_M) (k : Int) (mn : Int) (J : Rw → Prop) (hmm : 1 ≤ mn ∧ mn ≤ 4) (hk : 0 ≤ k ∧ k < 24) (hmn : mn ≤ μ0 0 10) (hJK : JOK J) (hQ : RQ μ0) (hexit75 : ∀ (i : Int) (μ : va_M) (H : Heap) (locs : List Loc) (ls : Array Slot), (fr (OQo k.toNat) μ0 μ) → (∃ w : Rw, ordK (mn - 1).toNat w ∧ TR μ 50 w) → (0 ≤ μ 6324 k.toNat ∧ μ 6324 k.toNat ≤ 1600) → va_P (dC, dI) vwCl (fw (mE cI cZ cII cIII h0) h0 6325 μ) H → va_S (fA h0 6325 s.heap.size) s.heap H locs → lv_has ls 4 [(2, .int (iZ (mn))), (1, .int (iZ (k))), (0, .ref h0)] → W p l e R s m args below meth c H locs cells slots Q (F0 m 75 ls [])) :
    ∀ (n9 : Nat) (i : Int) (μ : va_M) (H : Heap) (locs : List Loc) (ls : Array Slot), (1 ≤ i ∧ i ≤ mn) → (fr (OQo k.toNat) μ0 μ) → (∃ w : Rw, ordK (i - 1).toNat w ∧ TR μ 50 w) → (0 ≤ μ 6324 k.toNat ∧ μ 6324 k.toNat ≤ 400 * i) → (∀ j : Nat, (j : Int) < mn → 0 ≤ μ 6323 j ∧ μ 6323 j < mn) → (10 - i).toNat < n9 → va_P (dC, dI) vwCl (fw (mE cI cZ cII cIII h0) h0 6325 μ) H → va_S (fA h0 6325 s.heap.size) s.heap H locs → lv_has ls 4 [(3, .int (iZ (i))), (2, .int (iZ (mn))), (1, .int (iZ (k))), (0, .ref h0)] → W p l e R s m args below meth c H locs cells slots Q (F0 m 30 ls []) := by
  intro n9
  induction n9 with
  | zero => intro i μ H locs ls hi hf hw hc ho hm9 hP hS hl; exact absurd hm9 (Nat.not_lt_zero _)
  | succ n9 ih =>
    intro i μ H locs ls hi hf hw hc ho hm9 hP hS hl
    obtain ⟨w, w1, w2⟩ := hw
    have wsk := hJK.2.2.2.2 (i - 1).toNat w (by omega) w1
    have e10 := hf 0 10 (OQo_n (by omega) (by omega))
    refine lv_iload_n hx hb dX10_goesInOrder_30 rfl (lv_at hl 0 rfl) ?_
    refine lv_iload_n hx hb dX10_goesInOrder_31 rfl (lv_at hl 1 rfl) ?_
    refine fz_icmp_ge (tgt := 75) (by constructor <;> omega) (by constructor <;> omega) hx hb dX10_goesInOrder_32 (by decide) (fun c32_ => ?_) (fun c32_ => ?_)
    · exact hexit75 (i) μ H locs ls (by exact hf) (by
                    refine ⟨w, ?_, w2⟩
                    rw [show (mn - 1).toNat = (i - 1).toNat by omega]
                    exact w1) (by omega) hP hS (lv_sub hl [1, 2, 3] rfl)
    · have hoi := ho i.toNat (by omega)
      obtain ⟨p1, p2, p3, pw, pw1, pw2, pw3⟩ := hQ.2.2.2.1 (μ 6323 i.toNat).toNat (by omega)
      have pwb := rPage_b pw1
      have pTR : TR μ (17 + μ 6323 i.toNat).toNat pw := by rw [show (17 + μ 6323 i.toNat).toNat = 17 + (μ 6323 i.toNat).toNat by omega]; exact TR_fr pw3 hf (fun x => ⟨(OQo_n (by omega) (by omega)), (OQo_n (by omega) (by omega)), (OQo_n (by omega) (by omega))⟩) (OQo_n (by omega) (by omega))
      have hord : ordK i.toNat (lrow w pw) := by
        rw [show i.toNat = (i - 1).toNat + 1 by omega]
        exact ⟨w, pw, w1, ⟨pw1, pw2⟩, rfl⟩
      have lsk := hJK.2.2.2.2 i.toNat _ (by omega) hord
      have hpl := rL_T pw pw1.1
      have hpt := pw1.2.2
      refine lv_aload_n hx hb dX10_goesInOrder_35 rfl (lv_at hl 3 rfl) ?_
      refine fz_get (D := (dC, dI)) (ci := 10) (v := .ref (h0 + 6324)) (C := RX10) (T := TX10) (N := 53) hx hb hts inG10 hown hK hP (k := 0) (by decide) (F := mF h0) mE_obj rfl 52 (by decide) (hts _ k1218) (fun _ h9 => h9) rfl dX10_goesInOrder_36 ?_
      refine lv_iload_n hx hb dX10_goesInOrder_39 rfl (lv_at hl 2 rfl) ?_
      refine lv_dup2_11 hx hb dX10_goesInOrder_40 rfl rfl ?_
      refine fz_ld (k := 6324) (n := 24) hx hb hK hP 0 (by decide) mE_orderCost rfl ⟨by omega, by omega⟩ (by decide) dX10_goesInOrder_41 ?_
      refine lv_aload_n hx hb dX10_goesInOrder_42 rfl (lv_at hl 3 rfl) ?_
      refine lv_bipush (v := iZ 50) hx hb dX10_goesInOrder_43 rfl ?_
      refine lv_bipush (v := iZ 17) hx hb dX10_goesInOrder_45 rfl ?_
      refine lv_aload_n hx hb dX10_goesInOrder_47 rfl (lv_at hl 3 rfl) ?_
      refine fz_get (D := (dC, dI)) (ci := 10) (v := .ref (h0 + 6323)) (C := RX10) (T := TX10) (N := 53) hx hb hts inG10 hown hK hP (k := 0) (by decide) (F := mF h0) mE_obj rfl 51 (by decide) (hts _ k1217) (fun _ h9 => h9) rfl dX10_goesInOrder_48 ?_
      refine lv_iload_n hx hb dX10_goesInOrder_51 rfl (lv_at hl 0 rfl) ?_
      refine fz_ld (k := 6323) (n := 4) hx hb hK hP 0 (by decide) mE_order rfl ⟨by omega, by omega⟩ (by decide) dX10_goesInOrder_52 ?_
      refine lv_iadd hx hb dX10_goesInOrder_53 ?_
      refine lv_topi (fun x9 ex9 => ?_)
      obtain rfl : x9 = iZ (17 + (μ 6323 (i).toNat)) := ex9.trans (iZ_add _ _)
      refine lv_bipush (v := iZ 51) hx hb dX10_goesInOrder_54 rfl ?_
      refine va_calli (va_runV (As := [.int (iZ (50)), .int (iZ (17 + (μ 6323 (i).toNat))), .int (iZ (51))]) (rest := [.int (iZ (μ 6324 (k).toNat)), .int (iZ (k)), .ref (h0 + 6324)]) ⟨hx, hb, hml, hown, hts⟩ (m_lays l dC dI cI cZ cII cIII h0 H.size μ (50) (17 + (μ 6323 (i).toNat)) (51) (w) (pw) (by decide) (by omega) (by omega) (by exact w2) (by exact pTR) (by exact wsk.1.1) (by exact pw1.1) (by exact ⟨wsk.1.2.1, by omega⟩) (by exact ⟨wsk.2, by omega, by have := wsk.1.2.2.2.1; omega⟩) (by omega) (by exact lsk.1.2.1)) (cwV 3 hts (gV_G k1539 k1541 ks_yX10_lays k13 k1542) rfl rfl rfl (by decide +kernel) ⟨by show 68 + 1 ≤ _; omega, by show 8 + (4 + 11) + (2332) ≤ _; omega⟩) ⟨fun a U g mk q => by obtain ⟨q0, q1, qP, qK⟩ := q; exact ⟨q0, q1, qP, va_K.moved (u := U) (U := U.calling g mk a) (Vm.Alike.refl U.vm) qK⟩, va_recv hK hP (ci := 10) (q0 := 0) rfl ((fw_get (by decide)).trans (by rw [mE_obj]; rfl)), fun U hU hW => ⟨rfl, by rw [hU], by rw [hU]; exact hP, va_K.moved hW.alike hK⟩⟩ rfl rfl hl.1 rfl (lv_room (Nat.le_of_ble_eq_true rfl)) dX10_goesInOrder_56 ⟨hRc, hRs⟩) hS (fun q _ h => fA_le hS.1 q h) (fA_le hS.1) (fun r9 u9 t9 H1 locs ht9 hvm9 hw9 hB9 hz9 hk9 hS => ?_)
      obtain ⟨μl, rl⟩ := u9
      obtain ⟨hP, -⟩ := hB9
      rw [ht9] at hP
      generalize H1 = H at hP hS ⊢
      obtain ⟨e9, hw9⟩ := hw9
      have e9 : r9 = iZ rl := e9
      subst e9
      simp only at hP hw9
      have hμl := hw9; clear hw9
      obtain ⟨z1, z2, z3⟩ := hμl
      rw [show (51 : Int).toNat = 51 from rfl] at z2 z3
      have hl6 := lay_60 (w := w) (by have := wsk.2; omega) pw1
      have ec := z3 6324 k.toNat (by unfold LPq LD PT; omega)
      refine lv_iadd hx hb dX10_goesInOrder_59 ?_
      refine lv_topi (fun x9 ex9 => ?_)
      obtain rfl : x9 = iZ ((μ 6324 (k).toNat) + rl) := ex9.trans (iZ_add _ _)
      refine fz_st (k := 6324) (n := 24) (i := k) (z := ((μ 6324 (k).toNat) + rl)) hx hb hK hP fA_in hS 0 (by decide) mE_orderCost rfl ⟨by omega, by omega⟩ (by decide) dX10_goesInOrder_60 (fun H locs hP hS => ?_)
      obtain ⟨μ1, eμ1⟩ : ∃ x : va_M, x = uz μl 6324 (k).toNat ((μ 6324 (k).toNat) + rl) := ⟨_, rfl⟩
      rw [← eμ1] at hP
      have y1 : TR μ1 51 (lrow w pw) := TR_fr z2 (show fr (fun x y => x = 6324 ∧ y = k.toNat) μl μ1 by rw [eμ1]; exact fr_uz fr_rfl ⟨rfl, rfl⟩) (fun x => by omega) (by omega)
      have ec2 : μ1 6324 k.toNat = μ 6324 k.toNat + rl := by rw [eμ1, uz_s]
      have hf2 : fr (OQo k.toNat) μ0 μ1 := by rw [eμ1]; exact fr_uz (fr_trans hf (fr_mono z3 (fun x y h => by unfold LPq at h; unfold OQo; rcases h with h | h; exact Or.inl h; exact Or.inr (Or.inr (Or.inl h))))) (by unfold OQo; omega)
      have eo : ∀ j : Nat, μ1 6323 j = μ 6323 j := fun j => by rw [eμ1, uz_n (by omega)]; exact z3 6323 j (by unfold LPq LD PT; omega)
      refine lv_aload_n hx hb dX10_goesInOrder_61 rfl (lv_at hl 3 rfl) ?_
      refine lv_bipush (v := iZ 51) hx hb dX10_goesInOrder_62 rfl ?_
      refine lv_bipush (v := iZ 50) hx hb dX10_goesInOrder_64 rfl ?_
      refine va_callv (va_runV (As := [.int (iZ (51)), .int (iZ (50))]) (rest := []) ⟨hx, hb, hml, hown, hts⟩ (m_copiesAll l dC dI cI cZ cII cIII h0 H.size μ1 (51) (50) (lrow w pw) (by decide) (by decide) (by decide) (by exact y1) (by exact lsk.1.2.1)) (cwV 2 hts (gV_G k1424 k1426 ks_yX10_copiesAll k13 k1427) rfl rfl rfl (by decide +kernel) ⟨by show 3 + 1 ≤ _; omega, by show 8 + (4 + 11) + (63) ≤ _; omega⟩) ⟨fun a U g mk q => by obtain ⟨q0, q1, qP, qK⟩ := q; exact ⟨q0, q1, qP, va_K.moved (u := U) (U := U.calling g mk a) (Vm.Alike.refl U.vm) qK⟩, va_recv hK hP (ci := 10) (q0 := 0) rfl ((fw_get (by decide)).trans (by rw [mE_obj]; rfl)), fun U hU hW => ⟨rfl, by rw [hU], by rw [hU]; exact hP, va_K.moved hW.alike hK⟩⟩ rfl rfl hl.1 rfl (lv_room (Nat.le_of_ble_eq_true rfl)) dX10_goesInOrder_66 ⟨hRc, hRs⟩) hS (fun q _ h => fA_le hS.1 q h) (fA_le hS.1) (fun u9 t9 H1 locs ht9 hvm9 hw9 hB9 hz9 hk9 hS => ?_)
      obtain ⟨hP, -⟩ := hB9
      rw [ht9] at hP
      generalize H1 = H at hP hS ⊢
      obtain ⟨μk, eμk⟩ : ∃ x : va_M, x = u9 := ⟨_, rfl⟩
      rw [← eμk] at hP hw9
      have hμk := hw9; clear hw9
      obtain ⟨x1, x2⟩ := hμk
      rw [show (50 : Int).toNat = 50 from rfl] at x1 x2
      have ec3 := x2 6324 k.toNat (by unfold PT; omega)
      refine lv_iinc (v := iZ (i + 1)) (lv' := [(3, .int (iZ (i + 1))), (2, .int (iZ (mn))), (1, .int (iZ (k))), (0, .ref h0)]) hx hb dX10_goesInOrder_69 hl (k := 0) rfl (iZ_add _ _) (by decide) rfl (fun ls hl => ?_)
      refine lv_goto (tgt := 30) hx hb dX10_goesInOrder_72 (by decide) ?_
      exact ih (i + 1) μk H locs ls (by omega) (by exact fr_trans hf2 (fr_mono x2 (fun x y h => Or.inr (Or.inl h)))) (by
                    refine ⟨_, ?_, x1⟩
                    rw [show (i + 1 - 1).toNat = i.toNat by omega]
                    exact hord) (by omega) (by intro j hj; rw [x2 6323 j (by unfold PT; omega), eo]; exact ho j hj) (by omega) hP hS (lv_sub hl [0, 1, 2, 3] rfl)
set_option maxHeartbeats 4000000 in
set_option maxRecDepth 100000 in
theorem m_goesInOrder (l : Launch) (dC : Nat → ClassId) (dI : Nat → Nat → Nat) (cI cZ cII cIII : ClassId) (h0 sz : Nat) (μ : va_M) (k : Int) (mn : Int) (J : Rw → Prop) (hmm : 1 ≤ mn ∧ mn ≤ 4) (hk : kOK k mn) (hmn : mn ≤ μ 0 10) (hJK : JOK J) (hQ : RQ μ) : Met l yX10_goesInOrder (Cond.code yX10_goesInOrder cX10_goesInOrder 4 none :: wsG) ({ frames := 69, cells := 0, slots := 0, locals := 2355 } : Room) (va_Pc [.ref h0, .int (iZ (k)), .int (iZ (mn))] (fun U => U.heap.size = sz ∧ va_P (dC, dI) vwCl (fw (mE cI cZ cII cIII h0) h0 6325 μ) U.heap ∧ va_K (dC, dI) vwCl (mT cI cZ cII cIII) U)) (va_Qv (fun (u : va_M) => (∃ w : Rw, ordK (mn - 1).toNat w ∧ TR u (25 + k).toNat w) ∧ fr (OQo k.toNat) μ u ∧ 0 ≤ u 6324 k.toNat ∧ u 6324 k.toNat ≤ 1600) (fun u t => va_P (dC, dI) vwCl (fw (mE cI cZ cII cIII h0) h0 6325 u) t.heap ∧ va_K (dC, dI) vwCl (mT cI cZ cII cIII) t) (fA h0 6325 sz)) 0 0 (fA h0 6325 sz) := by
  refine Met.ofW (cc := cX10_goesInOrder) (maxL := 4) (ret := none) (by decide) rfl ?_
  intro p e s m args below meth c s₁ B hml hv
  obtain ⟨rfl, hsz, hP, hK⟩ := hv
  have hx := B.exec
  have hb := B.bytes
  have hr := B.returns
  have hts : ∀ w ∈ wsG, w.before _ s = true := hG_of (atoms_spec (ws := (Cond.code yX10_goesInOrder cX10_goesInOrder 4 none :: wsG)) B.pre)
  have hown : s.vm.findClass RX10 = some m.cls := findClass_of_methodNamed B.named
  have hlocks := B.notSynchronized
  subst hsz
  have hS : va_S (fA h0 6325 s.heap.size) s.heap s.heap [] := va_S.rf
  have hl := lv_entry ([.ref h0, .int (iZ (k)), .int (iZ (mn))]) (n := 4) (Nat.le_of_ble_eq_true rfl)
  rw [lg_entry_eq]
  generalize (lg_sl ([.ref h0, .int (iZ (k)), .int (iZ (mn))]) ++ List.replicate (4 - (lg_sl ([.ref h0, .int (iZ (k)), .int (iZ (mn))])).length) Slot.unset).toArray = ls at hl ⊢
  have hl : lv_has ls 4 [(0, .ref h0), (1, .int (iZ (k))), (2, .int (iZ (mn)))] := hl
  have hk24 : 0 ≤ k ∧ k < 24 := by obtain ⟨k1, k2, k3, k4, k5⟩ := hk; omega
  refine lv_aload_n hx hb dX10_goesInOrder_0 rfl (lv_at hl 0 rfl) ?_
  refine lv_iload_n hx hb dX10_goesInOrder_1 rfl (lv_at hl 1 rfl) ?_
  refine lv_iload_n hx hb dX10_goesInOrder_2 rfl (lv_at hl 2 rfl) ?_
  refine va_callv (va_runV (As := [.int (iZ (k)), .int (iZ (mn))]) (rest := []) ⟨hx, hb, hml, hown, hts⟩ (m_laysOrder l dC dI cI cZ cII cIII h0 s.heap.size μ (k) (mn) (by first | assumption | omega | exact ⟨by omega, by omega⟩) (by first | assumption | omega | exact ⟨by omega, by omega⟩)) (cwV 2 hts (gV_G k1715 k1717 ks_yX10_laysOrder k13 k1718) rfl rfl rfl (by decide +kernel) ⟨Nat.le_of_ble_eq_true rfl, Nat.le_of_ble_eq_true rfl⟩) ⟨fun a U g mk q => by obtain ⟨q0, q1, qP, qK⟩ := q; exact ⟨q0, q1, qP, va_K.moved (u := U) (U := U.calling g mk a) (Vm.Alike.refl U.vm) qK⟩, va_recv hK hP (ci := 10) (q0 := 0) rfl ((fw_get (by decide)).trans (by rw [mE_obj]; rfl)), fun U hU hW => ⟨rfl, by rw [hU], by rw [hU]; exact hP, va_K.moved hW.alike hK⟩⟩ rfl rfl hl.1 rfl (lv_room (Nat.le_of_ble_eq_true rfl)) dX10_goesInOrder_3 ⟨Nat.le_of_ble_eq_true rfl, Nat.le_of_ble_eq_true rfl⟩) hS (fun q _ h => fA_le hS.1 q h) (fA_le hS.1) (fun u9 t9 H1 locs ht9 hvm9 hw9 hB9 hz9 hk9 hS => ?_)
  obtain ⟨hP, -⟩ := hB9
  rw [ht9] at hP
  generalize H1 = H at hP hS ⊢
  obtain ⟨μo, eμo⟩ : ∃ x : va_M, x = u9 := ⟨_, rfl⟩
  rw [← eμo] at hP hw9
  have hμo := hw9; clear hw9
  obtain ⟨b1_, b2_⟩ := hμo
  have b3_ := b1_ 0 (by omega)
  have hfo : fr (OQo k.toNat) μ μo := fr_mono b2_ (fun x y h => by unfold OQo; omega)
  obtain ⟨p1, p2, p3, pw, pw1, pw2, pw3⟩ := hQ.2.2.2.1 (μo 6323 0).toNat (by omega)
  have pwb := rPage_b pw1
  have pTR : TR μo (17 + μo 6323 0).toNat pw := by rw [show (17 + μo 6323 0).toNat = 17 + (μo 6323 0).toNat by omega]; exact TR_fr pw3 hfo (fun x => ⟨(OQo_n (by omega) (by omega)), (OQo_n (by omega) (by omega)), (OQo_n (by omega) (by omega))⟩) (OQo_n (by omega) (by omega))
  refine lv_aload_n hx hb dX10_goesInOrder_6 rfl (lv_at hl 0 rfl) ?_
  refine lv_bipush (v := iZ 17) hx hb dX10_goesInOrder_7 rfl ?_
  refine lv_aload_n hx hb dX10_goesInOrder_9 rfl (lv_at hl 0 rfl) ?_
  refine fz_get (D := (dC, dI)) (ci := 10) (v := .ref (h0 + 6323)) (C := RX10) (T := TX10) (N := 53) hx hb hts inG10 hown hK hP (k := 0) (by decide) (F := mF h0) mE_obj rfl 51 (by decide) (hts _ k1217) (fun _ h9 => h9) rfl dX10_goesInOrder_10 ?_
  refine lv_iconst (v := iZ 0) hx hb dX10_goesInOrder_13 rfl ?_
  refine fz_ld (k := 6323) (n := 4) hx hb hK hP 0 (by decide) mE_order rfl ⟨by omega, by omega⟩ (by decide) dX10_goesInOrder_14 ?_
  rw [show (0 : Int).toNat = 0 from rfl]
  refine lv_iadd hx hb dX10_goesInOrder_15 ?_
  refine lv_topi (fun x9 ex9 => ?_)
  obtain rfl : x9 = iZ (17 + (μo 6323 0)) := ex9.trans (iZ_add _ _)
  refine lv_bipush (v := iZ 50) hx hb dX10_goesInOrder_16 rfl ?_
  refine va_callv (va_runV (As := [.int (iZ (17 + (μo 6323 0))), .int (iZ (50))]) (rest := []) ⟨hx, hb, hml, hown, hts⟩ (m_copiesAll l dC dI cI cZ cII cIII h0 H.size μo (17 + (μo 6323 0)) (50) (pw) (by omega) (by decide) (by omega) (by exact pTR) (by omega)) (cwV 2 hts (gV_G k1424 k1426 ks_yX10_copiesAll k13 k1427) rfl rfl rfl (by decide +kernel) ⟨Nat.le_of_ble_eq_true rfl, Nat.le_of_ble_eq_true rfl⟩) ⟨fun a U g mk q => by obtain ⟨q0, q1, qP, qK⟩ := q; exact ⟨q0, q1, qP, va_K.moved (u := U) (U := U.calling g mk a) (Vm.Alike.refl U.vm) qK⟩, va_recv hK hP (ci := 10) (q0 := 0) rfl ((fw_get (by decide)).trans (by rw [mE_obj]; rfl)), fun U hU hW => ⟨rfl, by rw [hU], by rw [hU]; exact hP, va_K.moved hW.alike hK⟩⟩ rfl rfl hl.1 rfl (lv_room (Nat.le_of_ble_eq_true rfl)) dX10_goesInOrder_18 ⟨Nat.le_of_ble_eq_true rfl, Nat.le_of_ble_eq_true rfl⟩) hS (fun q _ h => fA_le hS.1 q h) (fA_le hS.1) (fun u9 t9 H1 locs ht9 hvm9 hw9 hB9 hz9 hk9 hS => ?_)
  obtain ⟨hP, -⟩ := hB9
  rw [ht9] at hP
  generalize H1 = H at hP hS ⊢
  obtain ⟨μc, eμc⟩ : ∃ x : va_M, x = u9 := ⟨_, rfl⟩
  rw [← eμc] at hP hw9
  have hμc := hw9; clear hw9
  obtain ⟨c1_, c2_⟩ := hμc
  rw [show (50 : Int).toNat = 50 from rfl] at c1_ c2_
  have hfc : fr (OQo k.toNat) μ μc := fr_trans hfo (fr_mono c2_ (fun x y h => Or.inr (Or.inl h)))
  refine lv_aload_n hx hb dX10_goesInOrder_21 rfl (lv_at hl 0 rfl) ?_
  refine fz_get (D := (dC, dI)) (ci := 10) (v := .ref (h0 + 6324)) (C := RX10) (T := TX10) (N := 53) hx hb hts inG10 hown hK hP (k := 0) (by decide) (F := mF h0) mE_obj rfl 52 (by decide) (hts _ k1218) (fun _ h9 => h9) rfl dX10_goesInOrder_22 ?_
  refine lv_iload_n hx hb dX10_goesInOrder_25 rfl (lv_at hl 1 rfl) ?_
  refine lv_iconst (v := iZ 0) hx hb dX10_goesInOrder_26 rfl ?_
  refine fz_st (k := 6324) (n := 24) (i := k) (z := 0) hx hb hK hP fA_in hS 0 (by decide) mE_orderCost rfl ⟨by omega, by omega⟩ (by decide) dX10_goesInOrder_27 (fun H locs hP hS => ?_)
  obtain ⟨μ2, eμ2⟩ : ∃ x : va_M, x = uz μc 6324 (k).toNat (0) := ⟨_, rfl⟩
  rw [← eμ2] at hP
  refine lv_iconst (v := iZ 1) hx hb dX10_goesInOrder_28 rfl ?_
  refine lv_istore_n (lv' := [(3, .int (iZ (1))), (0, .ref h0), (1, .int (iZ (k))), (2, .int (iZ (mn)))]) hx hb dX10_goesInOrder_29 rfl hl (by decide) rfl (fun ls hl => ?_)
  refine LX10_goesInOrder_30 hx hb hml hown hts hK (Nat.le_of_ble_eq_true rfl) (Nat.le_of_ble_eq_true rfl) (Nat.le_of_ble_eq_true rfl) (Nat.le_of_ble_eq_true rfl) (μ) (k) (mn) (J) (by exact hmm) (by exact hk24) (by exact hmn) (by exact hJK) (by exact hQ) ?_ _ (1) μ2 H locs ls (by omega) (by rw [eμ2]; exact fr_uz hfc (by unfold OQo; omega)) (by exact ⟨pw, ⟨pw1, pw2⟩, TR_fr c1_ (show fr (fun x y => x = 6324) μc μ2 by rw [eμ2]; exact fr_uz fr_rfl rfl) (fun x => by omega) (by omega)⟩) (by rw [eμ2, uz_s]; omega) (by intro j hj; rw [eμ2, uz_n (by omega), c2_ 6323 j (by unfold PT; omega)]; exact b1_ j hj) (Nat.lt_succ_self _) hP hS (lv_sub hl [0, 3, 2, 1] rfl)
  · intro i_3 μ3_ H locs ls q1_3 q2_3 q3_3 hP hS hl
    have hl : lv_has ls 4 [(2, .int (iZ (mn))), (1, .int (iZ (k))), (0, .ref h0)] := hl
    obtain ⟨w, w1, w2⟩ := q2_3
    have wsk := hJK.2.2.2.2 (mn - 1).toNat w (by omega) w1
    have G1_ := q1_3
    have G3_ := q3_3
    refine lv_aload_n hx hb dX10_goesInOrder_75 rfl (lv_at hl 2 rfl) ?_
    refine lv_bipush (v := iZ 50) hx hb dX10_goesInOrder_76 rfl ?_
    refine lv_bipush (v := iZ 25) hx hb dX10_goesInOrder_78 rfl ?_
    refine lv_iload_n hx hb dX10_goesInOrder_80 rfl (lv_at hl 1 rfl) ?_
    refine lv_iadd hx hb dX10_goesInOrder_81 ?_
    refine lv_topi (fun x9 ex9 => ?_)
    obtain rfl : x9 = iZ (25 + k) := ex9.trans (iZ_add _ _)
    refine va_callv (va_runV (As := [.int (iZ (50)), .int (iZ (25 + k))]) (rest := []) ⟨hx, hb, hml, hown, hts⟩ (m_copiesAll l dC dI cI cZ cII cIII h0 H.size μ3_ (50) (25 + k) (w) (by decide) (by omega) (by omega) (by exact w2) (by exact wsk.1.2.1)) (cwV 2 hts (gV_G k1424 k1426 ks_yX10_copiesAll k13 k1427) rfl rfl rfl (by decide +kernel) ⟨Nat.le_of_ble_eq_true rfl, Nat.le_of_ble_eq_true rfl⟩) ⟨fun a U g mk q => by obtain ⟨q0, q1, qP, qK⟩ := q; exact ⟨q0, q1, qP, va_K.moved (u := U) (U := U.calling g mk a) (Vm.Alike.refl U.vm) qK⟩, va_recv hK hP (ci := 10) (q0 := 0) rfl ((fw_get (by decide)).trans (by rw [mE_obj]; rfl)), fun U hU hW => ⟨rfl, by rw [hU], by rw [hU]; exact hP, va_K.moved hW.alike hK⟩⟩ rfl rfl hl.1 rfl (lv_room (Nat.le_of_ble_eq_true rfl)) dX10_goesInOrder_82 ⟨Nat.le_of_ble_eq_true rfl, Nat.le_of_ble_eq_true rfl⟩) hS (fun q _ h => fA_le hS.1 q h) (fA_le hS.1) (fun u9 t9 H1 locs ht9 hvm9 hw9 hB9 hz9 hk9 hS => ?_)
    obtain ⟨hP, -⟩ := hB9
    rw [ht9] at hP
    generalize H1 = H at hP hS ⊢
    obtain ⟨μz, eμz⟩ : ∃ x : va_M, x = u9 := ⟨_, rfl⟩
    rw [← eμz] at hP hw9
    have hμz := hw9; clear hw9
    exact W.vret hx hb hr (fun t9 ht9 hW9 => ⟨⟨μz, rfl, (by
                try dsimp only
                obtain ⟨d1_, d2_⟩ := hμz
                have e9 := d2_ 6324 k.toNat (by unfold PT; omega)
                refine ⟨⟨w, w1, d1_⟩, fr_trans G1_ (fr_mono d2_ (fun x y h => ?_)), by omega, by omega⟩
                rw [show (25 + k).toNat = 25 + k.toNat by omega] at h
                exact Or.inr (Or.inr (Or.inr (Or.inl h)))), by rw [ht9]; exact hP, va_K.moved hW9.alike hK⟩, hS.F ht9⟩) hS.2.2 dX10_goesInOrder_85

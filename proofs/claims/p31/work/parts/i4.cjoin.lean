
/-! the tidier joins: told whole -/
set_option maxHeartbeats 4000000 in
set_option maxRecDepth 100000 in
theorem s_Tjoin2 (l : Launch) (dC : Nat → ClassId) (dI : Nat → Nat → Nat) (cI cZ cII cIII : ClassId) (h0 sz : Nat) (μ : va_M) (q : Nat) (rm : Nat) (p1 : Int) (p2 : Int) (n : Int) (hq : rowB q rm) (hG : rG μ q rm) (h7 : μ q 7 = 0) (hj : jok μ q p1 p2 n) : Met l yX6_join (Cond.code yX6_join cX6_join 5 (some .boolean) :: wsG) ({ frames := 3, cells := 0, slots := 0, locals := 70 } : Room) (va_Pc [.ref (h0 + 38), .ref (h0 + q), .int (iZ (p1)), .int (iZ (p2)), .int (iZ (n))] (fun U => U.heap.size = sz ∧ va_P (dC, dI) vwCl (fw (sE cI cZ cII cIII h0) h0 233 μ) U.heap ∧ va_K (dC, dI) vwCl (sT cI cZ cII cIII) U ∧ xM U)) (va_Qi (fun (r9 : Int32) (u : va_M × Int) => r9 = iZ u.2 ∧ (fun (u : va_M) (r : Int) => r = 1 ∧ rG u q rm ∧ fr (LEq q) μ u ∧ u q 5 = μ q 5 - n ∧ dRm (μ (q + 1)) (u (q + 1)) p2 n (μ q 5 - n) ∧ u q 7 = 0 ∧ (∀ j : Nat, (j : Int) < p2 → u (q + 1) j = jF (μ (q + 1)) p1.toNat p2.toNat n.toNat j) ∧ ∀ j : Nat, p2 ≤ j → j < μ q 5 - n → u (q + 1) j = jF (μ (q + 1)) p1.toNat p2.toNat n.toNat (j + n.toNat)) u.1 u.2) (fun u t => va_P (dC, dI) vwCl (fw (sE cI cZ cII cIII h0) h0 233 u.1) t.heap ∧ va_K (dC, dI) vwCl (sT cI cZ cII cIII) t) (fA h0 233 sz)) 0 0 (fA h0 233 sz) := by
  refine Met.ofW (cc := cX6_join) (maxL := 5) (ret := (some .boolean)) (by decide) rfl ?_
  intro p e s m args below meth c s₁ B hml hv
  obtain ⟨rfl, hsz, hP, hK, hM⟩ := hv
  have hx := B.exec
  have hb := B.bytes
  have hr := B.returns
  have hts : ∀ w ∈ wsG, w.before _ s = true := hG_of (atoms_spec (ws := (Cond.code yX6_join cX6_join 5 (some .boolean) :: wsG)) B.pre)
  have hown : s.vm.findClass RX6 = some m.cls := findClass_of_methodNamed B.named
  have hlocks := B.notSynchronized
  subst hsz
  have hS : va_S (fA h0 233 s.heap.size) s.heap s.heap [] := va_S.rf
  have hl := lv_entry ([.ref (h0 + 38), .ref (h0 + q), .int (iZ (p1)), .int (iZ (p2)), .int (iZ (n))]) (n := 5) (Nat.le_of_ble_eq_true rfl)
  rw [lg_entry_eq]
  generalize (lg_sl ([.ref (h0 + 38), .ref (h0 + q), .int (iZ (p1)), .int (iZ (p2)), .int (iZ (n))]) ++ List.replicate (5 - (lg_sl ([.ref (h0 + 38), .ref (h0 + q), .int (iZ (p1)), .int (iZ (p2)), .int (iZ (n))])).length) Slot.unset).toArray = ls at hl ⊢
  have hl : lv_has ls 5 [(0, .ref (h0 + 38)), (1, .ref (h0 + q)), (2, .int (iZ (p1))), (3, .int (iZ (p2))), (4, .int (iZ (n)))] := hl
  have hqb := rowB_b hq
  obtain ⟨hj1, hj2, hj3⟩ := hj
  have hrm := rG_rm hq hG
  refine lv_aload_n hx hb dX6_join_0 rfl (lv_at hl 1 rfl) ?_
  refine lv_iload_n hx hb dX6_join_1 rfl (lv_at hl 2 rfl) ?_
  refine lv_iload_n hx hb dX6_join_2 rfl (lv_at hl 3 rfl) ?_
  refine lv_iload hx hb dX6_join_3 (lv_at hl 4 rfl) ?_
  refine va_callv (va_runV (As := [.int (iZ (p1)), .int (iZ (p2)), .int (iZ (n))]) (rest := []) ⟨hx, hb, hml, hown, hts⟩ (s_RfuseInto l dC dI cI cZ cII cIII h0 s.heap.size μ (q) (rm) (p1) (p2) (n) (hq) (by exact hG.1) (by first | assumption | omega | exact ⟨by omega, by omega⟩) (by first | assumption | omega | exact ⟨by omega, by omega⟩) (by first | assumption | omega | exact ⟨by omega, by omega⟩) (by first | assumption | omega | exact ⟨by omega, by omega⟩)) (cwV 3 hts (gV_G k452 k453 k454 k3 k455) rfl rfl rfl (by decide +kernel) ⟨Nat.le_of_ble_eq_true rfl, Nat.le_of_ble_eq_true rfl⟩) ⟨fun a U g mk q => by obtain ⟨q0, q1, qP, qK, qM⟩ := q; exact ⟨q0, q1, qP, va_K.moved (u := U) (U := U.calling g mk a) (Vm.Alike.refl U.vm) qK, qM⟩, va_recv hK hP (ci := 4) (q0 := q) rfl ((fw_get (by omega)).trans (by rw [(sE_rowO hq)])), fun U hU hW => ⟨rfl, by rw [hU], by rw [hU]; exact hP, va_K.moved hW.alike hK, xM_warm hW hM⟩⟩ rfl rfl hl.1 rfl (lv_room (Nat.le_of_ble_eq_true rfl)) dX6_join_5 ⟨Nat.le_of_ble_eq_true rfl, Nat.le_of_ble_eq_true rfl⟩) hS (fun q _ h => fA_le hS.1 q h) (fA_le hS.1) (fun u9 t9 H1 locs ht9 hvm9 hw9 hB9 hz9 hk9 hS => ?_)
  obtain ⟨hP, -⟩ := hB9
  rw [ht9] at hP
  generalize H1 = H at hP hS ⊢
  obtain ⟨μ1, eμ1⟩ : ∃ x : va_M, x = u9 := ⟨_, rfl⟩
  rw [← eμ1] at hP hw9
  have hμ1 := hw9; clear hw9
  obtain ⟨f1_, v1_⟩ := hμ1
  have e15 : μ1 q 5 = μ q 5 := f1_ _ _ (by omega)
  refine lv_aload_n hx hb dX6_join_8 rfl (lv_at hl 1 rfl) ?_
  refine lv_iload_n hx hb dX6_join_9 rfl (lv_at hl 3 rfl) ?_
  refine lv_iload_n hx hb dX6_join_10 rfl (lv_at hl 3 rfl) ?_
  refine lv_iload hx hb dX6_join_11 (lv_at hl 4 rfl) ?_
  refine lv_iadd hx hb dX6_join_13 ?_
  refine lv_topi (fun x9 ex9 => ?_)
  obtain rfl : x9 = iZ (p2 + n) := ex9.trans (iZ_add _ _)
  refine va_callv (va_runV (As := [.int (iZ (p2)), .int (iZ (p2 + n))]) (rest := []) ⟨hx, hb, hml, hown, hts⟩ (s_Rremove l dC dI cI cZ cII cIII h0 H.size μ1 (q) (rm) (p2) (p2 + n) (hq) (by first | assumption | omega | exact ⟨by omega, by omega⟩) (by first | assumption | omega | exact ⟨by omega, by omega⟩)) (cwV 2 hts (gV_G k459 k460 k461 k3 k462) rfl rfl rfl (by decide +kernel) ⟨Nat.le_of_ble_eq_true rfl, Nat.le_of_ble_eq_true rfl⟩) ⟨fun a U g mk q => by obtain ⟨q0, q1, qP, qK, qM⟩ := q; exact ⟨q0, q1, qP, va_K.moved (u := U) (U := U.calling g mk a) (Vm.Alike.refl U.vm) qK, qM⟩, va_recv hK hP (ci := 4) (q0 := q) rfl ((fw_get (by omega)).trans (by rw [(sE_rowO hq)])), fun U hU hW => ⟨rfl, by rw [hU], by rw [hU]; exact hP, va_K.moved hW.alike hK, xM_warm hW hM⟩⟩ rfl rfl hl.1 rfl (lv_room (Nat.le_of_ble_eq_true rfl)) dX6_join_14 ⟨Nat.le_of_ble_eq_true rfl, Nat.le_of_ble_eq_true rfl⟩) hS (fun q _ h => fA_le hS.1 q h) (fA_le hS.1) (fun u9 t9 H1 locs ht9 hvm9 hw9 hB9 hz9 hk9 hS => ?_)
  obtain ⟨hP, -⟩ := hB9
  rw [ht9] at hP
  generalize H1 = H at hP hS ⊢
  obtain ⟨μ2, eμ2⟩ : ∃ x : va_M, x = u9 := ⟨_, rfl⟩
  rw [← eμ2] at hP hw9
  have hμ2 := hw9; clear hw9
  have LN_ := join_ln (p1 := p1) (p2 := p2) (n := n) ⟨hj1.1, hj1.2.1, hj1.2.2.1⟩ f1_ v1_ hμ2
  obtain ⟨⟨w, w1_, w2_, w3_⟩, s2_, m2_, f2_, l2_, D_⟩ := join_mem hG h7 ⟨hj1, hj2, hj3⟩ f1_ v1_ hμ2
  refine lv_aload_n hx hb dX6_join_17 rfl (lv_at hl 1 rfl) ?_
  refine va_callv (va_runV (As := []) (rest := []) ⟨hx, hb, hml, hown, hts⟩ (s_Rseal l dC dI cI cZ cII cIII h0 H.size μ2 (q) (rm) (w) (hq) (by omega) (by exact ⟨w1_, Or.inl w3_⟩)) (cwV 0 hts (gV_G k466 k415 k416 k3 k417) rfl rfl rfl (by decide +kernel) ⟨Nat.le_of_ble_eq_true rfl, Nat.le_of_ble_eq_true rfl⟩) ⟨fun a U g mk q => by obtain ⟨q0, q1, qP, qK, qM⟩ := q; exact ⟨q0, q1, qP, va_K.moved (u := U) (U := U.calling g mk a) (Vm.Alike.refl U.vm) qK, qM⟩, va_recv hK hP (ci := 4) (q0 := q) rfl ((fw_get (by omega)).trans (by rw [(sE_rowO hq)])), fun U hU hW => ⟨rfl, by rw [hU], by rw [hU]; exact hP, va_K.moved hW.alike hK, xM_warm hW hM⟩⟩ rfl rfl hl.1 rfl (lv_room (Nat.le_of_ble_eq_true rfl)) dX6_join_18 ⟨Nat.le_of_ble_eq_true rfl, Nat.le_of_ble_eq_true rfl⟩) hS (fun q _ h => fA_le hS.1 q h) (fA_le hS.1) (fun u9 t9 H1 locs ht9 hvm9 hw9 hB9 hz9 hk9 hS => ?_)
  obtain ⟨hP, -⟩ := hB9
  rw [ht9] at hP
  generalize H1 = H at hP hS ⊢
  obtain ⟨μ3, eμ3⟩ : ∃ x : va_M, x = u9 := ⟨_, rfl⟩
  rw [← eμ3] at hP hw9
  have hμ3 := hw9; clear hw9
  obtain ⟨r3_, f3_⟩ := hμ3
  refine lv_iconst (v := iZ 1) hx hb dX6_join_21 rfl ?_
  exact W.zret (v := iZ (1)) hx hb hr (by decide +kernel) (fun t9 ht9 hW9 => ⟨⟨iZ (1), (μ3, 1), rfl, ⟨rfl, (by
            dsimp only
            have e1 : ∀ y, μ3 (q + 1) y = μ2 (q + 1) y := fun y => f3_ _ _ (by unfold SEw SEq; omega)
            have e7 : μ3 q 7 = μ2 q 7 := f3_ _ _ (by unfold SEw SEq; omega)
            refine ⟨rfl, rG_seal w1_ w2_ (Or.inl w3_) s2_ m2_ r3_ f3_, fr_trans (fr_mono f2_ (fun x y h => by unfold LEq; omega)) (fr_mono f3_ (fun x y h => by unfold SEw SEq at h; unfold LEq; omega)), ?_, ?_, by rw [e7]; exact w3_.1, fun j hj => ?_, fun j h8 h9 => ?_⟩
            · have := r3_.1.1; omega
            · rw [funext e1]; exact D_
            · rw [e1]; exact LN_.1 j (by omega)
            · rw [e1]; exact LN_.2 j (by omega) (by omega))⟩, by rw [ht9]; exact hP, va_K.moved hW9.alike hK⟩, hS.F ht9⟩) hS.2.2 dX6_join_22

set_option maxRecDepth 100000 in
theorem k1176 : (Cond.fieldLink "PageSkeletonModel" (181 : Nat) "PageSkeletonModel" "pages" "I") ∈ wsG := wsG_a5 216 rfl rfl
set_option maxRecDepth 100000 in
theorem k1339 : (Cond.methodLink "PageSkeletonModel" (173 : Nat) ({ cls := "PageSkeletonModel", name := "in", desc := "(III)Z" } : MethodName)) ∈ wsG := wsG_a6 139 rfl rfl
set_option maxRecDepth 100000 in
theorem k1340 : (Cond.static ({ cls := "PageSkeletonModel", name := "in", desc := "(III)Z" } : MethodName)) ∈ wsG := wsG_a6 140 rfl rfl
set_option maxRecDepth 100000 in
theorem k1341 : (Cond.code ({ cls := "PageSkeletonModel", name := "in", desc := "(III)Z" } : MethodName) prog_12_method_4_code (3 : Nat) (Option.some FieldType.boolean)) ∈ wsG := wsG_a6 141 rfl rfl
set_option maxRecDepth 100000 in
theorem k1531 : (Cond.constant "PageSkeletonModel" (370 : Nat) (1000000000 : Int32)) ∈ wsG := wsG_a7 91 rfl rfl
set_option maxRecDepth 100000 in
theorem k1532 : (Cond.methodLink "PageSkeletonModel" (271 : Nat) ({ cls := "PageSkeletonModel", name := "less", desc := "(II)I" } : MethodName)) ∈ wsG := wsG_a7 92 rfl rfl
set_option maxRecDepth 100000 in
theorem k1533 : (Cond.static ({ cls := "PageSkeletonModel", name := "less", desc := "(II)I" } : MethodName)) ∈ wsG := wsG_a7 93 rfl rfl
set_option maxRecDepth 100000 in
theorem k1534 : (Cond.code ({ cls := "PageSkeletonModel", name := "less", desc := "(II)I" } : MethodName) prog_12_method_5_code (2 : Nat) (Option.some FieldType.int)) ∈ wsG := wsG_a7 94 rfl rfl
theorem dX10_fault_0 : decode cX10_fault 0 = .ok (.aload_n 0, 1) := by decide +kernel
theorem dX10_fault_1 : decode cX10_fault 1 = .ok (.iconst 0, 1) := by decide +kernel
theorem dX10_fault_2 : decode cX10_fault 2 = .ok (.putfield 127, 3) := by decide +kernel
theorem dX10_fault_5 : decode cX10_fault 5 = .ok (.aload_n 0, 1) := by decide +kernel
theorem dX10_fault_6 : decode cX10_fault 6 = .ok (.getfield 13, 3) := by decide +kernel
theorem dX10_fault_9 : decode cX10_fault 9 = .ok (.ireturn, 1) := by decide +kernel
theorem dX10_isNode_0 : decode cX10_isNode 0 = .ok (.iload_n 1, 1) := by decide +kernel
theorem dX10_isNode_1 : decode cX10_isNode 1 = .ok (.iconst 0, 1) := by decide +kernel
theorem dX10_isNode_2 : decode cX10_isNode 2 = .ok (.aload_n 0, 1) := by decide +kernel
theorem dX10_isNode_3 : decode cX10_isNode 3 = .ok (.getfield 54, 3) := by decide +kernel
theorem dX10_isNode_6 : decode cX10_isNode 6 = .ok (.iconst 0, 1) := by decide +kernel
theorem dX10_isNode_7 : decode cX10_isNode 7 = .ok (.iaload, 1) := by decide +kernel
theorem dX10_isNode_8 : decode cX10_isNode 8 = .ok (.iconst 1, 1) := by decide +kernel
theorem dX10_isNode_9 : decode cX10_isNode 9 = .ok (.isub, 1) := by decide +kernel
theorem dX10_isNode_10 : decode cX10_isNode 10 = .ok (.invokestatic 173, 3) := by decide +kernel
theorem dX10_isNode_13 : decode cX10_isNode 13 = .ok (.ireturn, 1) := by decide +kernel
theorem dX10_isPage_0 : decode cX10_isPage 0 = .ok (.iload_n 1, 1) := by decide +kernel
theorem dX10_isPage_1 : decode cX10_isPage 1 = .ok (.iconst 0, 1) := by decide +kernel
theorem dX10_isPage_2 : decode cX10_isPage 2 = .ok (.aload_n 0, 1) := by decide +kernel
theorem dX10_isPage_3 : decode cX10_isPage 3 = .ok (.getfield 181, 3) := by decide +kernel
theorem dX10_isPage_6 : decode cX10_isPage 6 = .ok (.iconst 1, 1) := by decide +kernel
theorem dX10_isPage_7 : decode cX10_isPage 7 = .ok (.isub, 1) := by decide +kernel
theorem dX10_isPage_8 : decode cX10_isPage 8 = .ok (.invokestatic 173, 3) := by decide +kernel
theorem dX10_isPage_11 : decode cX10_isPage 11 = .ok (.ireturn, 1) := by decide +kernel
theorem dX10_isRepeat_0 : decode cX10_isRepeat 0 = .ok (.aload_n 0, 1) := by decide +kernel
theorem dX10_isRepeat_1 : decode cX10_isRepeat 1 = .ok (.getfield 45, 3) := by decide +kernel
theorem dX10_isRepeat_4 : decode cX10_isRepeat 4 = .ok (.iload_n 1, 1) := by decide +kernel
theorem dX10_isRepeat_5 : decode cX10_isRepeat 5 = .ok (.aaload, 1) := by decide +kernel
theorem dX10_isRepeat_6 : decode cX10_isRepeat 6 = .ok (.iload_n 2, 1) := by decide +kernel
theorem dX10_isRepeat_7 : decode cX10_isRepeat 7 = .ok (.iaload, 1) := by decide +kernel
theorem dX10_isRepeat_8 : decode cX10_isRepeat 8 = .ok (.iconst 4, 1) := by decide +kernel
theorem dX10_isRepeat_9 : decode cX10_isRepeat 9 = .ok (.if_icmp .ne 7, 3) := by decide +kernel
theorem dX10_isRepeat_12 : decode cX10_isRepeat 12 = .ok (.iconst 1, 1) := by decide +kernel
theorem dX10_isRepeat_13 : decode cX10_isRepeat 13 = .ok (.goto 4, 3) := by decide +kernel
theorem dX10_isRepeat_16 : decode cX10_isRepeat 16 = .ok (.iconst 0, 1) := by decide +kernel
theorem dX10_isRepeat_17 : decode cX10_isRepeat 17 = .ok (.ireturn, 1) := by decide +kernel
theorem dX10_status_0 : decode cX10_status 0 = .ok (.aload_n 0, 1) := by decide +kernel
theorem dX10_status_1 : decode cX10_status 1 = .ok (.iconst 0, 1) := by decide +kernel
theorem dX10_status_2 : decode cX10_status 2 = .ok (.putfield 127, 3) := by decide +kernel
theorem dX10_status_5 : decode cX10_status 5 = .ok (.iload_n 1, 1) := by decide +kernel
theorem dX10_status_6 : decode cX10_status 6 = .ok (.iconst 0, 1) := by decide +kernel
theorem dX10_status_7 : decode cX10_status 7 = .ok (.iconst 2, 1) := by decide +kernel
theorem dX10_status_8 : decode cX10_status 8 = .ok (.invokestatic 173, 3) := by decide +kernel
theorem dX10_status_11 : decode cX10_status 11 = .ok (.ifCond .eq 12, 3) := by decide +kernel
theorem dX10_status_14 : decode cX10_status 14 = .ok (.aload_n 0, 1) := by decide +kernel
theorem dX10_status_15 : decode cX10_status 15 = .ok (.getfield 7, 3) := by decide +kernel
theorem dX10_status_18 : decode cX10_status 18 = .ok (.iload_n 1, 1) := by decide +kernel
theorem dX10_status_19 : decode cX10_status 19 = .ok (.iaload, 1) := by decide +kernel
theorem dX10_status_20 : decode cX10_status 20 = .ok (.goto 4, 3) := by decide +kernel
theorem dX10_status_23 : decode cX10_status 23 = .ok (.iconst (-1), 1) := by decide +kernel
theorem dX10_status_24 : decode cX10_status 24 = .ok (.ireturn, 1) := by decide +kernel
theorem dX10_sum_0 : decode cX10_sum 0 = .ok (.ldc_w 370, 3) := by decide +kernel
theorem dX10_sum_3 : decode cX10_sum 3 = .ok (.iload_n 0, 1) := by decide +kernel
theorem dX10_sum_4 : decode cX10_sum 4 = .ok (.iload_n 1, 1) := by decide +kernel
theorem dX10_sum_5 : decode cX10_sum 5 = .ok (.iadd, 1) := by decide +kernel
theorem dX10_sum_6 : decode cX10_sum 6 = .ok (.invokestatic 271, 3) := by decide +kernel
theorem dX10_sum_9 : decode cX10_sum 9 = .ok (.ireturn, 1) := by decide +kernel
set_option maxHeartbeats 4000000 in
set_option maxRecDepth 100000 in
theorem m_fault (l : Launch) (dC : Nat → ClassId) (dI : Nat → Nat → Nat) (cI cZ cII cIII : ClassId) (h0 sz : Nat) (μ : va_M)   : Met l yX10_fault (Cond.code yX10_fault cX10_fault 1 (some .int) :: wsG) ({ frames := 1, cells := 0, slots := 0, locals := 14 } : Room) (va_Pc [.ref h0] (fun U => U.heap.size = sz ∧ va_P (dC, dI) vwCl (fw (mE cI cZ cII cIII h0) h0 6325 μ) U.heap ∧ va_K (dC, dI) vwCl (mT cI cZ cII cIII) U)) (va_Qi (fun (r9 : Int32) (u : va_M × Int) => r9 = iZ u.2 ∧ (fun (u : va_M) (r : Int) => u = uz μ 0 0 0 ∧ r = μ 0 5) u.1 u.2) (fun u t => va_P (dC, dI) vwCl (fw (mE cI cZ cII cIII h0) h0 6325 u.1) t.heap ∧ va_K (dC, dI) vwCl (mT cI cZ cII cIII) t) (fA h0 6325 sz)) 0 0 (fA h0 6325 sz) := by
  refine Met.ofW (cc := cX10_fault) (maxL := 1) (ret := (some .int)) (by decide) rfl ?_
  intro p e s m args below meth c s₁ B hml hv
  obtain ⟨rfl, hsz, hP, hK⟩ := hv
  have hx := B.exec
  have hb := B.bytes
  have hr := B.returns
  have hts : ∀ w ∈ wsG, w.before _ s = true := hG_of (atoms_spec (ws := (Cond.code yX10_fault cX10_fault 1 (some .int) :: wsG)) B.pre)
  have hown : s.vm.findClass RX10 = some m.cls := findClass_of_methodNamed B.named
  have hlocks := B.notSynchronized
  subst hsz
  have hS : va_S (fA h0 6325 s.heap.size) s.heap s.heap [] := va_S.rf
  have hl := lv_entry ([.ref h0]) (n := 1) (Nat.le_of_ble_eq_true rfl)
  rw [lg_entry_eq]
  generalize (lg_sl ([.ref h0]) ++ List.replicate (1 - (lg_sl ([.ref h0])).length) Slot.unset).toArray = ls at hl ⊢
  have hl : lv_has ls 1 [(0, .ref h0)] := hl
  refine lv_aload_n hx hb dX10_fault_0 rfl (lv_at hl 0 rfl) ?_
  refine lv_iconst (v := iZ 0) hx hb dX10_fault_1 rfl ?_
  refine fz_put (D := (dC, dI)) (ci := 10) (ty := .int) (z := 0) (C := RX10) (T := TX10) (N := 53) hx hb hts inG10 tyX10 tyX10_ok nmX10 hown hK hP fA_in hS (k := 0) (by decide) (F := mF h0) mE_obj rfl 0 (by decide) (hts _ k1166) (fun _ h9 => h9) rfl (by decide +kernel) rfl rfl (fun _ => Nat.le_of_ble_eq_true rfl) (fun _ _ => rfl) dX10_fault_2 (fun H locs hP hS => ?_)
  obtain ⟨μ1, eμ1⟩ : ∃ x : va_M, x = uz μ 0 0 (0) := ⟨_, rfl⟩
  rw [← eμ1] at hP
  refine lv_aload_n hx hb dX10_fault_5 rfl (lv_at hl 0 rfl) ?_
  refine fz_get (D := (dC, dI)) (ci := 10) (v := .int (iZ (μ1 0 5))) (C := RX10) (T := TX10) (N := 53) hx hb hts inG10 hown hK hP (k := 0) (by decide) (F := mF h0) mE_obj rfl 5 (by decide) (hts _ k1171) (fun _ h9 => h9) rfl dX10_fault_6 ?_
  rw [show μ1 0 5 = μ 0 5 from by rw [eμ1, uz_n (by (first | ((try clear x); (try clear eμ1); (try clear μ1); (try clear hsz); (try clear s₁); omega) | omega))]]
  exact W.iret (v := iZ (μ 0 5)) hx hb hr (fun t9 ht9 hW9 => ⟨⟨iZ (μ 0 5), (μ1, μ 0 5), rfl, ⟨rfl, (by
            dsimp only
            subst eμ1; exact ⟨rfl, rfl⟩)⟩, by rw [ht9]; exact hP, va_K.moved hW9.alike hK⟩, hS.F ht9⟩) hS.2.2 dX10_fault_9
set_option maxHeartbeats 4000000 in
set_option maxRecDepth 100000 in
theorem m_isPage (l : Launch) (dC : Nat → ClassId) (dI : Nat → Nat → Nat) (cI cZ cII cIII : ClassId) (h0 sz : Nat) (μ : va_M) (p1 : Int) (hp : inR p1) (h10 : 0 ≤ μ 0 10 ∧ μ 0 10 ≤ 8) : Met l yX10_isPage (Cond.code yX10_isPage cX10_isPage 2 (some .boolean) :: wsG) ({ frames := 2, cells := 0, slots := 0, locals := 36 } : Room) (va_Pc [.ref h0, .int (iZ (p1))] (fun U => U.heap.size = sz ∧ va_P (dC, dI) vwCl (fw (mE cI cZ cII cIII h0) h0 6325 μ) U.heap ∧ va_K (dC, dI) vwCl (mT cI cZ cII cIII) U)) (va_Qi (fun (r9 : Int32) (u : va_M × Int) => r9 = iZ u.2 ∧ (fun (u : va_M) (r : Int) => u = μ ∧ r = if 0 ≤ p1 ∧ p1 ≤ μ 0 10 - 1 then 1 else 0) u.1 u.2) (fun u t => va_P (dC, dI) vwCl (fw (mE cI cZ cII cIII h0) h0 6325 u.1) t.heap ∧ va_K (dC, dI) vwCl (mT cI cZ cII cIII) t) (fA h0 6325 sz)) 0 0 (fA h0 6325 sz) := by
  refine Met.ofW (cc := cX10_isPage) (maxL := 2) (ret := (some .boolean)) (by decide) rfl ?_
  intro p e s m args below meth c s₁ B hml hv
  obtain ⟨rfl, hsz, hP, hK⟩ := hv
  have hx := B.exec
  have hb := B.bytes
  have hr := B.returns
  have hts : ∀ w ∈ wsG, w.before _ s = true := hG_of (atoms_spec (ws := (Cond.code yX10_isPage cX10_isPage 2 (some .boolean) :: wsG)) B.pre)
  have hown : s.vm.findClass RX10 = some m.cls := findClass_of_methodNamed B.named
  have hlocks := B.notSynchronized
  subst hsz
  have hS : va_S (fA h0 6325 s.heap.size) s.heap s.heap [] := va_S.rf
  have hl := lv_entry ([.ref h0, .int (iZ (p1))]) (n := 2) (Nat.le_of_ble_eq_true rfl)
  rw [lg_entry_eq]
  generalize (lg_sl ([.ref h0, .int (iZ (p1))]) ++ List.replicate (2 - (lg_sl ([.ref h0, .int (iZ (p1))])).length) Slot.unset).toArray = ls at hl ⊢
  have hl : lv_has ls 2 [(0, .ref h0), (1, .int (iZ (p1)))] := hl
  refine lv_iload_n hx hb dX10_isPage_0 rfl (lv_at hl 1 rfl) ?_
  refine lv_iconst (v := iZ 0) hx hb dX10_isPage_1 rfl ?_
  refine lv_aload_n hx hb dX10_isPage_2 rfl (lv_at hl 0 rfl) ?_
  refine fz_get (D := (dC, dI)) (ci := 10) (v := .int (iZ (μ 0 10))) (C := RX10) (T := TX10) (N := 53) hx hb hts inG10 hown hK hP (k := 0) (by decide) (F := mF h0) mE_obj rfl 10 (by decide) (hts _ k1176) (fun _ h9 => h9) rfl dX10_isPage_3 ?_
  refine lv_iconst (v := iZ 1) hx hb dX10_isPage_6 rfl ?_
  refine lv_isub hx hb dX10_isPage_7 ?_
  refine lv_topi (fun x9 ex9 => ?_)
  obtain rfl : x9 = iZ ((μ 0 10) - 1) := ex9.trans (iZ_sub _ _)
  refine va_calli (va_runS (As := [.int (iZ (p1)), .int (iZ (0)), .int (iZ ((μ 0 10) - 1))]) (rest := []) ⟨hx, hb, hml, hown, hts⟩ (m_in l dC dI cI cZ cII cIII h0 s.heap.size μ (p1) (0) ((μ 0 10) - 1) (by first | assumption | omega | exact ⟨by omega, by omega⟩) (by first | assumption | (first | ((try clear ex9); (try clear hsz); (try clear s₁); (try clear h10); omega) | omega) | exact ⟨by omega, by omega⟩) (by first | assumption | (first | ((try clear ex9); (try clear hsz); (try clear s₁); omega) | omega) | exact ⟨by omega, by omega⟩)) (cwS 3 hts (gS_G k1339 k1340 k13 k1341) rfl rfl rfl (by decide +kernel) ⟨Nat.le_of_ble_eq_true rfl, Nat.le_of_ble_eq_true rfl⟩) ⟨fun a U g mk q => by obtain ⟨q0, q1, qP, qK⟩ := q; exact ⟨q0, q1, qP, va_K.moved (u := U) (U := U.calling g mk a) (Vm.Alike.refl U.vm) qK⟩, fun U hU hW => ⟨rfl, by rw [hU], by rw [hU]; exact hP, va_K.moved hW.alike hK⟩⟩ rfl rfl hl.1 rfl (lv_room (Nat.le_of_ble_eq_true rfl)) dX10_isPage_8 ⟨Nat.le_of_ble_eq_true rfl, Nat.le_of_ble_eq_true rfl⟩) hS (fun q _ h => fA_le hS.1 q h) (fA_le hS.1) (fun r9 u9 t9 H1 locs ht9 hvm9 hw9 hB9 hz9 hk9 hS => ?_)
  obtain ⟨μ1, r2⟩ := u9
  obtain ⟨hP, -⟩ := hB9
  rw [ht9] at hP
  generalize H1 = H at hP hS ⊢
  obtain ⟨e9, hw9⟩ := hw9
  have e9 : r9 = iZ r2 := e9
  subst e9
  simp only at hP hw9
  have hμ1 := hw9; clear hw9
  rw [hμ1.1] at hP; have hμ1 := hμ1.2
  exact W.zret (v := iZ (r2)) hx hb hr (by exact fz_narZ (by split at hμ1 <;> (first | ((try clear hz9); (try clear ex9); (try clear hsz); (try clear s₁); (try clear h10); omega) | omega))) (fun t9 ht9 hW9 => ⟨⟨iZ (r2), (μ, r2), rfl, ⟨rfl, (by
            dsimp only
            exact ⟨rfl, hμ1⟩)⟩, by rw [ht9]; exact hP, va_K.moved hW9.alike hK⟩, hS.F ht9⟩) hS.2.2 dX10_isPage_11
set_option maxHeartbeats 4000000 in
set_option maxRecDepth 100000 in
theorem m_isNode (l : Launch) (dC : Nat → ClassId) (dI : Nat → Nat → Nat) (cI cZ cII cIII : ClassId) (h0 sz : Nat) (μ : va_M) (i : Int) (hp : inR i) (h10 : 0 ≤ μ 719 0 ∧ μ 719 0 ≤ 900) : Met l yX10_isNode (Cond.code yX10_isNode cX10_isNode 2 (some .boolean) :: wsG) ({ frames := 2, cells := 0, slots := 0, locals := 36 } : Room) (va_Pc [.ref h0, .int (iZ (i))] (fun U => U.heap.size = sz ∧ va_P (dC, dI) vwCl (fw (mE cI cZ cII cIII h0) h0 6325 μ) U.heap ∧ va_K (dC, dI) vwCl (mT cI cZ cII cIII) U)) (va_Qi (fun (r9 : Int32) (u : va_M × Int) => r9 = iZ u.2 ∧ (fun (u : va_M) (r : Int) => u = μ ∧ r = if 0 ≤ i ∧ i ≤ μ 719 0 - 1 then 1 else 0) u.1 u.2) (fun u t => va_P (dC, dI) vwCl (fw (mE cI cZ cII cIII h0) h0 6325 u.1) t.heap ∧ va_K (dC, dI) vwCl (mT cI cZ cII cIII) t) (fA h0 6325 sz)) 0 0 (fA h0 6325 sz) := by
  refine Met.ofW (cc := cX10_isNode) (maxL := 2) (ret := (some .boolean)) (by decide) rfl ?_
  intro p e s m args below meth c s₁ B hml hv
  obtain ⟨rfl, hsz, hP, hK⟩ := hv
  have hx := B.exec
  have hb := B.bytes
  have hr := B.returns
  have hts : ∀ w ∈ wsG, w.before _ s = true := hG_of (atoms_spec (ws := (Cond.code yX10_isNode cX10_isNode 2 (some .boolean) :: wsG)) B.pre)
  have hown : s.vm.findClass RX10 = some m.cls := findClass_of_methodNamed B.named
  have hlocks := B.notSynchronized
  subst hsz
  have hS : va_S (fA h0 6325 s.heap.size) s.heap s.heap [] := va_S.rf
  have hl := lv_entry ([.ref h0, .int (iZ (i))]) (n := 2) (Nat.le_of_ble_eq_true rfl)
  rw [lg_entry_eq]
  generalize (lg_sl ([.ref h0, .int (iZ (i))]) ++ List.replicate (2 - (lg_sl ([.ref h0, .int (iZ (i))])).length) Slot.unset).toArray = ls at hl ⊢
  have hl : lv_has ls 2 [(0, .ref h0), (1, .int (iZ (i)))] := hl
  refine lv_iload_n hx hb dX10_isNode_0 rfl (lv_at hl 1 rfl) ?_
  refine lv_iconst (v := iZ 0) hx hb dX10_isNode_1 rfl ?_
  refine lv_aload_n hx hb dX10_isNode_2 rfl (lv_at hl 0 rfl) ?_
  refine fz_get (D := (dC, dI)) (ci := 10) (v := .ref (h0 + 719)) (C := RX10) (T := TX10) (N := 53) hx hb hts inG10 hown hK hP (k := 0) (by decide) (F := mF h0) mE_obj rfl 21 (by decide) (hts _ k1187) (fun _ h9 => h9) rfl dX10_isNode_3 ?_
  refine lv_iconst (v := iZ 0) hx hb dX10_isNode_6 rfl ?_
  refine fz_ld (k := 719) (n := 70) hx hb hK hP 0 (by decide) mE_nodes rfl ⟨by (first | ((try clear hsz); (try clear s₁); (try clear h10); omega) | omega), by (first | ((try clear hsz); (try clear s₁); (try clear h10); omega) | omega)⟩ (by decide) dX10_isNode_7 ?_
  rw [show (0 : Int).toNat = 0 from rfl]
  refine lv_iconst (v := iZ 1) hx hb dX10_isNode_8 rfl ?_
  refine lv_isub hx hb dX10_isNode_9 ?_
  refine lv_topi (fun x9 ex9 => ?_)
  obtain rfl : x9 = iZ ((μ 719 0) - 1) := ex9.trans (iZ_sub _ _)
  refine va_calli (va_runS (As := [.int (iZ (i)), .int (iZ (0)), .int (iZ ((μ 719 0) - 1))]) (rest := []) ⟨hx, hb, hml, hown, hts⟩ (m_in l dC dI cI cZ cII cIII h0 s.heap.size μ (i) (0) ((μ 719 0) - 1) (by first | assumption | omega | exact ⟨by omega, by omega⟩) (by first | assumption | (first | ((try clear ex9); (try clear hsz); (try clear s₁); (try clear h10); omega) | omega) | exact ⟨by omega, by omega⟩) (by first | assumption | (first | ((try clear ex9); (try clear hsz); (try clear s₁); omega) | omega) | exact ⟨by omega, by omega⟩)) (cwS 3 hts (gS_G k1339 k1340 k13 k1341) rfl rfl rfl (by decide +kernel) ⟨Nat.le_of_ble_eq_true rfl, Nat.le_of_ble_eq_true rfl⟩) ⟨fun a U g mk q => by obtain ⟨q0, q1, qP, qK⟩ := q; exact ⟨q0, q1, qP, va_K.moved (u := U) (U := U.calling g mk a) (Vm.Alike.refl U.vm) qK⟩, fun U hU hW => ⟨rfl, by rw [hU], by rw [hU]; exact hP, va_K.moved hW.alike hK⟩⟩ rfl rfl hl.1 rfl (lv_room (Nat.le_of_ble_eq_true rfl)) dX10_isNode_10 ⟨Nat.le_of_ble_eq_true rfl, Nat.le_of_ble_eq_true rfl⟩) hS (fun q _ h => fA_le hS.1 q h) (fA_le hS.1) (fun r9 u9 t9 H1 locs ht9 hvm9 hw9 hB9 hz9 hk9 hS => ?_)
  obtain ⟨μ1, r2⟩ := u9
  obtain ⟨hP, -⟩ := hB9
  rw [ht9] at hP
  generalize H1 = H at hP hS ⊢
  obtain ⟨e9, hw9⟩ := hw9
  have e9 : r9 = iZ r2 := e9
  subst e9
  simp only at hP hw9
  have hμ1 := hw9; clear hw9
  rw [hμ1.1] at hP; have hμ1 := hμ1.2
  exact W.zret (v := iZ (r2)) hx hb hr (by exact fz_narZ (by split at hμ1 <;> (first | ((try clear hz9); (try clear ex9); (try clear hsz); (try clear s₁); (try clear h10); omega) | omega))) (fun t9 ht9 hW9 => ⟨⟨iZ (r2), (μ, r2), rfl, ⟨rfl, (by
            dsimp only
            exact ⟨rfl, hμ1⟩)⟩, by rw [ht9]; exact hP, va_K.moved hW9.alike hK⟩, hS.F ht9⟩) hS.2.2 dX10_isNode_13
set_option maxHeartbeats 4000000 in
set_option maxRecDepth 100000 in
theorem m_isRepeat (l : Launch) (dC : Nat → ClassId) (dI : Nat → Nat → Nat) (cI cZ cII cIII : ClassId) (h0 sz : Nat) (μ : va_M) (t : Int) (i : Int) (ht : 0 ≤ t ∧ t < 70) (hi : 0 ≤ i ∧ i < 900) (hs : inR (μ (507 + t.toNat) i.toNat)) : Met l yX10_isRepeat (Cond.code yX10_isRepeat cX10_isRepeat 3 (some .boolean) :: wsG) ({ frames := 1, cells := 0, slots := 0, locals := 14 } : Room) (va_Pc [.ref h0, .int (iZ (t)), .int (iZ (i))] (fun U => U.heap.size = sz ∧ va_P (dC, dI) vwCl (fw (mE cI cZ cII cIII h0) h0 6325 μ) U.heap ∧ va_K (dC, dI) vwCl (mT cI cZ cII cIII) U)) (va_Qi (fun (r9 : Int32) (u : va_M × Int) => r9 = iZ u.2 ∧ (fun (u : va_M) (r : Int) => u = μ ∧ r = if μ (507 + t.toNat) i.toNat = 4 then 1 else 0) u.1 u.2) (fun u t => va_P (dC, dI) vwCl (fw (mE cI cZ cII cIII h0) h0 6325 u.1) t.heap ∧ va_K (dC, dI) vwCl (mT cI cZ cII cIII) t) (fA h0 6325 sz)) 0 0 (fA h0 6325 sz) := by
  refine Met.ofW (cc := cX10_isRepeat) (maxL := 3) (ret := (some .boolean)) (by decide) rfl ?_
  intro p e s m args below meth c s₁ B hml hv
  obtain ⟨rfl, hsz, hP, hK⟩ := hv
  have hx := B.exec
  have hb := B.bytes
  have hr := B.returns
  have hts : ∀ w ∈ wsG, w.before _ s = true := hG_of (atoms_spec (ws := (Cond.code yX10_isRepeat cX10_isRepeat 3 (some .boolean) :: wsG)) B.pre)
  have hown : s.vm.findClass RX10 = some m.cls := findClass_of_methodNamed B.named
  have hlocks := B.notSynchronized
  subst hsz
  have hS : va_S (fA h0 6325 s.heap.size) s.heap s.heap [] := va_S.rf
  have hl := lv_entry ([.ref h0, .int (iZ (t)), .int (iZ (i))]) (n := 3) (Nat.le_of_ble_eq_true rfl)
  rw [lg_entry_eq]
  generalize (lg_sl ([.ref h0, .int (iZ (t)), .int (iZ (i))]) ++ List.replicate (3 - (lg_sl ([.ref h0, .int (iZ (t)), .int (iZ (i))])).length) Slot.unset).toArray = ls at hl ⊢
  have hl : lv_has ls 3 [(0, .ref h0), (1, .int (iZ (t))), (2, .int (iZ (i)))] := hl
  refine lv_aload_n hx hb dX10_isRepeat_0 rfl (lv_at hl 0 rfl) ?_
  refine fz_get (D := (dC, dI)) (ci := 10) (v := .ref (h0 + 506)) (C := RX10) (T := TX10) (N := 53) hx hb hts inG10 hown hK hP (k := 0) (by decide) (F := mF h0) mE_obj rfl 18 (by decide) (hts _ k1184) (fun _ h9 => h9) rfl dX10_isRepeat_1 ?_
  refine lv_iload_n hx hb dX10_isRepeat_4 rfl (lv_at hl 1 rfl) ?_
  refine fz_ald (k := 506) (n := 70) (k2 := (507 + (t).toNat)) hx hb hK hP 2 rfl (by decide) mE_sort rfl ⟨by (first | ((try clear hsz); (try clear s₁); (try clear hs); (try clear hi); omega) | omega), by (first | ((try clear hsz); (try clear s₁); (try clear hs); (try clear hi); omega) | omega)⟩ (by decide) (if_pos (by (first | ((try clear hsz); (try clear s₁); (try clear hs); (try clear hi); omega) | omega))) dX10_isRepeat_5 ?_
  refine lv_iload_n hx hb dX10_isRepeat_6 rfl (lv_at hl 2 rfl) ?_
  refine fz_ld (k := (507 + (t).toNat)) (n := 900) hx hb hK hP 0 (by (first | ((try clear hsz); (try clear s₁); (try clear hs); (try clear hi); omega) | omega)) (mE_sortR (by (first | ((try clear hsz); (try clear s₁); (try clear hs); (try clear hi); omega) | omega))) rfl ⟨by (first | ((try clear hsz); (try clear s₁); (try clear hs); (try clear ht); omega) | omega), by (first | ((try clear hsz); (try clear s₁); (try clear hs); (try clear ht); omega) | omega)⟩ (by decide) dX10_isRepeat_7 ?_
  refine lv_iconst (v := iZ 4) hx hb dX10_isRepeat_8 rfl ?_
  refine fz_icmp_ne (tgt := 16) (by constructor <;> (first | ((try clear hsz); (try clear s₁); (try clear hi); (try clear ht); omega) | omega)) (by decide) hx hb dX10_isRepeat_9 (by decide) (fun c9_ => ?_) (fun c9_ => ?_)
  · refine lv_iconst (v := iZ 0) hx hb dX10_isRepeat_16 rfl ?_
    exact W.zret (v := iZ (0)) hx hb hr (by decide +kernel) (fun t9 ht9 hW9 => ⟨⟨iZ (0), (μ, 0), rfl, ⟨rfl, (by
                dsimp only
                exact ⟨rfl, by split <;> first | rfl | (first | ((try clear hsz); (try clear s₁); (try clear hs); (try clear hi); (try clear ht); omega) | omega)⟩)⟩, by rw [ht9]; exact hP, va_K.moved hW9.alike hK⟩, hS.F ht9⟩) hS.2.2 dX10_isRepeat_17
  · refine lv_iconst (v := iZ 1) hx hb dX10_isRepeat_12 rfl ?_
    refine lv_goto (tgt := 17) hx hb dX10_isRepeat_13 (by decide) ?_
    exact W.zret (v := iZ (1)) hx hb hr (by decide +kernel) (fun t9 ht9 hW9 => ⟨⟨iZ (1), (μ, 1), rfl, ⟨rfl, (by
                dsimp only
                exact ⟨rfl, by split <;> first | rfl | omega⟩)⟩, by rw [ht9]; exact hP, va_K.moved hW9.alike hK⟩, hS.F ht9⟩) hS.2.2 dX10_isRepeat_17
set_option maxHeartbeats 4000000 in
set_option maxRecDepth 100000 in
theorem m_sum (l : Launch) (dC : Nat → ClassId) (dI : Nat → Nat → Nat) (cI cZ cII cIII : ClassId) (h0 sz : Nat) (μ : va_M) (a : Int) (b : Int) (ha : 0 ≤ a ∧ a ≤ 1000000000) (hb9 : 0 ≤ b ∧ b ≤ 1000000000) : Met l yX10_sum (Cond.code yX10_sum cX10_sum 2 (some .int) :: wsG) ({ frames := 2, cells := 0, slots := 0, locals := 35 } : Room) (va_Pc [.int (iZ (a)), .int (iZ (b))] (fun U => U.heap.size = sz ∧ va_P (dC, dI) vwCl (fw (mE cI cZ cII cIII h0) h0 6325 μ) U.heap ∧ va_K (dC, dI) vwCl (mT cI cZ cII cIII) U)) (va_Qi (fun (r9 : Int32) (u : va_M × Int) => r9 = iZ u.2 ∧ (fun (u : va_M) (r : Int) => u = μ ∧ r = min 1000000000 (a + b)) u.1 u.2) (fun u t => va_P (dC, dI) vwCl (fw (mE cI cZ cII cIII h0) h0 6325 u.1) t.heap ∧ va_K (dC, dI) vwCl (mT cI cZ cII cIII) t) (fA h0 6325 sz)) 0 0 (fA h0 6325 sz) := by
  refine Met.ofW (cc := cX10_sum) (maxL := 2) (ret := (some .int)) (by decide) rfl ?_
  intro p e s m args below meth c s₁ B hml hv
  obtain ⟨rfl, hsz, hP, hK⟩ := hv
  have hx := B.exec
  have hb := B.bytes
  have hr := B.returns
  have hts : ∀ w ∈ wsG, w.before _ s = true := hG_of (atoms_spec (ws := (Cond.code yX10_sum cX10_sum 2 (some .int) :: wsG)) B.pre)
  have hown : s.vm.findClass RX10 = some m.cls := findClass_of_methodNamed B.named
  have hlocks := B.notSynchronized
  subst hsz
  have hS : va_S (fA h0 6325 s.heap.size) s.heap s.heap [] := va_S.rf
  have hl := lv_entry ([.int (iZ (a)), .int (iZ (b))]) (n := 2) (Nat.le_of_ble_eq_true rfl)
  rw [lg_entry_eq]
  generalize (lg_sl ([.int (iZ (a)), .int (iZ (b))]) ++ List.replicate (2 - (lg_sl ([.int (iZ (a)), .int (iZ (b))])).length) Slot.unset).toArray = ls at hl ⊢
  have hl : lv_has ls 2 [(0, .int (iZ (a))), (1, .int (iZ (b)))] := hl
  refine lv_ldcw (v := iZ 1000000000) hx hb hown (hts _ k1531) dX10_sum_0 ?_
  refine lv_iload_n hx hb dX10_sum_3 rfl (lv_at hl 0 rfl) ?_
  refine lv_iload_n hx hb dX10_sum_4 rfl (lv_at hl 1 rfl) ?_
  refine lv_iadd hx hb dX10_sum_5 ?_
  refine lv_topi (fun x9 ex9 => ?_)
  obtain rfl : x9 = iZ (a + b) := ex9.trans (iZ_add _ _)
  refine va_calli (va_runS (As := [.int (iZ (1000000000)), .int (iZ (a + b))]) (rest := []) ⟨hx, hb, hml, hown, hts⟩ (m_less l dC dI cI cZ cII cIII h0 s.heap.size μ (1000000000) (a + b) (by first | assumption | (first | ((try clear ex9); (try clear hsz); (try clear s₁); (try clear hb9); (try clear ha); omega) | omega) | exact ⟨by omega, by omega⟩) (by first | assumption | (first | ((try clear ex9); (try clear hsz); (try clear s₁); omega) | omega) | exact ⟨by omega, by omega⟩)) (cwS 2 hts (gS_G k1532 k1533 k13 k1534) rfl rfl rfl (by decide +kernel) ⟨Nat.le_of_ble_eq_true rfl, Nat.le_of_ble_eq_true rfl⟩) ⟨fun a U g mk q => by obtain ⟨q0, q1, qP, qK⟩ := q; exact ⟨q0, q1, qP, va_K.moved (u := U) (U := U.calling g mk a) (Vm.Alike.refl U.vm) qK⟩, fun U hU hW => ⟨rfl, by rw [hU], by rw [hU]; exact hP, va_K.moved hW.alike hK⟩⟩ rfl rfl hl.1 rfl (lv_room (Nat.le_of_ble_eq_true rfl)) dX10_sum_6 ⟨Nat.le_of_ble_eq_true rfl, Nat.le_of_ble_eq_true rfl⟩) hS (fun q _ h => fA_le hS.1 q h) (fA_le hS.1) (fun r9 u9 t9 H1 locs ht9 hvm9 hw9 hB9 hz9 hk9 hS => ?_)
  obtain ⟨μ1, r2⟩ := u9
  obtain ⟨hP, -⟩ := hB9
  rw [ht9] at hP
  generalize H1 = H at hP hS ⊢
  obtain ⟨e9, hw9⟩ := hw9
  have e9 : r9 = iZ r2 := e9
  subst e9
  simp only at hP hw9
  have hμ1 := hw9; clear hw9
  rw [hμ1.1] at hP; have hμ1 := hμ1.2
  exact W.iret (v := iZ (r2)) hx hb hr (fun t9 ht9 hW9 => ⟨⟨iZ (r2), (μ, r2), rfl, ⟨rfl, (by
            dsimp only
            exact ⟨rfl, hμ1⟩)⟩, by rw [ht9]; exact hP, va_K.moved hW9.alike hK⟩, hS.F ht9⟩) hS.2.2 dX10_sum_9
set_option maxHeartbeats 4000000 in
set_option maxRecDepth 100000 in
theorem m_status (l : Launch) (dC : Nat → ClassId) (dI : Nat → Nat → Nat) (cI cZ cII cIII : ClassId) (h0 sz : Nat) (μ : va_M) (w : Int) (hw : inR w) : Met l yX10_status (Cond.code yX10_status cX10_status 2 (some .int) :: wsG) ({ frames := 2, cells := 0, slots := 0, locals := 36 } : Room) (va_Pc [.ref h0, .int (iZ (w))] (fun U => U.heap.size = sz ∧ va_P (dC, dI) vwCl (fw (mE cI cZ cII cIII h0) h0 6325 μ) U.heap ∧ va_K (dC, dI) vwCl (mT cI cZ cII cIII) U)) (va_Qi (fun (r9 : Int32) (u : va_M × Int) => r9 = iZ u.2 ∧ (fun (u : va_M) (r : Int) => u = uz μ 0 0 0 ∧ r = if 0 ≤ w ∧ w ≤ 2 then μ 1 w.toNat else -1) u.1 u.2) (fun u t => va_P (dC, dI) vwCl (fw (mE cI cZ cII cIII h0) h0 6325 u.1) t.heap ∧ va_K (dC, dI) vwCl (mT cI cZ cII cIII) t) (fA h0 6325 sz)) 0 0 (fA h0 6325 sz) := by
  refine Met.ofW (cc := cX10_status) (maxL := 2) (ret := (some .int)) (by decide) rfl ?_
  intro p e s m args below meth c s₁ B hml hv
  obtain ⟨rfl, hsz, hP, hK⟩ := hv
  have hx := B.exec
  have hb := B.bytes
  have hr := B.returns
  have hts : ∀ w ∈ wsG, w.before _ s = true := hG_of (atoms_spec (ws := (Cond.code yX10_status cX10_status 2 (some .int) :: wsG)) B.pre)
  have hown : s.vm.findClass RX10 = some m.cls := findClass_of_methodNamed B.named
  have hlocks := B.notSynchronized
  subst hsz
  have hS : va_S (fA h0 6325 s.heap.size) s.heap s.heap [] := va_S.rf
  have hl := lv_entry ([.ref h0, .int (iZ (w))]) (n := 2) (Nat.le_of_ble_eq_true rfl)
  rw [lg_entry_eq]
  generalize (lg_sl ([.ref h0, .int (iZ (w))]) ++ List.replicate (2 - (lg_sl ([.ref h0, .int (iZ (w))])).length) Slot.unset).toArray = ls at hl ⊢
  have hl : lv_has ls 2 [(0, .ref h0), (1, .int (iZ (w)))] := hl
  refine lv_aload_n hx hb dX10_status_0 rfl (lv_at hl 0 rfl) ?_
  refine lv_iconst (v := iZ 0) hx hb dX10_status_1 rfl ?_
  refine fz_put (D := (dC, dI)) (ci := 10) (ty := .int) (z := 0) (C := RX10) (T := TX10) (N := 53) hx hb hts inG10 tyX10 tyX10_ok nmX10 hown hK hP fA_in hS (k := 0) (by decide) (F := mF h0) mE_obj rfl 0 (by decide) (hts _ k1166) (fun _ h9 => h9) rfl (by decide +kernel) rfl rfl (fun _ => Nat.le_of_ble_eq_true rfl) (fun _ _ => rfl) dX10_status_2 (fun H locs hP hS => ?_)
  obtain ⟨μ1, eμ1⟩ : ∃ x : va_M, x = uz μ 0 0 (0) := ⟨_, rfl⟩
  rw [← eμ1] at hP
  refine lv_iload_n hx hb dX10_status_5 rfl (lv_at hl 1 rfl) ?_
  refine lv_iconst (v := iZ 0) hx hb dX10_status_6 rfl ?_
  refine lv_iconst (v := iZ 2) hx hb dX10_status_7 rfl ?_
  refine va_calli (va_runS (As := [.int (iZ (w)), .int (iZ (0)), .int (iZ (2))]) (rest := []) ⟨hx, hb, hml, hown, hts⟩ (m_in l dC dI cI cZ cII cIII h0 H.size μ1 (w) (0) (2) (by first | assumption | omega | exact ⟨by omega, by omega⟩) (by first | assumption | (first | ((try clear x); (try clear eμ1); (try clear μ1); (try clear hsz); (try clear s₁); omega) | omega) | exact ⟨by omega, by omega⟩) (by first | assumption | (first | ((try clear x); (try clear eμ1); (try clear μ1); (try clear hsz); (try clear s₁); omega) | omega) | exact ⟨by omega, by omega⟩)) (cwS 3 hts (gS_G k1339 k1340 k13 k1341) rfl rfl rfl (by decide +kernel) ⟨Nat.le_of_ble_eq_true rfl, Nat.le_of_ble_eq_true rfl⟩) ⟨fun a U g mk q => by obtain ⟨q0, q1, qP, qK⟩ := q; exact ⟨q0, q1, qP, va_K.moved (u := U) (U := U.calling g mk a) (Vm.Alike.refl U.vm) qK⟩, fun U hU hW => ⟨rfl, by rw [hU], by rw [hU]; exact hP, va_K.moved hW.alike hK⟩⟩ rfl rfl hl.1 rfl (lv_room (Nat.le_of_ble_eq_true rfl)) dX10_status_8 ⟨Nat.le_of_ble_eq_true rfl, Nat.le_of_ble_eq_true rfl⟩) hS (fun q _ h => fA_le hS.1 q h) (fA_le hS.1) (fun r9 u9 t9 H1 locs ht9 hvm9 hw9 hB9 hz9 hk9 hS => ?_)
  obtain ⟨μ2, r3⟩ := u9
  obtain ⟨hP, -⟩ := hB9
  rw [ht9] at hP
  generalize H1 = H at hP hS ⊢
  obtain ⟨e9, hw9⟩ := hw9
  have e9 : r9 = iZ r3 := e9
  subst e9
  simp only at hP hw9
  have hμ2 := hw9; clear hw9
  rw [hμ2.1] at hP; have hμ2 := hμ2.2
  refine fz_if_eq (tgt := 23) (by constructor <;> (first | ((try clear hμ2); (try clear hz9); (try clear x); (try clear eμ1); (try clear hsz); (try clear s₁); omega) | omega)) hx hb dX10_status_11 (by decide) (fun c11_ => ?_) (fun c11_ => ?_)
  · refine lv_iconst (v := iZ (-1)) hx hb dX10_status_23 rfl ?_
    exact W.iret (v := iZ ((-1))) hx hb hr (fun t9 ht9 hW9 => ⟨⟨iZ ((-1)), (μ1, (-1)), rfl, ⟨rfl, (by
                dsimp only
                subst eμ1; exact ⟨rfl, by split <;> first | rfl | (rw [uz_n (by omega)]; done) | (first | ((try clear hμ2); (try clear μ2); (try clear hz9); (try clear x); (try clear eμ1); (try clear μ1); (try clear hsz); (try clear s₁); omega) | omega)⟩)⟩, by rw [ht9]; exact hP, va_K.moved hW9.alike hK⟩, hS.F ht9⟩) hS.2.2 dX10_status_24
  · refine lv_aload_n hx hb dX10_status_14 rfl (lv_at hl 0 rfl) ?_
    refine fz_get (D := (dC, dI)) (ci := 10) (v := .ref (h0 + 1)) (C := RX10) (T := TX10) (N := 53) hx hb hts inG10 hown hK hP (k := 0) (by decide) (F := mF h0) mE_obj rfl 1 (by decide) (hts _ k1167) (fun _ h9 => h9) rfl dX10_status_15 ?_
    refine lv_iload_n hx hb dX10_status_18 rfl (lv_at hl 1 rfl) ?_
    refine fz_ld (k := 1) (n := 3) hx hb hK hP 0 (by decide) mE_refused rfl ⟨by (first | ((try clear hμ2); (try clear hz9); (try clear x); (try clear eμ1); (try clear hsz); (try clear s₁); omega) | omega), by (first | ((try clear hμ2); (try clear hz9); (try clear x); (try clear eμ1); (try clear hsz); (try clear s₁); omega) | omega)⟩ (by decide) dX10_status_19 ?_
    rw [show μ1 1 (w).toNat = μ 1 (w).toNat from by rw [eμ1, uz_n (by (first | ((try clear c11_); (try clear hμ2); (try clear μ2); (try clear hz9); (try clear x); (try clear eμ1); (try clear μ1); (try clear hsz); (try clear s₁); omega) | omega))]]
    refine lv_goto (tgt := 24) hx hb dX10_status_20 (by decide) ?_
    exact W.iret (v := iZ (μ 1 (w).toNat)) hx hb hr (fun t9 ht9 hW9 => ⟨⟨iZ (μ 1 (w).toNat), (μ1, μ 1 (w).toNat), rfl, ⟨rfl, (by
                dsimp only
                subst eμ1; exact ⟨rfl, by split <;> first | rfl | (rw [uz_n (by omega)]; done) | (first | ((try clear hμ2); (try clear μ2); (try clear hz9); (try clear x); (try clear eμ1); (try clear μ1); (try clear hsz); (try clear s₁); omega) | omega)⟩)⟩, by rw [ht9]; exact hP, va_K.moved hW9.alike hK⟩, hS.F ht9⟩) hS.2.2 dX10_status_24

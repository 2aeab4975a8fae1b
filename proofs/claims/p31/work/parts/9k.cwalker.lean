set_option maxRecDepth 100000 in
theorem k501 : (Cond.static ({ cls := "java/lang/Math", name := "min", desc := "(II)I" } : MethodName)) ∈ wsG := wsG_a3 21 rfl rfl
set_option maxRecDepth 100000 in
theorem k502 : (Cond.code ({ cls := "java/lang/Math", name := "min", desc := "(II)I" } : MethodName) prog_17_method_69_code (2 : Nat) (Option.some FieldType.int)) ∈ wsG := wsG_a3 22 rfl rfl
set_option maxRecDepth 100000 in
theorem k553 : (Cond.constant "PageSkeleton$Walker" (41 : Nat) (1000000 : Int32)) ∈ wsG := wsG_a3 73 rfl rfl
set_option maxRecDepth 100000 in
theorem k561 : (Cond.constant "PageSkeleton$Walker" (42 : Nat) (1000000000 : Int32)) ∈ wsG := wsG_a3 81 rfl rfl
set_option maxRecDepth 100000 in
theorem k562 : (Cond.methodLink "PageSkeleton$Walker" (43 : Nat) ({ cls := "java/lang/Math", name := "min", desc := "(II)I" } : MethodName)) ∈ wsG := wsG_a3 82 rfl rfl
set_option maxRecDepth 100000 in
theorem k563 : (Cond.methodLink "PageSkeleton$Walker" (48 : Nat) ({ cls := "java/lang/Math", name := "max", desc := "(II)I" } : MethodName)) ∈ wsG := wsG_a3 83 rfl rfl
theorem dX8_atEnd_0 : decode cX8_atEnd 0 = .ok (.iload_n 2, 1) := by decide +kernel
theorem dX8_atEnd_1 : decode cX8_atEnd 1 = .ok (.ifCond .ne 14, 3) := by decide +kernel
theorem dX8_atEnd_4 : decode cX8_atEnd 4 = .ok (.iload_n 0, 1) := by decide +kernel
theorem dX8_atEnd_5 : decode cX8_atEnd 5 = .ok (.iload_n 1, 1) := by decide +kernel
theorem dX8_atEnd_6 : decode cX8_atEnd 6 = .ok (.if_icmp .ne 7, 3) := by decide +kernel
theorem dX8_atEnd_9 : decode cX8_atEnd 9 = .ok (.iconst 1, 1) := by decide +kernel
theorem dX8_atEnd_10 : decode cX8_atEnd 10 = .ok (.goto 4, 3) := by decide +kernel
theorem dX8_atEnd_13 : decode cX8_atEnd 13 = .ok (.iconst 0, 1) := by decide +kernel
theorem dX8_atEnd_14 : decode cX8_atEnd 14 = .ok (.ireturn, 1) := by decide +kernel
theorem dX8_atEnd_15 : decode cX8_atEnd 15 = .ok (.iload_n 2, 1) := by decide +kernel
theorem dX8_atEnd_16 : decode cX8_atEnd 16 = .ok (.iconst 1, 1) := by decide +kernel
theorem dX8_atEnd_17 : decode cX8_atEnd 17 = .ok (.if_icmp .ne 9, 3) := by decide +kernel
theorem dX8_atEnd_20 : decode cX8_atEnd 20 = .ok (.iload_n 1, 1) := by decide +kernel
theorem dX8_atEnd_21 : decode cX8_atEnd 21 = .ok (.iload_n 0, 1) := by decide +kernel
theorem dX8_atEnd_22 : decode cX8_atEnd 22 = .ok (.isub, 1) := by decide +kernel
theorem dX8_atEnd_23 : decode cX8_atEnd 23 = .ok (.goto 4, 3) := by decide +kernel
theorem dX8_atEnd_26 : decode cX8_atEnd 26 = .ok (.iload_n 0, 1) := by decide +kernel
theorem dX8_atEnd_27 : decode cX8_atEnd 27 = .ok (.ireturn, 1) := by decide +kernel
theorem dX8_either_0 : decode cX8_either 0 = .ok (.iload_n 2, 1) := by decide +kernel
theorem dX8_either_1 : decode cX8_either 1 = .ok (.ifCond .ne 12, 3) := by decide +kernel
theorem dX8_either_4 : decode cX8_either 4 = .ok (.iload_n 0, 1) := by decide +kernel
theorem dX8_either_5 : decode cX8_either 5 = .ok (.iload_n 1, 1) := by decide +kernel
theorem dX8_either_6 : decode cX8_either 6 = .ok (.iadd, 1) := by decide +kernel
theorem dX8_either_7 : decode cX8_either 7 = .ok (.ldc 42, 2) := by decide +kernel
theorem dX8_either_9 : decode cX8_either 9 = .ok (.invokestatic 43, 3) := by decide +kernel
theorem dX8_either_12 : decode cX8_either 12 = .ok (.ireturn, 1) := by decide +kernel
theorem dX8_either_13 : decode cX8_either 13 = .ok (.iload_n 2, 1) := by decide +kernel
theorem dX8_either_14 : decode cX8_either 14 = .ok (.iconst 1, 1) := by decide +kernel
theorem dX8_either_15 : decode cX8_either 15 = .ok (.if_icmp .ne 11, 3) := by decide +kernel
theorem dX8_either_18 : decode cX8_either 18 = .ok (.iload_n 0, 1) := by decide +kernel
theorem dX8_either_19 : decode cX8_either 19 = .ok (.iload_n 1, 1) := by decide +kernel
theorem dX8_either_20 : decode cX8_either 20 = .ok (.invokestatic 43, 3) := by decide +kernel
theorem dX8_either_23 : decode cX8_either 23 = .ok (.goto 8, 3) := by decide +kernel
theorem dX8_either_26 : decode cX8_either 26 = .ok (.iload_n 0, 1) := by decide +kernel
theorem dX8_either_27 : decode cX8_either 27 = .ok (.iload_n 1, 1) := by decide +kernel
theorem dX8_either_28 : decode cX8_either 28 = .ok (.invokestatic 48, 3) := by decide +kernel
theorem dX8_either_31 : decode cX8_either 31 = .ok (.ireturn, 1) := by decide +kernel
theorem dX8_nothing_0 : decode cX8_nothing 0 = .ok (.iload_n 1, 1) := by decide +kernel
theorem dX8_nothing_1 : decode cX8_nothing 1 = .ok (.ifCond .ne 5, 3) := by decide +kernel
theorem dX8_nothing_4 : decode cX8_nothing 4 = .ok (.iconst 0, 1) := by decide +kernel
theorem dX8_nothing_5 : decode cX8_nothing 5 = .ok (.ireturn, 1) := by decide +kernel
theorem dX8_nothing_6 : decode cX8_nothing 6 = .ok (.iload_n 1, 1) := by decide +kernel
theorem dX8_nothing_7 : decode cX8_nothing 7 = .ok (.iconst 1, 1) := by decide +kernel
theorem dX8_nothing_8 : decode cX8_nothing 8 = .ok (.if_icmp .ne 8, 3) := by decide +kernel
theorem dX8_nothing_11 : decode cX8_nothing 11 = .ok (.ldc 41, 2) := by decide +kernel
theorem dX8_nothing_13 : decode cX8_nothing 13 = .ok (.goto 4, 3) := by decide +kernel
theorem dX8_nothing_16 : decode cX8_nothing 16 = .ok (.iload_n 0, 1) := by decide +kernel
theorem dX8_nothing_17 : decode cX8_nothing 17 = .ok (.ireturn, 1) := by decide +kernel
/-! the walker: what is asked at its ends -/
set_option maxHeartbeats 4000000 in
set_option maxRecDepth 100000 in
theorem s_WatEnd (l : Launch) (dC : Nat → ClassId) (dI : Nat → Nat → Nat) (cI cZ cII cIII : ClassId) (h0 sz : Nat) (μ : va_M) (k9 : Int) (n9_ : Int) (hw : Int) (h_k9 : inR k9) (h_n9_ : inR n9_) (h_hw : inR hw) : Met l yX8_atEnd (Cond.code yX8_atEnd cX8_atEnd 3 (some .int) :: wsG) ({ frames := 1, cells := 0, slots := 0, locals := 14 } : Room) (va_Pc [.int (iZ (k9)), .int (iZ (n9_)), .int (iZ (hw))] (fun U => U.heap.size = sz ∧ va_P (dC, dI) vwCl (fw (sE cI cZ cII cIII h0) h0 233 μ) U.heap ∧ va_K (dC, dI) vwCl (sT cI cZ cII cIII) U ∧ xM U)) (va_Qi (fun (r9 : Int32) (u : va_M × Int) => r9 = iZ u.2 ∧ (fun (u : va_M) (r : Int) => u = μ ∧ r = if hw = 0 then (if k9 = n9_ then 1 else 0) else if hw = 1 then n9_ - k9 else k9) u.1 u.2) (fun u t => va_P (dC, dI) vwCl (fw (sE cI cZ cII cIII h0) h0 233 u.1) t.heap ∧ va_K (dC, dI) vwCl (sT cI cZ cII cIII) t) (fA h0 233 sz)) 0 0 (fA h0 233 sz) := by
  refine Met.ofW (cc := cX8_atEnd) (maxL := 3) (ret := (some .int)) (by decide) rfl ?_
  intro p e s m args below meth c s₁ B hml hv
  obtain ⟨rfl, hsz, hP, hK, hM⟩ := hv
  have hx := B.exec
  have hb := B.bytes
  have hr := B.returns
  have hts : ∀ w ∈ wsG, w.before _ s = true := hG_of (atoms_spec (ws := (Cond.code yX8_atEnd cX8_atEnd 3 (some .int) :: wsG)) B.pre)
  have hown : s.vm.findClass RX8 = some m.cls := findClass_of_methodNamed B.named
  have hlocks := B.notSynchronized
  subst hsz
  have hS : va_S (fA h0 233 s.heap.size) s.heap s.heap [] := va_S.rf
  have hl := lv_entry ([.int (iZ (k9)), .int (iZ (n9_)), .int (iZ (hw))]) (n := 3) (Nat.le_of_ble_eq_true rfl)
  rw [lg_entry_eq]
  generalize (lg_sl ([.int (iZ (k9)), .int (iZ (n9_)), .int (iZ (hw))]) ++ List.replicate (3 - (lg_sl ([.int (iZ (k9)), .int (iZ (n9_)), .int (iZ (hw))])).length) Slot.unset).toArray = ls at hl ⊢
  have hl : lv_has ls 3 [(0, .int (iZ (k9))), (1, .int (iZ (n9_))), (2, .int (iZ (hw)))] := hl
  refine lv_iload_n hx hb dX8_atEnd_0 rfl (lv_at hl 2 rfl) ?_
  refine fz_if_ne (tgt := 15) (by constructor <;> omega) hx hb dX8_atEnd_1 (by decide) (fun c1_ => ?_) (fun c1_ => ?_)
  · refine lv_iload_n hx hb dX8_atEnd_15 rfl (lv_at hl 2 rfl) ?_
    refine lv_iconst (v := iZ 1) hx hb dX8_atEnd_16 rfl ?_
    refine fz_icmp_ne (tgt := 26) (by constructor <;> omega) (by decide) hx hb dX8_atEnd_17 (by decide) (fun c17_ => ?_) (fun c17_ => ?_)
    · refine lv_iload_n hx hb dX8_atEnd_26 rfl (lv_at hl 0 rfl) ?_
      exact W.iret (v := iZ (k9)) hx hb hr (fun t9 ht9 hW9 => ⟨⟨iZ (k9), (μ, k9), rfl, ⟨rfl, (by
                    dsimp only
                    refine ⟨rfl, ?_⟩
                    split <;> first | omega | (split <;> omega))⟩, by rw [ht9]; exact hP, va_K.moved hW9.alike hK⟩, hS.F ht9⟩) hS.2.2 dX8_atEnd_27
    · refine lv_iload_n hx hb dX8_atEnd_20 rfl (lv_at hl 1 rfl) ?_
      refine lv_iload_n hx hb dX8_atEnd_21 rfl (lv_at hl 0 rfl) ?_
      refine lv_isub hx hb dX8_atEnd_22 ?_
      refine lv_topi (fun x9 ex9 => ?_)
      obtain rfl : x9 = iZ (n9_ - k9) := ex9.trans (iZ_sub _ _)
      refine lv_goto (tgt := 27) hx hb dX8_atEnd_23 (by decide) ?_
      exact W.iret (v := iZ (n9_ - k9)) hx hb hr (fun t9 ht9 hW9 => ⟨⟨iZ (n9_ - k9), (μ, n9_ - k9), rfl, ⟨rfl, (by
                    dsimp only
                    refine ⟨rfl, ?_⟩
                    split <;> first | omega | (split <;> omega))⟩, by rw [ht9]; exact hP, va_K.moved hW9.alike hK⟩, hS.F ht9⟩) hS.2.2 dX8_atEnd_27
  · refine lv_iload_n hx hb dX8_atEnd_4 rfl (lv_at hl 0 rfl) ?_
    refine lv_iload_n hx hb dX8_atEnd_5 rfl (lv_at hl 1 rfl) ?_
    refine fz_icmp_ne (tgt := 13) (by constructor <;> omega) (by constructor <;> omega) hx hb dX8_atEnd_6 (by decide) (fun c6_ => ?_) (fun c6_ => ?_)
    · refine lv_iconst (v := iZ 0) hx hb dX8_atEnd_13 rfl ?_
      exact W.iret (v := iZ (0)) hx hb hr (fun t9 ht9 hW9 => ⟨⟨iZ (0), (μ, 0), rfl, ⟨rfl, (by
                    dsimp only
                    refine ⟨rfl, ?_⟩
                    split <;> first | omega | (split <;> omega))⟩, by rw [ht9]; exact hP, va_K.moved hW9.alike hK⟩, hS.F ht9⟩) hS.2.2 dX8_atEnd_14
    · refine lv_iconst (v := iZ 1) hx hb dX8_atEnd_9 rfl ?_
      refine lv_goto (tgt := 14) hx hb dX8_atEnd_10 (by decide) ?_
      exact W.iret (v := iZ (1)) hx hb hr (fun t9 ht9 hW9 => ⟨⟨iZ (1), (μ, 1), rfl, ⟨rfl, (by
                    dsimp only
                    refine ⟨rfl, ?_⟩
                    split <;> first | omega | (split <;> omega))⟩, by rw [ht9]; exact hP, va_K.moved hW9.alike hK⟩, hS.F ht9⟩) hS.2.2 dX8_atEnd_14
set_option maxHeartbeats 4000000 in
set_option maxRecDepth 100000 in
theorem s_Wnothing (l : Launch) (dC : Nat → ClassId) (dI : Nat → Nat → Nat) (cI cZ cII cIII : ClassId) (h0 sz : Nat) (μ : va_M) (k9 : Int) (hw : Int) (h_k9 : inR k9) (h_hw : inR hw) : Met l yX8_nothing (Cond.code yX8_nothing cX8_nothing 2 (some .int) :: wsG) ({ frames := 1, cells := 0, slots := 0, locals := 14 } : Room) (va_Pc [.int (iZ (k9)), .int (iZ (hw))] (fun U => U.heap.size = sz ∧ va_P (dC, dI) vwCl (fw (sE cI cZ cII cIII h0) h0 233 μ) U.heap ∧ va_K (dC, dI) vwCl (sT cI cZ cII cIII) U ∧ xM U)) (va_Qi (fun (r9 : Int32) (u : va_M × Int) => r9 = iZ u.2 ∧ (fun (u : va_M) (r : Int) => u = μ ∧ r = if hw = 0 then 0 else if hw = 1 then 1000000 else k9) u.1 u.2) (fun u t => va_P (dC, dI) vwCl (fw (sE cI cZ cII cIII h0) h0 233 u.1) t.heap ∧ va_K (dC, dI) vwCl (sT cI cZ cII cIII) t) (fA h0 233 sz)) 0 0 (fA h0 233 sz) := by
  refine Met.ofW (cc := cX8_nothing) (maxL := 2) (ret := (some .int)) (by decide) rfl ?_
  intro p e s m args below meth c s₁ B hml hv
  obtain ⟨rfl, hsz, hP, hK, hM⟩ := hv
  have hx := B.exec
  have hb := B.bytes
  have hr := B.returns
  have hts : ∀ w ∈ wsG, w.before _ s = true := hG_of (atoms_spec (ws := (Cond.code yX8_nothing cX8_nothing 2 (some .int) :: wsG)) B.pre)
  have hown : s.vm.findClass RX8 = some m.cls := findClass_of_methodNamed B.named
  have hlocks := B.notSynchronized
  subst hsz
  have hS : va_S (fA h0 233 s.heap.size) s.heap s.heap [] := va_S.rf
  have hl := lv_entry ([.int (iZ (k9)), .int (iZ (hw))]) (n := 2) (Nat.le_of_ble_eq_true rfl)
  rw [lg_entry_eq]
  generalize (lg_sl ([.int (iZ (k9)), .int (iZ (hw))]) ++ List.replicate (2 - (lg_sl ([.int (iZ (k9)), .int (iZ (hw))])).length) Slot.unset).toArray = ls at hl ⊢
  have hl : lv_has ls 2 [(0, .int (iZ (k9))), (1, .int (iZ (hw)))] := hl
  refine lv_iload_n hx hb dX8_nothing_0 rfl (lv_at hl 1 rfl) ?_
  refine fz_if_ne (tgt := 6) (by constructor <;> omega) hx hb dX8_nothing_1 (by decide) (fun c1_ => ?_) (fun c1_ => ?_)
  · refine lv_iload_n hx hb dX8_nothing_6 rfl (lv_at hl 1 rfl) ?_
    refine lv_iconst (v := iZ 1) hx hb dX8_nothing_7 rfl ?_
    refine fz_icmp_ne (tgt := 16) (by constructor <;> omega) (by decide) hx hb dX8_nothing_8 (by decide) (fun c8_ => ?_) (fun c8_ => ?_)
    · refine lv_iload_n hx hb dX8_nothing_16 rfl (lv_at hl 0 rfl) ?_
      exact W.iret (v := iZ (k9)) hx hb hr (fun t9 ht9 hW9 => ⟨⟨iZ (k9), (μ, k9), rfl, ⟨rfl, (by
                    dsimp only
                    refine ⟨rfl, ?_⟩
                    split <;> first | omega | (split <;> omega))⟩, by rw [ht9]; exact hP, va_K.moved hW9.alike hK⟩, hS.F ht9⟩) hS.2.2 dX8_nothing_17
    · refine lv_ldc (v := iZ 1000000) hx hb hown (hts _ k553) dX8_nothing_11 ?_
      refine lv_goto (tgt := 17) hx hb dX8_nothing_13 (by decide) ?_
      exact W.iret (v := iZ (1000000)) hx hb hr (fun t9 ht9 hW9 => ⟨⟨iZ (1000000), (μ, 1000000), rfl, ⟨rfl, (by
                    dsimp only
                    refine ⟨rfl, ?_⟩
                    split <;> first | omega | (split <;> omega))⟩, by rw [ht9]; exact hP, va_K.moved hW9.alike hK⟩, hS.F ht9⟩) hS.2.2 dX8_nothing_17
  · refine lv_iconst (v := iZ 0) hx hb dX8_nothing_4 rfl ?_
    exact W.iret (v := iZ (0)) hx hb hr (fun t9 ht9 hW9 => ⟨⟨iZ (0), (μ, 0), rfl, ⟨rfl, (by
                dsimp only
                refine ⟨rfl, ?_⟩
                split <;> first | omega | (split <;> omega))⟩, by rw [ht9]; exact hP, va_K.moved hW9.alike hK⟩, hS.F ht9⟩) hS.2.2 dX8_nothing_5
set_option maxHeartbeats 4000000 in
set_option maxRecDepth 100000 in
theorem s_Weither (l : Launch) (dC : Nat → ClassId) (dI : Nat → Nat → Nat) (cI cZ cII cIII : ClassId) (h0 sz : Nat) (μ : va_M) (v9 : Int) (w9 : Int) (hw : Int) (h_v9 : inR v9) (h_w9 : inR w9) (h_hw : inR hw) (hvw : 0 ≤ v9 ∧ v9 ≤ 1000000000 ∧ 0 ≤ w9 ∧ w9 ≤ 1000000000) : Met l yX8_either (Cond.code yX8_either cX8_either 3 (some .int) :: wsG) ({ frames := 1, cells := 0, slots := 0, locals := 21 } : Room) (va_Pc [.int (iZ (v9)), .int (iZ (w9)), .int (iZ (hw))] (fun U => U.heap.size = sz ∧ va_P (dC, dI) vwCl (fw (sE cI cZ cII cIII h0) h0 233 μ) U.heap ∧ va_K (dC, dI) vwCl (sT cI cZ cII cIII) U ∧ xM U)) (va_Qi (fun (r9 : Int32) (u : va_M × Int) => r9 = iZ u.2 ∧ (fun (u : va_M) (r : Int) => u = μ ∧ r = if hw = 0 then min (v9 + w9) 1000000000 else if hw = 1 then min v9 w9 else max v9 w9) u.1 u.2) (fun u t => va_P (dC, dI) vwCl (fw (sE cI cZ cII cIII h0) h0 233 u.1) t.heap ∧ va_K (dC, dI) vwCl (sT cI cZ cII cIII) t) (fA h0 233 sz)) 0 0 (fA h0 233 sz) := by
  refine Met.ofW (cc := cX8_either) (maxL := 3) (ret := (some .int)) (by decide) rfl ?_
  intro p e s m args below meth c s₁ B hml hv
  obtain ⟨rfl, hsz, hP, hK, hM⟩ := hv
  have hx := B.exec
  have hb := B.bytes
  have hr := B.returns
  have hts : ∀ w ∈ wsG, w.before _ s = true := hG_of (atoms_spec (ws := (Cond.code yX8_either cX8_either 3 (some .int) :: wsG)) B.pre)
  have hown : s.vm.findClass RX8 = some m.cls := findClass_of_methodNamed B.named
  have hlocks := B.notSynchronized
  subst hsz
  have hS : va_S (fA h0 233 s.heap.size) s.heap s.heap [] := va_S.rf
  have hl := lv_entry ([.int (iZ (v9)), .int (iZ (w9)), .int (iZ (hw))]) (n := 3) (Nat.le_of_ble_eq_true rfl)
  rw [lg_entry_eq]
  generalize (lg_sl ([.int (iZ (v9)), .int (iZ (w9)), .int (iZ (hw))]) ++ List.replicate (3 - (lg_sl ([.int (iZ (v9)), .int (iZ (w9)), .int (iZ (hw))])).length) Slot.unset).toArray = ls at hl ⊢
  have hl : lv_has ls 3 [(0, .int (iZ (v9))), (1, .int (iZ (w9))), (2, .int (iZ (hw)))] := hl
  refine lv_iload_n hx hb dX8_either_0 rfl (lv_at hl 2 rfl) ?_
  refine fz_if_ne (tgt := 13) (by constructor <;> omega) hx hb dX8_either_1 (by decide) (fun c1_ => ?_) (fun c1_ => ?_)
  · refine lv_iload_n hx hb dX8_either_13 rfl (lv_at hl 2 rfl) ?_
    refine lv_iconst (v := iZ 1) hx hb dX8_either_14 rfl ?_
    refine fz_icmp_ne (tgt := 26) (by constructor <;> omega) (by decide) hx hb dX8_either_15 (by decide) (fun c15_ => ?_) (fun c15_ => ?_)
    · refine lv_iload_n hx hb dX8_either_26 rfl (lv_at hl 0 rfl) ?_
      refine lv_iload_n hx hb dX8_either_27 rfl (lv_at hl 1 rfl) ?_
      refine va_mmax hx hb (hml.trans hl.1.symm) hown (hts _ k563) (hts _ k75) (hts _ k4) (hts _ k76) (Nat.le_of_ble_eq_true rfl) (Nat.le_of_ble_eq_true rfl) (Nat.le_of_ble_eq_true rfl) (Nat.le_of_ble_eq_true rfl) dX8_either_28 ?_
      refine lv_topi (fun x9 ex9 => ?_)
      obtain rfl : x9 = iZ (max v9 w9) := ex9.trans (iZ_mx (by constructor <;> omega) (by constructor <;> omega))
      exact W.iret (v := iZ (max v9 w9)) hx hb hr (fun t9 ht9 hW9 => ⟨⟨iZ (max v9 w9), (μ, max v9 w9), rfl, ⟨rfl, (by
                    dsimp only
                    refine ⟨rfl, ?_⟩
                    split <;> first | omega | (split <;> omega))⟩, by rw [ht9]; exact hP, va_K.moved hW9.alike hK⟩, hS.F ht9⟩) hS.2.2 dX8_either_31
    · refine lv_iload_n hx hb dX8_either_18 rfl (lv_at hl 0 rfl) ?_
      refine lv_iload_n hx hb dX8_either_19 rfl (lv_at hl 1 rfl) ?_
      refine va_mmin hx hb (hml.trans hl.1.symm) hown (hts _ k562) (hts _ k501) (hts _ k4) (hts _ k502) (Nat.le_of_ble_eq_true rfl) (Nat.le_of_ble_eq_true rfl) (Nat.le_of_ble_eq_true rfl) (Nat.le_of_ble_eq_true rfl) dX8_either_20 ?_
      refine lv_topi (fun x9 ex9 => ?_)
      obtain rfl : x9 = iZ (min v9 w9) := ex9.trans (iZ_mn (by constructor <;> omega) (by constructor <;> omega))
      refine lv_goto (tgt := 31) hx hb dX8_either_23 (by decide) ?_
      exact W.iret (v := iZ (min v9 w9)) hx hb hr (fun t9 ht9 hW9 => ⟨⟨iZ (min v9 w9), (μ, min v9 w9), rfl, ⟨rfl, (by
                    dsimp only
                    refine ⟨rfl, ?_⟩
                    split <;> first | omega | (split <;> omega))⟩, by rw [ht9]; exact hP, va_K.moved hW9.alike hK⟩, hS.F ht9⟩) hS.2.2 dX8_either_31
  · refine lv_iload_n hx hb dX8_either_4 rfl (lv_at hl 0 rfl) ?_
    refine lv_iload_n hx hb dX8_either_5 rfl (lv_at hl 1 rfl) ?_
    refine lv_iadd hx hb dX8_either_6 ?_
    refine lv_topi (fun x9 ex9 => ?_)
    obtain rfl : x9 = iZ (v9 + w9) := ex9.trans (iZ_add _ _)
    refine lv_ldc (v := iZ 1000000000) hx hb hown (hts _ k561) dX8_either_7 ?_
    refine va_mmin hx hb (hml.trans hl.1.symm) hown (hts _ k562) (hts _ k501) (hts _ k4) (hts _ k502) (Nat.le_of_ble_eq_true rfl) (Nat.le_of_ble_eq_true rfl) (Nat.le_of_ble_eq_true rfl) (Nat.le_of_ble_eq_true rfl) dX8_either_9 ?_
    refine lv_topi (fun x9 ex9 => ?_)
    obtain rfl : x9 = iZ (min (v9 + w9) 1000000000) := ex9.trans (iZ_mn (by constructor <;> omega) (by decide))
    exact W.iret (v := iZ (min (v9 + w9) 1000000000)) hx hb hr (fun t9 ht9 hW9 => ⟨⟨iZ (min (v9 + w9) 1000000000), (μ, min (v9 + w9) 1000000000), rfl, ⟨rfl, (by
                dsimp only
                refine ⟨rfl, ?_⟩
                split <;> first | omega | (split <;> omega))⟩, by rw [ht9]; exact hP, va_K.moved hW9.alike hK⟩, hS.F ht9⟩) hS.2.2 dX8_either_12

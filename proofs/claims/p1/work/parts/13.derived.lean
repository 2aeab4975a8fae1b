theorem x_le60 {n : Nat} (h : n ≤ 60) : ¬ (60 : Int32) < nI n := nI_nlt (a := 60) h (by omega)
theorem k93 : (Cond.fieldLink "PageSkeleton$Walker" (19 : Nat) "PageSkeleton$Row" "length" "I") ∈ wsG := wsG_at 93 (by decide +kernel) (by decide +kernel)
theorem k544 : (Cond.instanceMethod ({ cls := "PageSkeleton$Walker", name := "goThrough", desc := "(LPageSkeleton$Row;[III)I" } : MethodName)) ∈ wsG := wsG_at 544 (by decide +kernel) (by decide +kernel)
theorem k545 : (Cond.selects "PageSkeleton$Walker" ({ cls := "PageSkeleton$Walker", name := "goThrough", desc := "(LPageSkeleton$Row;[III)I" } : MethodName) ({ cls := "PageSkeleton$Walker", name := "goThrough", desc := "(LPageSkeleton$Row;[III)I" } : MethodName)) ∈ wsG := wsG_at 545 (by decide +kernel) (by decide +kernel)
theorem k546 : (Cond.code ({ cls := "PageSkeleton$Walker", name := "goThrough", desc := "(LPageSkeleton$Row;[III)I" } : MethodName) prog_10_method_2_code (9 : Nat) (Option.some FieldType.int)) ∈ wsG := wsG_at 546 (by decide +kernel) (by decide +kernel)
theorem k547 : (Cond.methodLink "PageSkeleton$Walker" (25 : Nat) ({ cls := "PageSkeleton$Walker", name := "atEnd", desc := "(III)I" } : MethodName)) ∈ wsG := wsG_at 547 (by decide +kernel) (by decide +kernel)
theorem k548 : (Cond.static ({ cls := "PageSkeleton$Walker", name := "atEnd", desc := "(III)I" } : MethodName)) ∈ wsG := wsG_at 548 (by decide +kernel) (by decide +kernel)
theorem k549 : (Cond.code ({ cls := "PageSkeleton$Walker", name := "atEnd", desc := "(III)I" } : MethodName) prog_10_method_3_code (3 : Nat) (Option.some FieldType.int)) ∈ wsG := wsG_at 549 (by decide +kernel) (by decide +kernel)
theorem k550 : (Cond.methodLink "PageSkeleton$Walker" (29 : Nat) ({ cls := "PageSkeleton$Walker", name := "nothing", desc := "(II)I" } : MethodName)) ∈ wsG := wsG_at 550 (by decide +kernel) (by decide +kernel)
theorem k551 : (Cond.static ({ cls := "PageSkeleton$Walker", name := "nothing", desc := "(II)I" } : MethodName)) ∈ wsG := wsG_at 551 (by decide +kernel) (by decide +kernel)
theorem k552 : (Cond.code ({ cls := "PageSkeleton$Walker", name := "nothing", desc := "(II)I" } : MethodName) prog_10_method_4_code (2 : Nat) (Option.some FieldType.int)) ∈ wsG := wsG_at 552 (by decide +kernel) (by decide +kernel)
theorem k848 : (Cond.methodLink "PageSkeleton" (228 : Nat) ({ cls := "PageSkeleton$Walker", name := "goThrough", desc := "(LPageSkeleton$Row;[III)I" } : MethodName)) ∈ wsG := wsG_at 848 (by decide +kernel) (by decide +kernel)
theorem dX8_atEnd_0 : decode cX8_atEnd 0 = .ok (.iload_n 2, 1) := by decide +kernel
theorem dX8_atEnd_1 : decode cX8_atEnd 1 = .ok (.ifCond .ne 14, 3) := by decide +kernel
theorem dX8_atEnd_4 : decode cX8_atEnd 4 = .ok (.iload_n 0, 1) := by decide +kernel
theorem dX8_atEnd_5 : decode cX8_atEnd 5 = .ok (.iload_n 1, 1) := by decide +kernel
theorem dX8_atEnd_6 : decode cX8_atEnd 6 = .ok (.if_icmp .ne 7, 3) := by decide +kernel
theorem dX8_atEnd_9 : decode cX8_atEnd 9 = .ok (.iconst 1, 1) := by decide +kernel
theorem dX8_atEnd_10 : decode cX8_atEnd 10 = .ok (.goto 4, 3) := by decide +kernel
theorem dX8_atEnd_13 : decode cX8_atEnd 13 = .ok (.iconst 0, 1) := by decide +kernel
theorem dX8_atEnd_14 : decode cX8_atEnd 14 = .ok (.ireturn, 1) := by decide +kernel
theorem dX8_nothing_0 : decode cX8_nothing 0 = .ok (.iload_n 1, 1) := by decide +kernel
theorem dX8_nothing_1 : decode cX8_nothing 1 = .ok (.ifCond .ne 5, 3) := by decide +kernel
theorem dX8_nothing_4 : decode cX8_nothing 4 = .ok (.iconst 0, 1) := by decide +kernel
theorem dX8_nothing_5 : decode cX8_nothing 5 = .ok (.ireturn, 1) := by decide +kernel
theorem dX8_goThrough_11 : decode cX8_goThrough 11 = .ok (.iload 6, 2) := by decide +kernel
theorem dX8_goThrough_13 : decode cX8_goThrough 13 = .ok (.ifCond .lt 114, 3) := by decide +kernel
theorem dX8_goThrough_16 : decode cX8_goThrough 16 = .ok (.iload 6, 2) := by decide +kernel
theorem dX8_goThrough_18 : decode cX8_goThrough 18 = .ok (.iload 5, 2) := by decide +kernel
theorem dX8_goThrough_20 : decode cX8_goThrough 20 = .ok (.imul, 1) := by decide +kernel
theorem dX8_goThrough_21 : decode cX8_goThrough 21 = .ok (.istore 7, 2) := by decide +kernel
theorem dX8_goThrough_23 : decode cX8_goThrough 23 = .ok (.aload_n 0, 1) := by decide +kernel
theorem dX8_goThrough_24 : decode cX8_goThrough 24 = .ok (.getfield 10, 3) := by decide +kernel
theorem dX8_goThrough_27 : decode cX8_goThrough 27 = .ok (.iload 7, 2) := by decide +kernel
theorem dX8_goThrough_29 : decode cX8_goThrough 29 = .ok (.aload_n 1, 1) := by decide +kernel
theorem dX8_goThrough_30 : decode cX8_goThrough 30 = .ok (.getfield 19, 3) := by decide +kernel
theorem dX8_goThrough_33 : decode cX8_goThrough 33 = .ok (.iadd, 1) := by decide +kernel
theorem dX8_goThrough_34 : decode cX8_goThrough 34 = .ok (.iload 6, 2) := by decide +kernel
theorem dX8_goThrough_36 : decode cX8_goThrough 36 = .ok (.iload_n 3, 1) := by decide +kernel
theorem dX8_goThrough_37 : decode cX8_goThrough 37 = .ok (.iload 4, 2) := by decide +kernel
theorem dX8_goThrough_39 : decode cX8_goThrough 39 = .ok (.invokestatic 25, 3) := by decide +kernel
theorem dX8_goThrough_42 : decode cX8_goThrough 42 = .ok (.iastore, 1) := by decide +kernel
theorem dX8_goThrough_43 : decode cX8_goThrough 43 = .ok (.aload_n 0, 1) := by decide +kernel
theorem dX8_goThrough_44 : decode cX8_goThrough 44 = .ok (.getfield 16, 3) := by decide +kernel
theorem dX8_goThrough_47 : decode cX8_goThrough 47 = .ok (.aload_n 1, 1) := by decide +kernel
theorem dX8_goThrough_48 : decode cX8_goThrough 48 = .ok (.getfield 19, 3) := by decide +kernel
theorem dX8_goThrough_51 : decode cX8_goThrough 51 = .ok (.iload 6, 2) := by decide +kernel
theorem dX8_goThrough_53 : decode cX8_goThrough 53 = .ok (.iload 4, 2) := by decide +kernel
theorem dX8_goThrough_55 : decode cX8_goThrough 55 = .ok (.invokestatic 29, 3) := by decide +kernel
theorem dX8_goThrough_58 : decode cX8_goThrough 58 = .ok (.iastore, 1) := by decide +kernel
theorem dX8_goThrough_59 : decode cX8_goThrough 59 = .ok (.aload_n 1, 1) := by decide +kernel
theorem dX8_goThrough_60 : decode cX8_goThrough 60 = .ok (.getfield 19, 3) := by decide +kernel
theorem dX8_goThrough_63 : decode cX8_goThrough 63 = .ok (.iconst 1, 1) := by decide +kernel
theorem dX8_goThrough_64 : decode cX8_goThrough 64 = .ok (.isub, 1) := by decide +kernel
theorem dX8_goThrough_65 : decode cX8_goThrough 65 = .ok (.istore 8, 2) := by decide +kernel
theorem dX8_goThrough_67 : decode cX8_goThrough 67 = .ok (.iload 8, 2) := by decide +kernel
theorem dX8_goThrough_69 : decode cX8_goThrough 69 = .ok (.ifCond .lt 22, 3) := by decide +kernel
theorem dX8_goThrough_91 : decode cX8_goThrough 91 = .ok (.aload_n 1, 1) := by decide +kernel
theorem dX8_goThrough_92 : decode cX8_goThrough 92 = .ok (.getfield 19, 3) := by decide +kernel
theorem dX8_goThrough_95 : decode cX8_goThrough 95 = .ok (.iconst 1, 1) := by decide +kernel
theorem dX8_goThrough_96 : decode cX8_goThrough 96 = .ok (.isub, 1) := by decide +kernel
theorem dX8_goThrough_97 : decode cX8_goThrough 97 = .ok (.istore 8, 2) := by decide +kernel
theorem dX8_goThrough_99 : decode cX8_goThrough 99 = .ok (.iload 8, 2) := by decide +kernel
theorem dX8_goThrough_101 : decode cX8_goThrough 101 = .ok (.ifCond .lt 20, 3) := by decide +kernel
theorem dX8_goThrough_121 : decode cX8_goThrough 121 = .ok (.iinc 6 (-1), 3) := by decide +kernel
theorem dX8_goThrough_124 : decode cX8_goThrough 124 = .ok (.goto (-113), 3) := by decide +kernel
theorem dX8_goThrough_0 : decode cX8_goThrough 0 = .ok (.aload_n 1, 1) := by decide +kernel
theorem dX8_goThrough_1 : decode cX8_goThrough 1 = .ok (.getfield 19, 3) := by decide +kernel
theorem dX8_goThrough_4 : decode cX8_goThrough 4 = .ok (.iconst 1, 1) := by decide +kernel
theorem dX8_goThrough_5 : decode cX8_goThrough 5 = .ok (.iadd, 1) := by decide +kernel
theorem dX8_goThrough_6 : decode cX8_goThrough 6 = .ok (.istore 5, 2) := by decide +kernel
theorem dX8_goThrough_8 : decode cX8_goThrough 8 = .ok (.iload_n 3, 1) := by decide +kernel
theorem dX8_goThrough_9 : decode cX8_goThrough 9 = .ok (.istore 6, 2) := by decide +kernel
theorem dX8_goThrough_127 : decode cX8_goThrough 127 = .ok (.aload_n 0, 1) := by decide +kernel
theorem dX8_goThrough_128 : decode cX8_goThrough 128 = .ok (.getfield 10, 3) := by decide +kernel
theorem dX8_goThrough_131 : decode cX8_goThrough 131 = .ok (.iconst 0, 1) := by decide +kernel
theorem dX8_goThrough_132 : decode cX8_goThrough 132 = .ok (.iaload, 1) := by decide +kernel
theorem dX8_goThrough_133 : decode cX8_goThrough 133 = .ok (.ireturn, 1) := by decide +kernel
theorem dX9_derived_11 : decode cX9_derived 11 = .ok (.iconst 1, 1) := by decide +kernel
theorem dX9_derived_12 : decode cX9_derived 12 = .ok (.goto 4, 3) := by decide +kernel
theorem dX9_derived_19 : decode cX9_derived 19 = .ok (.aload_n 0, 1) := by decide +kernel
theorem dX9_derived_20 : decode cX9_derived 20 = .ok (.getfield 68, 3) := by decide +kernel
theorem dX9_derived_23 : decode cX9_derived 23 = .ok (.aload_n 0, 1) := by decide +kernel
theorem dX9_derived_24 : decode cX9_derived 24 = .ok (.getfield 31, 3) := by decide +kernel
theorem dX9_derived_27 : decode cX9_derived 27 = .ok (.aload_n 0, 1) := by decide +kernel
theorem dX9_derived_28 : decode cX9_derived 28 = .ok (.getfield 79, 3) := by decide +kernel
theorem dX9_derived_31 : decode cX9_derived 31 = .ok (.iload_n 1, 1) := by decide +kernel
theorem dX9_derived_32 : decode cX9_derived 32 = .ok (.iconst 0, 1) := by decide +kernel
theorem dX9_derived_33 : decode cX9_derived 33 = .ok (.invokevirtual 228, 3) := by decide +kernel
theorem dX9_derived_36 : decode cX9_derived 36 = .ok (.ireturn, 1) := by decide +kernel
set_option maxHeartbeats 4000000 in
set_option maxRecDepth 100000 in
theorem c_atEnd (l : Launch) (dC : Nat → ClassId) (dI : Nat → Nat → Nat) (sz : Nat) (p1 : Int32) (p2 : Int32)  : Met l yX8_atEnd (Cond.code yX8_atEnd cX8_atEnd 3 (some .int) :: wsG) ({ frames := 1, cells := 0, slots := 0, locals := 14 } : Room) (va_Pc [.int p1, .int p2, .int 0] (fun U => U.heap.size = sz ∧ va_P (dC, dI) vwCl [] U.heap ∧ va_K (dC, dI) vwCl [] U ∧ va_D (fun _ => True) [])) (va_Qi (fun (r : Int32) (_ : Unit) => r = if p1 = p2 then 1 else 0) (fun (_ : Unit) (t : State) => va_P (dC, dI) vwCl [] t.heap ∧ va_K (dC, dI) vwCl [] t ∧ va_D (va_A [] sz) []) (va_A [] sz)) 0 0 (va_A [] sz) := by
  refine Met.ofW (cc := cX8_atEnd) (maxL := 3) (ret := (some .int)) (by decide) rfl ?_
  intro p e s m args below meth c s₁ B hml hv
  obtain ⟨rfl, hsz, hP, hK, hD0⟩ := hv
  have hx := B.exec
  have hb := B.bytes
  have hr := B.returns
  have hts : ∀ w ∈ wsG, w.before _ s = true := hG_of (atoms_spec (ws := (Cond.code yX8_atEnd cX8_atEnd 3 (some .int) :: wsG)) B.pre)
  have hown : s.vm.findClass RX8 = some m.cls := findClass_of_methodNamed B.named
  have hlocks := B.notSynchronized
  subst hsz
  have hD := hD0.self (sz := s.heap.size)
  generalize hAe : va_A [] s.heap.size = A at hD ⊢
  have hA : ∀ q : Nat, s.heap.size ≤ q → A q := fun q h => by rw [← hAe]; exact Or.inr h
  have hS : va_S A s.heap s.heap [] := va_S.rf
  have hl := lv_entry ([.int p1, .int p2, .int 0]) (n := 3) (Nat.le_of_ble_eq_true rfl)
  rw [lg_entry_eq]
  generalize (lg_sl ([.int p1, .int p2, .int 0]) ++ List.replicate (3 - (lg_sl ([.int p1, .int p2, .int 0])).length) Slot.unset).toArray = ls at hl ⊢
  have hl : lv_has ls 3 [(0, .int p1), (1, .int p2), (2, .int 0)] := hl
  refine lv_iload_n hx hb dX8_atEnd_0 rfl (lv_at hl 2 rfl) ?_
  refine lv_if_ne (tgt := 15) hx hb dX8_atEnd_1 (by decide) (fun c9 => absurd (by decide +kernel) c9) (fun _ => ?_)
  refine lv_iload_n hx hb dX8_atEnd_4 rfl (lv_at hl 0 rfl) ?_
  refine lv_iload_n hx hb dX8_atEnd_5 rfl (lv_at hl 1 rfl) ?_
  refine lv_icmp_ne (tgt := 13) hx hb dX8_atEnd_6 (by decide) (fun c6_ => ?_) (fun c6_ => ?_)
  · refine lv_iconst (v := 0) hx hb dX8_atEnd_13 (by decide) ?_
    have hP9 := hP.sub (ws' := []) [] rfl
    have hD9 := hD.sub (ws' := []) [] (by decide) rfl
    have hK9 := hK.sub (tys' := []) [] rfl
    refine W.widen (k := 0) (n := 0) (by omega) (by omega) ?_
    exact W.iret (v := 0) hx hb hr (fun t ht hW => ⟨⟨0, (), rfl, (by rw [if_neg c6_]), by rw [ht]; exact hP9, va_K.moved hW.alike hK9, hD9⟩, hS.F ht⟩) hS.2.2 dX8_atEnd_14
  · refine lv_iconst (v := 1) hx hb dX8_atEnd_9 (by decide) ?_
    refine lv_goto (tgt := 14) hx hb dX8_atEnd_10 (by decide) ?_
    have hP9 := hP.sub (ws' := []) [] rfl
    have hD9 := hD.sub (ws' := []) [] (by decide) rfl
    have hK9 := hK.sub (tys' := []) [] rfl
    refine W.widen (k := 0) (n := 0) (by omega) (by omega) ?_
    exact W.iret (v := 1) hx hb hr (fun t ht hW => ⟨⟨1, (), rfl, (by rw [if_pos c6_]), by rw [ht]; exact hP9, va_K.moved hW.alike hK9, hD9⟩, hS.F ht⟩) hS.2.2 dX8_atEnd_14
set_option maxHeartbeats 4000000 in
set_option maxRecDepth 100000 in
theorem c_nothing (l : Launch) (dC : Nat → ClassId) (dI : Nat → Nat → Nat) (sz : Nat) (p1 : Int32)  : Met l yX8_nothing (Cond.code yX8_nothing cX8_nothing 2 (some .int) :: wsG) ({ frames := 1, cells := 0, slots := 0, locals := 14 } : Room) (va_Pc [.int p1, .int 0] (fun U => U.heap.size = sz ∧ va_P (dC, dI) vwCl [] U.heap ∧ va_K (dC, dI) vwCl [] U ∧ va_D (fun _ => True) [])) (va_Qi (fun (r : Int32) (_ : Unit) => r = 0) (fun (_ : Unit) (t : State) => va_P (dC, dI) vwCl [] t.heap ∧ va_K (dC, dI) vwCl [] t ∧ va_D (va_A [] sz) []) (va_A [] sz)) 0 0 (va_A [] sz) := by
  refine Met.ofW (cc := cX8_nothing) (maxL := 2) (ret := (some .int)) (by decide) rfl ?_
  intro p e s m args below meth c s₁ B hml hv
  obtain ⟨rfl, hsz, hP, hK, hD0⟩ := hv
  have hx := B.exec
  have hb := B.bytes
  have hr := B.returns
  have hts : ∀ w ∈ wsG, w.before _ s = true := hG_of (atoms_spec (ws := (Cond.code yX8_nothing cX8_nothing 2 (some .int) :: wsG)) B.pre)
  have hown : s.vm.findClass RX8 = some m.cls := findClass_of_methodNamed B.named
  have hlocks := B.notSynchronized
  subst hsz
  have hD := hD0.self (sz := s.heap.size)
  generalize hAe : va_A [] s.heap.size = A at hD ⊢
  have hA : ∀ q : Nat, s.heap.size ≤ q → A q := fun q h => by rw [← hAe]; exact Or.inr h
  have hS : va_S A s.heap s.heap [] := va_S.rf
  have hl := lv_entry ([.int p1, .int 0]) (n := 2) (Nat.le_of_ble_eq_true rfl)
  rw [lg_entry_eq]
  generalize (lg_sl ([.int p1, .int 0]) ++ List.replicate (2 - (lg_sl ([.int p1, .int 0])).length) Slot.unset).toArray = ls at hl ⊢
  have hl : lv_has ls 2 [(0, .int p1), (1, .int 0)] := hl
  refine lv_iload_n hx hb dX8_nothing_0 rfl (lv_at hl 1 rfl) ?_
  refine lv_if_ne (tgt := 6) hx hb dX8_nothing_1 (by decide) (fun c9 => absurd (by decide +kernel) c9) (fun _ => ?_)
  refine lv_iconst (v := 0) hx hb dX8_nothing_4 (by decide) ?_
  have hP9 := hP.sub (ws' := []) [] rfl
  have hD9 := hD.sub (ws' := []) [] (by decide) rfl
  have hK9 := hK.sub (tys' := []) [] rfl
  refine W.widen (k := 0) (n := 0) (by omega) (by omega) ?_
  exact W.iret (v := 0) hx hb hr (fun t ht hW => ⟨⟨0, (), rfl, rfl, by rw [ht]; exact hP9, va_K.moved hW.alike hK9, hD9⟩, hS.F ht⟩) hS.2.2 dX8_nothing_5
set_option maxHeartbeats 4000000 in
set_option maxRecDepth 100000 in
theorem gt_iter {p : Program} {l : Launch} {e : Env} {s : State} {m : MethodId} {args : Array Value} {below : List Frame} {meth : Method} {c : Code} {Q : State → Prop} {dC : Nat → ClassId} {dI : Nat → Nat → Nat} {A : Nat → Prop} {H0 : Heap} {w35 w36 w37 w8 w9 w10 w11 w12 w13 wh : Nat} {d38 d39 : ClassId} (hx : p.tables.exec = Jvm.exec) (hb : c.code = cX8_goThrough) (hml : c.maxLocals = 9) (hown : s.vm.findClass RX8 = some m.cls) (hts : ∀ w ∈ wsG, w.before args s = true) (hA : ∀ q : Nat, H0.size ≤ q → A q) (hK : va_K (dC, dI) vwCl [(d38, .int), (d39, .int)] s) {n0 K : Nat} (hn : n0 ≤ 60) (hk0 : K ≤ n0) (f f1 : Nat → Int32)
    (hk : ∀ (r k2 : Int32) (f2 : Nat → Int32) (H : Heap) (locs : List Loc) (ls : Array Slot), r = (if nI K = nI n0 then 1 else 0) → k2 = nI K + (-1) → va_P (dC, dI) vwCl [(w35, .inr (8, [.ref w36, .ref w37])), (w36, .inl (d38, 67161, .inl (upd f (nI K : Int32).toNatClampNeg r))), (w37, .inl (d39, 1101, .inl (f2))), (w8, .inr (4, [.ref w9, .ref w10, .ref w11, .ref w12, .ref w13, .int 0, .int 0, .int 0]))] H → va_D A [(w35, .inr (8, [.ref w36, .ref w37])), (w36, .inl (d38, 67161, .inl (upd f (nI K : Int32).toNatClampNeg r))), (w37, .inl (d39, 1101, .inl (f2))), (w8, .inr (4, [.ref w9, .ref w10, .ref w11, .ref w12, .ref w13, .int 0, .int 0, .int 0]))] → va_S A H0 H locs → lv_has ls 9 [(6, .int k2), (5, .int 1), (0, .ref w35), (1, .ref w8), (2, .ref wh), (3, .int (nI n0)), (4, .int 0)] → W p l e ({ frames := 2, cells := 0, slots := 0, locals := 60 } : Room) s m args below meth c H locs 0 0 Q (F0 m 11 ls []))
    (H : Heap) (locs : List Loc) (ls : Array Slot) (hP : va_P (dC, dI) vwCl [(w35, .inr (8, [.ref w36, .ref w37])), (w36, .inl (d38, 67161, .inl (f))), (w37, .inl (d39, 1101, .inl (f1))), (w8, .inr (4, [.ref w9, .ref w10, .ref w11, .ref w12, .ref w13, .int 0, .int 0, .int 0]))] H) (hD : va_D A [(w35, .inr (8, [.ref w36, .ref w37])), (w36, .inl (d38, 67161, .inl (f))), (w37, .inl (d39, 1101, .inl (f1))), (w8, .inr (4, [.ref w9, .ref w10, .ref w11, .ref w12, .ref w13, .int 0, .int 0, .int 0]))]) (hS : va_S A H0 H locs) (hl : lv_has ls 9 [(6, .int (nI K)), (5, .int 1), (0, .ref w35), (1, .ref w8), (2, .ref wh), (3, .int (nI n0)), (4, .int 0)]) : W p l e ({ frames := 2, cells := 0, slots := 0, locals := 60 } : Room) s m args below meth c H locs 0 0 Q (F0 m 11 ls []) := by
  refine lv_iload hx hb dX8_goThrough_11 (lv_at hl 0 rfl) ?_
  refine lv_if_lt (tgt := 127) hx hb dX8_goThrough_13 (by decide) (fun c13_ => absurd c13_ (nI_pos (by omega))) (fun _ => ?_)
  refine lv_iload hx hb dX8_goThrough_16 (lv_at hl 0 rfl) ?_
  refine lv_iload hx hb dX8_goThrough_18 (lv_at hl 1 rfl) ?_
  refine lv_imul hx hb dX8_goThrough_20 ?_
  refine lv_topi (fun x9 ex9 => ?_)
  obtain rfl : x9 = nI K := ex9.trans (Int32.mul_one _)
  refine lv_istore (lv' := [(7, .int (nI K)), (6, .int (nI K)), (5, .int 1), (0, .ref w35), (1, .ref w8), (2, .ref wh), (3, .int (nI n0)), (4, .int 0)]) hx hb dX8_goThrough_21 hl (by decide) rfl (fun ls hl => ?_)
  refine lv_aload_n hx hb dX8_goThrough_23 rfl (lv_at hl 3 rfl) ?_
  refine va_get (D := (dC, dI)) (ci := 8) (v := .ref w36) (C := RX8) (T := TX8) (N := 2) hx hb hts inG8 hown hK hP 0 rfl rfl 0 (by decide) (hts _ k211) (fun _ h9 => h9) rfl dX8_goThrough_24 ?_
  refine lv_iload hx hb dX8_goThrough_27 (lv_at hl 0 rfl) ?_
  refine lv_aload_n hx hb dX8_goThrough_29 rfl (lv_at hl 4 rfl) ?_
  refine va_get (D := (dC, dI)) (ci := 4) (v := .int 0) (C := RX4) (T := TX4) (N := 8) hx hb hts inG4 hown hK hP 3 rfl rfl 5 (by decide) (hts _ k93) (fun _ h9 => h9) rfl dX8_goThrough_30 ?_
  refine lv_iadd hx hb dX8_goThrough_33 ?_
  refine lv_topi (fun x9 ex9 => ?_)
  obtain rfl : x9 = nI K := ex9.trans (Int32.add_zero _)
  refine lv_iload hx hb dX8_goThrough_34 (lv_at hl 1 rfl) ?_
  refine lv_iload_n hx hb dX8_goThrough_36 rfl (lv_at hl 6 rfl) ?_
  refine lv_iload hx hb dX8_goThrough_37 (lv_at hl 7 rfl) ?_
  have hPc := hP.sub (ws' := []) [] rfl
  have hDc := hD.sub (ws' := []) [] (by decide) rfl
  have hKc := hK.sub (tys' := []) [] rfl
  have hFc := va_free (wc := []) hD hS hA [] rfl
  refine va_calli (va_runS (As := [.int (nI K), .int (nI n0), .int 0]) (rest := [.int (nI K), .ref w36]) ⟨hx, hb, hml, hown, hts⟩ (c_atEnd l dC dI H.size ((nI K)) ((nI n0))) (cwS 3 hts (gS_G k547 k548 k8 k549) rfl rfl rfl (by decide +kernel) ⟨Nat.le_of_ble_eq_true rfl, Nat.le_of_ble_eq_true rfl⟩) ⟨fun a U g mk q => by obtain ⟨q0, q1, qP, qK, qD⟩ := q; exact ⟨q0, q1, qP, va_K.moved (u := U) (U := U.calling g mk a) (Vm.Alike.refl U.vm) qK, qD⟩, fun U hU hW => ⟨rfl, by rw [hU], by rw [hU]; exact hPc, va_K.moved hW.alike hKc, hDc.weaken (fun _ _ _ _ => trivial)⟩⟩ rfl rfl hl.1 rfl (lv_room (Nat.le_of_ble_eq_true rfl)) dX8_goThrough_39 ⟨Nat.le_of_ble_eq_true rfl, Nat.le_of_ble_eq_true rfl⟩) hS (fun q _ h => hFc q h) hFc (fun r1 u t H1 locs ht hvm hw hB hz1 hk1 hS => ?_)
  obtain ⟨hP1, hK1, hD1⟩ := hB
  rw [ht] at hP1
  have hK1 := va_K.moved hvm.symm hK1
  try dsimp only at hw
  have hw_ := hw
  obtain ⟨hP, hD⟩ := va_join (wr := [(w35, .inr (8, [.ref w36, .ref w37])), (w36, .inl (d38, 67161, .inl (f))), (w37, .inl (d39, 1101, .inl (f1))), (w8, .inr (4, [.ref w9, .ref w10, .ref w11, .ref w12, .ref w13, .int 0, .int 0, .int 0]))]) (w1 := []) hP hD [] [0, 1, 2, 3] rfl rfl (by decide) (by decide) hk1 hFc hP1 hD1
  have hK := hK.app hK1
  generalize H1 = H at hP hS ⊢
  have hP : va_P (dC, dI) vwCl [(w35, .inr (8, [.ref w36, .ref w37])), (w36, .inl (d38, 67161, .inl (f))), (w37, .inl (d39, 1101, .inl (f1))), (w8, .inr (4, [.ref w9, .ref w10, .ref w11, .ref w12, .ref w13, .int 0, .int 0, .int 0]))] H := hP
  have hD : va_D A [(w35, .inr (8, [.ref w36, .ref w37])), (w36, .inl (d38, 67161, .inl (f))), (w37, .inl (d39, 1101, .inl (f1))), (w8, .inr (4, [.ref w9, .ref w10, .ref w11, .ref w12, .ref w13, .int 0, .int 0, .int 0]))] := hD
  have hK : va_K (dC, dI) vwCl [(d38, .int), (d39, .int)] s := hK
  refine W.widen (k := 0) (n := 0) (by omega) (by omega) ?_
  refine va_iast hx hb hK hP hD hS 1 0 rfl rfl (vp_in_nI (by omega) (by omega)) dX8_goThrough_42 (fun H locs hP hD hS => ?_)
  have hP : va_P (dC, dI) vwCl [(w35, .inr (8, [.ref w36, .ref w37])), (w36, .inl (d38, 67161, .inl (upd (f) ((nI K) : Int32).toNatClampNeg (r1)))), (w37, .inl (d39, 1101, .inl (f1))), (w8, .inr (4, [.ref w9, .ref w10, .ref w11, .ref w12, .ref w13, .int 0, .int 0, .int 0]))] H := hP
  have hD : va_D A [(w35, .inr (8, [.ref w36, .ref w37])), (w36, .inl (d38, 67161, .inl (upd (f) ((nI K) : Int32).toNatClampNeg (r1)))), (w37, .inl (d39, 1101, .inl (f1))), (w8, .inr (4, [.ref w9, .ref w10, .ref w11, .ref w12, .ref w13, .int 0, .int 0, .int 0]))] := hD
  refine lv_aload_n hx hb dX8_goThrough_43 rfl (lv_at hl 3 rfl) ?_
  refine va_get (D := (dC, dI)) (ci := 8) (v := .ref w37) (C := RX8) (T := TX8) (N := 2) hx hb hts inG8 hown hK hP 0 rfl rfl 1 (by decide) (hts _ k212) (fun _ h9 => h9) rfl dX8_goThrough_44 ?_
  refine lv_aload_n hx hb dX8_goThrough_47 rfl (lv_at hl 4 rfl) ?_
  refine va_get (D := (dC, dI)) (ci := 4) (v := .int 0) (C := RX4) (T := TX4) (N := 8) hx hb hts inG4 hown hK hP 3 rfl rfl 5 (by decide) (hts _ k93) (fun _ h9 => h9) rfl dX8_goThrough_48 ?_
  refine lv_iload hx hb dX8_goThrough_51 (lv_at hl 1 rfl) ?_
  refine lv_iload hx hb dX8_goThrough_53 (lv_at hl 7 rfl) ?_
  have hPc := hP.sub (ws' := []) [] rfl
  have hDc := hD.sub (ws' := []) [] (by decide) rfl
  have hKc := hK.sub (tys' := []) [] rfl
  have hFc := va_free (wc := []) hD hS hA [] rfl
  refine va_calli (va_runS (As := [.int (nI K), .int 0]) (rest := [.int 0, .ref w37]) ⟨hx, hb, hml, hown, hts⟩ (c_nothing l dC dI H.size ((nI K))) (cwS 2 hts (gS_G k550 k551 k8 k552) rfl rfl rfl (by decide +kernel) ⟨Nat.le_of_ble_eq_true rfl, Nat.le_of_ble_eq_true rfl⟩) ⟨fun a U g mk q => by obtain ⟨q0, q1, qP, qK, qD⟩ := q; exact ⟨q0, q1, qP, va_K.moved (u := U) (U := U.calling g mk a) (Vm.Alike.refl U.vm) qK, qD⟩, fun U hU hW => ⟨rfl, by rw [hU], by rw [hU]; exact hPc, va_K.moved hW.alike hKc, hDc.weaken (fun _ _ _ _ => trivial)⟩⟩ rfl rfl hl.1 rfl (lv_room (Nat.le_of_ble_eq_true rfl)) dX8_goThrough_55 ⟨Nat.le_of_ble_eq_true rfl, Nat.le_of_ble_eq_true rfl⟩) hS (fun q _ h => hFc q h) hFc (fun r3 u t H1 locs ht hvm hw hB hz1 hk1 hS => ?_)
  obtain ⟨hP1, hK1, hD1⟩ := hB
  rw [ht] at hP1
  have hK1 := va_K.moved hvm.symm hK1
  try dsimp only at hw
  obtain ⟨hP, hD⟩ := va_join (wr := [(w35, .inr (8, [.ref w36, .ref w37])), (w36, .inl (d38, 67161, .inl (upd (f) ((nI K) : Int32).toNatClampNeg (r1)))), (w37, .inl (d39, 1101, .inl (f1))), (w8, .inr (4, [.ref w9, .ref w10, .ref w11, .ref w12, .ref w13, .int 0, .int 0, .int 0]))]) (w1 := []) hP hD [] [0, 1, 2, 3] rfl rfl (by decide) (by decide) hk1 hFc hP1 hD1
  have hK := hK.app hK1
  generalize H1 = H at hP hS ⊢
  have hP : va_P (dC, dI) vwCl [(w35, .inr (8, [.ref w36, .ref w37])), (w36, .inl (d38, 67161, .inl (upd (f) ((nI K) : Int32).toNatClampNeg (r1)))), (w37, .inl (d39, 1101, .inl (f1))), (w8, .inr (4, [.ref w9, .ref w10, .ref w11, .ref w12, .ref w13, .int 0, .int 0, .int 0]))] H := hP
  have hD : va_D A [(w35, .inr (8, [.ref w36, .ref w37])), (w36, .inl (d38, 67161, .inl (upd (f) ((nI K) : Int32).toNatClampNeg (r1)))), (w37, .inl (d39, 1101, .inl (f1))), (w8, .inr (4, [.ref w9, .ref w10, .ref w11, .ref w12, .ref w13, .int 0, .int 0, .int 0]))] := hD
  have hK : va_K (dC, dI) vwCl [(d38, .int), (d39, .int)] s := hK
  refine W.widen (k := 0) (n := 0) (by omega) (by omega) ?_
  obtain rfl : r3 = 0 := hw
  refine va_iast hx hb hK hP hD hS 2 1 rfl rfl (by unfold vp_in; decide +kernel) dX8_goThrough_58 (fun H locs hP hD hS => ?_)
  have hP : va_P (dC, dI) vwCl [(w35, .inr (8, [.ref w36, .ref w37])), (w36, .inl (d38, 67161, .inl (upd (f) ((nI K) : Int32).toNatClampNeg (r1)))), (w37, .inl (d39, 1101, .inl (upd (f1) (0 : Int32).toNatClampNeg (0)))), (w8, .inr (4, [.ref w9, .ref w10, .ref w11, .ref w12, .ref w13, .int 0, .int 0, .int 0]))] H := hP
  have hD : va_D A [(w35, .inr (8, [.ref w36, .ref w37])), (w36, .inl (d38, 67161, .inl (upd (f) ((nI K) : Int32).toNatClampNeg (r1)))), (w37, .inl (d39, 1101, .inl (upd (f1) (0 : Int32).toNatClampNeg (0)))), (w8, .inr (4, [.ref w9, .ref w10, .ref w11, .ref w12, .ref w13, .int 0, .int 0, .int 0]))] := hD
  generalize upd (f1) (0 : Int32).toNatClampNeg (0) = f4 at hP hD
  refine lv_aload_n hx hb dX8_goThrough_59 rfl (lv_at hl 4 rfl) ?_
  refine va_get (D := (dC, dI)) (ci := 4) (v := .int 0) (C := RX4) (T := TX4) (N := 8) hx hb hts inG4 hown hK hP 3 rfl rfl 5 (by decide) (hts _ k93) (fun _ h9 => h9) rfl dX8_goThrough_60 ?_
  refine lv_iconst (v := 1) hx hb dX8_goThrough_63 (by decide) ?_
  refine lv_isub hx hb dX8_goThrough_64 ?_
  refine lv_topi (fun x9 ex9 => ?_)
  obtain rfl : x9 = (-1) := ex9.trans (by decide +kernel)
  refine lv_istore (lv' := [(8, .int (-1)), (7, .int (nI K)), (6, .int (nI K)), (5, .int 1), (0, .ref w35), (1, .ref w8), (2, .ref wh), (3, .int (nI n0)), (4, .int 0)]) hx hb dX8_goThrough_65 hl (by decide) rfl (fun ls hl => ?_)
  refine lv_iload hx hb dX8_goThrough_67 (lv_at hl 0 rfl) ?_
  refine lv_if_lt (tgt := 91) hx hb dX8_goThrough_69 (by decide) (fun _ => ?_) (fun c9 => absurd (by decide +kernel) c9)
  refine lv_aload_n hx hb dX8_goThrough_91 rfl (lv_at hl 5 rfl) ?_
  refine va_get (D := (dC, dI)) (ci := 4) (v := .int 0) (C := RX4) (T := TX4) (N := 8) hx hb hts inG4 hown hK hP 3 rfl rfl 5 (by decide) (hts _ k93) (fun _ h9 => h9) rfl dX8_goThrough_92 ?_
  refine lv_iconst (v := 1) hx hb dX8_goThrough_95 (by decide) ?_
  refine lv_isub hx hb dX8_goThrough_96 ?_
  refine lv_topi (fun x9 ex9 => ?_)
  obtain rfl : x9 = (-1) := ex9.trans (by decide +kernel)
  refine lv_istore (lv' := [(8, .int (-1)), (7, .int (nI K)), (6, .int (nI K)), (5, .int 1), (0, .ref w35), (1, .ref w8), (2, .ref wh), (3, .int (nI n0)), (4, .int 0)]) hx hb dX8_goThrough_97 hl (by decide) rfl (fun ls hl => ?_)
  refine lv_iload hx hb dX8_goThrough_99 (lv_at hl 0 rfl) ?_
  refine lv_if_lt (tgt := 121) hx hb dX8_goThrough_101 (by decide) (fun _ => ?_) (fun c9 => absurd (by decide +kernel) c9)
  obtain ⟨k2, e_k2⟩ : ∃ y : Int32, y = nI K + (-1) := ⟨_, rfl⟩
  refine lv_iinc (v := k2) (lv' := [(6, .int k2), (8, .int (-1)), (7, .int (nI K)), (5, .int 1), (0, .ref w35), (1, .ref w8), (2, .ref wh), (3, .int (nI n0)), (4, .int 0)]) hx hb dX8_goThrough_121 hl (k := 2) rfl (by rw [e_k2]; rfl) (by decide) rfl (fun ls hl => ?_)
  refine lv_goto (tgt := 11) hx hb dX8_goThrough_124 (by decide) ?_
  have hP9 := hP.sub (ws' := [(w35, .inr (8, [.ref w36, .ref w37])), (w36, .inl (d38, 67161, .inl (upd (f) ((nI K) : Int32).toNatClampNeg (r1)))), (w37, .inl (d39, 1101, .inl (f4))), (w8, .inr (4, [.ref w9, .ref w10, .ref w11, .ref w12, .ref w13, .int 0, .int 0, .int 0]))]) [0, 1, 2, 3] rfl
  have hD9 := hD.sub (ws' := [(w35, .inr (8, [.ref w36, .ref w37])), (w36, .inl (d38, 67161, .inl (upd (f) ((nI K) : Int32).toNatClampNeg (r1)))), (w37, .inl (d39, 1101, .inl (f4))), (w8, .inr (4, [.ref w9, .ref w10, .ref w11, .ref w12, .ref w13, .int 0, .int 0, .int 0]))]) [0, 1, 2, 3] (by decide) rfl
  exact hk r1 k2 (f4) H locs ls hw_ e_k2 hP9 hD9 hS (lv_sub hl [0, 3, 4, 5, 6, 7, 8] rfl)

set_option maxHeartbeats 4000000 in
theorem gt_loop {p : Program} {l : Launch} {e : Env} {s : State} {m : MethodId} {args : Array Value} {below : List Frame} {meth : Method} {c : Code} {Q : State → Prop} {dC : Nat → ClassId} {dI : Nat → Nat → Nat} {A : Nat → Prop} {H0 : Heap} {w35 w36 w37 w8 w9 w10 w11 w12 w13 wh : Nat} {d38 d39 : ClassId} (hx : p.tables.exec = Jvm.exec) (hb : c.code = cX8_goThrough) (hml : c.maxLocals = 9) (hown : s.vm.findClass RX8 = some m.cls) (hts : ∀ w ∈ wsG, w.before args s = true) (hA : ∀ q : Nat, H0.size ≤ q → A q) (hK : va_K (dC, dI) vwCl [(d38, .int), (d39, .int)] s) {n0 : Nat} (hn : n0 ≤ 60)
    (hexit : ∀ (f f1 : Nat → Int32) (H : Heap) (locs : List Loc) (ls : Array Slot), f 0 = (if nI 0 = nI n0 then 1 else 0) → va_P (dC, dI) vwCl [(w35, .inr (8, [.ref w36, .ref w37])), (w36, .inl (d38, 67161, .inl (f))), (w37, .inl (d39, 1101, .inl (f1))), (w8, .inr (4, [.ref w9, .ref w10, .ref w11, .ref w12, .ref w13, .int 0, .int 0, .int 0]))] H → va_D A [(w35, .inr (8, [.ref w36, .ref w37])), (w36, .inl (d38, 67161, .inl (f))), (w37, .inl (d39, 1101, .inl (f1))), (w8, .inr (4, [.ref w9, .ref w10, .ref w11, .ref w12, .ref w13, .int 0, .int 0, .int 0]))] → va_S A H0 H locs → lv_has ls 9 [(5, .int 1), (0, .ref w35), (1, .ref w8), (2, .ref wh), (3, .int (nI n0)), (4, .int 0)] → W p l e ({ frames := 2, cells := 0, slots := 0, locals := 60 } : Room) s m args below meth c H locs 0 0 Q (F0 m 127 ls [])) :
    ∀ (K : Nat), K ≤ n0 → ∀ (f f1 : Nat → Int32) (H : Heap) (locs : List Loc) (ls : Array Slot), va_P (dC, dI) vwCl [(w35, .inr (8, [.ref w36, .ref w37])), (w36, .inl (d38, 67161, .inl (f))), (w37, .inl (d39, 1101, .inl (f1))), (w8, .inr (4, [.ref w9, .ref w10, .ref w11, .ref w12, .ref w13, .int 0, .int 0, .int 0]))] H → va_D A [(w35, .inr (8, [.ref w36, .ref w37])), (w36, .inl (d38, 67161, .inl (f))), (w37, .inl (d39, 1101, .inl (f1))), (w8, .inr (4, [.ref w9, .ref w10, .ref w11, .ref w12, .ref w13, .int 0, .int 0, .int 0]))] → va_S A H0 H locs → lv_has ls 9 [(6, .int (nI K)), (5, .int 1), (0, .ref w35), (1, .ref w8), (2, .ref wh), (3, .int (nI n0)), (4, .int 0)] → W p l e ({ frames := 2, cells := 0, slots := 0, locals := 60 } : Room) s m args below meth c H locs 0 0 Q (F0 m 11 ls []) := by
  intro K
  induction K with
  | zero =>
    intro h0 f f1 H locs ls hP hD hS hl
    refine gt_iter hx hb hml hown hts hA hK hn h0 f f1 (fun r k2 f2 H locs ls hr hk2 hP hD hS hl => ?_) H locs ls hP hD hS hl
    refine lv_iload hx hb dX8_goThrough_11 (lv_at hl 0 rfl) ?_
    refine lv_if_lt (tgt := 127) hx hb dX8_goThrough_13 (by decide) (fun _ => ?_) (fun c9 => absurd (by rw [hk2]; decide +kernel) c9)
    exact hexit _ f2 H locs ls (by rw [show (nI 0 : Int32).toNatClampNeg = 0 by decide +kernel, pk_us]; exact hr) hP hD hS (lv_sub hl [1, 2, 3, 4, 5, 6] rfl)
  | succ K ih =>
    intro h0 f f1 H locs ls hP hD hS hl
    refine gt_iter hx hb hml hown hts hA hK hn h0 f f1 (fun r k2 f2 H locs ls hr hk2 hP hD hS hl => ?_) H locs ls hP hD hS hl
    rw [pk_m1] at hk2
    subst hk2
    exact ih (by omega) _ f2 H locs ls hP hD hS hl

set_option maxHeartbeats 4000000 in
set_option maxRecDepth 100000 in
theorem c_goThrough (l : Launch) (dC : Nat → ClassId) (dI : Nat → Nat → Nat) (sz : Nat) (w35 : Nat) (w36 : Nat) (w37 : Nat) (w8 : Nat) (w9 : Nat) (w10 : Nat) (w11 : Nat) (w12 : Nat) (w13 : Nat) (d38 : ClassId) (d39 : ClassId) (wh : Nat) (n0 : Nat) (hn : n0 ≤ 60) : Met l yX8_goThrough (Cond.code yX8_goThrough cX8_goThrough 9 (some .int) :: wsG) ({ frames := 2, cells := 0, slots := 0, locals := 60 } : Room) (va_Pc [.ref w35, .ref w8, .ref wh, .int (nI n0), .int 0] (fun U => U.heap.size = sz ∧ va_P (dC, dI) vwCl [(w35, .inr (8, [.ref w36, .ref w37])), (w36, .inl (d38, 67161, .inl (fun _ => 0))), (w37, .inl (d39, 1101, .inl (fun _ => 0))), (w8, .inr (4, [.ref w9, .ref w10, .ref w11, .ref w12, .ref w13, .int 0, .int 0, .int 0]))] U.heap ∧ va_K (dC, dI) vwCl [(d38, .int), (d39, .int)] U ∧ va_D (fun _ => True) [(w35, .inr (8, [.ref w36, .ref w37])), (w36, .inl (d38, 67161, .inl (fun _ => 0))), (w37, .inl (d39, 1101, .inl (fun _ => 0))), (w8, .inr (4, [.ref w9, .ref w10, .ref w11, .ref w12, .ref w13, .int 0, .int 0, .int 0]))])) (va_Qi (fun (r : Int32) (_ : Unit) => r = if nI 0 = nI n0 then 1 else 0) (fun (_ : Unit) (t : State) => va_P (dC, dI) vwCl [] t.heap ∧ va_K (dC, dI) vwCl [] t ∧ va_D (va_A [(w35, .inr (8, [.ref w36, .ref w37])), (w36, .inl (d38, 67161, .inl (fun _ => 0))), (w37, .inl (d39, 1101, .inl (fun _ => 0))), (w8, .inr (4, [.ref w9, .ref w10, .ref w11, .ref w12, .ref w13, .int 0, .int 0, .int 0]))] sz) []) (va_A [(w35, .inr (8, [.ref w36, .ref w37])), (w36, .inl (d38, 67161, .inl (fun _ => 0))), (w37, .inl (d39, 1101, .inl (fun _ => 0))), (w8, .inr (4, [.ref w9, .ref w10, .ref w11, .ref w12, .ref w13, .int 0, .int 0, .int 0]))] sz)) 0 0 (va_A [(w35, .inr (8, [.ref w36, .ref w37])), (w36, .inl (d38, 67161, .inl (fun _ => 0))), (w37, .inl (d39, 1101, .inl (fun _ => 0))), (w8, .inr (4, [.ref w9, .ref w10, .ref w11, .ref w12, .ref w13, .int 0, .int 0, .int 0]))] sz) := by
  refine Met.ofW (cc := cX8_goThrough) (maxL := 9) (ret := (some .int)) (by decide) rfl ?_
  intro p e s m args below meth c s₁ B hml hv
  obtain ⟨rfl, hsz, hP, hK, hD0⟩ := hv
  have hx := B.exec
  have hb := B.bytes
  have hr := B.returns
  have hts : ∀ w ∈ wsG, w.before _ s = true := hG_of (atoms_spec (ws := (Cond.code yX8_goThrough cX8_goThrough 9 (some .int) :: wsG)) B.pre)
  have hown : s.vm.findClass RX8 = some m.cls := findClass_of_methodNamed B.named
  have hlocks := B.notSynchronized
  subst hsz
  have hD := hD0.self (sz := s.heap.size)
  generalize hAe : va_A [(w35, .inr (8, [.ref w36, .ref w37])), (w36, .inl (d38, 67161, .inl (fun _ => 0))), (w37, .inl (d39, 1101, .inl (fun _ => 0))), (w8, .inr (4, [.ref w9, .ref w10, .ref w11, .ref w12, .ref w13, .int 0, .int 0, .int 0]))] s.heap.size = A at hD ⊢
  have hA : ∀ q : Nat, s.heap.size ≤ q → A q := fun q h => by rw [← hAe]; exact Or.inr h
  have hS : va_S A s.heap s.heap [] := va_S.rf
  have hl := lv_entry ([.ref w35, .ref w8, .ref wh, .int (nI n0), .int 0]) (n := 9) (Nat.le_of_ble_eq_true rfl)
  rw [lg_entry_eq]
  generalize (lg_sl ([.ref w35, .ref w8, .ref wh, .int (nI n0), .int 0]) ++ List.replicate (9 - (lg_sl ([.ref w35, .ref w8, .ref wh, .int (nI n0), .int 0])).length) Slot.unset).toArray = ls at hl ⊢
  have hl : lv_has ls 9 [(0, .ref w35), (1, .ref w8), (2, .ref wh), (3, .int (nI n0)), (4, .int 0)] := hl
  refine lv_aload_n hx hb dX8_goThrough_0 rfl (lv_at hl 1 rfl) ?_
  refine va_get (D := (dC, dI)) (ci := 4) (v := .int 0) (C := RX4) (T := TX4) (N := 8) hx hb hts inG4 hown hK hP 3 rfl rfl 5 (by decide) (hts _ k93) (fun _ h9 => h9) rfl dX8_goThrough_1 ?_
  refine lv_iconst (v := 1) hx hb dX8_goThrough_4 (by decide) ?_
  refine lv_iadd hx hb dX8_goThrough_5 ?_
  refine lv_topi (fun x9 ex9 => ?_)
  obtain rfl : x9 = 1 := ex9.trans (by decide +kernel)
  refine lv_istore (lv' := [(5, .int 1), (0, .ref w35), (1, .ref w8), (2, .ref wh), (3, .int (nI n0)), (4, .int 0)]) hx hb dX8_goThrough_6 hl (by decide) rfl (fun ls hl => ?_)
  refine lv_iload_n hx hb dX8_goThrough_8 rfl (lv_at hl 4 rfl) ?_
  refine lv_istore (lv' := [(6, .int (nI n0)), (5, .int 1), (0, .ref w35), (1, .ref w8), (2, .ref wh), (3, .int (nI n0)), (4, .int 0)]) hx hb dX8_goThrough_9 hl (by decide) rfl (fun ls hl => ?_)
  refine gt_loop hx hb hml hown hts hA hK hn (fun f f1 H locs ls hf hP hD hS hl => ?_) n0 (Nat.le_refl _) (fun _ => 0) (fun _ => 0) s.heap [] ls hP hD hS (lv_sub hl [0, 1, 2, 3, 4, 5, 6] rfl)
  refine lv_aload_n hx hb dX8_goThrough_127 rfl (lv_at hl 1 rfl) ?_
  refine va_get (D := (dC, dI)) (ci := 8) (v := .ref w36) (C := RX8) (T := TX8) (N := 2) hx hb hts inG8 hown hK hP 0 rfl rfl 0 (by decide) (hts _ k211) (fun _ h9 => h9) rfl dX8_goThrough_128 ?_
  refine lv_iconst (v := 0) hx hb dX8_goThrough_131 (by decide) ?_
  refine va_iald hx hb hK hP 1 0 rfl rfl (by unfold vp_in; decide +kernel) dX8_goThrough_132 ?_
  refine lv_topi (fun x132_ ex132_ => ?_)
  have hP9 := hP.sub (ws' := []) [] rfl
  have hD9 := hD.sub (ws' := []) [] (by decide) rfl
  have hK9 := hK.sub (tys' := []) [] rfl
  refine W.widen (k := 0) (n := 0) (by omega) (by omega) ?_
  exact W.iret (v := x132_) hx hb hr (fun t ht hW => ⟨⟨x132_, (), rfl, ex132_.trans hf, by rw [ht]; exact hP9, va_K.moved hW.alike hK9, hD9⟩, hS.F ht⟩) hS.2.2 dX8_goThrough_133
set_option maxHeartbeats 4000000 in
set_option maxRecDepth 100000 in
theorem c_derived (l : Launch) (dC : Nat → ClassId) (dI : Nat → Nat → Nat) (sz : Nat) (h0 : Nat) (w1 : Nat) (w6 : Nat) (w8 : Nat) (w15 : Nat) (w22 : Nat) (w26 : Nat) (w31 : Nat) (w35 : Nat) (w40 : Nat) (w48 : Nat) (w50 : Nat) (w52 : Nat) (w36 : Nat) (w37 : Nat) (w9 : Nat) (w10 : Nat) (w11 : Nat) (w12 : Nat) (w13 : Nat) (d38 : ClassId) (d39 : ClassId) (n0 : Nat) (hn : n0 ≤ 60) : Met l yX9_derived (Cond.code yX9_derived cX9_derived 2 (some .int) :: wsG) ({ frames := 3, cells := 0, slots := 0, locals := 88 } : Room) (va_Pc [.ref h0, .int (nI n0)] (fun U => U.heap.size = sz ∧ va_P (dC, dI) vwCl [(h0, .inr (9, [.ref w1, .ref w6, .int 0, .ref w8, .ref w15, .int 0, .int 0, .ref w22, .ref w26, .ref w31, .ref w35, .ref w40, .ref w48, .ref w50, .ref w52])), (w35, .inr (8, [.ref w36, .ref w37])), (w36, .inl (d38, 67161, .inl (fun _ => 0))), (w37, .inl (d39, 1101, .inl (fun _ => 0))), (w8, .inr (4, [.ref w9, .ref w10, .ref w11, .ref w12, .ref w13, .int 0, .int 0, .int 0]))] U.heap ∧ va_K (dC, dI) vwCl [(d38, .int), (d39, .int)] U ∧ va_D (fun _ => True) [(h0, .inr (9, [.ref w1, .ref w6, .int 0, .ref w8, .ref w15, .int 0, .int 0, .ref w22, .ref w26, .ref w31, .ref w35, .ref w40, .ref w48, .ref w50, .ref w52])), (w35, .inr (8, [.ref w36, .ref w37])), (w36, .inl (d38, 67161, .inl (fun _ => 0))), (w37, .inl (d39, 1101, .inl (fun _ => 0))), (w8, .inr (4, [.ref w9, .ref w10, .ref w11, .ref w12, .ref w13, .int 0, .int 0, .int 0]))])) (va_Qi (fun (r : Int32) (_ : Unit) => r = if nI 0 = nI n0 then 1 else 0) (fun (_ : Unit) (t : State) => va_P (dC, dI) vwCl [] t.heap ∧ va_K (dC, dI) vwCl [] t ∧ va_D (va_A [(h0, .inr (9, [.ref w1, .ref w6, .int 0, .ref w8, .ref w15, .int 0, .int 0, .ref w22, .ref w26, .ref w31, .ref w35, .ref w40, .ref w48, .ref w50, .ref w52])), (w35, .inr (8, [.ref w36, .ref w37])), (w36, .inl (d38, 67161, .inl (fun _ => 0))), (w37, .inl (d39, 1101, .inl (fun _ => 0))), (w8, .inr (4, [.ref w9, .ref w10, .ref w11, .ref w12, .ref w13, .int 0, .int 0, .int 0]))] sz) []) (va_A [(h0, .inr (9, [.ref w1, .ref w6, .int 0, .ref w8, .ref w15, .int 0, .int 0, .ref w22, .ref w26, .ref w31, .ref w35, .ref w40, .ref w48, .ref w50, .ref w52])), (w35, .inr (8, [.ref w36, .ref w37])), (w36, .inl (d38, 67161, .inl (fun _ => 0))), (w37, .inl (d39, 1101, .inl (fun _ => 0))), (w8, .inr (4, [.ref w9, .ref w10, .ref w11, .ref w12, .ref w13, .int 0, .int 0, .int 0]))] sz)) 0 0 (va_A [(h0, .inr (9, [.ref w1, .ref w6, .int 0, .ref w8, .ref w15, .int 0, .int 0, .ref w22, .ref w26, .ref w31, .ref w35, .ref w40, .ref w48, .ref w50, .ref w52])), (w35, .inr (8, [.ref w36, .ref w37])), (w36, .inl (d38, 67161, .inl (fun _ => 0))), (w37, .inl (d39, 1101, .inl (fun _ => 0))), (w8, .inr (4, [.ref w9, .ref w10, .ref w11, .ref w12, .ref w13, .int 0, .int 0, .int 0]))] sz) := by
  refine Met.ofW (cc := cX9_derived) (maxL := 2) (ret := (some .int)) (by decide) rfl ?_
  intro p e s m args below meth c s₁ B hml hv
  obtain ⟨rfl, hsz, hP, hK, hD0⟩ := hv
  have hx := B.exec
  have hb := B.bytes
  have hr := B.returns
  have hts : ∀ w ∈ wsG, w.before _ s = true := hG_of (atoms_spec (ws := (Cond.code yX9_derived cX9_derived 2 (some .int) :: wsG)) B.pre)
  have hown : s.vm.findClass RX9 = some m.cls := findClass_of_methodNamed B.named
  have hlocks := B.notSynchronized
  subst hsz
  have hD := hD0.self (sz := s.heap.size)
  generalize hAe : va_A [(h0, .inr (9, [.ref w1, .ref w6, .int 0, .ref w8, .ref w15, .int 0, .int 0, .ref w22, .ref w26, .ref w31, .ref w35, .ref w40, .ref w48, .ref w50, .ref w52])), (w35, .inr (8, [.ref w36, .ref w37])), (w36, .inl (d38, 67161, .inl (fun _ => 0))), (w37, .inl (d39, 1101, .inl (fun _ => 0))), (w8, .inr (4, [.ref w9, .ref w10, .ref w11, .ref w12, .ref w13, .int 0, .int 0, .int 0]))] s.heap.size = A at hD ⊢
  have hA : ∀ q : Nat, s.heap.size ≤ q → A q := fun q h => by rw [← hAe]; exact Or.inr h
  have hS : va_S A s.heap s.heap [] := va_S.rf
  have hl := lv_entry ([.ref h0, .int (nI n0)]) (n := 2) (Nat.le_of_ble_eq_true rfl)
  rw [lg_entry_eq]
  generalize (lg_sl ([.ref h0, .int (nI n0)]) ++ List.replicate (2 - (lg_sl ([.ref h0, .int (nI n0)])).length) Slot.unset).toArray = ls at hl ⊢
  have hl : lv_has ls 2 [(0, .ref h0), (1, .int (nI n0))] := hl
  refine lv_aload_n hx hb dX9_derived_0 rfl (lv_at hl 0 rfl) ?_
  refine lv_iload_n hx hb dX9_derived_1 rfl (lv_at hl 1 rfl) ?_
  refine lv_if_lt (tgt := 15) hx hb dX9_derived_2 (by decide) (fun c2_ => absurd c2_ (nI_pos (by omega))) (fun _ => ?_)
  refine lv_iload_n hx hb dX9_derived_5 rfl (lv_at hl 1 rfl) ?_
  refine lv_bipush (v := 60) hx hb dX9_derived_6 (by decide) ?_
  refine lv_icmp_gt (tgt := 15) hx hb dX9_derived_8 (by decide) (fun c8_ => absurd c8_ (x_le60 hn)) (fun _ => ?_)
  refine lv_iconst (v := 1) hx hb dX9_derived_11 (by decide) ?_
  refine lv_goto (tgt := 16) hx hb dX9_derived_12 (by decide) ?_
  have hPc := hP.sub (ws' := [(h0, .inr (9, [.ref w1, .ref w6, .int 0, .ref w8, .ref w15, .int 0, .int 0, .ref w22, .ref w26, .ref w31, .ref w35, .ref w40, .ref w48, .ref w50, .ref w52]))]) [0] rfl
  have hDc := hD.sub (ws' := [(h0, .inr (9, [.ref w1, .ref w6, .int 0, .ref w8, .ref w15, .int 0, .int 0, .ref w22, .ref w26, .ref w31, .ref w35, .ref w40, .ref w48, .ref w50, .ref w52]))]) [0] (by decide) rfl
  have hKc := hK.sub (tys' := []) [] rfl
  have hFc := va_free (wc := [(h0, .inr (9, [.ref w1, .ref w6, .int 0, .ref w8, .ref w15, .int 0, .int 0, .ref w22, .ref w26, .ref w31, .ref w35, .ref w40, .ref w48, .ref w50, .ref w52]))]) hD hS hA [0] rfl
  refine va_callv (va_runV (As := [.int 1]) (rest := []) ⟨hx, hb, hml, hown, hts⟩ (c_needArg1 l dC dI s.heap.size (h0) (w1) (w6) (w8) (w15) (w22) (w26) (w31) (w35) (w40) (w48) (w50) (w52)) (cwV 1 hts (gV_G k596 k598 ks_yX9_needArgument k1 k599) rfl rfl rfl (by decide +kernel) ⟨Nat.le_of_ble_eq_true rfl, Nat.le_of_ble_eq_true rfl⟩) ⟨fun a U g mk q => by obtain ⟨q0, q1, qP, qK, qD⟩ := q; exact ⟨q0, q1, qP, va_K.moved (u := U) (U := U.calling g mk a) (Vm.Alike.refl U.vm) qK, qD⟩, va_recv hKc hPc (ci := 9) (q0 := 0) rfl rfl, fun U hU hW => ⟨rfl, by rw [hU], by rw [hU]; exact hPc, va_K.moved hW.alike hKc, hDc.weaken (fun _ _ _ _ => trivial)⟩⟩ rfl rfl hl.1 rfl (lv_room (Nat.le_of_ble_eq_true rfl)) dX9_derived_16 ⟨Nat.le_of_ble_eq_true rfl, Nat.le_of_ble_eq_true rfl⟩) hS (fun q _ h => hFc q h) hFc (fun u t H1 locs ht hvm hw hB hz1 hk1 hS => ?_)
  obtain ⟨hP1, hK1, hD1⟩ := hB
  rw [ht] at hP1
  have hK1 := va_K.moved hvm.symm hK1
  try dsimp only at hw
  obtain ⟨hP, hD⟩ := va_join (wr := [(w35, .inr (8, [.ref w36, .ref w37])), (w36, .inl (d38, 67161, .inl (fun _ => 0))), (w37, .inl (d39, 1101, .inl (fun _ => 0))), (w8, .inr (4, [.ref w9, .ref w10, .ref w11, .ref w12, .ref w13, .int 0, .int 0, .int 0]))]) (w1 := [(h0, .inr (9, [.ref w1, .ref w6, .int 0, .ref w8, .ref w15, .int 0, .int 0, .ref w22, .ref w26, .ref w31, .ref w35, .ref w40, .ref w48, .ref w50, .ref w52]))]) hP hD [0] [1, 2, 3, 4] rfl rfl (by decide) (by decide) hk1 hFc hP1 hD1
  have hK := hK.app hK1
  generalize H1 = H at hP hS ⊢
  have hP : va_P (dC, dI) vwCl [(w35, .inr (8, [.ref w36, .ref w37])), (w36, .inl (d38, 67161, .inl (fun _ => 0))), (w37, .inl (d39, 1101, .inl (fun _ => 0))), (w8, .inr (4, [.ref w9, .ref w10, .ref w11, .ref w12, .ref w13, .int 0, .int 0, .int 0])), (h0, .inr (9, [.ref w1, .ref w6, .int 0, .ref w8, .ref w15, .int 0, .int 0, .ref w22, .ref w26, .ref w31, .ref w35, .ref w40, .ref w48, .ref w50, .ref w52]))] H := hP
  have hD : va_D A [(w35, .inr (8, [.ref w36, .ref w37])), (w36, .inl (d38, 67161, .inl (fun _ => 0))), (w37, .inl (d39, 1101, .inl (fun _ => 0))), (w8, .inr (4, [.ref w9, .ref w10, .ref w11, .ref w12, .ref w13, .int 0, .int 0, .int 0])), (h0, .inr (9, [.ref w1, .ref w6, .int 0, .ref w8, .ref w15, .int 0, .int 0, .ref w22, .ref w26, .ref w31, .ref w35, .ref w40, .ref w48, .ref w50, .ref w52]))] := hD
  have hK : va_K (dC, dI) vwCl [(d38, .int), (d39, .int)] s := hK
  refine W.widen (k := 0) (n := 0) (by omega) (by omega) ?_
  refine lv_aload_n hx hb dX9_derived_19 rfl (lv_at hl 0 rfl) ?_
  refine va_get (D := (dC, dI)) (ci := 9) (v := .ref w35) (C := RX9) (T := TX9) (N := 15) hx hb hts inG9 hown hK hP 4 rfl rfl 10 (by decide) (hts _ k342) (fun _ h9 => h9) rfl dX9_derived_20 ?_
  refine lv_aload_n hx hb dX9_derived_23 rfl (lv_at hl 0 rfl) ?_
  refine va_get (D := (dC, dI)) (ci := 9) (v := .ref w8) (C := RX9) (T := TX9) (N := 15) hx hb hts inG9 hown hK hP 4 rfl rfl 3 (by decide) (hts _ k335) (fun _ h9 => h9) rfl dX9_derived_24 ?_
  refine lv_aload_n hx hb dX9_derived_27 rfl (lv_at hl 0 rfl) ?_
  refine va_get (D := (dC, dI)) (ci := 9) (v := .ref w48) (C := RX9) (T := TX9) (N := 15) hx hb hts inG9 hown hK hP 4 rfl rfl 12 (by decide) (hts _ k344) (fun _ h9 => h9) rfl dX9_derived_28 ?_
  refine lv_iload_n hx hb dX9_derived_31 rfl (lv_at hl 1 rfl) ?_
  refine lv_iconst (v := 0) hx hb dX9_derived_32 (by decide) ?_
  have hPc := hP.sub (ws' := [(w35, .inr (8, [.ref w36, .ref w37])), (w36, .inl (d38, 67161, .inl (fun _ => 0))), (w37, .inl (d39, 1101, .inl (fun _ => 0))), (w8, .inr (4, [.ref w9, .ref w10, .ref w11, .ref w12, .ref w13, .int 0, .int 0, .int 0]))]) [0, 1, 2, 3] rfl
  have hDc := hD.sub (ws' := [(w35, .inr (8, [.ref w36, .ref w37])), (w36, .inl (d38, 67161, .inl (fun _ => 0))), (w37, .inl (d39, 1101, .inl (fun _ => 0))), (w8, .inr (4, [.ref w9, .ref w10, .ref w11, .ref w12, .ref w13, .int 0, .int 0, .int 0]))]) [0, 1, 2, 3] (by decide) rfl
  have hKc := hK.sub (tys' := [(d38, .int), (d39, .int)]) [0, 1] rfl
  have hFc := va_free (wc := [(w35, .inr (8, [.ref w36, .ref w37])), (w36, .inl (d38, 67161, .inl (fun _ => 0))), (w37, .inl (d39, 1101, .inl (fun _ => 0))), (w8, .inr (4, [.ref w9, .ref w10, .ref w11, .ref w12, .ref w13, .int 0, .int 0, .int 0]))]) hD hS hA [0, 1, 2, 3] rfl
  refine va_calli (va_runV (As := [.ref w8, .ref w48, .int (nI n0), .int 0]) (rest := []) ⟨hx, hb, hml, hown, hts⟩ (c_goThrough l dC dI H.size (w35) (w36) (w37) (w8) (w9) (w10) (w11) (w12) (w13) (d38) (d39) (w48) (n0) (hn)) (cwV 4 hts (gV_G k848 k544 k545 k8 k546) rfl rfl rfl (by decide +kernel) ⟨Nat.le_of_ble_eq_true rfl, Nat.le_of_ble_eq_true rfl⟩) ⟨fun a U g mk q => by obtain ⟨q0, q1, qP, qK, qD⟩ := q; exact ⟨q0, q1, qP, va_K.moved (u := U) (U := U.calling g mk a) (Vm.Alike.refl U.vm) qK, qD⟩, va_recv hKc hPc (ci := 8) (q0 := 0) rfl rfl, fun U hU hW => ⟨rfl, by rw [hU], by rw [hU]; exact hPc, va_K.moved hW.alike hKc, hDc.weaken (fun _ _ _ _ => trivial)⟩⟩ rfl rfl hl.1 rfl (lv_room (Nat.le_of_ble_eq_true rfl)) dX9_derived_33 ⟨Nat.le_of_ble_eq_true rfl, Nat.le_of_ble_eq_true rfl⟩) hS (fun q _ h => hFc q h) hFc (fun r1 u t H1 locs ht hvm hw hB hz1 hk1 hS => ?_)
  obtain ⟨hP1, hK1, hD1⟩ := hB
  rw [ht] at hP1
  have hK1 := va_K.moved hvm.symm hK1
  try dsimp only at hw
  obtain ⟨hP, hD⟩ := va_join (wr := [(h0, .inr (9, [.ref w1, .ref w6, .int 0, .ref w8, .ref w15, .int 0, .int 0, .ref w22, .ref w26, .ref w31, .ref w35, .ref w40, .ref w48, .ref w50, .ref w52]))]) (w1 := []) hP hD [0, 1, 2, 3] [4] rfl rfl (by decide) (by decide) hk1 hFc hP1 hD1
  have hK := hK.app hK1
  generalize H1 = H at hP hS ⊢
  have hP : va_P (dC, dI) vwCl [(h0, .inr (9, [.ref w1, .ref w6, .int 0, .ref w8, .ref w15, .int 0, .int 0, .ref w22, .ref w26, .ref w31, .ref w35, .ref w40, .ref w48, .ref w50, .ref w52]))] H := hP
  have hD : va_D A [(h0, .inr (9, [.ref w1, .ref w6, .int 0, .ref w8, .ref w15, .int 0, .int 0, .ref w22, .ref w26, .ref w31, .ref w35, .ref w40, .ref w48, .ref w50, .ref w52]))] := hD
  have hK : va_K (dC, dI) vwCl [(d38, .int), (d39, .int)] s := hK
  refine W.widen (k := 0) (n := 0) (by omega) (by omega) ?_
  have hP9 := hP.sub (ws' := []) [] rfl
  have hD9 := hD.sub (ws' := []) [] (by decide) rfl
  have hK9 := hK.sub (tys' := []) [] rfl
  refine W.widen (k := 0) (n := 0) (by omega) (by omega) ?_
  exact W.iret (v := r1) hx hb hr (fun t ht hW => ⟨⟨r1, (), rfl, hw, by rw [ht]; exact hP9, va_K.moved hW.alike hK9, hD9⟩, hS.F ht⟩) hS.2.2 dX9_derived_36

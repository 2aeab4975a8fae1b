theorem x_pos {p : Int32} (hq : ¬ (¬ p < 0 ∧ ¬ (0 : Int32) < p)) (h : ¬ p < 0) : (0 : Int32) < p := Decidable.byContradiction (fun z => hq ⟨h, z⟩)
theorem k37 : (Cond.fieldLink "PageSkeleton" (96 : Nat) "PageSkeleton$Texts" "bytes" "I") ∈ wsG := wsG_at 37 (by decide +kernel) (by decide +kernel)
theorem k596 : (Cond.methodLink "PageSkeleton" (102 : Nat) ({ cls := "PageSkeleton", name := "needArgument", desc := "(Z)V" } : MethodName)) ∈ wsG := wsG_at 596 (by decide +kernel) (by decide +kernel)
theorem k598 : (Cond.instanceMethod ({ cls := "PageSkeleton", name := "needArgument", desc := "(Z)V" } : MethodName)) ∈ wsG := wsG_at 598 (by decide +kernel) (by decide +kernel)
theorem k599 : (Cond.code ({ cls := "PageSkeleton", name := "needArgument", desc := "(Z)V" } : MethodName) prog_1_method_41_code (2 : Nat) (Option.none : Option Jvm.ClassFile.FieldType)) ∈ wsG := wsG_at 599 (by decide +kernel) (by decide +kernel)
theorem k663 : (Cond.methodLink "PageSkeleton" (106 : Nat) ({ cls := "PageSkeleton", name := "needState", desc := "(Z)V" } : MethodName)) ∈ wsG := wsG_at 663 (by decide +kernel) (by decide +kernel)
theorem k665 : (Cond.instanceMethod ({ cls := "PageSkeleton", name := "needState", desc := "(Z)V" } : MethodName)) ∈ wsG := wsG_at 665 (by decide +kernel) (by decide +kernel)
theorem k666 : (Cond.code ({ cls := "PageSkeleton", name := "needState", desc := "(Z)V" } : MethodName) prog_1_method_42_code (2 : Nat) (Option.none : Option Jvm.ClassFile.FieldType)) ∈ wsG := wsG_at 666 (by decide +kernel) (by decide +kernel)
theorem ks_yX9_needArgument : Cond.selects RX9 yX9_needArgument yX9_needArgument ∈ wsG := wsG_mem (by decide +kernel) (by decide +kernel)
theorem ks_yX9_needState : Cond.selects RX9 yX9_needState yX9_needState ∈ wsG := wsG_mem (by decide +kernel) (by decide +kernel)
theorem dX9_needArgument_22 : decode cX9_needArgument 22 = .ok (.return_, 1) := by decide +kernel
theorem dX9_needState_22 : decode cX9_needState 22 = .ok (.return_, 1) := by decide +kernel
theorem dX9_page_0 : decode cX9_page 0 = .ok (.aload_n 0, 1) := by decide +kernel
theorem dX9_page_1 : decode cX9_page 1 = .ok (.iload_n 1, 1) := by decide +kernel
theorem dX9_page_2 : decode cX9_page 2 = .ok (.ifCond .lt 18, 3) := by decide +kernel
theorem dX9_page_5 : decode cX9_page 5 = .ok (.iload_n 1, 1) := by decide +kernel
theorem dX9_page_6 : decode cX9_page 6 = .ok (.aload_n 0, 1) := by decide +kernel
theorem dX9_page_7 : decode cX9_page 7 = .ok (.getfield 10, 3) := by decide +kernel
theorem dX9_page_10 : decode cX9_page 10 = .ok (.getfield 96, 3) := by decide +kernel
theorem dX9_page_13 : decode cX9_page 13 = .ok (.if_icmp .gt 7, 3) := by decide +kernel
theorem dX9_page_20 : decode cX9_page 20 = .ok (.iconst 0, 1) := by decide +kernel
theorem dX9_page_21 : decode cX9_page 21 = .ok (.invokevirtual 102, 3) := by decide +kernel
theorem dX9_tidied_0 : decode cX9_tidied 0 = .ok (.aload_n 0, 1) := by decide +kernel
theorem dX9_tidied_1 : decode cX9_tidied 1 = .ok (.iload_n 1, 1) := by decide +kernel
theorem dX9_tidied_2 : decode cX9_tidied 2 = .ok (.ifCond .lt 12, 3) := by decide +kernel
theorem dX9_tidied_5 : decode cX9_tidied 5 = .ok (.iload_n 1, 1) := by decide +kernel
theorem dX9_tidied_6 : decode cX9_tidied 6 = .ok (.iconst 3, 1) := by decide +kernel
theorem dX9_tidied_7 : decode cX9_tidied 7 = .ok (.if_icmp .gt 7, 3) := by decide +kernel
theorem dX9_tidied_14 : decode cX9_tidied 14 = .ok (.iconst 0, 1) := by decide +kernel
theorem dX9_tidied_15 : decode cX9_tidied 15 = .ok (.invokevirtual 102, 3) := by decide +kernel
theorem dX9_orders_0 : decode cX9_orders 0 = .ok (.aload_n 0, 1) := by decide +kernel
theorem dX9_orders_1 : decode cX9_orders 1 = .ok (.iload_n 1, 1) := by decide +kernel
theorem dX9_orders_2 : decode cX9_orders 2 = .ok (.ifCond .lt 12, 3) := by decide +kernel
theorem dX9_orders_5 : decode cX9_orders 5 = .ok (.iload_n 1, 1) := by decide +kernel
theorem dX9_orders_6 : decode cX9_orders 6 = .ok (.iconst 3, 1) := by decide +kernel
theorem dX9_orders_7 : decode cX9_orders 7 = .ok (.if_icmp .gt 7, 3) := by decide +kernel
theorem dX9_orders_14 : decode cX9_orders 14 = .ok (.iconst 0, 1) := by decide +kernel
theorem dX9_orders_15 : decode cX9_orders 15 = .ok (.invokevirtual 102, 3) := by decide +kernel
theorem dX9_firm_0 : decode cX9_firm 0 = .ok (.aload_n 0, 1) := by decide +kernel
theorem dX9_firm_1 : decode cX9_firm 1 = .ok (.iload_n 1, 1) := by decide +kernel
theorem dX9_firm_2 : decode cX9_firm 2 = .ok (.ifCond .lt 12, 3) := by decide +kernel
theorem dX9_firm_5 : decode cX9_firm 5 = .ok (.iload_n 1, 1) := by decide +kernel
theorem dX9_firm_6 : decode cX9_firm 6 = .ok (.iconst 2, 1) := by decide +kernel
theorem dX9_firm_7 : decode cX9_firm 7 = .ok (.if_icmp .gt 7, 3) := by decide +kernel
theorem dX9_firm_14 : decode cX9_firm 14 = .ok (.iconst 0, 1) := by decide +kernel
theorem dX9_firm_15 : decode cX9_firm 15 = .ok (.invokevirtual 102, 3) := by decide +kernel
theorem dX9_derived_0 : decode cX9_derived 0 = .ok (.aload_n 0, 1) := by decide +kernel
theorem dX9_derived_1 : decode cX9_derived 1 = .ok (.iload_n 1, 1) := by decide +kernel
theorem dX9_derived_2 : decode cX9_derived 2 = .ok (.ifCond .lt 13, 3) := by decide +kernel
theorem dX9_derived_5 : decode cX9_derived 5 = .ok (.iload_n 1, 1) := by decide +kernel
theorem dX9_derived_6 : decode cX9_derived 6 = .ok (.bipush 60, 2) := by decide +kernel
theorem dX9_derived_8 : decode cX9_derived 8 = .ok (.if_icmp .gt 7, 3) := by decide +kernel
theorem dX9_derived_15 : decode cX9_derived 15 = .ok (.iconst 0, 1) := by decide +kernel
theorem dX9_derived_16 : decode cX9_derived 16 = .ok (.invokevirtual 102, 3) := by decide +kernel
theorem dX9_told_0 : decode cX9_told 0 = .ok (.iload_n 1, 1) := by decide +kernel
theorem dX9_told_1 : decode cX9_told 1 = .ok (.tableswitch 138 0 9 #[55, 60, 68, 76, 84, 95, 106, 117, 125, 130], 55) := by decide +kernel
theorem dX9_told_139 : decode cX9_told 139 = .ok (.aload_n 0, 1) := by decide +kernel
theorem dX9_told_140 : decode cX9_told 140 = .ok (.iconst 0, 1) := by decide +kernel
theorem dX9_told_141 : decode cX9_told 141 = .ok (.invokevirtual 102, 3) := by decide +kernel
theorem dX9_orders_10 : decode cX9_orders 10 = .ok (.iconst 1, 1) := by decide +kernel
theorem dX9_orders_11 : decode cX9_orders 11 = .ok (.goto 4, 3) := by decide +kernel
theorem dX9_orders_18 : decode cX9_orders 18 = .ok (.aload_n 0, 1) := by decide +kernel
theorem dX9_orders_19 : decode cX9_orders 19 = .ok (.aload_n 0, 1) := by decide +kernel
theorem dX9_orders_20 : decode cX9_orders 20 = .ok (.getfield 22, 3) := by decide +kernel
theorem dX9_orders_23 : decode cX9_orders 23 = .ok (.iconst 1, 1) := by decide +kernel
theorem dX9_orders_24 : decode cX9_orders 24 = .ok (.if_icmp .lt 15, 3) := by decide +kernel
theorem dX9_orders_39 : decode cX9_orders 39 = .ok (.iconst 0, 1) := by decide +kernel
theorem dX9_orders_40 : decode cX9_orders 40 = .ok (.invokevirtual 106, 3) := by decide +kernel
set_option maxHeartbeats 4000000 in
set_option maxRecDepth 100000 in
theorem c_needArg1 (l : Launch) (dC : Nat → ClassId) (dI : Nat → Nat → Nat) (sz : Nat) (h0 : Nat) (w1 : Nat) (w6 : Nat) (w8 : Nat) (w15 : Nat) (w22 : Nat) (w26 : Nat) (w31 : Nat) (w35 : Nat) (w40 : Nat) (w48 : Nat) (w50 : Nat) (w52 : Nat)  : Met l yX9_needArgument (Cond.code yX9_needArgument cX9_needArgument 2 none :: wsG) ({ frames := 1, cells := 0, slots := 0, locals := 14 } : Room) (va_Pc [.ref h0, .int 1] (fun U => U.heap.size = sz ∧ va_P (dC, dI) vwCl [(h0, .inr (9, [.ref w1, .ref w6, .int 0, .ref w8, .ref w15, .int 0, .int 0, .ref w22, .ref w26, .ref w31, .ref w35, .ref w40, .ref w48, .ref w50, .ref w52]))] U.heap ∧ va_K (dC, dI) vwCl [] U ∧ va_D (fun _ => True) [(h0, .inr (9, [.ref w1, .ref w6, .int 0, .ref w8, .ref w15, .int 0, .int 0, .ref w22, .ref w26, .ref w31, .ref w35, .ref w40, .ref w48, .ref w50, .ref w52]))])) (va_Qv (fun (_ : Unit) => True) (fun (_ : Unit) (t : State) => va_P (dC, dI) vwCl [(h0, .inr (9, [.ref w1, .ref w6, .int 0, .ref w8, .ref w15, .int 0, .int 0, .ref w22, .ref w26, .ref w31, .ref w35, .ref w40, .ref w48, .ref w50, .ref w52]))] t.heap ∧ va_K (dC, dI) vwCl [] t ∧ va_D (va_A [(h0, .inr (9, [.ref w1, .ref w6, .int 0, .ref w8, .ref w15, .int 0, .int 0, .ref w22, .ref w26, .ref w31, .ref w35, .ref w40, .ref w48, .ref w50, .ref w52]))] sz) [(h0, .inr (9, [.ref w1, .ref w6, .int 0, .ref w8, .ref w15, .int 0, .int 0, .ref w22, .ref w26, .ref w31, .ref w35, .ref w40, .ref w48, .ref w50, .ref w52]))]) (va_A [(h0, .inr (9, [.ref w1, .ref w6, .int 0, .ref w8, .ref w15, .int 0, .int 0, .ref w22, .ref w26, .ref w31, .ref w35, .ref w40, .ref w48, .ref w50, .ref w52]))] sz)) 0 0 (va_A [(h0, .inr (9, [.ref w1, .ref w6, .int 0, .ref w8, .ref w15, .int 0, .int 0, .ref w22, .ref w26, .ref w31, .ref w35, .ref w40, .ref w48, .ref w50, .ref w52]))] sz) := by
  refine Met.ofW (cc := cX9_needArgument) (maxL := 2) (ret := none) (by decide) rfl ?_
  intro p e s m args below meth c s₁ B hml hv
  obtain ⟨rfl, hsz, hP, hK, hD0⟩ := hv
  have hx := B.exec
  have hb := B.bytes
  have hr := B.returns
  have hts : ∀ w ∈ wsG, w.before _ s = true := hG_of (atoms_spec (ws := (Cond.code yX9_needArgument cX9_needArgument 2 none :: wsG)) B.pre)
  have hown : s.vm.findClass RX9 = some m.cls := findClass_of_methodNamed B.named
  have hlocks := B.notSynchronized
  subst hsz
  have hD := hD0.self (sz := s.heap.size)
  generalize hAe : va_A [(h0, .inr (9, [.ref w1, .ref w6, .int 0, .ref w8, .ref w15, .int 0, .int 0, .ref w22, .ref w26, .ref w31, .ref w35, .ref w40, .ref w48, .ref w50, .ref w52]))] s.heap.size = A at hD ⊢
  have hA : ∀ q : Nat, s.heap.size ≤ q → A q := fun q h => by rw [← hAe]; exact Or.inr h
  have hS : va_S A s.heap s.heap [] := va_S.rf
  have hl := lv_entry ([.ref h0, .int 1]) (n := 2) (Nat.le_of_ble_eq_true rfl)
  rw [lg_entry_eq]
  generalize (lg_sl ([.ref h0, .int 1]) ++ List.replicate (2 - (lg_sl ([.ref h0, .int 1])).length) Slot.unset).toArray = ls at hl ⊢
  have hl : lv_has ls 2 [(0, .ref h0), (1, .int 1)] := hl
  refine lv_iload_n hx hb dX9_needArgument_0 rfl (lv_at hl 1 rfl) ?_
  refine lv_if_ne (tgt := 22) hx hb dX9_needArgument_1 (by decide) (fun _ => ?_) (fun c9 => absurd c9 (by decide +kernel))
  have hP9 := hP.sub (ws' := [(h0, .inr (9, [.ref w1, .ref w6, .int 0, .ref w8, .ref w15, .int 0, .int 0, .ref w22, .ref w26, .ref w31, .ref w35, .ref w40, .ref w48, .ref w50, .ref w52]))]) [0] rfl
  have hD9 := hD.sub (ws' := [(h0, .inr (9, [.ref w1, .ref w6, .int 0, .ref w8, .ref w15, .int 0, .int 0, .ref w22, .ref w26, .ref w31, .ref w35, .ref w40, .ref w48, .ref w50, .ref w52]))]) [0] (by decide) rfl
  have hK9 := hK.sub (tys' := []) [] rfl
  refine W.widen (k := 0) (n := 0) (by omega) (by omega) ?_
  exact W.vret hx hb hr (fun t ht hW => ⟨⟨(), rfl, trivial, by rw [ht]; exact hP9, va_K.moved hW.alike hK9, hD9⟩, hS.F ht⟩) hS.2.2 dX9_needArgument_22
set_option maxHeartbeats 4000000 in
set_option maxRecDepth 100000 in
theorem c_needState1 (l : Launch) (dC : Nat → ClassId) (dI : Nat → Nat → Nat) (sz : Nat) (h0 : Nat) (w1 : Nat) (w6 : Nat) (w8 : Nat) (w15 : Nat) (w22 : Nat) (w26 : Nat) (w31 : Nat) (w35 : Nat) (w40 : Nat) (w48 : Nat) (w50 : Nat) (w52 : Nat)  : Met l yX9_needState (Cond.code yX9_needState cX9_needState 2 none :: wsG) ({ frames := 1, cells := 0, slots := 0, locals := 14 } : Room) (va_Pc [.ref h0, .int 1] (fun U => U.heap.size = sz ∧ va_P (dC, dI) vwCl [(h0, .inr (9, [.ref w1, .ref w6, .int 0, .ref w8, .ref w15, .int 0, .int 0, .ref w22, .ref w26, .ref w31, .ref w35, .ref w40, .ref w48, .ref w50, .ref w52]))] U.heap ∧ va_K (dC, dI) vwCl [] U ∧ va_D (fun _ => True) [(h0, .inr (9, [.ref w1, .ref w6, .int 0, .ref w8, .ref w15, .int 0, .int 0, .ref w22, .ref w26, .ref w31, .ref w35, .ref w40, .ref w48, .ref w50, .ref w52]))])) (va_Qv (fun (_ : Unit) => True) (fun (_ : Unit) (t : State) => va_P (dC, dI) vwCl [(h0, .inr (9, [.ref w1, .ref w6, .int 0, .ref w8, .ref w15, .int 0, .int 0, .ref w22, .ref w26, .ref w31, .ref w35, .ref w40, .ref w48, .ref w50, .ref w52]))] t.heap ∧ va_K (dC, dI) vwCl [] t ∧ va_D (va_A [(h0, .inr (9, [.ref w1, .ref w6, .int 0, .ref w8, .ref w15, .int 0, .int 0, .ref w22, .ref w26, .ref w31, .ref w35, .ref w40, .ref w48, .ref w50, .ref w52]))] sz) [(h0, .inr (9, [.ref w1, .ref w6, .int 0, .ref w8, .ref w15, .int 0, .int 0, .ref w22, .ref w26, .ref w31, .ref w35, .ref w40, .ref w48, .ref w50, .ref w52]))]) (va_A [(h0, .inr (9, [.ref w1, .ref w6, .int 0, .ref w8, .ref w15, .int 0, .int 0, .ref w22, .ref w26, .ref w31, .ref w35, .ref w40, .ref w48, .ref w50, .ref w52]))] sz)) 0 0 (va_A [(h0, .inr (9, [.ref w1, .ref w6, .int 0, .ref w8, .ref w15, .int 0, .int 0, .ref w22, .ref w26, .ref w31, .ref w35, .ref w40, .ref w48, .ref w50, .ref w52]))] sz) := by
  refine Met.ofW (cc := cX9_needState) (maxL := 2) (ret := none) (by decide) rfl ?_
  intro p e s m args below meth c s₁ B hml hv
  obtain ⟨rfl, hsz, hP, hK, hD0⟩ := hv
  have hx := B.exec
  have hb := B.bytes
  have hr := B.returns
  have hts : ∀ w ∈ wsG, w.before _ s = true := hG_of (atoms_spec (ws := (Cond.code yX9_needState cX9_needState 2 none :: wsG)) B.pre)
  have hown : s.vm.findClass RX9 = some m.cls := findClass_of_methodNamed B.named
  have hlocks := B.notSynchronized
  subst hsz
  have hD := hD0.self (sz := s.heap.size)
  generalize hAe : va_A [(h0, .inr (9, [.ref w1, .ref w6, .int 0, .ref w8, .ref w15, .int 0, .int 0, .ref w22, .ref w26, .ref w31, .ref w35, .ref w40, .ref w48, .ref w50, .ref w52]))] s.heap.size = A at hD ⊢
  have hA : ∀ q : Nat, s.heap.size ≤ q → A q := fun q h => by rw [← hAe]; exact Or.inr h
  have hS : va_S A s.heap s.heap [] := va_S.rf
  have hl := lv_entry ([.ref h0, .int 1]) (n := 2) (Nat.le_of_ble_eq_true rfl)
  rw [lg_entry_eq]
  generalize (lg_sl ([.ref h0, .int 1]) ++ List.replicate (2 - (lg_sl ([.ref h0, .int 1])).length) Slot.unset).toArray = ls at hl ⊢
  have hl : lv_has ls 2 [(0, .ref h0), (1, .int 1)] := hl
  refine lv_iload_n hx hb dX9_needState_0 rfl (lv_at hl 1 rfl) ?_
  refine lv_if_ne (tgt := 22) hx hb dX9_needState_1 (by decide) (fun _ => ?_) (fun c9 => absurd c9 (by decide +kernel))
  have hP9 := hP.sub (ws' := [(h0, .inr (9, [.ref w1, .ref w6, .int 0, .ref w8, .ref w15, .int 0, .int 0, .ref w22, .ref w26, .ref w31, .ref w35, .ref w40, .ref w48, .ref w50, .ref w52]))]) [0] rfl
  have hD9 := hD.sub (ws' := [(h0, .inr (9, [.ref w1, .ref w6, .int 0, .ref w8, .ref w15, .int 0, .int 0, .ref w22, .ref w26, .ref w31, .ref w35, .ref w40, .ref w48, .ref w50, .ref w52]))]) [0] (by decide) rfl
  have hK9 := hK.sub (tys' := []) [] rfl
  refine W.widen (k := 0) (n := 0) (by omega) (by omega) ?_
  exact W.vret hx hb hr (fun t ht hW => ⟨⟨(), rfl, trivial, by rw [ht]; exact hP9, va_K.moved hW.alike hK9, hD9⟩, hS.F ht⟩) hS.2.2 dX9_needState_22
set_option maxHeartbeats 4000000 in
set_option maxRecDepth 100000 in
theorem x_page (l : Launch) (hfl : l.stackTraces = false) (dC : Nat → ClassId) (dI : Nat → Nat → Nat) (sz : Nat) (h0 : Nat) (w1 : Nat) (w6 : Nat) (w8 : Nat) (w15 : Nat) (w22 : Nat) (w26 : Nat) (w31 : Nat) (w35 : Nat) (w40 : Nat) (w48 : Nat) (w50 : Nat) (w52 : Nat) (w2 : Nat) (w3 : Nat) (w4 : Nat) (d53 : ClassId) (p1 : Int32) (hq : ¬ (¬ p1 < 0 ∧ ¬ (0 : Int32) < p1)) : vx_Met l yX9_page (Cond.code yX9_page cX9_page 3 (some .int) :: wsG) ({ frames := 7, cells := 1, slots := 6, locals := 110 } : Room) (va_Pc [.ref h0, .int p1] (fun U => U.heap.size = sz ∧ va_P (dC, dI) vwCl [(h0, .inr (9, [.ref w1, .ref w6, .int 0, .ref w8, .ref w15, .int 0, .int 0, .ref w22, .ref w26, .ref w31, .ref w35, .ref w40, .ref w48, .ref w50, .ref w52])), (w52, .inl (d53, 3, .inl (fun _ => 0))), (w1, .inr (5, [.ref w2, .int 0, .ref w3, .int 0, .ref w4, .int 0, .int (-1), .int 0]))] U.heap ∧ va_K (dC, dI) vwCl [(d53, .int)] U ∧ va_D (fun _ => True) [(h0, .inr (9, [.ref w1, .ref w6, .int 0, .ref w8, .ref w15, .int 0, .int 0, .ref w22, .ref w26, .ref w31, .ref w35, .ref w40, .ref w48, .ref w50, .ref w52])), (w52, .inl (d53, 3, .inl (fun _ => 0))), (w1, .inr (5, [.ref w2, .int 0, .ref w3, .int 0, .ref w4, .int 0, .int (-1), .int 0]))] ∧ xX (va_A [(h0, .inr (9, [.ref w1, .ref w6, .int 0, .ref w8, .ref w15, .int 0, .int 0, .ref w22, .ref w26, .ref w31, .ref w35, .ref w40, .ref w48, .ref w50, .ref w52])), (w52, .inl (d53, 3, .inl (fun _ => 0))), (w1, .inr (5, [.ref w2, .int 0, .ref w3, .int 0, .ref w4, .int 0, .int (-1), .int 0]))] sz) U)) (xQ (va_A [(h0, .inr (9, [.ref w1, .ref w6, .int 0, .ref w8, .ref w15, .int 0, .int 0, .ref w22, .ref w26, .ref w31, .ref w35, .ref w40, .ref w48, .ref w50, .ref w52])), (w52, .inl (d53, 3, .inl (fun _ => 0))), (w1, .inr (5, [.ref w2, .int 0, .ref w3, .int 0, .ref w4, .int 0, .int (-1), .int 0]))] sz)) (xC "java/lang/IllegalArgumentException" (va_A [(h0, .inr (9, [.ref w1, .ref w6, .int 0, .ref w8, .ref w15, .int 0, .int 0, .ref w22, .ref w26, .ref w31, .ref w35, .ref w40, .ref w48, .ref w50, .ref w52])), (w52, .inl (d53, 3, .inl (fun _ => 0))), (w1, .inr (5, [.ref w2, .int 0, .ref w3, .int 0, .ref w4, .int 0, .int (-1), .int 0]))] sz)) 1 6 (va_A [(h0, .inr (9, [.ref w1, .ref w6, .int 0, .ref w8, .ref w15, .int 0, .int 0, .ref w22, .ref w26, .ref w31, .ref w35, .ref w40, .ref w48, .ref w50, .ref w52])), (w52, .inl (d53, 3, .inl (fun _ => 0))), (w1, .inr (5, [.ref w2, .int 0, .ref w3, .int 0, .ref w4, .int 0, .int (-1), .int 0]))] sz) := by
  refine vx_ofW (cc := cX9_page) (maxL := 3) (ret := (some .int)) (by decide) rfl ?_
  intro p e s m args below meth c s₁ B hml hnt hv
  obtain ⟨rfl, hsz, hP, hK, hD0, hEx⟩ := hv
  have hx := B.exec
  have hb := B.bytes
  have hr := B.returns
  have hts : ∀ w ∈ wsG, w.before _ s = true := hG_of (atoms_spec (ws := (Cond.code yX9_page cX9_page 3 (some .int) :: wsG)) B.pre)
  have hown : s.vm.findClass RX9 = some m.cls := findClass_of_methodNamed B.named
  have hlocks := B.notSynchronized
  subst hsz
  have hD := hD0.self (sz := s.heap.size)
  generalize hAe : va_A [(h0, .inr (9, [.ref w1, .ref w6, .int 0, .ref w8, .ref w15, .int 0, .int 0, .ref w22, .ref w26, .ref w31, .ref w35, .ref w40, .ref w48, .ref w50, .ref w52])), (w52, .inl (d53, 3, .inl (fun _ => 0))), (w1, .inr (5, [.ref w2, .int 0, .ref w3, .int 0, .ref w4, .int 0, .int (-1), .int 0]))] s.heap.size = A at hD hEx ⊢
  have hEx : xX A s := hEx
  have hA : ∀ q : Nat, s.heap.size ≤ q → A q := fun q h => by rw [← hAe]; exact Or.inr h
  have hS : va_S A s.heap s.heap [] := va_S.rf
  have hl := lv_entry ([.ref h0, .int p1]) (n := 3) (Nat.le_of_ble_eq_true rfl)
  rw [lg_entry_eq]
  generalize (lg_sl ([.ref h0, .int p1]) ++ List.replicate (3 - (lg_sl ([.ref h0, .int p1])).length) Slot.unset).toArray = ls at hl ⊢
  have hl : lv_has ls 3 [(0, .ref h0), (1, .int p1)] := hl
  refine lv_aload_n hx hb dX9_page_0 rfl (lv_at hl 0 rfl) ?_
  refine lv_iload_n hx hb dX9_page_1 rfl (lv_at hl 1 rfl) ?_
  refine lv_if_lt (tgt := 20) hx hb dX9_page_2 (by decide) (fun c2_ => ?_) (fun c2_ => ?_)
  · refine lv_iconst (v := 0) hx hb dX9_page_20 (by decide) ?_
    have hPc := hP.sub (ws' := [(h0, .inr (9, [.ref w1, .ref w6, .int 0, .ref w8, .ref w15, .int 0, .int 0, .ref w22, .ref w26, .ref w31, .ref w35, .ref w40, .ref w48, .ref w50, .ref w52])), (w52, .inl (d53, 3, .inl (fun _ => 0)))]) [0, 1] rfl
    have hDc := hD.sub (ws' := [(h0, .inr (9, [.ref w1, .ref w6, .int 0, .ref w8, .ref w15, .int 0, .int 0, .ref w22, .ref w26, .ref w31, .ref w35, .ref w40, .ref w48, .ref w50, .ref w52])), (w52, .inl (d53, 3, .inl (fun _ => 0)))]) [0, 1] (by decide) rfl
    have hKc := hK.sub (tys' := [(d53, .int)]) [0] rfl
    have hFc := va_free (wc := [(h0, .inr (9, [.ref w1, .ref w6, .int 0, .ref w8, .ref w15, .int 0, .int 0, .ref w22, .ref w26, .ref w31, .ref w35, .ref w40, .ref w48, .ref w50, .ref w52])), (w52, .inl (d53, 3, .inl (fun _ => 0)))]) hD hS hA [0, 1] rfl
    refine vx_callv (vx_runV (As := [.int 0]) (rest := []) ⟨hx, hb, hml, hown, hts⟩ (x_needArgument l hfl dC dI s.heap.size (h0) (w1) (w6) (w8) (w15) (w22) (w26) (w31) (w35) (w40) (w48) (w50) (w52) (d53)) (cwV 1 hts (gV_G k596 k598 ks_yX9_needArgument k1 k599) rfl rfl rfl (by decide +kernel) ⟨Nat.le_of_ble_eq_true rfl, Nat.le_of_ble_eq_true rfl⟩) ⟨fun a U g mk q => by obtain ⟨q0, q1, qP, qK, qD, qE⟩ := q; exact ⟨q0, q1, qP, va_K.moved (u := U) (U := U.calling g mk a) (Vm.Alike.refl U.vm) qK, qD, xX_call qE⟩, va_recv hKc hPc (ci := 9) (q0 := 0) rfl rfl, fun U hU hW => ⟨rfl, by rw [hU], by rw [hU]; exact hPc, va_K.moved hW.alike hKc, hDc.weaken (fun _ _ _ _ => trivial), xX_at hEx hS (fun q h => hFc q h) hU hW⟩⟩ rfl rfl hl.1 rfl (lv_room (Nat.le_of_ble_eq_true rfl)) dX9_page_21 ⟨Nat.le_of_ble_eq_true rfl, Nat.le_of_ble_eq_true rfl⟩) hS (fun q _ h => hFc q h) hFc (fun q _ h => hFc q h) (fun E ce q9 u t H1 locs ht hvm hpx hBX hz1 hk1 hS hce hcv hcl => ?_) (fun u t H1 locs ht hvm hw hB hz1 hk1 hS => hw.elim)
    exact vx_out (fun x hx9 => (hnt x hx9).elim) hlocks hce hcv hcl (fun t ht hW => ⟨(), trivial, hBX, hS.F ht⟩) hS.2.2 (Nat.le_of_ble_eq_true rfl) (Nat.le_of_ble_eq_true rfl)
  · refine lv_iload_n hx hb dX9_page_5 rfl (lv_at hl 1 rfl) ?_
    refine lv_aload_n hx hb dX9_page_6 rfl (lv_at hl 0 rfl) ?_
    refine va_get (D := (dC, dI)) (ci := 9) (v := .ref w1) (C := RX9) (T := TX9) (N := 15) hx hb hts inG9 hown hK hP 0 rfl rfl 0 (by decide) (hts _ k332) (fun _ h9 => h9) rfl dX9_page_7 ?_
    refine va_get (D := (dC, dI)) (ci := 5) (v := .int 0) (C := RX5) (T := TX5) (N := 8) hx hb hts inG5 hown hK hP 2 rfl rfl 1 (by decide) (hts _ k37) (fun _ h9 => h9) rfl dX9_page_10 ?_
    refine lv_icmp_gt (tgt := 20) hx hb dX9_page_13 (by decide) (fun _ => ?_) (fun c13_ => absurd (x_pos hq c2_) c13_)
    refine lv_iconst (v := 0) hx hb dX9_page_20 (by decide) ?_
    have hPc := hP.sub (ws' := [(h0, .inr (9, [.ref w1, .ref w6, .int 0, .ref w8, .ref w15, .int 0, .int 0, .ref w22, .ref w26, .ref w31, .ref w35, .ref w40, .ref w48, .ref w50, .ref w52])), (w52, .inl (d53, 3, .inl (fun _ => 0)))]) [0, 1] rfl
    have hDc := hD.sub (ws' := [(h0, .inr (9, [.ref w1, .ref w6, .int 0, .ref w8, .ref w15, .int 0, .int 0, .ref w22, .ref w26, .ref w31, .ref w35, .ref w40, .ref w48, .ref w50, .ref w52])), (w52, .inl (d53, 3, .inl (fun _ => 0)))]) [0, 1] (by decide) rfl
    have hKc := hK.sub (tys' := [(d53, .int)]) [0] rfl
    have hFc := va_free (wc := [(h0, .inr (9, [.ref w1, .ref w6, .int 0, .ref w8, .ref w15, .int 0, .int 0, .ref w22, .ref w26, .ref w31, .ref w35, .ref w40, .ref w48, .ref w50, .ref w52])), (w52, .inl (d53, 3, .inl (fun _ => 0)))]) hD hS hA [0, 1] rfl
    refine vx_callv (vx_runV (As := [.int 0]) (rest := []) ⟨hx, hb, hml, hown, hts⟩ (x_needArgument l hfl dC dI s.heap.size (h0) (w1) (w6) (w8) (w15) (w22) (w26) (w31) (w35) (w40) (w48) (w50) (w52) (d53)) (cwV 1 hts (gV_G k596 k598 ks_yX9_needArgument k1 k599) rfl rfl rfl (by decide +kernel) ⟨Nat.le_of_ble_eq_true rfl, Nat.le_of_ble_eq_true rfl⟩) ⟨fun a U g mk q => by obtain ⟨q0, q1, qP, qK, qD, qE⟩ := q; exact ⟨q0, q1, qP, va_K.moved (u := U) (U := U.calling g mk a) (Vm.Alike.refl U.vm) qK, qD, xX_call qE⟩, va_recv hKc hPc (ci := 9) (q0 := 0) rfl rfl, fun U hU hW => ⟨rfl, by rw [hU], by rw [hU]; exact hPc, va_K.moved hW.alike hKc, hDc.weaken (fun _ _ _ _ => trivial), xX_at hEx hS (fun q h => hFc q h) hU hW⟩⟩ rfl rfl hl.1 rfl (lv_room (Nat.le_of_ble_eq_true rfl)) dX9_page_21 ⟨Nat.le_of_ble_eq_true rfl, Nat.le_of_ble_eq_true rfl⟩) hS (fun q _ h => hFc q h) hFc (fun q _ h => hFc q h) (fun E ce q9 u t H1 locs ht hvm hpx hBX hz1 hk1 hS hce hcv hcl => ?_) (fun u t H1 locs ht hvm hw hB hz1 hk1 hS => hw.elim)
    exact vx_out (fun x hx9 => (hnt x hx9).elim) hlocks hce hcv hcl (fun t ht hW => ⟨(), trivial, hBX, hS.F ht⟩) hS.2.2 (Nat.le_of_ble_eq_true rfl) (Nat.le_of_ble_eq_true rfl)
set_option maxHeartbeats 4000000 in
set_option maxRecDepth 100000 in
theorem x_tidied (l : Launch) (hfl : l.stackTraces = false) (dC : Nat → ClassId) (dI : Nat → Nat → Nat) (sz : Nat) (h0 : Nat) (w1 : Nat) (w6 : Nat) (w8 : Nat) (w15 : Nat) (w22 : Nat) (w26 : Nat) (w31 : Nat) (w35 : Nat) (w40 : Nat) (w48 : Nat) (w50 : Nat) (w52 : Nat) (d53 : ClassId) (p1 : Int32) (hq : ¬ (¬ p1 < 0 ∧ ¬ (3 : Int32) < p1)) : vx_Met l yX9_tidied (Cond.code yX9_tidied cX9_tidied 3 (some .int) :: wsG) ({ frames := 7, cells := 1, slots := 6, locals := 110 } : Room) (va_Pc [.ref h0, .int p1] (fun U => U.heap.size = sz ∧ va_P (dC, dI) vwCl [(h0, .inr (9, [.ref w1, .ref w6, .int 0, .ref w8, .ref w15, .int 0, .int 0, .ref w22, .ref w26, .ref w31, .ref w35, .ref w40, .ref w48, .ref w50, .ref w52])), (w52, .inl (d53, 3, .inl (fun _ => 0)))] U.heap ∧ va_K (dC, dI) vwCl [(d53, .int)] U ∧ va_D (fun _ => True) [(h0, .inr (9, [.ref w1, .ref w6, .int 0, .ref w8, .ref w15, .int 0, .int 0, .ref w22, .ref w26, .ref w31, .ref w35, .ref w40, .ref w48, .ref w50, .ref w52])), (w52, .inl (d53, 3, .inl (fun _ => 0)))] ∧ xX (va_A [(h0, .inr (9, [.ref w1, .ref w6, .int 0, .ref w8, .ref w15, .int 0, .int 0, .ref w22, .ref w26, .ref w31, .ref w35, .ref w40, .ref w48, .ref w50, .ref w52])), (w52, .inl (d53, 3, .inl (fun _ => 0)))] sz) U)) (xQ (va_A [(h0, .inr (9, [.ref w1, .ref w6, .int 0, .ref w8, .ref w15, .int 0, .int 0, .ref w22, .ref w26, .ref w31, .ref w35, .ref w40, .ref w48, .ref w50, .ref w52])), (w52, .inl (d53, 3, .inl (fun _ => 0)))] sz)) (xC "java/lang/IllegalArgumentException" (va_A [(h0, .inr (9, [.ref w1, .ref w6, .int 0, .ref w8, .ref w15, .int 0, .int 0, .ref w22, .ref w26, .ref w31, .ref w35, .ref w40, .ref w48, .ref w50, .ref w52])), (w52, .inl (d53, 3, .inl (fun _ => 0)))] sz)) 1 6 (va_A [(h0, .inr (9, [.ref w1, .ref w6, .int 0, .ref w8, .ref w15, .int 0, .int 0, .ref w22, .ref w26, .ref w31, .ref w35, .ref w40, .ref w48, .ref w50, .ref w52])), (w52, .inl (d53, 3, .inl (fun _ => 0)))] sz) := by
  refine vx_ofW (cc := cX9_tidied) (maxL := 3) (ret := (some .int)) (by decide) rfl ?_
  intro p e s m args below meth c s₁ B hml hnt hv
  obtain ⟨rfl, hsz, hP, hK, hD0, hEx⟩ := hv
  have hx := B.exec
  have hb := B.bytes
  have hr := B.returns
  have hts : ∀ w ∈ wsG, w.before _ s = true := hG_of (atoms_spec (ws := (Cond.code yX9_tidied cX9_tidied 3 (some .int) :: wsG)) B.pre)
  have hown : s.vm.findClass RX9 = some m.cls := findClass_of_methodNamed B.named
  have hlocks := B.notSynchronized
  subst hsz
  have hD := hD0.self (sz := s.heap.size)
  generalize hAe : va_A [(h0, .inr (9, [.ref w1, .ref w6, .int 0, .ref w8, .ref w15, .int 0, .int 0, .ref w22, .ref w26, .ref w31, .ref w35, .ref w40, .ref w48, .ref w50, .ref w52])), (w52, .inl (d53, 3, .inl (fun _ => 0)))] s.heap.size = A at hD hEx ⊢
  have hEx : xX A s := hEx
  have hA : ∀ q : Nat, s.heap.size ≤ q → A q := fun q h => by rw [← hAe]; exact Or.inr h
  have hS : va_S A s.heap s.heap [] := va_S.rf
  have hl := lv_entry ([.ref h0, .int p1]) (n := 3) (Nat.le_of_ble_eq_true rfl)
  rw [lg_entry_eq]
  generalize (lg_sl ([.ref h0, .int p1]) ++ List.replicate (3 - (lg_sl ([.ref h0, .int p1])).length) Slot.unset).toArray = ls at hl ⊢
  have hl : lv_has ls 3 [(0, .ref h0), (1, .int p1)] := hl
  refine lv_aload_n hx hb dX9_tidied_0 rfl (lv_at hl 0 rfl) ?_
  refine lv_iload_n hx hb dX9_tidied_1 rfl (lv_at hl 1 rfl) ?_
  refine lv_if_lt (tgt := 14) hx hb dX9_tidied_2 (by decide) (fun c2_ => ?_) (fun c2_ => ?_)
  · refine lv_iconst (v := 0) hx hb dX9_tidied_14 (by decide) ?_
    have hPc := hP.sub (ws' := [(h0, .inr (9, [.ref w1, .ref w6, .int 0, .ref w8, .ref w15, .int 0, .int 0, .ref w22, .ref w26, .ref w31, .ref w35, .ref w40, .ref w48, .ref w50, .ref w52])), (w52, .inl (d53, 3, .inl (fun _ => 0)))]) [0, 1] rfl
    have hDc := hD.sub (ws' := [(h0, .inr (9, [.ref w1, .ref w6, .int 0, .ref w8, .ref w15, .int 0, .int 0, .ref w22, .ref w26, .ref w31, .ref w35, .ref w40, .ref w48, .ref w50, .ref w52])), (w52, .inl (d53, 3, .inl (fun _ => 0)))]) [0, 1] (by decide) rfl
    have hKc := hK.sub (tys' := [(d53, .int)]) [0] rfl
    have hFc := va_free (wc := [(h0, .inr (9, [.ref w1, .ref w6, .int 0, .ref w8, .ref w15, .int 0, .int 0, .ref w22, .ref w26, .ref w31, .ref w35, .ref w40, .ref w48, .ref w50, .ref w52])), (w52, .inl (d53, 3, .inl (fun _ => 0)))]) hD hS hA [0, 1] rfl
    refine vx_callv (vx_runV (As := [.int 0]) (rest := []) ⟨hx, hb, hml, hown, hts⟩ (x_needArgument l hfl dC dI s.heap.size (h0) (w1) (w6) (w8) (w15) (w22) (w26) (w31) (w35) (w40) (w48) (w50) (w52) (d53)) (cwV 1 hts (gV_G k596 k598 ks_yX9_needArgument k1 k599) rfl rfl rfl (by decide +kernel) ⟨Nat.le_of_ble_eq_true rfl, Nat.le_of_ble_eq_true rfl⟩) ⟨fun a U g mk q => by obtain ⟨q0, q1, qP, qK, qD, qE⟩ := q; exact ⟨q0, q1, qP, va_K.moved (u := U) (U := U.calling g mk a) (Vm.Alike.refl U.vm) qK, qD, xX_call qE⟩, va_recv hKc hPc (ci := 9) (q0 := 0) rfl rfl, fun U hU hW => ⟨rfl, by rw [hU], by rw [hU]; exact hPc, va_K.moved hW.alike hKc, hDc.weaken (fun _ _ _ _ => trivial), xX_at hEx hS (fun q h => hFc q h) hU hW⟩⟩ rfl rfl hl.1 rfl (lv_room (Nat.le_of_ble_eq_true rfl)) dX9_tidied_15 ⟨Nat.le_of_ble_eq_true rfl, Nat.le_of_ble_eq_true rfl⟩) hS (fun q _ h => hFc q h) hFc (fun q _ h => hFc q h) (fun E ce q9 u t H1 locs ht hvm hpx hBX hz1 hk1 hS hce hcv hcl => ?_) (fun u t H1 locs ht hvm hw hB hz1 hk1 hS => hw.elim)
    exact vx_out (fun x hx9 => (hnt x hx9).elim) hlocks hce hcv hcl (fun t ht hW => ⟨(), trivial, hBX, hS.F ht⟩) hS.2.2 (Nat.le_of_ble_eq_true rfl) (Nat.le_of_ble_eq_true rfl)
  · refine lv_iload_n hx hb dX9_tidied_5 rfl (lv_at hl 1 rfl) ?_
    refine lv_iconst (v := 3) hx hb dX9_tidied_6 (by decide) ?_
    refine lv_icmp_gt (tgt := 14) hx hb dX9_tidied_7 (by decide) (fun _ => ?_) (fun c7_ => absurd (Decidable.byContradiction (fun z => hq ⟨c2_, z⟩)) c7_)
    refine lv_iconst (v := 0) hx hb dX9_tidied_14 (by decide) ?_
    have hPc := hP.sub (ws' := [(h0, .inr (9, [.ref w1, .ref w6, .int 0, .ref w8, .ref w15, .int 0, .int 0, .ref w22, .ref w26, .ref w31, .ref w35, .ref w40, .ref w48, .ref w50, .ref w52])), (w52, .inl (d53, 3, .inl (fun _ => 0)))]) [0, 1] rfl
    have hDc := hD.sub (ws' := [(h0, .inr (9, [.ref w1, .ref w6, .int 0, .ref w8, .ref w15, .int 0, .int 0, .ref w22, .ref w26, .ref w31, .ref w35, .ref w40, .ref w48, .ref w50, .ref w52])), (w52, .inl (d53, 3, .inl (fun _ => 0)))]) [0, 1] (by decide) rfl
    have hKc := hK.sub (tys' := [(d53, .int)]) [0] rfl
    have hFc := va_free (wc := [(h0, .inr (9, [.ref w1, .ref w6, .int 0, .ref w8, .ref w15, .int 0, .int 0, .ref w22, .ref w26, .ref w31, .ref w35, .ref w40, .ref w48, .ref w50, .ref w52])), (w52, .inl (d53, 3, .inl (fun _ => 0)))]) hD hS hA [0, 1] rfl
    refine vx_callv (vx_runV (As := [.int 0]) (rest := []) ⟨hx, hb, hml, hown, hts⟩ (x_needArgument l hfl dC dI s.heap.size (h0) (w1) (w6) (w8) (w15) (w22) (w26) (w31) (w35) (w40) (w48) (w50) (w52) (d53)) (cwV 1 hts (gV_G k596 k598 ks_yX9_needArgument k1 k599) rfl rfl rfl (by decide +kernel) ⟨Nat.le_of_ble_eq_true rfl, Nat.le_of_ble_eq_true rfl⟩) ⟨fun a U g mk q => by obtain ⟨q0, q1, qP, qK, qD, qE⟩ := q; exact ⟨q0, q1, qP, va_K.moved (u := U) (U := U.calling g mk a) (Vm.Alike.refl U.vm) qK, qD, xX_call qE⟩, va_recv hKc hPc (ci := 9) (q0 := 0) rfl rfl, fun U hU hW => ⟨rfl, by rw [hU], by rw [hU]; exact hPc, va_K.moved hW.alike hKc, hDc.weaken (fun _ _ _ _ => trivial), xX_at hEx hS (fun q h => hFc q h) hU hW⟩⟩ rfl rfl hl.1 rfl (lv_room (Nat.le_of_ble_eq_true rfl)) dX9_tidied_15 ⟨Nat.le_of_ble_eq_true rfl, Nat.le_of_ble_eq_true rfl⟩) hS (fun q _ h => hFc q h) hFc (fun q _ h => hFc q h) (fun E ce q9 u t H1 locs ht hvm hpx hBX hz1 hk1 hS hce hcv hcl => ?_) (fun u t H1 locs ht hvm hw hB hz1 hk1 hS => hw.elim)
    exact vx_out (fun x hx9 => (hnt x hx9).elim) hlocks hce hcv hcl (fun t ht hW => ⟨(), trivial, hBX, hS.F ht⟩) hS.2.2 (Nat.le_of_ble_eq_true rfl) (Nat.le_of_ble_eq_true rfl)
set_option maxHeartbeats 4000000 in
set_option maxRecDepth 100000 in
theorem x_orders (l : Launch) (hfl : l.stackTraces = false) (dC : Nat → ClassId) (dI : Nat → Nat → Nat) (sz : Nat) (h0 : Nat) (w1 : Nat) (w6 : Nat) (w8 : Nat) (w15 : Nat) (w22 : Nat) (w26 : Nat) (w31 : Nat) (w35 : Nat) (w40 : Nat) (w48 : Nat) (w50 : Nat) (w52 : Nat) (d53 : ClassId) (p1 : Int32) (hq : ¬ (¬ p1 < 0 ∧ ¬ (3 : Int32) < p1)) : vx_Met l yX9_orders (Cond.code yX9_orders cX9_orders 2 (some .int) :: wsG) ({ frames := 7, cells := 1, slots := 6, locals := 110 } : Room) (va_Pc [.ref h0, .int p1] (fun U => U.heap.size = sz ∧ va_P (dC, dI) vwCl [(h0, .inr (9, [.ref w1, .ref w6, .int 0, .ref w8, .ref w15, .int 0, .int 0, .ref w22, .ref w26, .ref w31, .ref w35, .ref w40, .ref w48, .ref w50, .ref w52])), (w52, .inl (d53, 3, .inl (fun _ => 0)))] U.heap ∧ va_K (dC, dI) vwCl [(d53, .int)] U ∧ va_D (fun _ => True) [(h0, .inr (9, [.ref w1, .ref w6, .int 0, .ref w8, .ref w15, .int 0, .int 0, .ref w22, .ref w26, .ref w31, .ref w35, .ref w40, .ref w48, .ref w50, .ref w52])), (w52, .inl (d53, 3, .inl (fun _ => 0)))] ∧ xX (va_A [(h0, .inr (9, [.ref w1, .ref w6, .int 0, .ref w8, .ref w15, .int 0, .int 0, .ref w22, .ref w26, .ref w31, .ref w35, .ref w40, .ref w48, .ref w50, .ref w52])), (w52, .inl (d53, 3, .inl (fun _ => 0)))] sz) U)) (xQ (va_A [(h0, .inr (9, [.ref w1, .ref w6, .int 0, .ref w8, .ref w15, .int 0, .int 0, .ref w22, .ref w26, .ref w31, .ref w35, .ref w40, .ref w48, .ref w50, .ref w52])), (w52, .inl (d53, 3, .inl (fun _ => 0)))] sz)) (xC "java/lang/IllegalArgumentException" (va_A [(h0, .inr (9, [.ref w1, .ref w6, .int 0, .ref w8, .ref w15, .int 0, .int 0, .ref w22, .ref w26, .ref w31, .ref w35, .ref w40, .ref w48, .ref w50, .ref w52])), (w52, .inl (d53, 3, .inl (fun _ => 0)))] sz)) 1 6 (va_A [(h0, .inr (9, [.ref w1, .ref w6, .int 0, .ref w8, .ref w15, .int 0, .int 0, .ref w22, .ref w26, .ref w31, .ref w35, .ref w40, .ref w48, .ref w50, .ref w52])), (w52, .inl (d53, 3, .inl (fun _ => 0)))] sz) := by
  refine vx_ofW (cc := cX9_orders) (maxL := 2) (ret := (some .int)) (by decide) rfl ?_
  intro p e s m args below meth c s₁ B hml hnt hv
  obtain ⟨rfl, hsz, hP, hK, hD0, hEx⟩ := hv
  have hx := B.exec
  have hb := B.bytes
  have hr := B.returns
  have hts : ∀ w ∈ wsG, w.before _ s = true := hG_of (atoms_spec (ws := (Cond.code yX9_orders cX9_orders 2 (some .int) :: wsG)) B.pre)
  have hown : s.vm.findClass RX9 = some m.cls := findClass_of_methodNamed B.named
  have hlocks := B.notSynchronized
  subst hsz
  have hD := hD0.self (sz := s.heap.size)
  generalize hAe : va_A [(h0, .inr (9, [.ref w1, .ref w6, .int 0, .ref w8, .ref w15, .int 0, .int 0, .ref w22, .ref w26, .ref w31, .ref w35, .ref w40, .ref w48, .ref w50, .ref w52])), (w52, .inl (d53, 3, .inl (fun _ => 0)))] s.heap.size = A at hD hEx ⊢
  have hEx : xX A s := hEx
  have hA : ∀ q : Nat, s.heap.size ≤ q → A q := fun q h => by rw [← hAe]; exact Or.inr h
  have hS : va_S A s.heap s.heap [] := va_S.rf
  have hl := lv_entry ([.ref h0, .int p1]) (n := 2) (Nat.le_of_ble_eq_true rfl)
  rw [lg_entry_eq]
  generalize (lg_sl ([.ref h0, .int p1]) ++ List.replicate (2 - (lg_sl ([.ref h0, .int p1])).length) Slot.unset).toArray = ls at hl ⊢
  have hl : lv_has ls 2 [(0, .ref h0), (1, .int p1)] := hl
  refine lv_aload_n hx hb dX9_orders_0 rfl (lv_at hl 0 rfl) ?_
  refine lv_iload_n hx hb dX9_orders_1 rfl (lv_at hl 1 rfl) ?_
  refine lv_if_lt (tgt := 14) hx hb dX9_orders_2 (by decide) (fun c2_ => ?_) (fun c2_ => ?_)
  · refine lv_iconst (v := 0) hx hb dX9_orders_14 (by decide) ?_
    have hPc := hP.sub (ws' := [(h0, .inr (9, [.ref w1, .ref w6, .int 0, .ref w8, .ref w15, .int 0, .int 0, .ref w22, .ref w26, .ref w31, .ref w35, .ref w40, .ref w48, .ref w50, .ref w52])), (w52, .inl (d53, 3, .inl (fun _ => 0)))]) [0, 1] rfl
    have hDc := hD.sub (ws' := [(h0, .inr (9, [.ref w1, .ref w6, .int 0, .ref w8, .ref w15, .int 0, .int 0, .ref w22, .ref w26, .ref w31, .ref w35, .ref w40, .ref w48, .ref w50, .ref w52])), (w52, .inl (d53, 3, .inl (fun _ => 0)))]) [0, 1] (by decide) rfl
    have hKc := hK.sub (tys' := [(d53, .int)]) [0] rfl
    have hFc := va_free (wc := [(h0, .inr (9, [.ref w1, .ref w6, .int 0, .ref w8, .ref w15, .int 0, .int 0, .ref w22, .ref w26, .ref w31, .ref w35, .ref w40, .ref w48, .ref w50, .ref w52])), (w52, .inl (d53, 3, .inl (fun _ => 0)))]) hD hS hA [0, 1] rfl
    refine vx_callv (vx_runV (As := [.int 0]) (rest := []) ⟨hx, hb, hml, hown, hts⟩ (x_needArgument l hfl dC dI s.heap.size (h0) (w1) (w6) (w8) (w15) (w22) (w26) (w31) (w35) (w40) (w48) (w50) (w52) (d53)) (cwV 1 hts (gV_G k596 k598 ks_yX9_needArgument k1 k599) rfl rfl rfl (by decide +kernel) ⟨Nat.le_of_ble_eq_true rfl, Nat.le_of_ble_eq_true rfl⟩) ⟨fun a U g mk q => by obtain ⟨q0, q1, qP, qK, qD, qE⟩ := q; exact ⟨q0, q1, qP, va_K.moved (u := U) (U := U.calling g mk a) (Vm.Alike.refl U.vm) qK, qD, xX_call qE⟩, va_recv hKc hPc (ci := 9) (q0 := 0) rfl rfl, fun U hU hW => ⟨rfl, by rw [hU], by rw [hU]; exact hPc, va_K.moved hW.alike hKc, hDc.weaken (fun _ _ _ _ => trivial), xX_at hEx hS (fun q h => hFc q h) hU hW⟩⟩ rfl rfl hl.1 rfl (lv_room (Nat.le_of_ble_eq_true rfl)) dX9_orders_15 ⟨Nat.le_of_ble_eq_true rfl, Nat.le_of_ble_eq_true rfl⟩) hS (fun q _ h => hFc q h) hFc (fun q _ h => hFc q h) (fun E ce q9 u t H1 locs ht hvm hpx hBX hz1 hk1 hS hce hcv hcl => ?_) (fun u t H1 locs ht hvm hw hB hz1 hk1 hS => hw.elim)
    exact vx_out (fun x hx9 => (hnt x hx9).elim) hlocks hce hcv hcl (fun t ht hW => ⟨(), trivial, hBX, hS.F ht⟩) hS.2.2 (Nat.le_of_ble_eq_true rfl) (Nat.le_of_ble_eq_true rfl)
  · refine lv_iload_n hx hb dX9_orders_5 rfl (lv_at hl 1 rfl) ?_
    refine lv_iconst (v := 3) hx hb dX9_orders_6 (by decide) ?_
    refine lv_icmp_gt (tgt := 14) hx hb dX9_orders_7 (by decide) (fun _ => ?_) (fun c7_ => absurd (Decidable.byContradiction (fun z => hq ⟨c2_, z⟩)) c7_)
    refine lv_iconst (v := 0) hx hb dX9_orders_14 (by decide) ?_
    have hPc := hP.sub (ws' := [(h0, .inr (9, [.ref w1, .ref w6, .int 0, .ref w8, .ref w15, .int 0, .int 0, .ref w22, .ref w26, .ref w31, .ref w35, .ref w40, .ref w48, .ref w50, .ref w52])), (w52, .inl (d53, 3, .inl (fun _ => 0)))]) [0, 1] rfl
    have hDc := hD.sub (ws' := [(h0, .inr (9, [.ref w1, .ref w6, .int 0, .ref w8, .ref w15, .int 0, .int 0, .ref w22, .ref w26, .ref w31, .ref w35, .ref w40, .ref w48, .ref w50, .ref w52])), (w52, .inl (d53, 3, .inl (fun _ => 0)))]) [0, 1] (by decide) rfl
    have hKc := hK.sub (tys' := [(d53, .int)]) [0] rfl
    have hFc := va_free (wc := [(h0, .inr (9, [.ref w1, .ref w6, .int 0, .ref w8, .ref w15, .int 0, .int 0, .ref w22, .ref w26, .ref w31, .ref w35, .ref w40, .ref w48, .ref w50, .ref w52])), (w52, .inl (d53, 3, .inl (fun _ => 0)))]) hD hS hA [0, 1] rfl
    refine vx_callv (vx_runV (As := [.int 0]) (rest := []) ⟨hx, hb, hml, hown, hts⟩ (x_needArgument l hfl dC dI s.heap.size (h0) (w1) (w6) (w8) (w15) (w22) (w26) (w31) (w35) (w40) (w48) (w50) (w52) (d53)) (cwV 1 hts (gV_G k596 k598 ks_yX9_needArgument k1 k599) rfl rfl rfl (by decide +kernel) ⟨Nat.le_of_ble_eq_true rfl, Nat.le_of_ble_eq_true rfl⟩) ⟨fun a U g mk q => by obtain ⟨q0, q1, qP, qK, qD, qE⟩ := q; exact ⟨q0, q1, qP, va_K.moved (u := U) (U := U.calling g mk a) (Vm.Alike.refl U.vm) qK, qD, xX_call qE⟩, va_recv hKc hPc (ci := 9) (q0 := 0) rfl rfl, fun U hU hW => ⟨rfl, by rw [hU], by rw [hU]; exact hPc, va_K.moved hW.alike hKc, hDc.weaken (fun _ _ _ _ => trivial), xX_at hEx hS (fun q h => hFc q h) hU hW⟩⟩ rfl rfl hl.1 rfl (lv_room (Nat.le_of_ble_eq_true rfl)) dX9_orders_15 ⟨Nat.le_of_ble_eq_true rfl, Nat.le_of_ble_eq_true rfl⟩) hS (fun q _ h => hFc q h) hFc (fun q _ h => hFc q h) (fun E ce q9 u t H1 locs ht hvm hpx hBX hz1 hk1 hS hce hcv hcl => ?_) (fun u t H1 locs ht hvm hw hB hz1 hk1 hS => hw.elim)
    exact vx_out (fun x hx9 => (hnt x hx9).elim) hlocks hce hcv hcl (fun t ht hW => ⟨(), trivial, hBX, hS.F ht⟩) hS.2.2 (Nat.le_of_ble_eq_true rfl) (Nat.le_of_ble_eq_true rfl)
set_option maxHeartbeats 4000000 in
set_option maxRecDepth 100000 in
theorem x_firm (l : Launch) (hfl : l.stackTraces = false) (dC : Nat → ClassId) (dI : Nat → Nat → Nat) (sz : Nat) (h0 : Nat) (w1 : Nat) (w6 : Nat) (w8 : Nat) (w15 : Nat) (w22 : Nat) (w26 : Nat) (w31 : Nat) (w35 : Nat) (w40 : Nat) (w48 : Nat) (w50 : Nat) (w52 : Nat) (d53 : ClassId) (p1 : Int32) (hq : ¬ (¬ p1 < 0 ∧ ¬ (2 : Int32) < p1)) : vx_Met l yX9_firm (Cond.code yX9_firm cX9_firm 2 (some .int) :: wsG) ({ frames := 7, cells := 1, slots := 6, locals := 110 } : Room) (va_Pc [.ref h0, .int p1] (fun U => U.heap.size = sz ∧ va_P (dC, dI) vwCl [(h0, .inr (9, [.ref w1, .ref w6, .int 0, .ref w8, .ref w15, .int 0, .int 0, .ref w22, .ref w26, .ref w31, .ref w35, .ref w40, .ref w48, .ref w50, .ref w52])), (w52, .inl (d53, 3, .inl (fun _ => 0)))] U.heap ∧ va_K (dC, dI) vwCl [(d53, .int)] U ∧ va_D (fun _ => True) [(h0, .inr (9, [.ref w1, .ref w6, .int 0, .ref w8, .ref w15, .int 0, .int 0, .ref w22, .ref w26, .ref w31, .ref w35, .ref w40, .ref w48, .ref w50, .ref w52])), (w52, .inl (d53, 3, .inl (fun _ => 0)))] ∧ xX (va_A [(h0, .inr (9, [.ref w1, .ref w6, .int 0, .ref w8, .ref w15, .int 0, .int 0, .ref w22, .ref w26, .ref w31, .ref w35, .ref w40, .ref w48, .ref w50, .ref w52])), (w52, .inl (d53, 3, .inl (fun _ => 0)))] sz) U)) (xQ (va_A [(h0, .inr (9, [.ref w1, .ref w6, .int 0, .ref w8, .ref w15, .int 0, .int 0, .ref w22, .ref w26, .ref w31, .ref w35, .ref w40, .ref w48, .ref w50, .ref w52])), (w52, .inl (d53, 3, .inl (fun _ => 0)))] sz)) (xC "java/lang/IllegalArgumentException" (va_A [(h0, .inr (9, [.ref w1, .ref w6, .int 0, .ref w8, .ref w15, .int 0, .int 0, .ref w22, .ref w26, .ref w31, .ref w35, .ref w40, .ref w48, .ref w50, .ref w52])), (w52, .inl (d53, 3, .inl (fun _ => 0)))] sz)) 1 6 (va_A [(h0, .inr (9, [.ref w1, .ref w6, .int 0, .ref w8, .ref w15, .int 0, .int 0, .ref w22, .ref w26, .ref w31, .ref w35, .ref w40, .ref w48, .ref w50, .ref w52])), (w52, .inl (d53, 3, .inl (fun _ => 0)))] sz) := by
  refine vx_ofW (cc := cX9_firm) (maxL := 2) (ret := (some .int)) (by decide) rfl ?_
  intro p e s m args below meth c s₁ B hml hnt hv
  obtain ⟨rfl, hsz, hP, hK, hD0, hEx⟩ := hv
  have hx := B.exec
  have hb := B.bytes
  have hr := B.returns
  have hts : ∀ w ∈ wsG, w.before _ s = true := hG_of (atoms_spec (ws := (Cond.code yX9_firm cX9_firm 2 (some .int) :: wsG)) B.pre)
  have hown : s.vm.findClass RX9 = some m.cls := findClass_of_methodNamed B.named
  have hlocks := B.notSynchronized
  subst hsz
  have hD := hD0.self (sz := s.heap.size)
  generalize hAe : va_A [(h0, .inr (9, [.ref w1, .ref w6, .int 0, .ref w8, .ref w15, .int 0, .int 0, .ref w22, .ref w26, .ref w31, .ref w35, .ref w40, .ref w48, .ref w50, .ref w52])), (w52, .inl (d53, 3, .inl (fun _ => 0)))] s.heap.size = A at hD hEx ⊢
  have hEx : xX A s := hEx
  have hA : ∀ q : Nat, s.heap.size ≤ q → A q := fun q h => by rw [← hAe]; exact Or.inr h
  have hS : va_S A s.heap s.heap [] := va_S.rf
  have hl := lv_entry ([.ref h0, .int p1]) (n := 2) (Nat.le_of_ble_eq_true rfl)
  rw [lg_entry_eq]
  generalize (lg_sl ([.ref h0, .int p1]) ++ List.replicate (2 - (lg_sl ([.ref h0, .int p1])).length) Slot.unset).toArray = ls at hl ⊢
  have hl : lv_has ls 2 [(0, .ref h0), (1, .int p1)] := hl
  refine lv_aload_n hx hb dX9_firm_0 rfl (lv_at hl 0 rfl) ?_
  refine lv_iload_n hx hb dX9_firm_1 rfl (lv_at hl 1 rfl) ?_
  refine lv_if_lt (tgt := 14) hx hb dX9_firm_2 (by decide) (fun c2_ => ?_) (fun c2_ => ?_)
  · refine lv_iconst (v := 0) hx hb dX9_firm_14 (by decide) ?_
    have hPc := hP.sub (ws' := [(h0, .inr (9, [.ref w1, .ref w6, .int 0, .ref w8, .ref w15, .int 0, .int 0, .ref w22, .ref w26, .ref w31, .ref w35, .ref w40, .ref w48, .ref w50, .ref w52])), (w52, .inl (d53, 3, .inl (fun _ => 0)))]) [0, 1] rfl
    have hDc := hD.sub (ws' := [(h0, .inr (9, [.ref w1, .ref w6, .int 0, .ref w8, .ref w15, .int 0, .int 0, .ref w22, .ref w26, .ref w31, .ref w35, .ref w40, .ref w48, .ref w50, .ref w52])), (w52, .inl (d53, 3, .inl (fun _ => 0)))]) [0, 1] (by decide) rfl
    have hKc := hK.sub (tys' := [(d53, .int)]) [0] rfl
    have hFc := va_free (wc := [(h0, .inr (9, [.ref w1, .ref w6, .int 0, .ref w8, .ref w15, .int 0, .int 0, .ref w22, .ref w26, .ref w31, .ref w35, .ref w40, .ref w48, .ref w50, .ref w52])), (w52, .inl (d53, 3, .inl (fun _ => 0)))]) hD hS hA [0, 1] rfl
    refine vx_callv (vx_runV (As := [.int 0]) (rest := []) ⟨hx, hb, hml, hown, hts⟩ (x_needArgument l hfl dC dI s.heap.size (h0) (w1) (w6) (w8) (w15) (w22) (w26) (w31) (w35) (w40) (w48) (w50) (w52) (d53)) (cwV 1 hts (gV_G k596 k598 ks_yX9_needArgument k1 k599) rfl rfl rfl (by decide +kernel) ⟨Nat.le_of_ble_eq_true rfl, Nat.le_of_ble_eq_true rfl⟩) ⟨fun a U g mk q => by obtain ⟨q0, q1, qP, qK, qD, qE⟩ := q; exact ⟨q0, q1, qP, va_K.moved (u := U) (U := U.calling g mk a) (Vm.Alike.refl U.vm) qK, qD, xX_call qE⟩, va_recv hKc hPc (ci := 9) (q0 := 0) rfl rfl, fun U hU hW => ⟨rfl, by rw [hU], by rw [hU]; exact hPc, va_K.moved hW.alike hKc, hDc.weaken (fun _ _ _ _ => trivial), xX_at hEx hS (fun q h => hFc q h) hU hW⟩⟩ rfl rfl hl.1 rfl (lv_room (Nat.le_of_ble_eq_true rfl)) dX9_firm_15 ⟨Nat.le_of_ble_eq_true rfl, Nat.le_of_ble_eq_true rfl⟩) hS (fun q _ h => hFc q h) hFc (fun q _ h => hFc q h) (fun E ce q9 u t H1 locs ht hvm hpx hBX hz1 hk1 hS hce hcv hcl => ?_) (fun u t H1 locs ht hvm hw hB hz1 hk1 hS => hw.elim)
    exact vx_out (fun x hx9 => (hnt x hx9).elim) hlocks hce hcv hcl (fun t ht hW => ⟨(), trivial, hBX, hS.F ht⟩) hS.2.2 (Nat.le_of_ble_eq_true rfl) (Nat.le_of_ble_eq_true rfl)
  · refine lv_iload_n hx hb dX9_firm_5 rfl (lv_at hl 1 rfl) ?_
    refine lv_iconst (v := 2) hx hb dX9_firm_6 (by decide) ?_
    refine lv_icmp_gt (tgt := 14) hx hb dX9_firm_7 (by decide) (fun _ => ?_) (fun c7_ => absurd (Decidable.byContradiction (fun z => hq ⟨c2_, z⟩)) c7_)
    refine lv_iconst (v := 0) hx hb dX9_firm_14 (by decide) ?_
    have hPc := hP.sub (ws' := [(h0, .inr (9, [.ref w1, .ref w6, .int 0, .ref w8, .ref w15, .int 0, .int 0, .ref w22, .ref w26, .ref w31, .ref w35, .ref w40, .ref w48, .ref w50, .ref w52])), (w52, .inl (d53, 3, .inl (fun _ => 0)))]) [0, 1] rfl
    have hDc := hD.sub (ws' := [(h0, .inr (9, [.ref w1, .ref w6, .int 0, .ref w8, .ref w15, .int 0, .int 0, .ref w22, .ref w26, .ref w31, .ref w35, .ref w40, .ref w48, .ref w50, .ref w52])), (w52, .inl (d53, 3, .inl (fun _ => 0)))]) [0, 1] (by decide) rfl
    have hKc := hK.sub (tys' := [(d53, .int)]) [0] rfl
    have hFc := va_free (wc := [(h0, .inr (9, [.ref w1, .ref w6, .int 0, .ref w8, .ref w15, .int 0, .int 0, .ref w22, .ref w26, .ref w31, .ref w35, .ref w40, .ref w48, .ref w50, .ref w52])), (w52, .inl (d53, 3, .inl (fun _ => 0)))]) hD hS hA [0, 1] rfl
    refine vx_callv (vx_runV (As := [.int 0]) (rest := []) ⟨hx, hb, hml, hown, hts⟩ (x_needArgument l hfl dC dI s.heap.size (h0) (w1) (w6) (w8) (w15) (w22) (w26) (w31) (w35) (w40) (w48) (w50) (w52) (d53)) (cwV 1 hts (gV_G k596 k598 ks_yX9_needArgument k1 k599) rfl rfl rfl (by decide +kernel) ⟨Nat.le_of_ble_eq_true rfl, Nat.le_of_ble_eq_true rfl⟩) ⟨fun a U g mk q => by obtain ⟨q0, q1, qP, qK, qD, qE⟩ := q; exact ⟨q0, q1, qP, va_K.moved (u := U) (U := U.calling g mk a) (Vm.Alike.refl U.vm) qK, qD, xX_call qE⟩, va_recv hKc hPc (ci := 9) (q0 := 0) rfl rfl, fun U hU hW => ⟨rfl, by rw [hU], by rw [hU]; exact hPc, va_K.moved hW.alike hKc, hDc.weaken (fun _ _ _ _ => trivial), xX_at hEx hS (fun q h => hFc q h) hU hW⟩⟩ rfl rfl hl.1 rfl (lv_room (Nat.le_of_ble_eq_true rfl)) dX9_firm_15 ⟨Nat.le_of_ble_eq_true rfl, Nat.le_of_ble_eq_true rfl⟩) hS (fun q _ h => hFc q h) hFc (fun q _ h => hFc q h) (fun E ce q9 u t H1 locs ht hvm hpx hBX hz1 hk1 hS hce hcv hcl => ?_) (fun u t H1 locs ht hvm hw hB hz1 hk1 hS => hw.elim)
    exact vx_out (fun x hx9 => (hnt x hx9).elim) hlocks hce hcv hcl (fun t ht hW => ⟨(), trivial, hBX, hS.F ht⟩) hS.2.2 (Nat.le_of_ble_eq_true rfl) (Nat.le_of_ble_eq_true rfl)
set_option maxHeartbeats 4000000 in
set_option maxRecDepth 100000 in
theorem x_derived (l : Launch) (hfl : l.stackTraces = false) (dC : Nat → ClassId) (dI : Nat → Nat → Nat) (sz : Nat) (h0 : Nat) (w1 : Nat) (w6 : Nat) (w8 : Nat) (w15 : Nat) (w22 : Nat) (w26 : Nat) (w31 : Nat) (w35 : Nat) (w40 : Nat) (w48 : Nat) (w50 : Nat) (w52 : Nat) (d53 : ClassId) (p1 : Int32) (hq : ¬ (¬ p1 < 0 ∧ ¬ (60 : Int32) < p1)) : vx_Met l yX9_derived (Cond.code yX9_derived cX9_derived 2 (some .int) :: wsG) ({ frames := 7, cells := 1, slots := 6, locals := 110 } : Room) (va_Pc [.ref h0, .int p1] (fun U => U.heap.size = sz ∧ va_P (dC, dI) vwCl [(h0, .inr (9, [.ref w1, .ref w6, .int 0, .ref w8, .ref w15, .int 0, .int 0, .ref w22, .ref w26, .ref w31, .ref w35, .ref w40, .ref w48, .ref w50, .ref w52])), (w52, .inl (d53, 3, .inl (fun _ => 0)))] U.heap ∧ va_K (dC, dI) vwCl [(d53, .int)] U ∧ va_D (fun _ => True) [(h0, .inr (9, [.ref w1, .ref w6, .int 0, .ref w8, .ref w15, .int 0, .int 0, .ref w22, .ref w26, .ref w31, .ref w35, .ref w40, .ref w48, .ref w50, .ref w52])), (w52, .inl (d53, 3, .inl (fun _ => 0)))] ∧ xX (va_A [(h0, .inr (9, [.ref w1, .ref w6, .int 0, .ref w8, .ref w15, .int 0, .int 0, .ref w22, .ref w26, .ref w31, .ref w35, .ref w40, .ref w48, .ref w50, .ref w52])), (w52, .inl (d53, 3, .inl (fun _ => 0)))] sz) U)) (xQ (va_A [(h0, .inr (9, [.ref w1, .ref w6, .int 0, .ref w8, .ref w15, .int 0, .int 0, .ref w22, .ref w26, .ref w31, .ref w35, .ref w40, .ref w48, .ref w50, .ref w52])), (w52, .inl (d53, 3, .inl (fun _ => 0)))] sz)) (xC "java/lang/IllegalArgumentException" (va_A [(h0, .inr (9, [.ref w1, .ref w6, .int 0, .ref w8, .ref w15, .int 0, .int 0, .ref w22, .ref w26, .ref w31, .ref w35, .ref w40, .ref w48, .ref w50, .ref w52])), (w52, .inl (d53, 3, .inl (fun _ => 0)))] sz)) 1 6 (va_A [(h0, .inr (9, [.ref w1, .ref w6, .int 0, .ref w8, .ref w15, .int 0, .int 0, .ref w22, .ref w26, .ref w31, .ref w35, .ref w40, .ref w48, .ref w50, .ref w52])), (w52, .inl (d53, 3, .inl (fun _ => 0)))] sz) := by
  refine vx_ofW (cc := cX9_derived) (maxL := 2) (ret := (some .int)) (by decide) rfl ?_
  intro p e s m args below meth c s₁ B hml hnt hv
  obtain ⟨rfl, hsz, hP, hK, hD0, hEx⟩ := hv
  have hx := B.exec
  have hb := B.bytes
  have hr := B.returns
  have hts : ∀ w ∈ wsG, w.before _ s = true := hG_of (atoms_spec (ws := (Cond.code yX9_derived cX9_derived 2 (some .int) :: wsG)) B.pre)
  have hown : s.vm.findClass RX9 = some m.cls := findClass_of_methodNamed B.named
  have hlocks := B.notSynchronized
  subst hsz
  have hD := hD0.self (sz := s.heap.size)
  generalize hAe : va_A [(h0, .inr (9, [.ref w1, .ref w6, .int 0, .ref w8, .ref w15, .int 0, .int 0, .ref w22, .ref w26, .ref w31, .ref w35, .ref w40, .ref w48, .ref w50, .ref w52])), (w52, .inl (d53, 3, .inl (fun _ => 0)))] s.heap.size = A at hD hEx ⊢
  have hEx : xX A s := hEx
  have hA : ∀ q : Nat, s.heap.size ≤ q → A q := fun q h => by rw [← hAe]; exact Or.inr h
  have hS : va_S A s.heap s.heap [] := va_S.rf
  have hl := lv_entry ([.ref h0, .int p1]) (n := 2) (Nat.le_of_ble_eq_true rfl)
  rw [lg_entry_eq]
  generalize (lg_sl ([.ref h0, .int p1]) ++ List.replicate (2 - (lg_sl ([.ref h0, .int p1])).length) Slot.unset).toArray = ls at hl ⊢
  have hl : lv_has ls 2 [(0, .ref h0), (1, .int p1)] := hl
  refine lv_aload_n hx hb dX9_derived_0 rfl (lv_at hl 0 rfl) ?_
  refine lv_iload_n hx hb dX9_derived_1 rfl (lv_at hl 1 rfl) ?_
  refine lv_if_lt (tgt := 15) hx hb dX9_derived_2 (by decide) (fun c2_ => ?_) (fun c2_ => ?_)
  · refine lv_iconst (v := 0) hx hb dX9_derived_15 (by decide) ?_
    have hPc := hP.sub (ws' := [(h0, .inr (9, [.ref w1, .ref w6, .int 0, .ref w8, .ref w15, .int 0, .int 0, .ref w22, .ref w26, .ref w31, .ref w35, .ref w40, .ref w48, .ref w50, .ref w52])), (w52, .inl (d53, 3, .inl (fun _ => 0)))]) [0, 1] rfl
    have hDc := hD.sub (ws' := [(h0, .inr (9, [.ref w1, .ref w6, .int 0, .ref w8, .ref w15, .int 0, .int 0, .ref w22, .ref w26, .ref w31, .ref w35, .ref w40, .ref w48, .ref w50, .ref w52])), (w52, .inl (d53, 3, .inl (fun _ => 0)))]) [0, 1] (by decide) rfl
    have hKc := hK.sub (tys' := [(d53, .int)]) [0] rfl
    have hFc := va_free (wc := [(h0, .inr (9, [.ref w1, .ref w6, .int 0, .ref w8, .ref w15, .int 0, .int 0, .ref w22, .ref w26, .ref w31, .ref w35, .ref w40, .ref w48, .ref w50, .ref w52])), (w52, .inl (d53, 3, .inl (fun _ => 0)))]) hD hS hA [0, 1] rfl
    refine vx_callv (vx_runV (As := [.int 0]) (rest := []) ⟨hx, hb, hml, hown, hts⟩ (x_needArgument l hfl dC dI s.heap.size (h0) (w1) (w6) (w8) (w15) (w22) (w26) (w31) (w35) (w40) (w48) (w50) (w52) (d53)) (cwV 1 hts (gV_G k596 k598 ks_yX9_needArgument k1 k599) rfl rfl rfl (by decide +kernel) ⟨Nat.le_of_ble_eq_true rfl, Nat.le_of_ble_eq_true rfl⟩) ⟨fun a U g mk q => by obtain ⟨q0, q1, qP, qK, qD, qE⟩ := q; exact ⟨q0, q1, qP, va_K.moved (u := U) (U := U.calling g mk a) (Vm.Alike.refl U.vm) qK, qD, xX_call qE⟩, va_recv hKc hPc (ci := 9) (q0 := 0) rfl rfl, fun U hU hW => ⟨rfl, by rw [hU], by rw [hU]; exact hPc, va_K.moved hW.alike hKc, hDc.weaken (fun _ _ _ _ => trivial), xX_at hEx hS (fun q h => hFc q h) hU hW⟩⟩ rfl rfl hl.1 rfl (lv_room (Nat.le_of_ble_eq_true rfl)) dX9_derived_16 ⟨Nat.le_of_ble_eq_true rfl, Nat.le_of_ble_eq_true rfl⟩) hS (fun q _ h => hFc q h) hFc (fun q _ h => hFc q h) (fun E ce q9 u t H1 locs ht hvm hpx hBX hz1 hk1 hS hce hcv hcl => ?_) (fun u t H1 locs ht hvm hw hB hz1 hk1 hS => hw.elim)
    exact vx_out (fun x hx9 => (hnt x hx9).elim) hlocks hce hcv hcl (fun t ht hW => ⟨(), trivial, hBX, hS.F ht⟩) hS.2.2 (Nat.le_of_ble_eq_true rfl) (Nat.le_of_ble_eq_true rfl)
  · refine lv_iload_n hx hb dX9_derived_5 rfl (lv_at hl 1 rfl) ?_
    refine lv_bipush (v := 60) hx hb dX9_derived_6 (by decide) ?_
    refine lv_icmp_gt (tgt := 15) hx hb dX9_derived_8 (by decide) (fun _ => ?_) (fun c8_ => absurd (Decidable.byContradiction (fun z => hq ⟨c2_, z⟩)) c8_)
    refine lv_iconst (v := 0) hx hb dX9_derived_15 (by decide) ?_
    have hPc := hP.sub (ws' := [(h0, .inr (9, [.ref w1, .ref w6, .int 0, .ref w8, .ref w15, .int 0, .int 0, .ref w22, .ref w26, .ref w31, .ref w35, .ref w40, .ref w48, .ref w50, .ref w52])), (w52, .inl (d53, 3, .inl (fun _ => 0)))]) [0, 1] rfl
    have hDc := hD.sub (ws' := [(h0, .inr (9, [.ref w1, .ref w6, .int 0, .ref w8, .ref w15, .int 0, .int 0, .ref w22, .ref w26, .ref w31, .ref w35, .ref w40, .ref w48, .ref w50, .ref w52])), (w52, .inl (d53, 3, .inl (fun _ => 0)))]) [0, 1] (by decide) rfl
    have hKc := hK.sub (tys' := [(d53, .int)]) [0] rfl
    have hFc := va_free (wc := [(h0, .inr (9, [.ref w1, .ref w6, .int 0, .ref w8, .ref w15, .int 0, .int 0, .ref w22, .ref w26, .ref w31, .ref w35, .ref w40, .ref w48, .ref w50, .ref w52])), (w52, .inl (d53, 3, .inl (fun _ => 0)))]) hD hS hA [0, 1] rfl
    refine vx_callv (vx_runV (As := [.int 0]) (rest := []) ⟨hx, hb, hml, hown, hts⟩ (x_needArgument l hfl dC dI s.heap.size (h0) (w1) (w6) (w8) (w15) (w22) (w26) (w31) (w35) (w40) (w48) (w50) (w52) (d53)) (cwV 1 hts (gV_G k596 k598 ks_yX9_needArgument k1 k599) rfl rfl rfl (by decide +kernel) ⟨Nat.le_of_ble_eq_true rfl, Nat.le_of_ble_eq_true rfl⟩) ⟨fun a U g mk q => by obtain ⟨q0, q1, qP, qK, qD, qE⟩ := q; exact ⟨q0, q1, qP, va_K.moved (u := U) (U := U.calling g mk a) (Vm.Alike.refl U.vm) qK, qD, xX_call qE⟩, va_recv hKc hPc (ci := 9) (q0 := 0) rfl rfl, fun U hU hW => ⟨rfl, by rw [hU], by rw [hU]; exact hPc, va_K.moved hW.alike hKc, hDc.weaken (fun _ _ _ _ => trivial), xX_at hEx hS (fun q h => hFc q h) hU hW⟩⟩ rfl rfl hl.1 rfl (lv_room (Nat.le_of_ble_eq_true rfl)) dX9_derived_16 ⟨Nat.le_of_ble_eq_true rfl, Nat.le_of_ble_eq_true rfl⟩) hS (fun q _ h => hFc q h) hFc (fun q _ h => hFc q h) (fun E ce q9 u t H1 locs ht hvm hpx hBX hz1 hk1 hS hce hcv hcl => ?_) (fun u t H1 locs ht hvm hw hB hz1 hk1 hS => hw.elim)
    exact vx_out (fun x hx9 => (hnt x hx9).elim) hlocks hce hcv hcl (fun t ht hW => ⟨(), trivial, hBX, hS.F ht⟩) hS.2.2 (Nat.le_of_ble_eq_true rfl) (Nat.le_of_ble_eq_true rfl)
set_option maxHeartbeats 4000000 in
set_option maxRecDepth 100000 in
theorem x_told (l : Launch) (hfl : l.stackTraces = false) (dC : Nat → ClassId) (dI : Nat → Nat → Nat) (sz : Nat) (h0 : Nat) (w1 : Nat) (w6 : Nat) (w8 : Nat) (w15 : Nat) (w22 : Nat) (w26 : Nat) (w31 : Nat) (w35 : Nat) (w40 : Nat) (w48 : Nat) (w50 : Nat) (w52 : Nat) (d53 : ClassId) (p1 : Int32) (hq : p1.toInt < 0 ∨ 9 < p1.toInt) : vx_Met l yX9_told (Cond.code yX9_told cX9_told 2 (some .int) :: wsG) ({ frames := 7, cells := 1, slots := 6, locals := 110 } : Room) (va_Pc [.ref h0, .int p1] (fun U => U.heap.size = sz ∧ va_P (dC, dI) vwCl [(h0, .inr (9, [.ref w1, .ref w6, .int 0, .ref w8, .ref w15, .int 0, .int 0, .ref w22, .ref w26, .ref w31, .ref w35, .ref w40, .ref w48, .ref w50, .ref w52])), (w52, .inl (d53, 3, .inl (fun _ => 0)))] U.heap ∧ va_K (dC, dI) vwCl [(d53, .int)] U ∧ va_D (fun _ => True) [(h0, .inr (9, [.ref w1, .ref w6, .int 0, .ref w8, .ref w15, .int 0, .int 0, .ref w22, .ref w26, .ref w31, .ref w35, .ref w40, .ref w48, .ref w50, .ref w52])), (w52, .inl (d53, 3, .inl (fun _ => 0)))] ∧ xX (va_A [(h0, .inr (9, [.ref w1, .ref w6, .int 0, .ref w8, .ref w15, .int 0, .int 0, .ref w22, .ref w26, .ref w31, .ref w35, .ref w40, .ref w48, .ref w50, .ref w52])), (w52, .inl (d53, 3, .inl (fun _ => 0)))] sz) U)) (xQ (va_A [(h0, .inr (9, [.ref w1, .ref w6, .int 0, .ref w8, .ref w15, .int 0, .int 0, .ref w22, .ref w26, .ref w31, .ref w35, .ref w40, .ref w48, .ref w50, .ref w52])), (w52, .inl (d53, 3, .inl (fun _ => 0)))] sz)) (xC "java/lang/IllegalArgumentException" (va_A [(h0, .inr (9, [.ref w1, .ref w6, .int 0, .ref w8, .ref w15, .int 0, .int 0, .ref w22, .ref w26, .ref w31, .ref w35, .ref w40, .ref w48, .ref w50, .ref w52])), (w52, .inl (d53, 3, .inl (fun _ => 0)))] sz)) 1 6 (va_A [(h0, .inr (9, [.ref w1, .ref w6, .int 0, .ref w8, .ref w15, .int 0, .int 0, .ref w22, .ref w26, .ref w31, .ref w35, .ref w40, .ref w48, .ref w50, .ref w52])), (w52, .inl (d53, 3, .inl (fun _ => 0)))] sz) := by
  refine vx_ofW (cc := cX9_told) (maxL := 2) (ret := (some .int)) (by decide) rfl ?_
  intro p e s m args below meth c s₁ B hml hnt hv
  obtain ⟨rfl, hsz, hP, hK, hD0, hEx⟩ := hv
  have hx := B.exec
  have hb := B.bytes
  have hr := B.returns
  have hts : ∀ w ∈ wsG, w.before _ s = true := hG_of (atoms_spec (ws := (Cond.code yX9_told cX9_told 2 (some .int) :: wsG)) B.pre)
  have hown : s.vm.findClass RX9 = some m.cls := findClass_of_methodNamed B.named
  have hlocks := B.notSynchronized
  subst hsz
  have hD := hD0.self (sz := s.heap.size)
  generalize hAe : va_A [(h0, .inr (9, [.ref w1, .ref w6, .int 0, .ref w8, .ref w15, .int 0, .int 0, .ref w22, .ref w26, .ref w31, .ref w35, .ref w40, .ref w48, .ref w50, .ref w52])), (w52, .inl (d53, 3, .inl (fun _ => 0)))] s.heap.size = A at hD hEx ⊢
  have hEx : xX A s := hEx
  have hA : ∀ q : Nat, s.heap.size ≤ q → A q := fun q h => by rw [← hAe]; exact Or.inr h
  have hS : va_S A s.heap s.heap [] := va_S.rf
  have hl := lv_entry ([.ref h0, .int p1]) (n := 2) (Nat.le_of_ble_eq_true rfl)
  rw [lg_entry_eq]
  generalize (lg_sl ([.ref h0, .int p1]) ++ List.replicate (2 - (lg_sl ([.ref h0, .int p1])).length) Slot.unset).toArray = ls at hl ⊢
  have hl : lv_has ls 2 [(0, .ref h0), (1, .int p1)] := hl
  refine lv_iload_n hx hb dX9_told_0 rfl (lv_at hl 1 rfl) ?_
  refine lv_tableOut (tgt := 139) hx hb dX9_told_1 hq (by decide) ?_
  refine lv_aload_n hx hb dX9_told_139 rfl (lv_at hl 0 rfl) ?_
  refine lv_iconst (v := 0) hx hb dX9_told_140 (by decide) ?_
  have hPc := hP.sub (ws' := [(h0, .inr (9, [.ref w1, .ref w6, .int 0, .ref w8, .ref w15, .int 0, .int 0, .ref w22, .ref w26, .ref w31, .ref w35, .ref w40, .ref w48, .ref w50, .ref w52])), (w52, .inl (d53, 3, .inl (fun _ => 0)))]) [0, 1] rfl
  have hDc := hD.sub (ws' := [(h0, .inr (9, [.ref w1, .ref w6, .int 0, .ref w8, .ref w15, .int 0, .int 0, .ref w22, .ref w26, .ref w31, .ref w35, .ref w40, .ref w48, .ref w50, .ref w52])), (w52, .inl (d53, 3, .inl (fun _ => 0)))]) [0, 1] (by decide) rfl
  have hKc := hK.sub (tys' := [(d53, .int)]) [0] rfl
  have hFc := va_free (wc := [(h0, .inr (9, [.ref w1, .ref w6, .int 0, .ref w8, .ref w15, .int 0, .int 0, .ref w22, .ref w26, .ref w31, .ref w35, .ref w40, .ref w48, .ref w50, .ref w52])), (w52, .inl (d53, 3, .inl (fun _ => 0)))]) hD hS hA [0, 1] rfl
  refine vx_callv (vx_runV (As := [.int 0]) (rest := []) ⟨hx, hb, hml, hown, hts⟩ (x_needArgument l hfl dC dI s.heap.size (h0) (w1) (w6) (w8) (w15) (w22) (w26) (w31) (w35) (w40) (w48) (w50) (w52) (d53)) (cwV 1 hts (gV_G k596 k598 ks_yX9_needArgument k1 k599) rfl rfl rfl (by decide +kernel) ⟨Nat.le_of_ble_eq_true rfl, Nat.le_of_ble_eq_true rfl⟩) ⟨fun a U g mk q => by obtain ⟨q0, q1, qP, qK, qD, qE⟩ := q; exact ⟨q0, q1, qP, va_K.moved (u := U) (U := U.calling g mk a) (Vm.Alike.refl U.vm) qK, qD, xX_call qE⟩, va_recv hKc hPc (ci := 9) (q0 := 0) rfl rfl, fun U hU hW => ⟨rfl, by rw [hU], by rw [hU]; exact hPc, va_K.moved hW.alike hKc, hDc.weaken (fun _ _ _ _ => trivial), xX_at hEx hS (fun q h => hFc q h) hU hW⟩⟩ rfl rfl hl.1 rfl (lv_room (Nat.le_of_ble_eq_true rfl)) dX9_told_141 ⟨Nat.le_of_ble_eq_true rfl, Nat.le_of_ble_eq_true rfl⟩) hS (fun q _ h => hFc q h) hFc (fun q _ h => hFc q h) (fun E ce q9 u t H1 locs ht hvm hpx hBX hz1 hk1 hS hce hcv hcl => ?_) (fun u t H1 locs ht hvm hw hB hz1 hk1 hS => hw.elim)
  exact vx_out (fun x hx9 => (hnt x hx9).elim) hlocks hce hcv hcl (fun t ht hW => ⟨(), trivial, hBX, hS.F ht⟩) hS.2.2 (Nat.le_of_ble_eq_true rfl) (Nat.le_of_ble_eq_true rfl)
set_option maxHeartbeats 4000000 in
set_option maxRecDepth 100000 in
theorem x_ordersS (l : Launch) (hfl : l.stackTraces = false) (dC : Nat → ClassId) (dI : Nat → Nat → Nat) (sz : Nat) (h0 : Nat) (w1 : Nat) (w6 : Nat) (w8 : Nat) (w15 : Nat) (w22 : Nat) (w26 : Nat) (w31 : Nat) (w35 : Nat) (w40 : Nat) (w48 : Nat) (w50 : Nat) (w52 : Nat) (d53 : ClassId) (p1 : Int32) (hq : ¬ p1 < 0 ∧ ¬ (3 : Int32) < p1) : vx_Met l yX9_orders (Cond.code yX9_orders cX9_orders 2 (some .int) :: wsG) ({ frames := 7, cells := 1, slots := 6, locals := 110 } : Room) (va_Pc [.ref h0, .int p1] (fun U => U.heap.size = sz ∧ va_P (dC, dI) vwCl [(h0, .inr (9, [.ref w1, .ref w6, .int 0, .ref w8, .ref w15, .int 0, .int 0, .ref w22, .ref w26, .ref w31, .ref w35, .ref w40, .ref w48, .ref w50, .ref w52])), (w52, .inl (d53, 3, .inl (fun _ => 0)))] U.heap ∧ va_K (dC, dI) vwCl [(d53, .int)] U ∧ va_D (fun _ => True) [(h0, .inr (9, [.ref w1, .ref w6, .int 0, .ref w8, .ref w15, .int 0, .int 0, .ref w22, .ref w26, .ref w31, .ref w35, .ref w40, .ref w48, .ref w50, .ref w52])), (w52, .inl (d53, 3, .inl (fun _ => 0)))] ∧ xX (va_A [(h0, .inr (9, [.ref w1, .ref w6, .int 0, .ref w8, .ref w15, .int 0, .int 0, .ref w22, .ref w26, .ref w31, .ref w35, .ref w40, .ref w48, .ref w50, .ref w52])), (w52, .inl (d53, 3, .inl (fun _ => 0)))] sz) U)) (xQ (va_A [(h0, .inr (9, [.ref w1, .ref w6, .int 0, .ref w8, .ref w15, .int 0, .int 0, .ref w22, .ref w26, .ref w31, .ref w35, .ref w40, .ref w48, .ref w50, .ref w52])), (w52, .inl (d53, 3, .inl (fun _ => 0)))] sz)) (xC "java/lang/IllegalStateException" (va_A [(h0, .inr (9, [.ref w1, .ref w6, .int 0, .ref w8, .ref w15, .int 0, .int 0, .ref w22, .ref w26, .ref w31, .ref w35, .ref w40, .ref w48, .ref w50, .ref w52])), (w52, .inl (d53, 3, .inl (fun _ => 0)))] sz)) 1 6 (va_A [(h0, .inr (9, [.ref w1, .ref w6, .int 0, .ref w8, .ref w15, .int 0, .int 0, .ref w22, .ref w26, .ref w31, .ref w35, .ref w40, .ref w48, .ref w50, .ref w52])), (w52, .inl (d53, 3, .inl (fun _ => 0)))] sz) := by
  refine vx_ofW (cc := cX9_orders) (maxL := 2) (ret := (some .int)) (by decide) rfl ?_
  intro p e s m args below meth c s₁ B hml hnt hv
  obtain ⟨rfl, hsz, hP, hK, hD0, hEx⟩ := hv
  have hx := B.exec
  have hb := B.bytes
  have hr := B.returns
  have hts : ∀ w ∈ wsG, w.before _ s = true := hG_of (atoms_spec (ws := (Cond.code yX9_orders cX9_orders 2 (some .int) :: wsG)) B.pre)
  have hown : s.vm.findClass RX9 = some m.cls := findClass_of_methodNamed B.named
  have hlocks := B.notSynchronized
  subst hsz
  have hD := hD0.self (sz := s.heap.size)
  generalize hAe : va_A [(h0, .inr (9, [.ref w1, .ref w6, .int 0, .ref w8, .ref w15, .int 0, .int 0, .ref w22, .ref w26, .ref w31, .ref w35, .ref w40, .ref w48, .ref w50, .ref w52])), (w52, .inl (d53, 3, .inl (fun _ => 0)))] s.heap.size = A at hD hEx ⊢
  have hEx : xX A s := hEx
  have hA : ∀ q : Nat, s.heap.size ≤ q → A q := fun q h => by rw [← hAe]; exact Or.inr h
  have hS : va_S A s.heap s.heap [] := va_S.rf
  have hl := lv_entry ([.ref h0, .int p1]) (n := 2) (Nat.le_of_ble_eq_true rfl)
  rw [lg_entry_eq]
  generalize (lg_sl ([.ref h0, .int p1]) ++ List.replicate (2 - (lg_sl ([.ref h0, .int p1])).length) Slot.unset).toArray = ls at hl ⊢
  have hl : lv_has ls 2 [(0, .ref h0), (1, .int p1)] := hl
  refine lv_aload_n hx hb dX9_orders_0 rfl (lv_at hl 0 rfl) ?_
  refine lv_iload_n hx hb dX9_orders_1 rfl (lv_at hl 1 rfl) ?_
  refine lv_if_lt (tgt := 14) hx hb dX9_orders_2 (by decide) (fun c2_ => absurd c2_ (hq.1)) (fun _ => ?_)
  refine lv_iload_n hx hb dX9_orders_5 rfl (lv_at hl 1 rfl) ?_
  refine lv_iconst (v := 3) hx hb dX9_orders_6 (by decide) ?_
  refine lv_icmp_gt (tgt := 14) hx hb dX9_orders_7 (by decide) (fun c7_ => absurd c7_ (hq.2)) (fun _ => ?_)
  refine lv_iconst (v := 1) hx hb dX9_orders_10 (by decide) ?_
  refine lv_goto (tgt := 15) hx hb dX9_orders_11 (by decide) ?_
  have hPc := hP.sub (ws' := [(h0, .inr (9, [.ref w1, .ref w6, .int 0, .ref w8, .ref w15, .int 0, .int 0, .ref w22, .ref w26, .ref w31, .ref w35, .ref w40, .ref w48, .ref w50, .ref w52]))]) [0] rfl
  have hDc := hD.sub (ws' := [(h0, .inr (9, [.ref w1, .ref w6, .int 0, .ref w8, .ref w15, .int 0, .int 0, .ref w22, .ref w26, .ref w31, .ref w35, .ref w40, .ref w48, .ref w50, .ref w52]))]) [0] (by decide) rfl
  have hKc := hK.sub (tys' := []) [] rfl
  have hFc := va_free (wc := [(h0, .inr (9, [.ref w1, .ref w6, .int 0, .ref w8, .ref w15, .int 0, .int 0, .ref w22, .ref w26, .ref w31, .ref w35, .ref w40, .ref w48, .ref w50, .ref w52]))]) hD hS hA [0] rfl
  refine va_callv (va_runV (As := [.int 1]) (rest := []) ⟨hx, hb, hml, hown, hts⟩ (c_needArg1 l dC dI s.heap.size (h0) (w1) (w6) (w8) (w15) (w22) (w26) (w31) (w35) (w40) (w48) (w50) (w52)) (cwV 1 hts (gV_G k596 k598 ks_yX9_needArgument k1 k599) rfl rfl rfl (by decide +kernel) ⟨Nat.le_of_ble_eq_true rfl, Nat.le_of_ble_eq_true rfl⟩) ⟨fun a U g mk q => by obtain ⟨q0, q1, qP, qK, qD⟩ := q; exact ⟨q0, q1, qP, va_K.moved (u := U) (U := U.calling g mk a) (Vm.Alike.refl U.vm) qK, qD⟩, va_recv hKc hPc (ci := 9) (q0 := 0) rfl rfl, fun U hU hW => ⟨rfl, by rw [hU], by rw [hU]; exact hPc, va_K.moved hW.alike hKc, hDc.weaken (fun _ _ _ _ => trivial)⟩⟩ rfl rfl hl.1 rfl (lv_room (Nat.le_of_ble_eq_true rfl)) dX9_orders_15 ⟨Nat.le_of_ble_eq_true rfl, Nat.le_of_ble_eq_true rfl⟩) hS (fun q _ h => hFc q h) hFc (fun u t H1 locs ht hvm hw hB hz1 hk1 hS => ?_)
  obtain ⟨hP1, hK1, hD1⟩ := hB
  rw [ht] at hP1
  have hK1 := va_K.moved hvm.symm hK1
  try dsimp only at hw
  obtain ⟨hP, hD⟩ := va_join (wr := [(w52, .inl (d53, 3, .inl (fun _ => 0)))]) (w1 := [(h0, .inr (9, [.ref w1, .ref w6, .int 0, .ref w8, .ref w15, .int 0, .int 0, .ref w22, .ref w26, .ref w31, .ref w35, .ref w40, .ref w48, .ref w50, .ref w52]))]) hP hD [0] [1] rfl rfl (by decide) (by decide) hk1 hFc hP1 hD1
  have hK := hK.app hK1
  generalize H1 = H at hP hS ⊢
  have hP : va_P (dC, dI) vwCl [(w52, .inl (d53, 3, .inl (fun _ => 0))), (h0, .inr (9, [.ref w1, .ref w6, .int 0, .ref w8, .ref w15, .int 0, .int 0, .ref w22, .ref w26, .ref w31, .ref w35, .ref w40, .ref w48, .ref w50, .ref w52]))] H := hP
  have hD : va_D A [(w52, .inl (d53, 3, .inl (fun _ => 0))), (h0, .inr (9, [.ref w1, .ref w6, .int 0, .ref w8, .ref w15, .int 0, .int 0, .ref w22, .ref w26, .ref w31, .ref w35, .ref w40, .ref w48, .ref w50, .ref w52]))] := hD
  have hK : va_K (dC, dI) vwCl [(d53, .int)] s := hK
  refine W.widen (k := 0) (n := 0) (by omega) (by omega) ?_
  refine lv_aload_n hx hb dX9_orders_18 rfl (lv_at hl 0 rfl) ?_
  refine lv_aload_n hx hb dX9_orders_19 rfl (lv_at hl 0 rfl) ?_
  refine va_get (D := (dC, dI)) (ci := 9) (v := .int 0) (C := RX9) (T := TX9) (N := 15) hx hb hts inG9 hown hK hP 1 rfl rfl 2 (by decide) (hts _ k334) (fun _ h9 => h9) rfl dX9_orders_20 ?_
  refine lv_iconst (v := 1) hx hb dX9_orders_23 (by decide) ?_
  refine lv_icmp_lt (tgt := 39) hx hb dX9_orders_24 (by decide) (fun _ => ?_) (fun c9 => absurd (by decide +kernel) c9)
  refine lv_iconst (v := 0) hx hb dX9_orders_39 (by decide) ?_
  have hPc := hP.sub (ws' := [(h0, .inr (9, [.ref w1, .ref w6, .int 0, .ref w8, .ref w15, .int 0, .int 0, .ref w22, .ref w26, .ref w31, .ref w35, .ref w40, .ref w48, .ref w50, .ref w52])), (w52, .inl (d53, 3, .inl (fun _ => 0)))]) [1, 0] rfl
  have hDc := hD.sub (ws' := [(h0, .inr (9, [.ref w1, .ref w6, .int 0, .ref w8, .ref w15, .int 0, .int 0, .ref w22, .ref w26, .ref w31, .ref w35, .ref w40, .ref w48, .ref w50, .ref w52])), (w52, .inl (d53, 3, .inl (fun _ => 0)))]) [1, 0] (by decide) rfl
  have hKc := hK.sub (tys' := [(d53, .int)]) [0] rfl
  have hFc := va_free (wc := [(h0, .inr (9, [.ref w1, .ref w6, .int 0, .ref w8, .ref w15, .int 0, .int 0, .ref w22, .ref w26, .ref w31, .ref w35, .ref w40, .ref w48, .ref w50, .ref w52])), (w52, .inl (d53, 3, .inl (fun _ => 0)))]) hD hS hA [1, 0] rfl
  refine vx_callv (vx_runV (As := [.int 0]) (rest := []) ⟨hx, hb, hml, hown, hts⟩ (x_needState l hfl dC dI H.size (h0) (w1) (w6) (w8) (w15) (w22) (w26) (w31) (w35) (w40) (w48) (w50) (w52) (d53)) (cwV 1 hts (gV_G k663 k665 ks_yX9_needState k1 k666) rfl rfl rfl (by decide +kernel) ⟨Nat.le_of_ble_eq_true rfl, Nat.le_of_ble_eq_true rfl⟩) ⟨fun a U g mk q => by obtain ⟨q0, q1, qP, qK, qD, qE⟩ := q; exact ⟨q0, q1, qP, va_K.moved (u := U) (U := U.calling g mk a) (Vm.Alike.refl U.vm) qK, qD, xX_call qE⟩, va_recv hKc hPc (ci := 9) (q0 := 0) rfl rfl, fun U hU hW => ⟨rfl, by rw [hU], by rw [hU]; exact hPc, va_K.moved hW.alike hKc, hDc.weaken (fun _ _ _ _ => trivial), xX_at hEx hS (fun q h => hFc q h) hU hW⟩⟩ rfl rfl hl.1 rfl (lv_room (Nat.le_of_ble_eq_true rfl)) dX9_orders_40 ⟨Nat.le_of_ble_eq_true rfl, Nat.le_of_ble_eq_true rfl⟩) hS (fun q _ h => hFc q h) hFc (fun q _ h => hFc q h) (fun E ce q9 u t H1 locs ht hvm hpx hBX hz1 hk1 hS hce hcv hcl => ?_) (fun u t H1 locs ht hvm hw hB hz1 hk1 hS => hw.elim)
  exact vx_out (fun x hx9 => (hnt x hx9).elim) hlocks hce hcv hcl (fun t ht hW => ⟨(), trivial, hBX, hS.F ht⟩) hS.2.2 (Nat.le_of_ble_eq_true rfl) (Nat.le_of_ble_eq_true rfl)

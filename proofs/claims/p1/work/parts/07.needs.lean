theorem xgo_298 : ∀ w ∈ Cond.classLink RX9 296 "java/util/NoSuchElementException" :: Cond.initialized "java/util/NoSuchElementException" :: vx_at0 RX9 298 "java/util/NoSuchElementException" ["java/lang/RuntimeException", "java/lang/Exception"], vx_ot w = true := by decide +kernel
theorem xgo_301 : ∀ w ∈ Cond.classLink RX9 299 "java/lang/IllegalArgumentException" :: Cond.initialized "java/lang/IllegalArgumentException" :: vx_at0 RX9 301 "java/lang/IllegalArgumentException" ["java/lang/RuntimeException", "java/lang/Exception"], vx_ot w = true := by decide +kernel
theorem xgo_304 : ∀ w ∈ Cond.classLink RX9 302 "java/lang/IllegalStateException" :: Cond.initialized "java/lang/IllegalStateException" :: vx_at0 RX9 304 "java/lang/IllegalStateException" ["java/lang/RuntimeException", "java/lang/Exception"], vx_ot w = true := by decide +kernel
theorem k1 : (Cond.initialized "PageSkeleton") ∈ wsG := wsG_at 1 (by decide +kernel) (by decide +kernel)
theorem k17 : (Cond.initialized "java/lang/IllegalArgumentException") ∈ wsG := wsG_at 17 (by decide +kernel) (by decide +kernel)
theorem k18 : (Cond.initialized "java/lang/IllegalStateException") ∈ wsG := wsG_at 18 (by decide +kernel) (by decide +kernel)
theorem k20 : (Cond.initialized "java/util/NoSuchElementException") ∈ wsG := wsG_at 20 (by decide +kernel) (by decide +kernel)
theorem k101 : (Cond.fieldLink "PageSkeleton" (155 : Nat) "PageSkeleton$Row" "nodes" "I") ∈ wsG := wsG_at 101 (by decide +kernel) (by decide +kernel)
theorem k600 : (Cond.classLink "PageSkeleton" (299 : Nat) "java/lang/IllegalArgumentException") ∈ wsG := wsG_at 600 (by decide +kernel) (by decide +kernel)
theorem k667 : (Cond.classLink "PageSkeleton" (302 : Nat) "java/lang/IllegalStateException") ∈ wsG := wsG_at 667 (by decide +kernel) (by decide +kernel)
theorem k735 : (Cond.methodLink "PageSkeleton" (130 : Nat) ({ cls := "PageSkeleton", name := "needPage", desc := "(I)V" } : MethodName)) ∈ wsG := wsG_at 735 (by decide +kernel) (by decide +kernel)
theorem k737 : (Cond.instanceMethod ({ cls := "PageSkeleton", name := "needPage", desc := "(I)V" } : MethodName)) ∈ wsG := wsG_at 737 (by decide +kernel) (by decide +kernel)
theorem k738 : (Cond.code ({ cls := "PageSkeleton", name := "needPage", desc := "(I)V" } : MethodName) prog_1_method_43_code (2 : Nat) (Option.none : Option Jvm.ClassFile.FieldType)) ∈ wsG := wsG_at 738 (by decide +kernel) (by decide +kernel)
theorem k739 : (Cond.methodLink "PageSkeleton" (193 : Nat) ({ cls := "PageSkeleton", name := "needElement", desc := "(Z)V" } : MethodName)) ∈ wsG := wsG_at 739 (by decide +kernel) (by decide +kernel)
theorem k741 : (Cond.instanceMethod ({ cls := "PageSkeleton", name := "needElement", desc := "(Z)V" } : MethodName)) ∈ wsG := wsG_at 741 (by decide +kernel) (by decide +kernel)
theorem k742 : (Cond.code ({ cls := "PageSkeleton", name := "needElement", desc := "(Z)V" } : MethodName) prog_1_method_40_code (2 : Nat) (Option.none : Option Jvm.ClassFile.FieldType)) ∈ wsG := wsG_at 742 (by decide +kernel) (by decide +kernel)
theorem k743 : (Cond.classLink "PageSkeleton" (296 : Nat) "java/util/NoSuchElementException") ∈ wsG := wsG_at 743 (by decide +kernel) (by decide +kernel)
theorem ks_yX9_needElement : Cond.selects RX9 yX9_needElement yX9_needElement ∈ wsG := wsG_mem (by decide +kernel) (by decide +kernel)
theorem ks_yX9_needPage : Cond.selects RX9 yX9_needPage yX9_needPage ∈ wsG := wsG_mem (by decide +kernel) (by decide +kernel)
theorem dX9_needElement_0 : decode cX9_needElement 0 = .ok (.iload_n 1, 1) := by decide +kernel
theorem dX9_needElement_1 : decode cX9_needElement 1 = .ok (.ifCond .ne 21, 3) := by decide +kernel
theorem dX9_needElement_4 : decode cX9_needElement 4 = .ok (.aload_n 0, 1) := by decide +kernel
theorem dX9_needElement_5 : decode cX9_needElement 5 = .ok (.getfield 86, 3) := by decide +kernel
theorem dX9_needElement_8 : decode cX9_needElement 8 = .ok (.iconst 0, 1) := by decide +kernel
theorem dX9_needElement_9 : decode cX9_needElement 9 = .ok (.dup2, 1) := by decide +kernel
theorem dX9_needElement_10 : decode cX9_needElement 10 = .ok (.iaload, 1) := by decide +kernel
theorem dX9_needElement_11 : decode cX9_needElement 11 = .ok (.iconst 1, 1) := by decide +kernel
theorem dX9_needElement_12 : decode cX9_needElement 12 = .ok (.iadd, 1) := by decide +kernel
theorem dX9_needElement_13 : decode cX9_needElement 13 = .ok (.iastore, 1) := by decide +kernel
theorem dX9_needElement_14 : decode cX9_needElement 14 = .ok (.new 296, 3) := by decide +kernel
theorem dX9_needElement_17 : decode cX9_needElement 17 = .ok (.dup, 1) := by decide +kernel
theorem dX9_needElement_18 : decode cX9_needElement 18 = .ok (.invokespecial 298, 3) := by decide +kernel
theorem dX9_needElement_21 : decode cX9_needElement 21 = .ok (.athrow, 1) := by decide +kernel
theorem dX9_needArgument_0 : decode cX9_needArgument 0 = .ok (.iload_n 1, 1) := by decide +kernel
theorem dX9_needArgument_1 : decode cX9_needArgument 1 = .ok (.ifCond .ne 21, 3) := by decide +kernel
theorem dX9_needArgument_4 : decode cX9_needArgument 4 = .ok (.aload_n 0, 1) := by decide +kernel
theorem dX9_needArgument_5 : decode cX9_needArgument 5 = .ok (.getfield 86, 3) := by decide +kernel
theorem dX9_needArgument_8 : decode cX9_needArgument 8 = .ok (.iconst 1, 1) := by decide +kernel
theorem dX9_needArgument_9 : decode cX9_needArgument 9 = .ok (.dup2, 1) := by decide +kernel
theorem dX9_needArgument_10 : decode cX9_needArgument 10 = .ok (.iaload, 1) := by decide +kernel
theorem dX9_needArgument_11 : decode cX9_needArgument 11 = .ok (.iconst 1, 1) := by decide +kernel
theorem dX9_needArgument_12 : decode cX9_needArgument 12 = .ok (.iadd, 1) := by decide +kernel
theorem dX9_needArgument_13 : decode cX9_needArgument 13 = .ok (.iastore, 1) := by decide +kernel
theorem dX9_needArgument_14 : decode cX9_needArgument 14 = .ok (.new 299, 3) := by decide +kernel
theorem dX9_needArgument_17 : decode cX9_needArgument 17 = .ok (.dup, 1) := by decide +kernel
theorem dX9_needArgument_18 : decode cX9_needArgument 18 = .ok (.invokespecial 301, 3) := by decide +kernel
theorem dX9_needArgument_21 : decode cX9_needArgument 21 = .ok (.athrow, 1) := by decide +kernel
theorem dX9_needState_0 : decode cX9_needState 0 = .ok (.iload_n 1, 1) := by decide +kernel
theorem dX9_needState_1 : decode cX9_needState 1 = .ok (.ifCond .ne 21, 3) := by decide +kernel
theorem dX9_needState_4 : decode cX9_needState 4 = .ok (.aload_n 0, 1) := by decide +kernel
theorem dX9_needState_5 : decode cX9_needState 5 = .ok (.getfield 86, 3) := by decide +kernel
theorem dX9_needState_8 : decode cX9_needState 8 = .ok (.iconst 2, 1) := by decide +kernel
theorem dX9_needState_9 : decode cX9_needState 9 = .ok (.dup2, 1) := by decide +kernel
theorem dX9_needState_10 : decode cX9_needState 10 = .ok (.iaload, 1) := by decide +kernel
theorem dX9_needState_11 : decode cX9_needState 11 = .ok (.iconst 1, 1) := by decide +kernel
theorem dX9_needState_12 : decode cX9_needState 12 = .ok (.iadd, 1) := by decide +kernel
theorem dX9_needState_13 : decode cX9_needState 13 = .ok (.iastore, 1) := by decide +kernel
theorem dX9_needState_14 : decode cX9_needState 14 = .ok (.new 302, 3) := by decide +kernel
theorem dX9_needState_17 : decode cX9_needState 17 = .ok (.dup, 1) := by decide +kernel
theorem dX9_needState_18 : decode cX9_needState 18 = .ok (.invokespecial 304, 3) := by decide +kernel
theorem dX9_needState_21 : decode cX9_needState 21 = .ok (.athrow, 1) := by decide +kernel
theorem dX9_needPage_0 : decode cX9_needPage 0 = .ok (.aload_n 0, 1) := by decide +kernel
theorem dX9_needPage_1 : decode cX9_needPage 1 = .ok (.iload_n 1, 1) := by decide +kernel
theorem dX9_needPage_2 : decode cX9_needPage 2 = .ok (.ifCond .lt 15, 3) := by decide +kernel
theorem dX9_needPage_5 : decode cX9_needPage 5 = .ok (.iload_n 1, 1) := by decide +kernel
theorem dX9_needPage_6 : decode cX9_needPage 6 = .ok (.aload_n 0, 1) := by decide +kernel
theorem dX9_needPage_7 : decode cX9_needPage 7 = .ok (.getfield 22, 3) := by decide +kernel
theorem dX9_needPage_10 : decode cX9_needPage 10 = .ok (.if_icmp .ge 7, 3) := by decide +kernel
theorem dX9_needPage_17 : decode cX9_needPage 17 = .ok (.iconst 0, 1) := by decide +kernel
theorem dX9_needPage_18 : decode cX9_needPage 18 = .ok (.invokevirtual 193, 3) := by decide +kernel
theorem dX9_needPlace_0 : decode cX9_needPlace 0 = .ok (.aload_n 0, 1) := by decide +kernel
theorem dX9_needPlace_1 : decode cX9_needPlace 1 = .ok (.iload_n 1, 1) := by decide +kernel
theorem dX9_needPlace_2 : decode cX9_needPlace 2 = .ok (.invokevirtual 130, 3) := by decide +kernel
theorem dX9_needNode_0 : decode cX9_needNode 0 = .ok (.aload_n 0, 1) := by decide +kernel
theorem dX9_needNode_1 : decode cX9_needNode 1 = .ok (.iload_n 2, 1) := by decide +kernel
theorem dX9_needNode_2 : decode cX9_needNode 2 = .ok (.ifCond .lt 15, 3) := by decide +kernel
theorem dX9_needNode_5 : decode cX9_needNode 5 = .ok (.iload_n 2, 1) := by decide +kernel
theorem dX9_needNode_6 : decode cX9_needNode 6 = .ok (.aload_n 1, 1) := by decide +kernel
theorem dX9_needNode_7 : decode cX9_needNode 7 = .ok (.getfield 155, 3) := by decide +kernel
theorem dX9_needNode_10 : decode cX9_needNode 10 = .ok (.if_icmp .ge 7, 3) := by decide +kernel
theorem dX9_needNode_17 : decode cX9_needNode 17 = .ok (.iconst 0, 1) := by decide +kernel
theorem dX9_needNode_18 : decode cX9_needNode 18 = .ok (.invokevirtual 193, 3) := by decide +kernel
set_option maxHeartbeats 4000000 in
set_option maxRecDepth 100000 in
theorem x_needElement (l : Launch) (hfl : l.stackTraces = false) (dC : Nat → ClassId) (dI : Nat → Nat → Nat) (sz : Nat) (h0 : Nat) (w1 : Nat) (w6 : Nat) (w8 : Nat) (w15 : Nat) (w22 : Nat) (w26 : Nat) (w31 : Nat) (w35 : Nat) (w40 : Nat) (w48 : Nat) (w50 : Nat) (w52 : Nat) (d53 : ClassId)  : vx_Met l yX9_needElement (Cond.code yX9_needElement cX9_needElement 2 none :: wsG) ({ frames := 6, cells := 1, slots := 6, locals := 89 } : Room) (va_Pc [.ref h0, .int 0] (fun U => U.heap.size = sz ∧ va_P (dC, dI) vwCl [(h0, .inr (9, [.ref w1, .ref w6, .int 0, .ref w8, .ref w15, .int 0, .int 0, .ref w22, .ref w26, .ref w31, .ref w35, .ref w40, .ref w48, .ref w50, .ref w52])), (w52, .inl (d53, 3, .inl (fun _ => 0)))] U.heap ∧ va_K (dC, dI) vwCl [(d53, .int)] U ∧ va_D (fun _ => True) [(h0, .inr (9, [.ref w1, .ref w6, .int 0, .ref w8, .ref w15, .int 0, .int 0, .ref w22, .ref w26, .ref w31, .ref w35, .ref w40, .ref w48, .ref w50, .ref w52])), (w52, .inl (d53, 3, .inl (fun _ => 0)))] ∧ xX (va_A [(h0, .inr (9, [.ref w1, .ref w6, .int 0, .ref w8, .ref w15, .int 0, .int 0, .ref w22, .ref w26, .ref w31, .ref w35, .ref w40, .ref w48, .ref w50, .ref w52])), (w52, .inl (d53, 3, .inl (fun _ => 0)))] sz) U)) (xQ (va_A [(h0, .inr (9, [.ref w1, .ref w6, .int 0, .ref w8, .ref w15, .int 0, .int 0, .ref w22, .ref w26, .ref w31, .ref w35, .ref w40, .ref w48, .ref w50, .ref w52])), (w52, .inl (d53, 3, .inl (fun _ => 0)))] sz)) (xC "java/util/NoSuchElementException" (va_A [(h0, .inr (9, [.ref w1, .ref w6, .int 0, .ref w8, .ref w15, .int 0, .int 0, .ref w22, .ref w26, .ref w31, .ref w35, .ref w40, .ref w48, .ref w50, .ref w52])), (w52, .inl (d53, 3, .inl (fun _ => 0)))] sz)) 1 6 (va_A [(h0, .inr (9, [.ref w1, .ref w6, .int 0, .ref w8, .ref w15, .int 0, .int 0, .ref w22, .ref w26, .ref w31, .ref w35, .ref w40, .ref w48, .ref w50, .ref w52])), (w52, .inl (d53, 3, .inl (fun _ => 0)))] sz) := by
  refine vx_ofW (cc := cX9_needElement) (maxL := 2) (ret := none) (by decide) rfl ?_
  intro p e s m args below meth c s₁ B hml hnt hv
  obtain ⟨rfl, hsz, hP, hK, hD0, hEx⟩ := hv
  have hx := B.exec
  have hb := B.bytes
  have hr := B.returns
  have hts : ∀ w ∈ wsG, w.before _ s = true := hG_of (atoms_spec (ws := (Cond.code yX9_needElement cX9_needElement 2 none :: wsG)) B.pre)
  have hown : s.vm.findClass RX9 = some m.cls := findClass_of_methodNamed B.named
  have hlocks := B.notSynchronized
  subst hsz
  have hD := hD0.self (sz := s.heap.size)
  generalize hAe : va_A [(h0, .inr (9, [.ref w1, .ref w6, .int 0, .ref w8, .ref w15, .int 0, .int 0, .ref w22, .ref w26, .ref w31, .ref w35, .ref w40, .ref w48, .ref w50, .ref w52])), (w52, .inl (d53, 3, .inl (fun _ => 0)))] s.heap.size = A at hD hEx ⊢
  have hEx : xX A s := hEx
  have hA : ∀ q : Nat, s.heap.size ≤ q → A q := fun q h => by rw [← hAe]; exact Or.inr h
  have hS : va_S A s.heap s.heap [] := va_S.rf
  have hl := lv_entry ([.ref h0, .int 0]) (n := 2) (Nat.le_of_ble_eq_true rfl)
  rw [lg_entry_eq]
  generalize (lg_sl ([.ref h0, .int 0]) ++ List.replicate (2 - (lg_sl ([.ref h0, .int 0])).length) Slot.unset).toArray = ls at hl ⊢
  have hl : lv_has ls 2 [(0, .ref h0), (1, .int 0)] := hl
  refine lv_iload_n hx hb dX9_needElement_0 rfl (lv_at hl 1 rfl) ?_
  refine lv_if_ne (tgt := 22) hx hb dX9_needElement_1 (by decide) (fun c9 => absurd c9 (by decide +kernel)) (fun _ => ?_)
  refine lv_aload_n hx hb dX9_needElement_4 rfl (lv_at hl 0 rfl) ?_
  refine va_get (D := (dC, dI)) (ci := 9) (v := .ref w52) (C := RX9) (T := TX9) (N := 15) hx hb hts inG9 hown hK hP 0 rfl rfl 14 (by decide) (hts _ k346) (fun _ h9 => h9) rfl dX9_needElement_5 ?_
  refine lv_iconst (v := 0) hx hb dX9_needElement_8 (by decide) ?_
  refine lv_dup2_11 hx hb dX9_needElement_9 rfl rfl ?_
  refine va_iald hx hb hK hP 1 0 rfl rfl (by unfold vp_in; decide +kernel) dX9_needElement_10 ?_
  refine lv_topi (fun x10_ ex10_ => ?_)
  obtain rfl : x10_ = 0 := ex10_
  refine lv_iconst (v := 1) hx hb dX9_needElement_11 (by decide) ?_
  refine lv_iadd hx hb dX9_needElement_12 ?_
  refine lv_topi (fun x9 ex9 => ?_)
  obtain rfl : x9 = 1 := ex9.trans (by decide +kernel)
  refine va_iast hx hb hK hP hD hS 1 0 rfl rfl (by unfold vp_in; decide +kernel) dX9_needElement_13 (fun H locs hP hD hS => ?_)
  have hP : va_P (dC, dI) vwCl [(h0, .inr (9, [.ref w1, .ref w6, .int 0, .ref w8, .ref w15, .int 0, .int 0, .ref w22, .ref w26, .ref w31, .ref w35, .ref w40, .ref w48, .ref w50, .ref w52])), (w52, .inl (d53, 3, .inl (upd (fun _ => 0) (0 : Int32).toNatClampNeg (1))))] H := hP
  have hD : va_D A [(h0, .inr (9, [.ref w1, .ref w6, .int 0, .ref w8, .ref w15, .int 0, .int 0, .ref w22, .ref w26, .ref w31, .ref w35, .ref w40, .ref w48, .ref w50, .ref w52])), (w52, .inl (d53, 3, .inl (upd (fun _ => 0) (0 : Int32).toNatClampNeg (1))))] := hD
  generalize upd (fun _ => 0) (0 : Int32).toNatClampNeg (1) = f1 at hP hD
  exact vx_throw0 (names := ["java/lang/RuntimeException", "java/lang/Exception"]) hx hb hfl hown (by decide +kernel) (by decide +kernel) (hts _ k743) (hts _ k20) (xhat_298 hts hEx.2) xgo_298 hEx.1.1 hEx.1.2 hS (hl.1.trans hml.symm) dX9_needElement_14 dX9_needElement_17 dX9_needElement_18 dX9_needElement_21 (fun x hx9 => (hnt x hx9).elim) (Nat.le_of_ble_eq_true rfl) (Nat.le_of_ble_eq_true rfl) (Nat.le_of_ble_eq_true rfl) (Nat.le_of_ble_eq_true rfl) hlocks (fun t _ h1 h2 => ⟨(), trivial, rfl, Nat.le_trans hS.1 h1, fun q hq hn => (h2 q (Nat.lt_of_lt_of_le hq hS.1)).trans (hS.2.1 q hq hn)⟩) hS.2.2 (Nat.le_of_ble_eq_true rfl) (Nat.le_of_ble_eq_true rfl)
set_option maxHeartbeats 4000000 in
set_option maxRecDepth 100000 in
theorem x_needArgument (l : Launch) (hfl : l.stackTraces = false) (dC : Nat → ClassId) (dI : Nat → Nat → Nat) (sz : Nat) (h0 : Nat) (w1 : Nat) (w6 : Nat) (w8 : Nat) (w15 : Nat) (w22 : Nat) (w26 : Nat) (w31 : Nat) (w35 : Nat) (w40 : Nat) (w48 : Nat) (w50 : Nat) (w52 : Nat) (d53 : ClassId)  : vx_Met l yX9_needArgument (Cond.code yX9_needArgument cX9_needArgument 2 none :: wsG) ({ frames := 6, cells := 1, slots := 6, locals := 89 } : Room) (va_Pc [.ref h0, .int 0] (fun U => U.heap.size = sz ∧ va_P (dC, dI) vwCl [(h0, .inr (9, [.ref w1, .ref w6, .int 0, .ref w8, .ref w15, .int 0, .int 0, .ref w22, .ref w26, .ref w31, .ref w35, .ref w40, .ref w48, .ref w50, .ref w52])), (w52, .inl (d53, 3, .inl (fun _ => 0)))] U.heap ∧ va_K (dC, dI) vwCl [(d53, .int)] U ∧ va_D (fun _ => True) [(h0, .inr (9, [.ref w1, .ref w6, .int 0, .ref w8, .ref w15, .int 0, .int 0, .ref w22, .ref w26, .ref w31, .ref w35, .ref w40, .ref w48, .ref w50, .ref w52])), (w52, .inl (d53, 3, .inl (fun _ => 0)))] ∧ xX (va_A [(h0, .inr (9, [.ref w1, .ref w6, .int 0, .ref w8, .ref w15, .int 0, .int 0, .ref w22, .ref w26, .ref w31, .ref w35, .ref w40, .ref w48, .ref w50, .ref w52])), (w52, .inl (d53, 3, .inl (fun _ => 0)))] sz) U)) (xQ (va_A [(h0, .inr (9, [.ref w1, .ref w6, .int 0, .ref w8, .ref w15, .int 0, .int 0, .ref w22, .ref w26, .ref w31, .ref w35, .ref w40, .ref w48, .ref w50, .ref w52])), (w52, .inl (d53, 3, .inl (fun _ => 0)))] sz)) (xC "java/lang/IllegalArgumentException" (va_A [(h0, .inr (9, [.ref w1, .ref w6, .int 0, .ref w8, .ref w15, .int 0, .int 0, .ref w22, .ref w26, .ref w31, .ref w35, .ref w40, .ref w48, .ref w50, .ref w52])), (w52, .inl (d53, 3, .inl (fun _ => 0)))] sz)) 1 6 (va_A [(h0, .inr (9, [.ref w1, .ref w6, .int 0, .ref w8, .ref w15, .int 0, .int 0, .ref w22, .ref w26, .ref w31, .ref w35, .ref w40, .ref w48, .ref w50, .ref w52])), (w52, .inl (d53, 3, .inl (fun _ => 0)))] sz) := by
  refine vx_ofW (cc := cX9_needArgument) (maxL := 2) (ret := none) (by decide) rfl ?_
  intro p e s m args below meth c s₁ B hml hnt hv
  obtain ⟨rfl, hsz, hP, hK, hD0, hEx⟩ := hv
  have hx := B.exec
  have hb := B.bytes
  have hr := B.returns
  have hts : ∀ w ∈ wsG, w.before _ s = true := hG_of (atoms_spec (ws := (Cond.code yX9_needArgument cX9_needArgument 2 none :: wsG)) B.pre)
  have hown : s.vm.findClass RX9 = some m.cls := findClass_of_methodNamed B.named
  have hlocks := B.notSynchronized
  subst hsz
  have hD := hD0.self (sz := s.heap.size)
  generalize hAe : va_A [(h0, .inr (9, [.ref w1, .ref w6, .int 0, .ref w8, .ref w15, .int 0, .int 0, .ref w22, .ref w26, .ref w31, .ref w35, .ref w40, .ref w48, .ref w50, .ref w52])), (w52, .inl (d53, 3, .inl (fun _ => 0)))] s.heap.size = A at hD hEx ⊢
  have hEx : xX A s := hEx
  have hA : ∀ q : Nat, s.heap.size ≤ q → A q := fun q h => by rw [← hAe]; exact Or.inr h
  have hS : va_S A s.heap s.heap [] := va_S.rf
  have hl := lv_entry ([.ref h0, .int 0]) (n := 2) (Nat.le_of_ble_eq_true rfl)
  rw [lg_entry_eq]
  generalize (lg_sl ([.ref h0, .int 0]) ++ List.replicate (2 - (lg_sl ([.ref h0, .int 0])).length) Slot.unset).toArray = ls at hl ⊢
  have hl : lv_has ls 2 [(0, .ref h0), (1, .int 0)] := hl
  refine lv_iload_n hx hb dX9_needArgument_0 rfl (lv_at hl 1 rfl) ?_
  refine lv_if_ne (tgt := 22) hx hb dX9_needArgument_1 (by decide) (fun c9 => absurd c9 (by decide +kernel)) (fun _ => ?_)
  refine lv_aload_n hx hb dX9_needArgument_4 rfl (lv_at hl 0 rfl) ?_
  refine va_get (D := (dC, dI)) (ci := 9) (v := .ref w52) (C := RX9) (T := TX9) (N := 15) hx hb hts inG9 hown hK hP 0 rfl rfl 14 (by decide) (hts _ k346) (fun _ h9 => h9) rfl dX9_needArgument_5 ?_
  refine lv_iconst (v := 1) hx hb dX9_needArgument_8 (by decide) ?_
  refine lv_dup2_11 hx hb dX9_needArgument_9 rfl rfl ?_
  refine va_iald hx hb hK hP 1 0 rfl rfl (by unfold vp_in; decide +kernel) dX9_needArgument_10 ?_
  refine lv_topi (fun x10_ ex10_ => ?_)
  obtain rfl : x10_ = 0 := ex10_
  refine lv_iconst (v := 1) hx hb dX9_needArgument_11 (by decide) ?_
  refine lv_iadd hx hb dX9_needArgument_12 ?_
  refine lv_topi (fun x9 ex9 => ?_)
  obtain rfl : x9 = 1 := ex9.trans (by decide +kernel)
  refine va_iast hx hb hK hP hD hS 1 0 rfl rfl (by unfold vp_in; decide +kernel) dX9_needArgument_13 (fun H locs hP hD hS => ?_)
  have hP : va_P (dC, dI) vwCl [(h0, .inr (9, [.ref w1, .ref w6, .int 0, .ref w8, .ref w15, .int 0, .int 0, .ref w22, .ref w26, .ref w31, .ref w35, .ref w40, .ref w48, .ref w50, .ref w52])), (w52, .inl (d53, 3, .inl (upd (fun _ => 0) (1 : Int32).toNatClampNeg (1))))] H := hP
  have hD : va_D A [(h0, .inr (9, [.ref w1, .ref w6, .int 0, .ref w8, .ref w15, .int 0, .int 0, .ref w22, .ref w26, .ref w31, .ref w35, .ref w40, .ref w48, .ref w50, .ref w52])), (w52, .inl (d53, 3, .inl (upd (fun _ => 0) (1 : Int32).toNatClampNeg (1))))] := hD
  generalize upd (fun _ => 0) (1 : Int32).toNatClampNeg (1) = f1 at hP hD
  exact vx_throw0 (names := ["java/lang/RuntimeException", "java/lang/Exception"]) hx hb hfl hown (by decide +kernel) (by decide +kernel) (hts _ k600) (hts _ k17) (xhat_301 hts hEx.2) xgo_301 hEx.1.1 hEx.1.2 hS (hl.1.trans hml.symm) dX9_needArgument_14 dX9_needArgument_17 dX9_needArgument_18 dX9_needArgument_21 (fun x hx9 => (hnt x hx9).elim) (Nat.le_of_ble_eq_true rfl) (Nat.le_of_ble_eq_true rfl) (Nat.le_of_ble_eq_true rfl) (Nat.le_of_ble_eq_true rfl) hlocks (fun t _ h1 h2 => ⟨(), trivial, rfl, Nat.le_trans hS.1 h1, fun q hq hn => (h2 q (Nat.lt_of_lt_of_le hq hS.1)).trans (hS.2.1 q hq hn)⟩) hS.2.2 (Nat.le_of_ble_eq_true rfl) (Nat.le_of_ble_eq_true rfl)
set_option maxHeartbeats 4000000 in
set_option maxRecDepth 100000 in
theorem x_needState (l : Launch) (hfl : l.stackTraces = false) (dC : Nat → ClassId) (dI : Nat → Nat → Nat) (sz : Nat) (h0 : Nat) (w1 : Nat) (w6 : Nat) (w8 : Nat) (w15 : Nat) (w22 : Nat) (w26 : Nat) (w31 : Nat) (w35 : Nat) (w40 : Nat) (w48 : Nat) (w50 : Nat) (w52 : Nat) (d53 : ClassId)  : vx_Met l yX9_needState (Cond.code yX9_needState cX9_needState 2 none :: wsG) ({ frames := 6, cells := 1, slots := 6, locals := 89 } : Room) (va_Pc [.ref h0, .int 0] (fun U => U.heap.size = sz ∧ va_P (dC, dI) vwCl [(h0, .inr (9, [.ref w1, .ref w6, .int 0, .ref w8, .ref w15, .int 0, .int 0, .ref w22, .ref w26, .ref w31, .ref w35, .ref w40, .ref w48, .ref w50, .ref w52])), (w52, .inl (d53, 3, .inl (fun _ => 0)))] U.heap ∧ va_K (dC, dI) vwCl [(d53, .int)] U ∧ va_D (fun _ => True) [(h0, .inr (9, [.ref w1, .ref w6, .int 0, .ref w8, .ref w15, .int 0, .int 0, .ref w22, .ref w26, .ref w31, .ref w35, .ref w40, .ref w48, .ref w50, .ref w52])), (w52, .inl (d53, 3, .inl (fun _ => 0)))] ∧ xX (va_A [(h0, .inr (9, [.ref w1, .ref w6, .int 0, .ref w8, .ref w15, .int 0, .int 0, .ref w22, .ref w26, .ref w31, .ref w35, .ref w40, .ref w48, .ref w50, .ref w52])), (w52, .inl (d53, 3, .inl (fun _ => 0)))] sz) U)) (xQ (va_A [(h0, .inr (9, [.ref w1, .ref w6, .int 0, .ref w8, .ref w15, .int 0, .int 0, .ref w22, .ref w26, .ref w31, .ref w35, .ref w40, .ref w48, .ref w50, .ref w52])), (w52, .inl (d53, 3, .inl (fun _ => 0)))] sz)) (xC "java/lang/IllegalStateException" (va_A [(h0, .inr (9, [.ref w1, .ref w6, .int 0, .ref w8, .ref w15, .int 0, .int 0, .ref w22, .ref w26, .ref w31, .ref w35, .ref w40, .ref w48, .ref w50, .ref w52])), (w52, .inl (d53, 3, .inl (fun _ => 0)))] sz)) 1 6 (va_A [(h0, .inr (9, [.ref w1, .ref w6, .int 0, .ref w8, .ref w15, .int 0, .int 0, .ref w22, .ref w26, .ref w31, .ref w35, .ref w40, .ref w48, .ref w50, .ref w52])), (w52, .inl (d53, 3, .inl (fun _ => 0)))] sz) := by
  refine vx_ofW (cc := cX9_needState) (maxL := 2) (ret := none) (by decide) rfl ?_
  intro p e s m args below meth c s₁ B hml hnt hv
  obtain ⟨rfl, hsz, hP, hK, hD0, hEx⟩ := hv
  have hx := B.exec
  have hb := B.bytes
  have hr := B.returns
  have hts : ∀ w ∈ wsG, w.before _ s = true := hG_of (atoms_spec (ws := (Cond.code yX9_needState cX9_needState 2 none :: wsG)) B.pre)
  have hown : s.vm.findClass RX9 = some m.cls := findClass_of_methodNamed B.named
  have hlocks := B.notSynchronized
  subst hsz
  have hD := hD0.self (sz := s.heap.size)
  generalize hAe : va_A [(h0, .inr (9, [.ref w1, .ref w6, .int 0, .ref w8, .ref w15, .int 0, .int 0, .ref w22, .ref w26, .ref w31, .ref w35, .ref w40, .ref w48, .ref w50, .ref w52])), (w52, .inl (d53, 3, .inl (fun _ => 0)))] s.heap.size = A at hD hEx ⊢
  have hEx : xX A s := hEx
  have hA : ∀ q : Nat, s.heap.size ≤ q → A q := fun q h => by rw [← hAe]; exact Or.inr h
  have hS : va_S A s.heap s.heap [] := va_S.rf
  have hl := lv_entry ([.ref h0, .int 0]) (n := 2) (Nat.le_of_ble_eq_true rfl)
  rw [lg_entry_eq]
  generalize (lg_sl ([.ref h0, .int 0]) ++ List.replicate (2 - (lg_sl ([.ref h0, .int 0])).length) Slot.unset).toArray = ls at hl ⊢
  have hl : lv_has ls 2 [(0, .ref h0), (1, .int 0)] := hl
  refine lv_iload_n hx hb dX9_needState_0 rfl (lv_at hl 1 rfl) ?_
  refine lv_if_ne (tgt := 22) hx hb dX9_needState_1 (by decide) (fun c9 => absurd c9 (by decide +kernel)) (fun _ => ?_)
  refine lv_aload_n hx hb dX9_needState_4 rfl (lv_at hl 0 rfl) ?_
  refine va_get (D := (dC, dI)) (ci := 9) (v := .ref w52) (C := RX9) (T := TX9) (N := 15) hx hb hts inG9 hown hK hP 0 rfl rfl 14 (by decide) (hts _ k346) (fun _ h9 => h9) rfl dX9_needState_5 ?_
  refine lv_iconst (v := 2) hx hb dX9_needState_8 (by decide) ?_
  refine lv_dup2_11 hx hb dX9_needState_9 rfl rfl ?_
  refine va_iald hx hb hK hP 1 0 rfl rfl (by unfold vp_in; decide +kernel) dX9_needState_10 ?_
  refine lv_topi (fun x10_ ex10_ => ?_)
  obtain rfl : x10_ = 0 := ex10_
  refine lv_iconst (v := 1) hx hb dX9_needState_11 (by decide) ?_
  refine lv_iadd hx hb dX9_needState_12 ?_
  refine lv_topi (fun x9 ex9 => ?_)
  obtain rfl : x9 = 1 := ex9.trans (by decide +kernel)
  refine va_iast hx hb hK hP hD hS 1 0 rfl rfl (by unfold vp_in; decide +kernel) dX9_needState_13 (fun H locs hP hD hS => ?_)
  have hP : va_P (dC, dI) vwCl [(h0, .inr (9, [.ref w1, .ref w6, .int 0, .ref w8, .ref w15, .int 0, .int 0, .ref w22, .ref w26, .ref w31, .ref w35, .ref w40, .ref w48, .ref w50, .ref w52])), (w52, .inl (d53, 3, .inl (upd (fun _ => 0) (2 : Int32).toNatClampNeg (1))))] H := hP
  have hD : va_D A [(h0, .inr (9, [.ref w1, .ref w6, .int 0, .ref w8, .ref w15, .int 0, .int 0, .ref w22, .ref w26, .ref w31, .ref w35, .ref w40, .ref w48, .ref w50, .ref w52])), (w52, .inl (d53, 3, .inl (upd (fun _ => 0) (2 : Int32).toNatClampNeg (1))))] := hD
  generalize upd (fun _ => 0) (2 : Int32).toNatClampNeg (1) = f1 at hP hD
  exact vx_throw0 (names := ["java/lang/RuntimeException", "java/lang/Exception"]) hx hb hfl hown (by decide +kernel) (by decide +kernel) (hts _ k667) (hts _ k18) (xhat_304 hts hEx.2) xgo_304 hEx.1.1 hEx.1.2 hS (hl.1.trans hml.symm) dX9_needState_14 dX9_needState_17 dX9_needState_18 dX9_needState_21 (fun x hx9 => (hnt x hx9).elim) (Nat.le_of_ble_eq_true rfl) (Nat.le_of_ble_eq_true rfl) (Nat.le_of_ble_eq_true rfl) (Nat.le_of_ble_eq_true rfl) hlocks (fun t _ h1 h2 => ⟨(), trivial, rfl, Nat.le_trans hS.1 h1, fun q hq hn => (h2 q (Nat.lt_of_lt_of_le hq hS.1)).trans (hS.2.1 q hq hn)⟩) hS.2.2 (Nat.le_of_ble_eq_true rfl) (Nat.le_of_ble_eq_true rfl)
set_option maxHeartbeats 4000000 in
set_option maxRecDepth 100000 in
theorem x_needPage (l : Launch) (hfl : l.stackTraces = false) (dC : Nat → ClassId) (dI : Nat → Nat → Nat) (sz : Nat) (h0 : Nat) (w1 : Nat) (w6 : Nat) (w8 : Nat) (w15 : Nat) (w22 : Nat) (w26 : Nat) (w31 : Nat) (w35 : Nat) (w40 : Nat) (w48 : Nat) (w50 : Nat) (w52 : Nat) (d53 : ClassId) (p1 : Int32)  : vx_Met l yX9_needPage (Cond.code yX9_needPage cX9_needPage 2 none :: wsG) ({ frames := 7, cells := 1, slots := 6, locals := 110 } : Room) (va_Pc [.ref h0, .int p1] (fun U => U.heap.size = sz ∧ va_P (dC, dI) vwCl [(h0, .inr (9, [.ref w1, .ref w6, .int 0, .ref w8, .ref w15, .int 0, .int 0, .ref w22, .ref w26, .ref w31, .ref w35, .ref w40, .ref w48, .ref w50, .ref w52])), (w52, .inl (d53, 3, .inl (fun _ => 0)))] U.heap ∧ va_K (dC, dI) vwCl [(d53, .int)] U ∧ va_D (fun _ => True) [(h0, .inr (9, [.ref w1, .ref w6, .int 0, .ref w8, .ref w15, .int 0, .int 0, .ref w22, .ref w26, .ref w31, .ref w35, .ref w40, .ref w48, .ref w50, .ref w52])), (w52, .inl (d53, 3, .inl (fun _ => 0)))] ∧ xX (va_A [(h0, .inr (9, [.ref w1, .ref w6, .int 0, .ref w8, .ref w15, .int 0, .int 0, .ref w22, .ref w26, .ref w31, .ref w35, .ref w40, .ref w48, .ref w50, .ref w52])), (w52, .inl (d53, 3, .inl (fun _ => 0)))] sz) U)) (xQ (va_A [(h0, .inr (9, [.ref w1, .ref w6, .int 0, .ref w8, .ref w15, .int 0, .int 0, .ref w22, .ref w26, .ref w31, .ref w35, .ref w40, .ref w48, .ref w50, .ref w52])), (w52, .inl (d53, 3, .inl (fun _ => 0)))] sz)) (xC "java/util/NoSuchElementException" (va_A [(h0, .inr (9, [.ref w1, .ref w6, .int 0, .ref w8, .ref w15, .int 0, .int 0, .ref w22, .ref w26, .ref w31, .ref w35, .ref w40, .ref w48, .ref w50, .ref w52])), (w52, .inl (d53, 3, .inl (fun _ => 0)))] sz)) 1 6 (va_A [(h0, .inr (9, [.ref w1, .ref w6, .int 0, .ref w8, .ref w15, .int 0, .int 0, .ref w22, .ref w26, .ref w31, .ref w35, .ref w40, .ref w48, .ref w50, .ref w52])), (w52, .inl (d53, 3, .inl (fun _ => 0)))] sz) := by
  refine vx_ofW (cc := cX9_needPage) (maxL := 2) (ret := none) (by decide) rfl ?_
  intro p e s m args below meth c s₁ B hml hnt hv
  obtain ⟨rfl, hsz, hP, hK, hD0, hEx⟩ := hv
  have hx := B.exec
  have hb := B.bytes
  have hr := B.returns
  have hts : ∀ w ∈ wsG, w.before _ s = true := hG_of (atoms_spec (ws := (Cond.code yX9_needPage cX9_needPage 2 none :: wsG)) B.pre)
  have hown : s.vm.findClass RX9 = some m.cls := findClass_of_methodNamed B.named
  have hlocks := B.notSynchronized
  subst hsz
  have hD := hD0.self (sz := s.heap.size)
  generalize hAe : va_A [(h0, .inr (9, [.ref w1, .ref w6, .int 0, .ref w8, .ref w15, .int 0, .int 0, .ref w22, .ref w26, .ref w31, .ref w35, .ref w40, .ref w48, .ref w50, .ref w52])), (w52, .inl (d53, 3, .inl (fun _ => 0)))] s.heap.size = A at hD hEx ⊢
  have hEx : xX A s := hEx
  have hA : ∀ q : Nat, s.heap.size ≤ q → A q := fun q h => by rw [← hAe]; exact Or.inr h
  have hS : va_S A s.heap s.heap [] := va_S.rf
  have hl := lv_entry ([.ref h0, .int p1]) (n := 2) (Nat.le_of_ble_eq_true rfl)
  rw [lg_entry_eq]
  generalize (lg_sl ([.ref h0, .int p1]) ++ List.replicate (2 - (lg_sl ([.ref h0, .int p1])).length) Slot.unset).toArray = ls at hl ⊢
  have hl : lv_has ls 2 [(0, .ref h0), (1, .int p1)] := hl
  refine lv_aload_n hx hb dX9_needPage_0 rfl (lv_at hl 0 rfl) ?_
  refine lv_iload_n hx hb dX9_needPage_1 rfl (lv_at hl 1 rfl) ?_
  refine lv_if_lt (tgt := 17) hx hb dX9_needPage_2 (by decide) (fun c2_ => ?_) (fun c2_ => ?_)
  · refine lv_iconst (v := 0) hx hb dX9_needPage_17 (by decide) ?_
    have hPc := hP.sub (ws' := [(h0, .inr (9, [.ref w1, .ref w6, .int 0, .ref w8, .ref w15, .int 0, .int 0, .ref w22, .ref w26, .ref w31, .ref w35, .ref w40, .ref w48, .ref w50, .ref w52])), (w52, .inl (d53, 3, .inl (fun _ => 0)))]) [0, 1] rfl
    have hDc := hD.sub (ws' := [(h0, .inr (9, [.ref w1, .ref w6, .int 0, .ref w8, .ref w15, .int 0, .int 0, .ref w22, .ref w26, .ref w31, .ref w35, .ref w40, .ref w48, .ref w50, .ref w52])), (w52, .inl (d53, 3, .inl (fun _ => 0)))]) [0, 1] (by decide) rfl
    have hKc := hK.sub (tys' := [(d53, .int)]) [0] rfl
    have hFc := va_free (wc := [(h0, .inr (9, [.ref w1, .ref w6, .int 0, .ref w8, .ref w15, .int 0, .int 0, .ref w22, .ref w26, .ref w31, .ref w35, .ref w40, .ref w48, .ref w50, .ref w52])), (w52, .inl (d53, 3, .inl (fun _ => 0)))]) hD hS hA [0, 1] rfl
    refine vx_callv (vx_runV (As := [.int 0]) (rest := []) ⟨hx, hb, hml, hown, hts⟩ (x_needElement l hfl dC dI s.heap.size (h0) (w1) (w6) (w8) (w15) (w22) (w26) (w31) (w35) (w40) (w48) (w50) (w52) (d53)) (cwV 1 hts (gV_G k739 k741 ks_yX9_needElement k1 k742) rfl rfl rfl (by decide +kernel) ⟨Nat.le_of_ble_eq_true rfl, Nat.le_of_ble_eq_true rfl⟩) ⟨fun a U g mk q => by obtain ⟨q0, q1, qP, qK, qD, qE⟩ := q; exact ⟨q0, q1, qP, va_K.moved (u := U) (U := U.calling g mk a) (Vm.Alike.refl U.vm) qK, qD, xX_call qE⟩, va_recv hKc hPc (ci := 9) (q0 := 0) rfl rfl, fun U hU hW => ⟨rfl, by rw [hU], by rw [hU]; exact hPc, va_K.moved hW.alike hKc, hDc.weaken (fun _ _ _ _ => trivial), xX_at hEx hS (fun q h => hFc q h) hU hW⟩⟩ rfl rfl hl.1 rfl (lv_room (Nat.le_of_ble_eq_true rfl)) dX9_needPage_18 ⟨Nat.le_of_ble_eq_true rfl, Nat.le_of_ble_eq_true rfl⟩) hS (fun q _ h => hFc q h) hFc (fun q _ h => hFc q h) (fun E ce q9 u t H1 locs ht hvm hpx hBX hz1 hk1 hS hce hcv hcl => ?_) (fun u t H1 locs ht hvm hw hB hz1 hk1 hS => hw.elim)
    exact vx_out (fun x hx9 => (hnt x hx9).elim) hlocks hce hcv hcl (fun t ht hW => ⟨(), trivial, hBX, hS.F ht⟩) hS.2.2 (Nat.le_of_ble_eq_true rfl) (Nat.le_of_ble_eq_true rfl)
  · refine lv_iload_n hx hb dX9_needPage_5 rfl (lv_at hl 1 rfl) ?_
    refine lv_aload_n hx hb dX9_needPage_6 rfl (lv_at hl 0 rfl) ?_
    refine va_get (D := (dC, dI)) (ci := 9) (v := .int 0) (C := RX9) (T := TX9) (N := 15) hx hb hts inG9 hown hK hP 0 rfl rfl 2 (by decide) (hts _ k334) (fun _ h9 => h9) rfl dX9_needPage_7 ?_
    refine lv_icmp_ge (tgt := 17) hx hb dX9_needPage_10 (by decide) (fun _ => ?_) (fun c10_ => absurd (x_nn c2_) c10_)
    refine lv_iconst (v := 0) hx hb dX9_needPage_17 (by decide) ?_
    have hPc := hP.sub (ws' := [(h0, .inr (9, [.ref w1, .ref w6, .int 0, .ref w8, .ref w15, .int 0, .int 0, .ref w22, .ref w26, .ref w31, .ref w35, .ref w40, .ref w48, .ref w50, .ref w52])), (w52, .inl (d53, 3, .inl (fun _ => 0)))]) [0, 1] rfl
    have hDc := hD.sub (ws' := [(h0, .inr (9, [.ref w1, .ref w6, .int 0, .ref w8, .ref w15, .int 0, .int 0, .ref w22, .ref w26, .ref w31, .ref w35, .ref w40, .ref w48, .ref w50, .ref w52])), (w52, .inl (d53, 3, .inl (fun _ => 0)))]) [0, 1] (by decide) rfl
    have hKc := hK.sub (tys' := [(d53, .int)]) [0] rfl
    have hFc := va_free (wc := [(h0, .inr (9, [.ref w1, .ref w6, .int 0, .ref w8, .ref w15, .int 0, .int 0, .ref w22, .ref w26, .ref w31, .ref w35, .ref w40, .ref w48, .ref w50, .ref w52])), (w52, .inl (d53, 3, .inl (fun _ => 0)))]) hD hS hA [0, 1] rfl
    refine vx_callv (vx_runV (As := [.int 0]) (rest := []) ⟨hx, hb, hml, hown, hts⟩ (x_needElement l hfl dC dI s.heap.size (h0) (w1) (w6) (w8) (w15) (w22) (w26) (w31) (w35) (w40) (w48) (w50) (w52) (d53)) (cwV 1 hts (gV_G k739 k741 ks_yX9_needElement k1 k742) rfl rfl rfl (by decide +kernel) ⟨Nat.le_of_ble_eq_true rfl, Nat.le_of_ble_eq_true rfl⟩) ⟨fun a U g mk q => by obtain ⟨q0, q1, qP, qK, qD, qE⟩ := q; exact ⟨q0, q1, qP, va_K.moved (u := U) (U := U.calling g mk a) (Vm.Alike.refl U.vm) qK, qD, xX_call qE⟩, va_recv hKc hPc (ci := 9) (q0 := 0) rfl rfl, fun U hU hW => ⟨rfl, by rw [hU], by rw [hU]; exact hPc, va_K.moved hW.alike hKc, hDc.weaken (fun _ _ _ _ => trivial), xX_at hEx hS (fun q h => hFc q h) hU hW⟩⟩ rfl rfl hl.1 rfl (lv_room (Nat.le_of_ble_eq_true rfl)) dX9_needPage_18 ⟨Nat.le_of_ble_eq_true rfl, Nat.le_of_ble_eq_true rfl⟩) hS (fun q _ h => hFc q h) hFc (fun q _ h => hFc q h) (fun E ce q9 u t H1 locs ht hvm hpx hBX hz1 hk1 hS hce hcv hcl => ?_) (fun u t H1 locs ht hvm hw hB hz1 hk1 hS => hw.elim)
    exact vx_out (fun x hx9 => (hnt x hx9).elim) hlocks hce hcv hcl (fun t ht hW => ⟨(), trivial, hBX, hS.F ht⟩) hS.2.2 (Nat.le_of_ble_eq_true rfl) (Nat.le_of_ble_eq_true rfl)
set_option maxHeartbeats 4000000 in
set_option maxRecDepth 100000 in
theorem x_needPlace (l : Launch) (hfl : l.stackTraces = false) (dC : Nat → ClassId) (dI : Nat → Nat → Nat) (sz : Nat) (h0 : Nat) (w1 : Nat) (w6 : Nat) (w8 : Nat) (w15 : Nat) (w22 : Nat) (w26 : Nat) (w31 : Nat) (w35 : Nat) (w40 : Nat) (w48 : Nat) (w50 : Nat) (w52 : Nat) (d53 : ClassId) (p1 : Int32) (p2 : Int32)  : vx_Met l yX9_needPlace (Cond.code yX9_needPlace cX9_needPlace 3 none :: wsG) ({ frames := 8, cells := 1, slots := 6, locals := 131 } : Room) (va_Pc [.ref h0, .int p1, .int p2] (fun U => U.heap.size = sz ∧ va_P (dC, dI) vwCl [(h0, .inr (9, [.ref w1, .ref w6, .int 0, .ref w8, .ref w15, .int 0, .int 0, .ref w22, .ref w26, .ref w31, .ref w35, .ref w40, .ref w48, .ref w50, .ref w52])), (w52, .inl (d53, 3, .inl (fun _ => 0)))] U.heap ∧ va_K (dC, dI) vwCl [(d53, .int)] U ∧ va_D (fun _ => True) [(h0, .inr (9, [.ref w1, .ref w6, .int 0, .ref w8, .ref w15, .int 0, .int 0, .ref w22, .ref w26, .ref w31, .ref w35, .ref w40, .ref w48, .ref w50, .ref w52])), (w52, .inl (d53, 3, .inl (fun _ => 0)))] ∧ xX (va_A [(h0, .inr (9, [.ref w1, .ref w6, .int 0, .ref w8, .ref w15, .int 0, .int 0, .ref w22, .ref w26, .ref w31, .ref w35, .ref w40, .ref w48, .ref w50, .ref w52])), (w52, .inl (d53, 3, .inl (fun _ => 0)))] sz) U)) (xQ (va_A [(h0, .inr (9, [.ref w1, .ref w6, .int 0, .ref w8, .ref w15, .int 0, .int 0, .ref w22, .ref w26, .ref w31, .ref w35, .ref w40, .ref w48, .ref w50, .ref w52])), (w52, .inl (d53, 3, .inl (fun _ => 0)))] sz)) (xC "java/util/NoSuchElementException" (va_A [(h0, .inr (9, [.ref w1, .ref w6, .int 0, .ref w8, .ref w15, .int 0, .int 0, .ref w22, .ref w26, .ref w31, .ref w35, .ref w40, .ref w48, .ref w50, .ref w52])), (w52, .inl (d53, 3, .inl (fun _ => 0)))] sz)) 1 6 (va_A [(h0, .inr (9, [.ref w1, .ref w6, .int 0, .ref w8, .ref w15, .int 0, .int 0, .ref w22, .ref w26, .ref w31, .ref w35, .ref w40, .ref w48, .ref w50, .ref w52])), (w52, .inl (d53, 3, .inl (fun _ => 0)))] sz) := by
  refine vx_ofW (cc := cX9_needPlace) (maxL := 3) (ret := none) (by decide) rfl ?_
  intro p e s m args below meth c s₁ B hml hnt hv
  obtain ⟨rfl, hsz, hP, hK, hD0, hEx⟩ := hv
  have hx := B.exec
  have hb := B.bytes
  have hr := B.returns
  have hts : ∀ w ∈ wsG, w.before _ s = true := hG_of (atoms_spec (ws := (Cond.code yX9_needPlace cX9_needPlace 3 none :: wsG)) B.pre)
  have hown : s.vm.findClass RX9 = some m.cls := findClass_of_methodNamed B.named
  have hlocks := B.notSynchronized
  subst hsz
  have hD := hD0.self (sz := s.heap.size)
  generalize hAe : va_A [(h0, .inr (9, [.ref w1, .ref w6, .int 0, .ref w8, .ref w15, .int 0, .int 0, .ref w22, .ref w26, .ref w31, .ref w35, .ref w40, .ref w48, .ref w50, .ref w52])), (w52, .inl (d53, 3, .inl (fun _ => 0)))] s.heap.size = A at hD hEx ⊢
  have hEx : xX A s := hEx
  have hA : ∀ q : Nat, s.heap.size ≤ q → A q := fun q h => by rw [← hAe]; exact Or.inr h
  have hS : va_S A s.heap s.heap [] := va_S.rf
  have hl := lv_entry ([.ref h0, .int p1, .int p2]) (n := 3) (Nat.le_of_ble_eq_true rfl)
  rw [lg_entry_eq]
  generalize (lg_sl ([.ref h0, .int p1, .int p2]) ++ List.replicate (3 - (lg_sl ([.ref h0, .int p1, .int p2])).length) Slot.unset).toArray = ls at hl ⊢
  have hl : lv_has ls 3 [(0, .ref h0), (1, .int p1), (2, .int p2)] := hl
  refine lv_aload_n hx hb dX9_needPlace_0 rfl (lv_at hl 0 rfl) ?_
  refine lv_iload_n hx hb dX9_needPlace_1 rfl (lv_at hl 1 rfl) ?_
  have hPc := hP.sub (ws' := [(h0, .inr (9, [.ref w1, .ref w6, .int 0, .ref w8, .ref w15, .int 0, .int 0, .ref w22, .ref w26, .ref w31, .ref w35, .ref w40, .ref w48, .ref w50, .ref w52])), (w52, .inl (d53, 3, .inl (fun _ => 0)))]) [0, 1] rfl
  have hDc := hD.sub (ws' := [(h0, .inr (9, [.ref w1, .ref w6, .int 0, .ref w8, .ref w15, .int 0, .int 0, .ref w22, .ref w26, .ref w31, .ref w35, .ref w40, .ref w48, .ref w50, .ref w52])), (w52, .inl (d53, 3, .inl (fun _ => 0)))]) [0, 1] (by decide) rfl
  have hKc := hK.sub (tys' := [(d53, .int)]) [0] rfl
  have hFc := va_free (wc := [(h0, .inr (9, [.ref w1, .ref w6, .int 0, .ref w8, .ref w15, .int 0, .int 0, .ref w22, .ref w26, .ref w31, .ref w35, .ref w40, .ref w48, .ref w50, .ref w52])), (w52, .inl (d53, 3, .inl (fun _ => 0)))]) hD hS hA [0, 1] rfl
  refine vx_callv (vx_runV (As := [.int p1]) (rest := []) ⟨hx, hb, hml, hown, hts⟩ (x_needPage l hfl dC dI s.heap.size (h0) (w1) (w6) (w8) (w15) (w22) (w26) (w31) (w35) (w40) (w48) (w50) (w52) (d53) (p1)) (cwV 1 hts (gV_G k735 k737 ks_yX9_needPage k1 k738) rfl rfl rfl (by decide +kernel) ⟨Nat.le_of_ble_eq_true rfl, Nat.le_of_ble_eq_true rfl⟩) ⟨fun a U g mk q => by obtain ⟨q0, q1, qP, qK, qD, qE⟩ := q; exact ⟨q0, q1, qP, va_K.moved (u := U) (U := U.calling g mk a) (Vm.Alike.refl U.vm) qK, qD, xX_call qE⟩, va_recv hKc hPc (ci := 9) (q0 := 0) rfl rfl, fun U hU hW => ⟨rfl, by rw [hU], by rw [hU]; exact hPc, va_K.moved hW.alike hKc, hDc.weaken (fun _ _ _ _ => trivial), xX_at hEx hS (fun q h => hFc q h) hU hW⟩⟩ rfl rfl hl.1 rfl (lv_room (Nat.le_of_ble_eq_true rfl)) dX9_needPlace_2 ⟨Nat.le_of_ble_eq_true rfl, Nat.le_of_ble_eq_true rfl⟩) hS (fun q _ h => hFc q h) hFc (fun q _ h => hFc q h) (fun E ce q9 u t H1 locs ht hvm hpx hBX hz1 hk1 hS hce hcv hcl => ?_) (fun u t H1 locs ht hvm hw hB hz1 hk1 hS => hw.elim)
  exact vx_out (fun x hx9 => (hnt x hx9).elim) hlocks hce hcv hcl (fun t ht hW => ⟨(), trivial, hBX, hS.F ht⟩) hS.2.2 (Nat.le_of_ble_eq_true rfl) (Nat.le_of_ble_eq_true rfl)
set_option maxHeartbeats 4000000 in
set_option maxRecDepth 100000 in
theorem x_needNode (l : Launch) (hfl : l.stackTraces = false) (dC : Nat → ClassId) (dI : Nat → Nat → Nat) (sz : Nat) (h0 : Nat) (w1 : Nat) (w6 : Nat) (w8 : Nat) (w15 : Nat) (w22 : Nat) (w26 : Nat) (w31 : Nat) (w35 : Nat) (w40 : Nat) (w48 : Nat) (w50 : Nat) (w52 : Nat) (w9 : Nat) (w10 : Nat) (w11 : Nat) (w12 : Nat) (w13 : Nat) (d53 : ClassId) (p1 : Int32)  : vx_Met l yX9_needNode (Cond.code yX9_needNode cX9_needNode 3 none :: wsG) ({ frames := 7, cells := 1, slots := 6, locals := 110 } : Room) (va_Pc [.ref h0, .ref w8, .int p1] (fun U => U.heap.size = sz ∧ va_P (dC, dI) vwCl [(h0, .inr (9, [.ref w1, .ref w6, .int 0, .ref w8, .ref w15, .int 0, .int 0, .ref w22, .ref w26, .ref w31, .ref w35, .ref w40, .ref w48, .ref w50, .ref w52])), (w52, .inl (d53, 3, .inl (fun _ => 0))), (w8, .inr (4, [.ref w9, .ref w10, .ref w11, .ref w12, .ref w13, .int 0, .int 0, .int 0]))] U.heap ∧ va_K (dC, dI) vwCl [(d53, .int)] U ∧ va_D (fun _ => True) [(h0, .inr (9, [.ref w1, .ref w6, .int 0, .ref w8, .ref w15, .int 0, .int 0, .ref w22, .ref w26, .ref w31, .ref w35, .ref w40, .ref w48, .ref w50, .ref w52])), (w52, .inl (d53, 3, .inl (fun _ => 0))), (w8, .inr (4, [.ref w9, .ref w10, .ref w11, .ref w12, .ref w13, .int 0, .int 0, .int 0]))] ∧ xX (va_A [(h0, .inr (9, [.ref w1, .ref w6, .int 0, .ref w8, .ref w15, .int 0, .int 0, .ref w22, .ref w26, .ref w31, .ref w35, .ref w40, .ref w48, .ref w50, .ref w52])), (w52, .inl (d53, 3, .inl (fun _ => 0))), (w8, .inr (4, [.ref w9, .ref w10, .ref w11, .ref w12, .ref w13, .int 0, .int 0, .int 0]))] sz) U)) (xQ (va_A [(h0, .inr (9, [.ref w1, .ref w6, .int 0, .ref w8, .ref w15, .int 0, .int 0, .ref w22, .ref w26, .ref w31, .ref w35, .ref w40, .ref w48, .ref w50, .ref w52])), (w52, .inl (d53, 3, .inl (fun _ => 0))), (w8, .inr (4, [.ref w9, .ref w10, .ref w11, .ref w12, .ref w13, .int 0, .int 0, .int 0]))] sz)) (xC "java/util/NoSuchElementException" (va_A [(h0, .inr (9, [.ref w1, .ref w6, .int 0, .ref w8, .ref w15, .int 0, .int 0, .ref w22, .ref w26, .ref w31, .ref w35, .ref w40, .ref w48, .ref w50, .ref w52])), (w52, .inl (d53, 3, .inl (fun _ => 0))), (w8, .inr (4, [.ref w9, .ref w10, .ref w11, .ref w12, .ref w13, .int 0, .int 0, .int 0]))] sz)) 1 6 (va_A [(h0, .inr (9, [.ref w1, .ref w6, .int 0, .ref w8, .ref w15, .int 0, .int 0, .ref w22, .ref w26, .ref w31, .ref w35, .ref w40, .ref w48, .ref w50, .ref w52])), (w52, .inl (d53, 3, .inl (fun _ => 0))), (w8, .inr (4, [.ref w9, .ref w10, .ref w11, .ref w12, .ref w13, .int 0, .int 0, .int 0]))] sz) := by
  refine vx_ofW (cc := cX9_needNode) (maxL := 3) (ret := none) (by decide) rfl ?_
  intro p e s m args below meth c s₁ B hml hnt hv
  obtain ⟨rfl, hsz, hP, hK, hD0, hEx⟩ := hv
  have hx := B.exec
  have hb := B.bytes
  have hr := B.returns
  have hts : ∀ w ∈ wsG, w.before _ s = true := hG_of (atoms_spec (ws := (Cond.code yX9_needNode cX9_needNode 3 none :: wsG)) B.pre)
  have hown : s.vm.findClass RX9 = some m.cls := findClass_of_methodNamed B.named
  have hlocks := B.notSynchronized
  subst hsz
  have hD := hD0.self (sz := s.heap.size)
  generalize hAe : va_A [(h0, .inr (9, [.ref w1, .ref w6, .int 0, .ref w8, .ref w15, .int 0, .int 0, .ref w22, .ref w26, .ref w31, .ref w35, .ref w40, .ref w48, .ref w50, .ref w52])), (w52, .inl (d53, 3, .inl (fun _ => 0))), (w8, .inr (4, [.ref w9, .ref w10, .ref w11, .ref w12, .ref w13, .int 0, .int 0, .int 0]))] s.heap.size = A at hD hEx ⊢
  have hEx : xX A s := hEx
  have hA : ∀ q : Nat, s.heap.size ≤ q → A q := fun q h => by rw [← hAe]; exact Or.inr h
  have hS : va_S A s.heap s.heap [] := va_S.rf
  have hl := lv_entry ([.ref h0, .ref w8, .int p1]) (n := 3) (Nat.le_of_ble_eq_true rfl)
  rw [lg_entry_eq]
  generalize (lg_sl ([.ref h0, .ref w8, .int p1]) ++ List.replicate (3 - (lg_sl ([.ref h0, .ref w8, .int p1])).length) Slot.unset).toArray = ls at hl ⊢
  have hl : lv_has ls 3 [(0, .ref h0), (1, .ref w8), (2, .int p1)] := hl
  refine lv_aload_n hx hb dX9_needNode_0 rfl (lv_at hl 0 rfl) ?_
  refine lv_iload_n hx hb dX9_needNode_1 rfl (lv_at hl 2 rfl) ?_
  refine lv_if_lt (tgt := 17) hx hb dX9_needNode_2 (by decide) (fun c2_ => ?_) (fun c2_ => ?_)
  · refine lv_iconst (v := 0) hx hb dX9_needNode_17 (by decide) ?_
    have hPc := hP.sub (ws' := [(h0, .inr (9, [.ref w1, .ref w6, .int 0, .ref w8, .ref w15, .int 0, .int 0, .ref w22, .ref w26, .ref w31, .ref w35, .ref w40, .ref w48, .ref w50, .ref w52])), (w52, .inl (d53, 3, .inl (fun _ => 0)))]) [0, 1] rfl
    have hDc := hD.sub (ws' := [(h0, .inr (9, [.ref w1, .ref w6, .int 0, .ref w8, .ref w15, .int 0, .int 0, .ref w22, .ref w26, .ref w31, .ref w35, .ref w40, .ref w48, .ref w50, .ref w52])), (w52, .inl (d53, 3, .inl (fun _ => 0)))]) [0, 1] (by decide) rfl
    have hKc := hK.sub (tys' := [(d53, .int)]) [0] rfl
    have hFc := va_free (wc := [(h0, .inr (9, [.ref w1, .ref w6, .int 0, .ref w8, .ref w15, .int 0, .int 0, .ref w22, .ref w26, .ref w31, .ref w35, .ref w40, .ref w48, .ref w50, .ref w52])), (w52, .inl (d53, 3, .inl (fun _ => 0)))]) hD hS hA [0, 1] rfl
    refine vx_callv (vx_runV (As := [.int 0]) (rest := []) ⟨hx, hb, hml, hown, hts⟩ (x_needElement l hfl dC dI s.heap.size (h0) (w1) (w6) (w8) (w15) (w22) (w26) (w31) (w35) (w40) (w48) (w50) (w52) (d53)) (cwV 1 hts (gV_G k739 k741 ks_yX9_needElement k1 k742) rfl rfl rfl (by decide +kernel) ⟨Nat.le_of_ble_eq_true rfl, Nat.le_of_ble_eq_true rfl⟩) ⟨fun a U g mk q => by obtain ⟨q0, q1, qP, qK, qD, qE⟩ := q; exact ⟨q0, q1, qP, va_K.moved (u := U) (U := U.calling g mk a) (Vm.Alike.refl U.vm) qK, qD, xX_call qE⟩, va_recv hKc hPc (ci := 9) (q0 := 0) rfl rfl, fun U hU hW => ⟨rfl, by rw [hU], by rw [hU]; exact hPc, va_K.moved hW.alike hKc, hDc.weaken (fun _ _ _ _ => trivial), xX_at hEx hS (fun q h => hFc q h) hU hW⟩⟩ rfl rfl hl.1 rfl (lv_room (Nat.le_of_ble_eq_true rfl)) dX9_needNode_18 ⟨Nat.le_of_ble_eq_true rfl, Nat.le_of_ble_eq_true rfl⟩) hS (fun q _ h => hFc q h) hFc (fun q _ h => hFc q h) (fun E ce q9 u t H1 locs ht hvm hpx hBX hz1 hk1 hS hce hcv hcl => ?_) (fun u t H1 locs ht hvm hw hB hz1 hk1 hS => hw.elim)
    exact vx_out (fun x hx9 => (hnt x hx9).elim) hlocks hce hcv hcl (fun t ht hW => ⟨(), trivial, hBX, hS.F ht⟩) hS.2.2 (Nat.le_of_ble_eq_true rfl) (Nat.le_of_ble_eq_true rfl)
  · refine lv_iload_n hx hb dX9_needNode_5 rfl (lv_at hl 2 rfl) ?_
    refine lv_aload_n hx hb dX9_needNode_6 rfl (lv_at hl 1 rfl) ?_
    refine va_get (D := (dC, dI)) (ci := 4) (v := .int 0) (C := RX4) (T := TX4) (N := 8) hx hb hts inG4 hown hK hP 2 rfl rfl 6 (by decide) (hts _ k101) (fun _ h9 => h9) rfl dX9_needNode_7 ?_
    refine lv_icmp_ge (tgt := 17) hx hb dX9_needNode_10 (by decide) (fun _ => ?_) (fun c10_ => absurd (x_nn c2_) c10_)
    refine lv_iconst (v := 0) hx hb dX9_needNode_17 (by decide) ?_
    have hPc := hP.sub (ws' := [(h0, .inr (9, [.ref w1, .ref w6, .int 0, .ref w8, .ref w15, .int 0, .int 0, .ref w22, .ref w26, .ref w31, .ref w35, .ref w40, .ref w48, .ref w50, .ref w52])), (w52, .inl (d53, 3, .inl (fun _ => 0)))]) [0, 1] rfl
    have hDc := hD.sub (ws' := [(h0, .inr (9, [.ref w1, .ref w6, .int 0, .ref w8, .ref w15, .int 0, .int 0, .ref w22, .ref w26, .ref w31, .ref w35, .ref w40, .ref w48, .ref w50, .ref w52])), (w52, .inl (d53, 3, .inl (fun _ => 0)))]) [0, 1] (by decide) rfl
    have hKc := hK.sub (tys' := [(d53, .int)]) [0] rfl
    have hFc := va_free (wc := [(h0, .inr (9, [.ref w1, .ref w6, .int 0, .ref w8, .ref w15, .int 0, .int 0, .ref w22, .ref w26, .ref w31, .ref w35, .ref w40, .ref w48, .ref w50, .ref w52])), (w52, .inl (d53, 3, .inl (fun _ => 0)))]) hD hS hA [0, 1] rfl
    refine vx_callv (vx_runV (As := [.int 0]) (rest := []) ⟨hx, hb, hml, hown, hts⟩ (x_needElement l hfl dC dI s.heap.size (h0) (w1) (w6) (w8) (w15) (w22) (w26) (w31) (w35) (w40) (w48) (w50) (w52) (d53)) (cwV 1 hts (gV_G k739 k741 ks_yX9_needElement k1 k742) rfl rfl rfl (by decide +kernel) ⟨Nat.le_of_ble_eq_true rfl, Nat.le_of_ble_eq_true rfl⟩) ⟨fun a U g mk q => by obtain ⟨q0, q1, qP, qK, qD, qE⟩ := q; exact ⟨q0, q1, qP, va_K.moved (u := U) (U := U.calling g mk a) (Vm.Alike.refl U.vm) qK, qD, xX_call qE⟩, va_recv hKc hPc (ci := 9) (q0 := 0) rfl rfl, fun U hU hW => ⟨rfl, by rw [hU], by rw [hU]; exact hPc, va_K.moved hW.alike hKc, hDc.weaken (fun _ _ _ _ => trivial), xX_at hEx hS (fun q h => hFc q h) hU hW⟩⟩ rfl rfl hl.1 rfl (lv_room (Nat.le_of_ble_eq_true rfl)) dX9_needNode_18 ⟨Nat.le_of_ble_eq_true rfl, Nat.le_of_ble_eq_true rfl⟩) hS (fun q _ h => hFc q h) hFc (fun q _ h => hFc q h) (fun E ce q9 u t H1 locs ht hvm hpx hBX hz1 hk1 hS hce hcv hcl => ?_) (fun u t H1 locs ht hvm hw hB hz1 hk1 hS => hw.elim)
    exact vx_out (fun x hx9 => (hnt x hx9).elim) hlocks hce hcv hcl (fun t ht hW => ⟨(), trivial, hBX, hS.F ht⟩) hS.2.2 (Nat.le_of_ble_eq_true rfl) (Nat.le_of_ble_eq_true rfl)

theorem k27 : (Cond.instanceMethod ({ cls := "java/lang/Object", name := "<init>", desc := "()V" } : MethodName)) ∈ wsG := wsG_at 27 (by decide +kernel) (by decide +kernel)
theorem k28 : (Cond.code ({ cls := "java/lang/Object", name := "<init>", desc := "()V" } : MethodName) object_method_1_code (1 : Nat) (Option.none : Option Jvm.ClassFile.FieldType)) ∈ wsG := wsG_at 28 (by decide +kernel) (by decide +kernel)
theorem k34 : (Cond.methodLink "PageSkeleton$Texts" (3 : Nat) ({ cls := "java/lang/Object", name := "<init>", desc := "()V" } : MethodName)) ∈ wsG := wsG_at 34 (by decide +kernel) (by decide +kernel)
theorem k35 : (Cond.fieldLink "PageSkeleton$Texts" (9 : Nat) "PageSkeleton$Texts" "tape" "[I") ∈ wsG := wsG_at 35 (by decide +kernel) (by decide +kernel)
theorem k36 : (Cond.fieldLink "PageSkeleton$Texts" (15 : Nat) "PageSkeleton$Texts" "bytes" "I") ∈ wsG := wsG_at 36 (by decide +kernel) (by decide +kernel)
theorem k38 : (Cond.fieldLink "PageSkeleton$Texts" (19 : Nat) "PageSkeleton$Texts" "keys" "[I") ∈ wsG := wsG_at 38 (by decide +kernel) (by decide +kernel)
theorem k39 : (Cond.fieldLink "PageSkeleton$Texts" (22 : Nat) "PageSkeleton$Texts" "tokens" "I") ∈ wsG := wsG_at 39 (by decide +kernel) (by decide +kernel)
theorem k41 : (Cond.fieldLink "PageSkeleton$Texts" (25 : Nat) "PageSkeleton$Texts" "found" "[I") ∈ wsG := wsG_at 41 (by decide +kernel) (by decide +kernel)
theorem k43 : (Cond.fieldLink "PageSkeleton$Texts" (28 : Nat) "PageSkeleton$Texts" "foundCount" "I") ∈ wsG := wsG_at 43 (by decide +kernel) (by decide +kernel)
theorem k45 : (Cond.fieldLink "PageSkeleton$Texts" (31 : Nat) "PageSkeleton$Texts" "faultPlace" "I") ∈ wsG := wsG_at 45 (by decide +kernel) (by decide +kernel)
theorem k47 : (Cond.fieldLink "PageSkeleton$Texts" (34 : Nat) "PageSkeleton$Texts" "at" "I") ∈ wsG := wsG_at 47 (by decide +kernel) (by decide +kernel)
theorem k65 : (Cond.arrayClass FieldType.int) ∈ wsG := wsG_at 65 (by decide +kernel) (by decide +kernel)
theorem dX5_init_0 : decode cX5_init 0 = .ok (.aload_n 0, 1) := by decide +kernel
theorem dX5_init_1 : decode cX5_init 1 = .ok (.invokespecial 3, 3) := by decide +kernel
theorem dX5_init_4 : decode cX5_init 4 = .ok (.aload_n 0, 1) := by decide +kernel
theorem dX5_init_5 : decode cX5_init 5 = .ok (.sipush 400, 3) := by decide +kernel
theorem dX5_init_8 : decode cX5_init 8 = .ok (.newarray .int, 2) := by decide +kernel
theorem dX5_init_10 : decode cX5_init 10 = .ok (.putfield 9, 3) := by decide +kernel
theorem dX5_init_13 : decode cX5_init 13 = .ok (.aload_n 0, 1) := by decide +kernel
theorem dX5_init_14 : decode cX5_init 14 = .ok (.iconst 0, 1) := by decide +kernel
theorem dX5_init_15 : decode cX5_init 15 = .ok (.putfield 15, 3) := by decide +kernel
theorem dX5_init_18 : decode cX5_init 18 = .ok (.aload_n 0, 1) := by decide +kernel
theorem dX5_init_19 : decode cX5_init 19 = .ok (.sipush 200, 3) := by decide +kernel
theorem dX5_init_22 : decode cX5_init 22 = .ok (.newarray .int, 2) := by decide +kernel
theorem dX5_init_24 : decode cX5_init 24 = .ok (.putfield 19, 3) := by decide +kernel
theorem dX5_init_27 : decode cX5_init 27 = .ok (.aload_n 0, 1) := by decide +kernel
theorem dX5_init_28 : decode cX5_init 28 = .ok (.iconst 0, 1) := by decide +kernel
theorem dX5_init_29 : decode cX5_init 29 = .ok (.putfield 22, 3) := by decide +kernel
theorem dX5_init_32 : decode cX5_init 32 = .ok (.aload_n 0, 1) := by decide +kernel
theorem dX5_init_33 : decode cX5_init 33 = .ok (.bipush 60, 2) := by decide +kernel
theorem dX5_init_35 : decode cX5_init 35 = .ok (.newarray .int, 2) := by decide +kernel
theorem dX5_init_37 : decode cX5_init 37 = .ok (.putfield 25, 3) := by decide +kernel
theorem dX5_init_40 : decode cX5_init 40 = .ok (.aload_n 0, 1) := by decide +kernel
theorem dX5_init_41 : decode cX5_init 41 = .ok (.iconst 0, 1) := by decide +kernel
theorem dX5_init_42 : decode cX5_init 42 = .ok (.putfield 28, 3) := by decide +kernel
theorem dX5_init_45 : decode cX5_init 45 = .ok (.aload_n 0, 1) := by decide +kernel
theorem dX5_init_46 : decode cX5_init 46 = .ok (.iconst (-1), 1) := by decide +kernel
theorem dX5_init_47 : decode cX5_init 47 = .ok (.putfield 31, 3) := by decide +kernel
theorem dX5_init_50 : decode cX5_init 50 = .ok (.aload_n 0, 1) := by decide +kernel
theorem dX5_init_51 : decode cX5_init 51 = .ok (.iconst 0, 1) := by decide +kernel
theorem dX5_init_52 : decode cX5_init 52 = .ok (.putfield 34, 3) := by decide +kernel
theorem dX5_init_55 : decode cX5_init 55 = .ok (.return_, 1) := by decide +kernel
set_option maxHeartbeats 4000000 in
set_option maxRecDepth 100000 in
theorem c_Texts_init (l : Launch) (dC : Nat → ClassId) (dI : Nat → Nat → Nat) (sz : Nat) (h0 : Nat)  : Met l yX5_init (Cond.code yX5_init cX5_init 1 none :: wsG) ({ frames := 1, cells := 3, slots := 660, locals := 12 } : Room) (va_Pc [.ref h0] (fun U => U.heap.size = sz ∧ va_P (dC, dI) vwCl [(h0, .inr (5, [.null, .int 0, .null, .int 0, .null, .int 0, .int 0, .int 0]))] U.heap ∧ va_K (dC, dI) vwCl [] U ∧ va_D (fun _ => True) [(h0, .inr (5, [.null, .int 0, .null, .int 0, .null, .int 0, .int 0, .int 0]))])) (va_Qv (fun (_ : Unit) => True) (fun (_ : Unit) (t : State) => ∃ (q1 : Nat) (q3 : Nat) (q5 : Nat) (c2 : ClassId), va_P (dC, dI) vwCl [(h0, .inr (5, [.ref q1, .int 0, .ref q3, .int 0, .ref q5, .int 0, .int (-1), .int 0])), (q1, .inl (c2, 400, .inl (fun _ => 0)))] t.heap ∧ va_K (dC, dI) vwCl [(c2, .int)] t ∧ va_D (va_A [(h0, .inr (5, [.null, .int 0, .null, .int 0, .null, .int 0, .int 0, .int 0]))] sz) [(h0, .inr (5, [.ref q1, .int 0, .ref q3, .int 0, .ref q5, .int 0, .int (-1), .int 0])), (q1, .inl (c2, 400, .inl (fun _ => 0)))]) (va_A [(h0, .inr (5, [.null, .int 0, .null, .int 0, .null, .int 0, .int 0, .int 0]))] sz)) 3 660 (va_A [(h0, .inr (5, [.null, .int 0, .null, .int 0, .null, .int 0, .int 0, .int 0]))] sz) := by
  refine Met.ofW (cc := cX5_init) (maxL := 1) (ret := none) (by decide) rfl ?_
  intro p e s m args below meth c s₁ B hml hv
  obtain ⟨rfl, hsz, hP, hK, hD0⟩ := hv
  have hx := B.exec
  have hb := B.bytes
  have hr := B.returns
  have hts : ∀ w ∈ wsG, w.before _ s = true := hG_of (atoms_spec (ws := (Cond.code yX5_init cX5_init 1 none :: wsG)) B.pre)
  have hown : s.vm.findClass RX5 = some m.cls := findClass_of_methodNamed B.named
  have hlocks := B.notSynchronized
  have hin : meth.name = "<init>" := (name_of_methodNamed B.named B.method).1
  subst hsz
  have hD := hD0.self (sz := s.heap.size)
  generalize hAe : va_A [(h0, .inr (5, [.null, .int 0, .null, .int 0, .null, .int 0, .int 0, .int 0]))] s.heap.size = A at hD ⊢
  have hA : ∀ q : Nat, s.heap.size ≤ q → A q := fun q h => by rw [← hAe]; exact Or.inr h
  have hS : va_S A s.heap s.heap [] := va_S.rf
  have hl := lv_entry ([.ref h0]) (n := 1) (Nat.le_of_ble_eq_true rfl)
  rw [lg_entry_eq]
  generalize (lg_sl ([.ref h0]) ++ List.replicate (1 - (lg_sl ([.ref h0])).length) Slot.unset).toArray = ls at hl ⊢
  have hl : lv_has ls 1 [(0, .ref h0)] := hl
  refine lv_aload_n hx hb dX5_init_0 rfl (lv_at hl 0 rfl) ?_
  refine W.objInit hx hb hown (hts _ k34) (hts _ k27) (hts _ k28) rfl (by rw [hml]; exact hl.1) rfl dX5_init_1 (Nat.le_of_ble_eq_true rfl) (Nat.le_of_ble_eq_true rfl) ?_
  refine W.eq (g2 := F0 m 4 ls []) rfl ?_
  refine lv_aload_n hx hb dX5_init_4 rfl (lv_at hl 0 rfl) ?_
  refine lv_sipush (v := 400) hx hb dX5_init_5 (by decide) ?_
  refine va_newa (atype := .int) (ty := .int) (N' := 400) (a0 := (400, .inl (fun _ => 0))) hx hb (hts _ k65) rfl hK hP hD hS hA (fun _ => rfl) (by decide) (by decide) (Nat.le_of_ble_eq_true rfl) (Nat.le_of_ble_eq_true rfl) (Nat.le_of_ble_eq_true rfl) dX5_init_8 (fun q1 c2 H hK hP hD hS => ?_)
  have hK : va_K (dC, dI) vwCl [(c2, .int)] s := hK
  have hP : va_P (dC, dI) vwCl [(h0, .inr (5, [.null, .int 0, .null, .int 0, .null, .int 0, .int 0, .int 0])), (q1, .inl (c2, 400, .inl (fun _ => 0)))] H := hP
  have hD : va_D A [(h0, .inr (5, [.null, .int 0, .null, .int 0, .null, .int 0, .int 0, .int 0])), (q1, .inl (c2, 400, .inl (fun _ => 0)))] := hD
  refine W.widen (k := 1) (n := 400) (by omega) (by omega) ?_
  refine va_putF (D := (dC, dI)) (ci := 5) (v := .ref q1) (ty := .array .int) (C := RX5) (T := TX5) (N := 8) hx hb hts inG5 tyX5 tyX5_ok nmX5 hown hK hP hD hS 0 rfl rfl 0 (by decide) (hts _ k35) (fun _ h9 => h9) rfl hin rfl (by decide +kernel) rfl rfl (Nat.le_of_ble_eq_true rfl) dX5_init_10 (fun H locs hP hD hS => ?_)
  have hP : va_P (dC, dI) vwCl [(h0, .inr (5, [.ref q1, .int 0, .null, .int 0, .null, .int 0, .int 0, .int 0])), (q1, .inl (c2, 400, .inl (fun _ => 0)))] H := hP
  have hD : va_D A [(h0, .inr (5, [.ref q1, .int 0, .null, .int 0, .null, .int 0, .int 0, .int 0])), (q1, .inl (c2, 400, .inl (fun _ => 0)))] := hD
  refine lv_aload_n hx hb dX5_init_13 rfl (lv_at hl 0 rfl) ?_
  refine lv_iconst (v := 0) hx hb dX5_init_14 (by decide) ?_
  refine va_put (D := (dC, dI)) (ci := 5) (v := .int 0) (ty := .int) (C := RX5) (T := TX5) (N := 8) hx hb hts inG5 tyX5 tyX5_ok nmX5 hown hK hP hD hS 0 rfl rfl 1 (by decide) (hts _ k36) (fun _ h9 => h9) rfl (by decide +kernel) rfl rfl (Nat.le_of_ble_eq_true rfl) dX5_init_15 (fun H locs hP hD hS => ?_)
  have hP : va_P (dC, dI) vwCl [(h0, .inr (5, [.ref q1, .int 0, .null, .int 0, .null, .int 0, .int 0, .int 0])), (q1, .inl (c2, 400, .inl (fun _ => 0)))] H := hP
  have hD : va_D A [(h0, .inr (5, [.ref q1, .int 0, .null, .int 0, .null, .int 0, .int 0, .int 0])), (q1, .inl (c2, 400, .inl (fun _ => 0)))] := hD
  refine lv_aload_n hx hb dX5_init_18 rfl (lv_at hl 0 rfl) ?_
  refine lv_sipush (v := 200) hx hb dX5_init_19 (by decide) ?_
  refine va_newa (atype := .int) (ty := .int) (N' := 200) (a0 := (200, .inl (fun _ => 0))) hx hb (hts _ k65) rfl hK hP hD hS hA (fun _ => rfl) (by decide) (by decide) (Nat.le_of_ble_eq_true rfl) (Nat.le_of_ble_eq_true rfl) (Nat.le_of_ble_eq_true rfl) dX5_init_22 (fun q3 c4 H hK hP hD hS => ?_)
  have hK : va_K (dC, dI) vwCl [(c2, .int), (c4, .int)] s := hK
  have hP : va_P (dC, dI) vwCl [(h0, .inr (5, [.ref q1, .int 0, .null, .int 0, .null, .int 0, .int 0, .int 0])), (q1, .inl (c2, 400, .inl (fun _ => 0))), (q3, .inl (c4, 200, .inl (fun _ => 0)))] H := hP
  have hD : va_D A [(h0, .inr (5, [.ref q1, .int 0, .null, .int 0, .null, .int 0, .int 0, .int 0])), (q1, .inl (c2, 400, .inl (fun _ => 0))), (q3, .inl (c4, 200, .inl (fun _ => 0)))] := hD
  refine W.widen (k := 2) (n := 600) (by omega) (by omega) ?_
  refine va_putF (D := (dC, dI)) (ci := 5) (v := .ref q3) (ty := .array .int) (C := RX5) (T := TX5) (N := 8) hx hb hts inG5 tyX5 tyX5_ok nmX5 hown hK hP hD hS 0 rfl rfl 2 (by decide) (hts _ k38) (fun _ h9 => h9) rfl hin rfl (by decide +kernel) rfl rfl (Nat.le_of_ble_eq_true rfl) dX5_init_24 (fun H locs hP hD hS => ?_)
  have hP : va_P (dC, dI) vwCl [(h0, .inr (5, [.ref q1, .int 0, .ref q3, .int 0, .null, .int 0, .int 0, .int 0])), (q1, .inl (c2, 400, .inl (fun _ => 0))), (q3, .inl (c4, 200, .inl (fun _ => 0)))] H := hP
  have hD : va_D A [(h0, .inr (5, [.ref q1, .int 0, .ref q3, .int 0, .null, .int 0, .int 0, .int 0])), (q1, .inl (c2, 400, .inl (fun _ => 0))), (q3, .inl (c4, 200, .inl (fun _ => 0)))] := hD
  refine lv_aload_n hx hb dX5_init_27 rfl (lv_at hl 0 rfl) ?_
  refine lv_iconst (v := 0) hx hb dX5_init_28 (by decide) ?_
  refine va_put (D := (dC, dI)) (ci := 5) (v := .int 0) (ty := .int) (C := RX5) (T := TX5) (N := 8) hx hb hts inG5 tyX5 tyX5_ok nmX5 hown hK hP hD hS 0 rfl rfl 3 (by decide) (hts _ k39) (fun _ h9 => h9) rfl (by decide +kernel) rfl rfl (Nat.le_of_ble_eq_true rfl) dX5_init_29 (fun H locs hP hD hS => ?_)
  have hP : va_P (dC, dI) vwCl [(h0, .inr (5, [.ref q1, .int 0, .ref q3, .int 0, .null, .int 0, .int 0, .int 0])), (q1, .inl (c2, 400, .inl (fun _ => 0))), (q3, .inl (c4, 200, .inl (fun _ => 0)))] H := hP
  have hD : va_D A [(h0, .inr (5, [.ref q1, .int 0, .ref q3, .int 0, .null, .int 0, .int 0, .int 0])), (q1, .inl (c2, 400, .inl (fun _ => 0))), (q3, .inl (c4, 200, .inl (fun _ => 0)))] := hD
  refine lv_aload_n hx hb dX5_init_32 rfl (lv_at hl 0 rfl) ?_
  refine lv_bipush (v := 60) hx hb dX5_init_33 (by decide) ?_
  refine va_newa (atype := .int) (ty := .int) (N' := 60) (a0 := (60, .inl (fun _ => 0))) hx hb (hts _ k65) rfl hK hP hD hS hA (fun _ => rfl) (by decide) (by decide) (Nat.le_of_ble_eq_true rfl) (Nat.le_of_ble_eq_true rfl) (Nat.le_of_ble_eq_true rfl) dX5_init_35 (fun q5 c6 H hK hP hD hS => ?_)
  have hK : va_K (dC, dI) vwCl [(c2, .int), (c4, .int), (c6, .int)] s := hK
  have hP : va_P (dC, dI) vwCl [(h0, .inr (5, [.ref q1, .int 0, .ref q3, .int 0, .null, .int 0, .int 0, .int 0])), (q1, .inl (c2, 400, .inl (fun _ => 0))), (q3, .inl (c4, 200, .inl (fun _ => 0))), (q5, .inl (c6, 60, .inl (fun _ => 0)))] H := hP
  have hD : va_D A [(h0, .inr (5, [.ref q1, .int 0, .ref q3, .int 0, .null, .int 0, .int 0, .int 0])), (q1, .inl (c2, 400, .inl (fun _ => 0))), (q3, .inl (c4, 200, .inl (fun _ => 0))), (q5, .inl (c6, 60, .inl (fun _ => 0)))] := hD
  refine W.widen (k := 3) (n := 660) (by omega) (by omega) ?_
  refine va_putF (D := (dC, dI)) (ci := 5) (v := .ref q5) (ty := .array .int) (C := RX5) (T := TX5) (N := 8) hx hb hts inG5 tyX5 tyX5_ok nmX5 hown hK hP hD hS 0 rfl rfl 4 (by decide) (hts _ k41) (fun _ h9 => h9) rfl hin rfl (by decide +kernel) rfl rfl (Nat.le_of_ble_eq_true rfl) dX5_init_37 (fun H locs hP hD hS => ?_)
  have hP : va_P (dC, dI) vwCl [(h0, .inr (5, [.ref q1, .int 0, .ref q3, .int 0, .ref q5, .int 0, .int 0, .int 0])), (q1, .inl (c2, 400, .inl (fun _ => 0))), (q3, .inl (c4, 200, .inl (fun _ => 0))), (q5, .inl (c6, 60, .inl (fun _ => 0)))] H := hP
  have hD : va_D A [(h0, .inr (5, [.ref q1, .int 0, .ref q3, .int 0, .ref q5, .int 0, .int 0, .int 0])), (q1, .inl (c2, 400, .inl (fun _ => 0))), (q3, .inl (c4, 200, .inl (fun _ => 0))), (q5, .inl (c6, 60, .inl (fun _ => 0)))] := hD
  refine lv_aload_n hx hb dX5_init_40 rfl (lv_at hl 0 rfl) ?_
  refine lv_iconst (v := 0) hx hb dX5_init_41 (by decide) ?_
  refine va_put (D := (dC, dI)) (ci := 5) (v := .int 0) (ty := .int) (C := RX5) (T := TX5) (N := 8) hx hb hts inG5 tyX5 tyX5_ok nmX5 hown hK hP hD hS 0 rfl rfl 5 (by decide) (hts _ k43) (fun _ h9 => h9) rfl (by decide +kernel) rfl rfl (Nat.le_of_ble_eq_true rfl) dX5_init_42 (fun H locs hP hD hS => ?_)
  have hP : va_P (dC, dI) vwCl [(h0, .inr (5, [.ref q1, .int 0, .ref q3, .int 0, .ref q5, .int 0, .int 0, .int 0])), (q1, .inl (c2, 400, .inl (fun _ => 0))), (q3, .inl (c4, 200, .inl (fun _ => 0))), (q5, .inl (c6, 60, .inl (fun _ => 0)))] H := hP
  have hD : va_D A [(h0, .inr (5, [.ref q1, .int 0, .ref q3, .int 0, .ref q5, .int 0, .int 0, .int 0])), (q1, .inl (c2, 400, .inl (fun _ => 0))), (q3, .inl (c4, 200, .inl (fun _ => 0))), (q5, .inl (c6, 60, .inl (fun _ => 0)))] := hD
  refine lv_aload_n hx hb dX5_init_45 rfl (lv_at hl 0 rfl) ?_
  refine lv_iconst (v := (-1)) hx hb dX5_init_46 (by decide) ?_
  refine va_put (D := (dC, dI)) (ci := 5) (v := .int (-1)) (ty := .int) (C := RX5) (T := TX5) (N := 8) hx hb hts inG5 tyX5 tyX5_ok nmX5 hown hK hP hD hS 0 rfl rfl 6 (by decide) (hts _ k45) (fun _ h9 => h9) rfl (by decide +kernel) rfl rfl (Nat.le_of_ble_eq_true rfl) dX5_init_47 (fun H locs hP hD hS => ?_)
  have hP : va_P (dC, dI) vwCl [(h0, .inr (5, [.ref q1, .int 0, .ref q3, .int 0, .ref q5, .int 0, .int (-1), .int 0])), (q1, .inl (c2, 400, .inl (fun _ => 0))), (q3, .inl (c4, 200, .inl (fun _ => 0))), (q5, .inl (c6, 60, .inl (fun _ => 0)))] H := hP
  have hD : va_D A [(h0, .inr (5, [.ref q1, .int 0, .ref q3, .int 0, .ref q5, .int 0, .int (-1), .int 0])), (q1, .inl (c2, 400, .inl (fun _ => 0))), (q3, .inl (c4, 200, .inl (fun _ => 0))), (q5, .inl (c6, 60, .inl (fun _ => 0)))] := hD
  refine lv_aload_n hx hb dX5_init_50 rfl (lv_at hl 0 rfl) ?_
  refine lv_iconst (v := 0) hx hb dX5_init_51 (by decide) ?_
  refine va_put (D := (dC, dI)) (ci := 5) (v := .int 0) (ty := .int) (C := RX5) (T := TX5) (N := 8) hx hb hts inG5 tyX5 tyX5_ok nmX5 hown hK hP hD hS 0 rfl rfl 7 (by decide) (hts _ k47) (fun _ h9 => h9) rfl (by decide +kernel) rfl rfl (Nat.le_of_ble_eq_true rfl) dX5_init_52 (fun H locs hP hD hS => ?_)
  have hP : va_P (dC, dI) vwCl [(h0, .inr (5, [.ref q1, .int 0, .ref q3, .int 0, .ref q5, .int 0, .int (-1), .int 0])), (q1, .inl (c2, 400, .inl (fun _ => 0))), (q3, .inl (c4, 200, .inl (fun _ => 0))), (q5, .inl (c6, 60, .inl (fun _ => 0)))] H := hP
  have hD : va_D A [(h0, .inr (5, [.ref q1, .int 0, .ref q3, .int 0, .ref q5, .int 0, .int (-1), .int 0])), (q1, .inl (c2, 400, .inl (fun _ => 0))), (q3, .inl (c4, 200, .inl (fun _ => 0))), (q5, .inl (c6, 60, .inl (fun _ => 0)))] := hD
  have hP9 := hP.sub (ws' := [(h0, .inr (5, [.ref q1, .int 0, .ref q3, .int 0, .ref q5, .int 0, .int (-1), .int 0])), (q1, .inl (c2, 400, .inl (fun _ => 0)))]) [0, 1] rfl
  have hD9 := hD.sub (ws' := [(h0, .inr (5, [.ref q1, .int 0, .ref q3, .int 0, .ref q5, .int 0, .int (-1), .int 0])), (q1, .inl (c2, 400, .inl (fun _ => 0)))]) [0, 1] (by decide) rfl
  have hK9 := hK.sub (tys' := [(c2, .int)]) [0] rfl
  refine W.widen (k := 3) (n := 660) (by omega) (by omega) ?_
  exact W.vret hx hb hr (fun t ht hW => ⟨⟨(), rfl, trivial, q1, q3, q5, c2, by rw [ht]; exact hP9, va_K.moved hW.alike hK9, hD9⟩, hS.F ht⟩) hS.2.2 dX5_init_55

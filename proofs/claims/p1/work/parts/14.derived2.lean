theorem k1205 : (Cond.fieldLink "PageSkeletonModel" (367 : Nat) "PageSkeletonModel" "states" "I") ∈ wsG := wsG_at 1205 (by decide +kernel) (by decide +kernel)
theorem k1508 : (Cond.methodLink "PageSkeletonModel" (380 : Nat) ({ cls := "PageSkeletonModel", name := "laysStates", desc := "()V" } : MethodName)) ∈ wsG := wsG_at 1508 (by decide +kernel) (by decide +kernel)
theorem k1510 : (Cond.instanceMethod ({ cls := "PageSkeletonModel", name := "laysStates", desc := "()V" } : MethodName)) ∈ wsG := wsG_at 1510 (by decide +kernel) (by decide +kernel)
theorem k1511 : (Cond.code ({ cls := "PageSkeletonModel", name := "laysStates", desc := "()V" } : MethodName) prog_12_method_73_code (4 : Nat) (Option.none : Option Jvm.ClassFile.FieldType)) ∈ wsG := wsG_at 1511 (by decide +kernel) (by decide +kernel)
theorem ks_yX10_laysStates : Cond.selects RX10 yX10_laysStates yX10_laysStates ∈ wsG := wsG_mem (by decide +kernel) (by decide +kernel)
theorem dX10_laysStates_0 : decode cX10_laysStates 0 = .ok (.iconst 0, 1) := by decide +kernel
theorem dX10_laysStates_1 : decode cX10_laysStates 1 = .ok (.istore_n 1, 1) := by decide +kernel
theorem dX10_laysStates_2 : decode cX10_laysStates 2 = .ok (.aload_n 0, 1) := by decide +kernel
theorem dX10_laysStates_3 : decode cX10_laysStates 3 = .ok (.iconst 0, 1) := by decide +kernel
theorem dX10_laysStates_4 : decode cX10_laysStates 4 = .ok (.putfield 367, 3) := by decide +kernel
theorem dX10_laysStates_7 : decode cX10_laysStates 7 = .ok (.iconst 0, 1) := by decide +kernel
theorem dX10_laysStates_8 : decode cX10_laysStates 8 = .ok (.istore_n 2, 1) := by decide +kernel
theorem dX10_laysStates_9 : decode cX10_laysStates 9 = .ok (.iload_n 2, 1) := by decide +kernel
theorem dX10_laysStates_10 : decode cX10_laysStates 10 = .ok (.aload_n 0, 1) := by decide +kernel
theorem dX10_laysStates_11 : decode cX10_laysStates 11 = .ok (.getfield 54, 3) := by decide +kernel
theorem dX10_laysStates_14 : decode cX10_laysStates 14 = .ok (.iconst 0, 1) := by decide +kernel
theorem dX10_laysStates_15 : decode cX10_laysStates 15 = .ok (.iaload, 1) := by decide +kernel
theorem dX10_laysStates_16 : decode cX10_laysStates 16 = .ok (.if_icmp .gt 199, 3) := by decide +kernel
theorem dX10_laysStates_19 : decode cX10_laysStates 19 = .ok (.iload_n 1, 1) := by decide +kernel
theorem dX10_laysStates_20 : decode cX10_laysStates 20 = .ok (.ifCond .le 111, 3) := by decide +kernel
theorem dX10_laysStates_131 : decode cX10_laysStates 131 = .ok (.iload_n 2, 1) := by decide +kernel
theorem dX10_laysStates_132 : decode cX10_laysStates 132 = .ok (.aload_n 0, 1) := by decide +kernel
theorem dX10_laysStates_133 : decode cX10_laysStates 133 = .ok (.getfield 54, 3) := by decide +kernel
theorem dX10_laysStates_136 : decode cX10_laysStates 136 = .ok (.iconst 0, 1) := by decide +kernel
theorem dX10_laysStates_137 : decode cX10_laysStates 137 = .ok (.iaload, 1) := by decide +kernel
theorem dX10_laysStates_138 : decode cX10_laysStates 138 = .ok (.if_icmp .ne 6, 3) := by decide +kernel
theorem dX10_laysStates_141 : decode cX10_laysStates 141 = .ok (.goto 74, 3) := by decide +kernel
theorem dX10_laysStates_215 : decode cX10_laysStates 215 = .ok (.return_, 1) := by decide +kernel
theorem dX10_orders_19 : decode cX10_orders 19 = .ok (.iconst 0, 1) := by decide +kernel
theorem dX10_orders_28 : decode cX10_orders 28 = .ok (.aload_n 0, 1) := by decide +kernel
theorem dX10_orders_29 : decode cX10_orders 29 = .ok (.aload_n 0, 1) := by decide +kernel
theorem dX10_orders_30 : decode cX10_orders 30 = .ok (.getfield 181, 3) := by decide +kernel
theorem dX10_orders_33 : decode cX10_orders 33 = .ok (.iconst 1, 1) := by decide +kernel
theorem dX10_orders_34 : decode cX10_orders 34 = .ok (.iconst 4, 1) := by decide +kernel
theorem dX10_orders_35 : decode cX10_orders 35 = .ok (.invokestatic 173, 3) := by decide +kernel
theorem dX10_orders_38 : decode cX10_orders 38 = .ok (.ifCond .ne 7, 3) := by decide +kernel
theorem dX10_orders_41 : decode cX10_orders 41 = .ok (.iconst 1, 1) := by decide +kernel
theorem dX10_orders_42 : decode cX10_orders 42 = .ok (.goto 4, 3) := by decide +kernel
theorem dX10_orders_46 : decode cX10_orders 46 = .ok (.iconst 2, 1) := by decide +kernel
theorem dX10_orders_47 : decode cX10_orders 47 = .ok (.iconst 2, 1) := by decide +kernel
theorem dX10_orders_48 : decode cX10_orders 48 = .ok (.invokevirtual 177, 3) := by decide +kernel
theorem dX10_orders_51 : decode cX10_orders 51 = .ok (.ifCond .eq 5, 3) := by decide +kernel
theorem dX10_derived_37 : decode cX10_derived 37 = .ok (.iload_n 2, 1) := by decide +kernel
theorem dX10_derived_38 : decode cX10_derived 38 = .ok (.iload_n 1, 1) := by decide +kernel
theorem dX10_derived_39 : decode cX10_derived 39 = .ok (.if_icmp .gt 147, 3) := by decide +kernel
theorem dX10_derived_42 : decode cX10_derived 42 = .ok (.iconst 0, 1) := by decide +kernel
theorem dX10_derived_43 : decode cX10_derived 43 = .ok (.istore_n 3, 1) := by decide +kernel
theorem dX10_derived_44 : decode cX10_derived 44 = .ok (.iload_n 3, 1) := by decide +kernel
theorem dX10_derived_45 : decode cX10_derived 45 = .ok (.aload_n 0, 1) := by decide +kernel
theorem dX10_derived_46 : decode cX10_derived 46 = .ok (.getfield 367, 3) := by decide +kernel
theorem dX10_derived_49 : decode cX10_derived 49 = .ok (.if_icmp .gt 18, 3) := by decide +kernel
theorem dX10_derived_52 : decode cX10_derived 52 = .ok (.aload_n 0, 1) := by decide +kernel
theorem dX10_derived_53 : decode cX10_derived 53 = .ok (.getfield 97, 3) := by decide +kernel
theorem dX10_derived_56 : decode cX10_derived 56 = .ok (.iload_n 3, 1) := by decide +kernel
theorem dX10_derived_57 : decode cX10_derived 57 = .ok (.aaload, 1) := by decide +kernel
theorem dX10_derived_58 : decode cX10_derived 58 = .ok (.iload_n 2, 1) := by decide +kernel
theorem dX10_derived_59 : decode cX10_derived 59 = .ok (.iconst 0, 1) := by decide +kernel
theorem dX10_derived_60 : decode cX10_derived 60 = .ok (.iastore, 1) := by decide +kernel
theorem dX10_derived_61 : decode cX10_derived 61 = .ok (.iinc 3 1, 3) := by decide +kernel
theorem dX10_derived_64 : decode cX10_derived 64 = .ok (.goto (-20), 3) := by decide +kernel
theorem dX10_derived_67 : decode cX10_derived 67 = .ok (.aload_n 0, 1) := by decide +kernel
theorem dX10_derived_68 : decode cX10_derived 68 = .ok (.getfield 97, 3) := by decide +kernel
theorem dX10_derived_71 : decode cX10_derived 71 = .ok (.aload_n 0, 1) := by decide +kernel
theorem dX10_derived_72 : decode cX10_derived 72 = .ok (.getfield 367, 3) := by decide +kernel
theorem dX10_derived_75 : decode cX10_derived 75 = .ok (.aaload, 1) := by decide +kernel
theorem dX10_derived_76 : decode cX10_derived 76 = .ok (.iload_n 2, 1) := by decide +kernel
theorem dX10_derived_77 : decode cX10_derived 77 = .ok (.iload_n 2, 1) := by decide +kernel
theorem dX10_derived_78 : decode cX10_derived 78 = .ok (.ifCond .ne 7, 3) := by decide +kernel
theorem dX10_derived_85 : decode cX10_derived 85 = .ok (.iconst 0, 1) := by decide +kernel
theorem dX10_derived_86 : decode cX10_derived 86 = .ok (.iastore, 1) := by decide +kernel
theorem dX10_derived_87 : decode cX10_derived 87 = .ok (.iconst 1, 1) := by decide +kernel
theorem dX10_derived_88 : decode cX10_derived 88 = .ok (.istore_n 3, 1) := by decide +kernel
theorem dX10_derived_89 : decode cX10_derived 89 = .ok (.iload_n 3, 1) := by decide +kernel
theorem dX10_derived_90 : decode cX10_derived 90 = .ok (.ifCond .eq 90, 3) := by decide +kernel
theorem dX10_derived_93 : decode cX10_derived 93 = .ok (.iconst 0, 1) := by decide +kernel
theorem dX10_derived_94 : decode cX10_derived 94 = .ok (.istore_n 3, 1) := by decide +kernel
theorem dX10_derived_95 : decode cX10_derived 95 = .ok (.aload_n 0, 1) := by decide +kernel
theorem dX10_derived_96 : decode cX10_derived 96 = .ok (.getfield 367, 3) := by decide +kernel
theorem dX10_derived_99 : decode cX10_derived 99 = .ok (.iconst 1, 1) := by decide +kernel
theorem dX10_derived_100 : decode cX10_derived 100 = .ok (.isub, 1) := by decide +kernel
theorem dX10_derived_101 : decode cX10_derived 101 = .ok (.istore 4, 2) := by decide +kernel
theorem dX10_derived_103 : decode cX10_derived 103 = .ok (.iload 4, 2) := by decide +kernel
theorem dX10_derived_105 : decode cX10_derived 105 = .ok (.ifCond .lt 72, 3) := by decide +kernel
theorem dX10_derived_177 : decode cX10_derived 177 = .ok (.goto (-88), 3) := by decide +kernel
theorem dX10_derived_180 : decode cX10_derived 180 = .ok (.iinc 2 1, 3) := by decide +kernel
theorem dX10_derived_183 : decode cX10_derived 183 = .ok (.goto (-146), 3) := by decide +kernel
theorem dX10_derived_20 : decode cX10_derived 20 = .ok (.iconst 0, 1) := by decide +kernel
theorem dX10_derived_31 : decode cX10_derived 31 = .ok (.aload_n 0, 1) := by decide +kernel
theorem dX10_derived_32 : decode cX10_derived 32 = .ok (.invokevirtual 380, 3) := by decide +kernel
theorem dX10_derived_35 : decode cX10_derived 35 = .ok (.iconst 0, 1) := by decide +kernel
theorem dX10_derived_36 : decode cX10_derived 36 = .ok (.istore_n 2, 1) := by decide +kernel
theorem dX10_derived_81 : decode cX10_derived 81 = .ok (.iconst 1, 1) := by decide +kernel
theorem dX10_derived_82 : decode cX10_derived 82 = .ok (.goto 4, 3) := by decide +kernel
theorem dX10_derived_186 : decode cX10_derived 186 = .ok (.aload_n 0, 1) := by decide +kernel
theorem dX10_derived_187 : decode cX10_derived 187 = .ok (.getfield 97, 3) := by decide +kernel
theorem dX10_derived_190 : decode cX10_derived 190 = .ok (.iconst 0, 1) := by decide +kernel
theorem dX10_derived_191 : decode cX10_derived 191 = .ok (.aaload, 1) := by decide +kernel
theorem dX10_derived_192 : decode cX10_derived 192 = .ok (.iload_n 1, 1) := by decide +kernel
theorem dX10_derived_193 : decode cX10_derived 193 = .ok (.iaload, 1) := by decide +kernel
theorem dX10_derived_194 : decode cX10_derived 194 = .ok (.ireturn, 1) := by decide +kernel
set_option maxHeartbeats 4000000 in
set_option maxRecDepth 100000 in
theorem m_laysStates (l : Launch) (dC : Nat → ClassId) (dI : Nat → Nat → Nat) (sz : Nat) (h0 : Nat) (m0 : Int32) (m1 : Nat) (m2 : Int32) (m3 : Int32) (m4 : Int32) (m5 : Int32) (m6 : Int32) (m7 : Int32) (m8 : Nat) (m9 : Int32) (m10 : Int32) (m11 : Nat) (m12 : Nat) (m13 : Nat) (m14 : Nat) (m15 : Nat) (m16 : Nat) (m17 : Nat) (m18 : Nat) (m19 : Nat) (m20 : Nat) (m21 : Nat) (m22 : Int32) (m23 : Int32) (m24 : Int32) (m25 : Nat) (m26 : Nat) (m27 : Int32) (m28 : Int32) (m29 : Nat) (m30 : Nat) (m31 : Nat) (m32 : Nat) (m33 : Int32) (m34 : Nat) (m35 : Nat) (m36 : Nat) (m37 : Nat) (m38 : Int32) (m40 : Nat) (m41 : Nat) (m42 : Nat) (m43 : Nat) (m44 : Nat) (m45 : Nat) (m46 : Nat) (m47 : Nat) (m48 : Nat) (m49 : Nat) (m50 : Nat) (m51 : Nat) (m52 : Nat) (cnd : ClassId)  : Met l yX10_laysStates (Cond.code yX10_laysStates cX10_laysStates 4 none :: wsG) ({ frames := 1, cells := 0, slots := 0, locals := 14 } : Room) (va_Pc [.ref h0] (fun U => U.heap.size = sz ∧ va_P (dC, dI) vwCl [(h0, .inr (10, [.int m0, .ref m1, .int m2, .int m3, .int m4, .int m5, .int m6, .int m7, .ref m8, .int m9, .int m10, .ref m11, .ref m12, .ref m13, .ref m14, .ref m15, .ref m16, .ref m17, .ref m18, .ref m19, .ref m20, .ref m21, .int m22, .int m23, .int m24, .ref m25, .ref m26, .int m27, .int m28, .ref m29, .ref m30, .ref m31, .ref m32, .int m33, .ref m34, .ref m35, .ref m36, .ref m37, .int m38, .int 0, .ref m40, .ref m41, .ref m42, .ref m43, .ref m44, .ref m45, .ref m46, .ref m47, .ref m48, .ref m49, .ref m50, .ref m51, .ref m52])), (m21, .inl (cnd, 70, .inl (fun _ => 0)))] U.heap ∧ va_K (dC, dI) vwCl [(cnd, .int)] U ∧ va_D (fun _ => True) [(h0, .inr (10, [.int m0, .ref m1, .int m2, .int m3, .int m4, .int m5, .int m6, .int m7, .ref m8, .int m9, .int m10, .ref m11, .ref m12, .ref m13, .ref m14, .ref m15, .ref m16, .ref m17, .ref m18, .ref m19, .ref m20, .ref m21, .int m22, .int m23, .int m24, .ref m25, .ref m26, .int m27, .int m28, .ref m29, .ref m30, .ref m31, .ref m32, .int m33, .ref m34, .ref m35, .ref m36, .ref m37, .int m38, .int 0, .ref m40, .ref m41, .ref m42, .ref m43, .ref m44, .ref m45, .ref m46, .ref m47, .ref m48, .ref m49, .ref m50, .ref m51, .ref m52])), (m21, .inl (cnd, 70, .inl (fun _ => 0)))])) (va_Qv (fun (_ : Unit) => True) (fun (_ : Unit) (t : State) => va_P (dC, dI) vwCl [(h0, .inr (10, [.int m0, .ref m1, .int m2, .int m3, .int m4, .int m5, .int m6, .int m7, .ref m8, .int m9, .int m10, .ref m11, .ref m12, .ref m13, .ref m14, .ref m15, .ref m16, .ref m17, .ref m18, .ref m19, .ref m20, .ref m21, .int m22, .int m23, .int m24, .ref m25, .ref m26, .int m27, .int m28, .ref m29, .ref m30, .ref m31, .ref m32, .int m33, .ref m34, .ref m35, .ref m36, .ref m37, .int m38, .int 0, .ref m40, .ref m41, .ref m42, .ref m43, .ref m44, .ref m45, .ref m46, .ref m47, .ref m48, .ref m49, .ref m50, .ref m51, .ref m52])), (m21, .inl (cnd, 70, .inl (fun _ => 0)))] t.heap ∧ va_K (dC, dI) vwCl [(cnd, .int)] t ∧ va_D (va_A [(h0, .inr (10, [.int m0, .ref m1, .int m2, .int m3, .int m4, .int m5, .int m6, .int m7, .ref m8, .int m9, .int m10, .ref m11, .ref m12, .ref m13, .ref m14, .ref m15, .ref m16, .ref m17, .ref m18, .ref m19, .ref m20, .ref m21, .int m22, .int m23, .int m24, .ref m25, .ref m26, .int m27, .int m28, .ref m29, .ref m30, .ref m31, .ref m32, .int m33, .ref m34, .ref m35, .ref m36, .ref m37, .int m38, .int 0, .ref m40, .ref m41, .ref m42, .ref m43, .ref m44, .ref m45, .ref m46, .ref m47, .ref m48, .ref m49, .ref m50, .ref m51, .ref m52])), (m21, .inl (cnd, 70, .inl (fun _ => 0)))] sz) [(h0, .inr (10, [.int m0, .ref m1, .int m2, .int m3, .int m4, .int m5, .int m6, .int m7, .ref m8, .int m9, .int m10, .ref m11, .ref m12, .ref m13, .ref m14, .ref m15, .ref m16, .ref m17, .ref m18, .ref m19, .ref m20, .ref m21, .int m22, .int m23, .int m24, .ref m25, .ref m26, .int m27, .int m28, .ref m29, .ref m30, .ref m31, .ref m32, .int m33, .ref m34, .ref m35, .ref m36, .ref m37, .int m38, .int 0, .ref m40, .ref m41, .ref m42, .ref m43, .ref m44, .ref m45, .ref m46, .ref m47, .ref m48, .ref m49, .ref m50, .ref m51, .ref m52])), (m21, .inl (cnd, 70, .inl (fun _ => 0)))]) (va_A [(h0, .inr (10, [.int m0, .ref m1, .int m2, .int m3, .int m4, .int m5, .int m6, .int m7, .ref m8, .int m9, .int m10, .ref m11, .ref m12, .ref m13, .ref m14, .ref m15, .ref m16, .ref m17, .ref m18, .ref m19, .ref m20, .ref m21, .int m22, .int m23, .int m24, .ref m25, .ref m26, .int m27, .int m28, .ref m29, .ref m30, .ref m31, .ref m32, .int m33, .ref m34, .ref m35, .ref m36, .ref m37, .int m38, .int 0, .ref m40, .ref m41, .ref m42, .ref m43, .ref m44, .ref m45, .ref m46, .ref m47, .ref m48, .ref m49, .ref m50, .ref m51, .ref m52])), (m21, .inl (cnd, 70, .inl (fun _ => 0)))] sz)) 0 0 (va_A [(h0, .inr (10, [.int m0, .ref m1, .int m2, .int m3, .int m4, .int m5, .int m6, .int m7, .ref m8, .int m9, .int m10, .ref m11, .ref m12, .ref m13, .ref m14, .ref m15, .ref m16, .ref m17, .ref m18, .ref m19, .ref m20, .ref m21, .int m22, .int m23, .int m24, .ref m25, .ref m26, .int m27, .int m28, .ref m29, .ref m30, .ref m31, .ref m32, .int m33, .ref m34, .ref m35, .ref m36, .ref m37, .int m38, .int 0, .ref m40, .ref m41, .ref m42, .ref m43, .ref m44, .ref m45, .ref m46, .ref m47, .ref m48, .ref m49, .ref m50, .ref m51, .ref m52])), (m21, .inl (cnd, 70, .inl (fun _ => 0)))] sz) := by
  refine Met.ofW (cc := cX10_laysStates) (maxL := 4) (ret := none) (by decide) rfl ?_
  intro p e s m args below meth c s₁ B hml hv
  obtain ⟨rfl, hsz, hP, hK, hD0⟩ := hv
  have hx := B.exec
  have hb := B.bytes
  have hr := B.returns
  have hts : ∀ w ∈ wsG, w.before _ s = true := hG_of (atoms_spec (ws := (Cond.code yX10_laysStates cX10_laysStates 4 none :: wsG)) B.pre)
  have hown : s.vm.findClass RX10 = some m.cls := findClass_of_methodNamed B.named
  have hlocks := B.notSynchronized
  subst hsz
  have hD := hD0.self (sz := s.heap.size)
  generalize hAe : va_A [(h0, .inr (10, [.int m0, .ref m1, .int m2, .int m3, .int m4, .int m5, .int m6, .int m7, .ref m8, .int m9, .int m10, .ref m11, .ref m12, .ref m13, .ref m14, .ref m15, .ref m16, .ref m17, .ref m18, .ref m19, .ref m20, .ref m21, .int m22, .int m23, .int m24, .ref m25, .ref m26, .int m27, .int m28, .ref m29, .ref m30, .ref m31, .ref m32, .int m33, .ref m34, .ref m35, .ref m36, .ref m37, .int m38, .int 0, .ref m40, .ref m41, .ref m42, .ref m43, .ref m44, .ref m45, .ref m46, .ref m47, .ref m48, .ref m49, .ref m50, .ref m51, .ref m52])), (m21, .inl (cnd, 70, .inl (fun _ => 0)))] s.heap.size = A at hD ⊢
  have hA : ∀ q : Nat, s.heap.size ≤ q → A q := fun q h => by rw [← hAe]; exact Or.inr h
  have hS : va_S A s.heap s.heap [] := va_S.rf
  have hl := lv_entry ([.ref h0]) (n := 4) (Nat.le_of_ble_eq_true rfl)
  rw [lg_entry_eq]
  generalize (lg_sl ([.ref h0]) ++ List.replicate (4 - (lg_sl ([.ref h0])).length) Slot.unset).toArray = ls at hl ⊢
  have hl : lv_has ls 4 [(0, .ref h0)] := hl
  refine lv_iconst (v := 0) hx hb dX10_laysStates_0 (by decide) ?_
  refine lv_istore_n (lv' := [(1, .int 0), (0, .ref h0)]) hx hb dX10_laysStates_1 rfl hl (by decide) rfl (fun ls hl => ?_)
  refine lv_aload_n hx hb dX10_laysStates_2 rfl (lv_at hl 1 rfl) ?_
  refine lv_iconst (v := 0) hx hb dX10_laysStates_3 (by decide) ?_
  refine va_put (D := (dC, dI)) (ci := 10) (v := .int 0) (ty := .int) (C := RX10) (T := TX10) (N := 53) hx hb hts inG10 tyX10 tyX10_ok nmX10 hown hK hP hD hS 0 rfl rfl 39 (by decide) (hts _ k1205) (fun _ h9 => h9) rfl (by decide +kernel) rfl rfl (Nat.le_of_ble_eq_true rfl) dX10_laysStates_4 (fun H locs hP hD hS => ?_)
  have hP : va_P (dC, dI) vwCl [(h0, .inr (10, [.int m0, .ref m1, .int m2, .int m3, .int m4, .int m5, .int m6, .int m7, .ref m8, .int m9, .int m10, .ref m11, .ref m12, .ref m13, .ref m14, .ref m15, .ref m16, .ref m17, .ref m18, .ref m19, .ref m20, .ref m21, .int m22, .int m23, .int m24, .ref m25, .ref m26, .int m27, .int m28, .ref m29, .ref m30, .ref m31, .ref m32, .int m33, .ref m34, .ref m35, .ref m36, .ref m37, .int m38, .int 0, .ref m40, .ref m41, .ref m42, .ref m43, .ref m44, .ref m45, .ref m46, .ref m47, .ref m48, .ref m49, .ref m50, .ref m51, .ref m52])), (m21, .inl (cnd, 70, .inl (fun _ => 0)))] H := hP
  have hD : va_D A [(h0, .inr (10, [.int m0, .ref m1, .int m2, .int m3, .int m4, .int m5, .int m6, .int m7, .ref m8, .int m9, .int m10, .ref m11, .ref m12, .ref m13, .ref m14, .ref m15, .ref m16, .ref m17, .ref m18, .ref m19, .ref m20, .ref m21, .int m22, .int m23, .int m24, .ref m25, .ref m26, .int m27, .int m28, .ref m29, .ref m30, .ref m31, .ref m32, .int m33, .ref m34, .ref m35, .ref m36, .ref m37, .int m38, .int 0, .ref m40, .ref m41, .ref m42, .ref m43, .ref m44, .ref m45, .ref m46, .ref m47, .ref m48, .ref m49, .ref m50, .ref m51, .ref m52])), (m21, .inl (cnd, 70, .inl (fun _ => 0)))] := hD
  refine lv_iconst (v := 0) hx hb dX10_laysStates_7 (by decide) ?_
  refine lv_istore_n (lv' := [(2, .int 0), (1, .int 0), (0, .ref h0)]) hx hb dX10_laysStates_8 rfl hl (by decide) rfl (fun ls hl => ?_)
  refine lv_iload_n hx hb dX10_laysStates_9 rfl (lv_at hl 0 rfl) ?_
  refine lv_aload_n hx hb dX10_laysStates_10 rfl (lv_at hl 2 rfl) ?_
  refine va_get (D := (dC, dI)) (ci := 10) (v := .ref m21) (C := RX10) (T := TX10) (N := 53) hx hb hts inG10 hown hK hP 0 rfl rfl 21 (by decide) (hts _ k1187) (fun _ h9 => h9) rfl dX10_laysStates_11 ?_
  refine lv_iconst (v := 0) hx hb dX10_laysStates_14 (by decide) ?_
  refine va_iald hx hb hK hP 1 0 rfl rfl (by unfold vp_in; decide +kernel) dX10_laysStates_15 ?_
  refine lv_topi (fun x15_ ex15_ => ?_)
  obtain rfl : x15_ = 0 := ex15_
  refine lv_icmp_gt (tgt := 215) hx hb dX10_laysStates_16 (by decide) (fun c9 => absurd c9 (by decide +kernel)) (fun _ => ?_)
  refine lv_iload_n hx hb dX10_laysStates_19 rfl (lv_at hl 1 rfl) ?_
  refine lv_if_le (tgt := 131) hx hb dX10_laysStates_20 (by decide) (fun _ => ?_) (fun c9 => absurd (by decide +kernel) c9)
  refine lv_iload_n hx hb dX10_laysStates_131 rfl (lv_at hl 0 rfl) ?_
  refine lv_aload_n hx hb dX10_laysStates_132 rfl (lv_at hl 2 rfl) ?_
  refine va_get (D := (dC, dI)) (ci := 10) (v := .ref m21) (C := RX10) (T := TX10) (N := 53) hx hb hts inG10 hown hK hP 0 rfl rfl 21 (by decide) (hts _ k1187) (fun _ h9 => h9) rfl dX10_laysStates_133 ?_
  refine lv_iconst (v := 0) hx hb dX10_laysStates_136 (by decide) ?_
  refine va_iald hx hb hK hP 1 0 rfl rfl (by unfold vp_in; decide +kernel) dX10_laysStates_137 ?_
  refine lv_topi (fun x137_ ex137_ => ?_)
  obtain rfl : x137_ = 0 := ex137_
  refine lv_icmp_ne (tgt := 144) hx hb dX10_laysStates_138 (by decide) (fun c9 => absurd (by decide +kernel) c9) (fun _ => ?_)
  refine lv_goto (tgt := 215) hx hb dX10_laysStates_141 (by decide) ?_
  have hP9 := hP.sub (ws' := [(h0, .inr (10, [.int m0, .ref m1, .int m2, .int m3, .int m4, .int m5, .int m6, .int m7, .ref m8, .int m9, .int m10, .ref m11, .ref m12, .ref m13, .ref m14, .ref m15, .ref m16, .ref m17, .ref m18, .ref m19, .ref m20, .ref m21, .int m22, .int m23, .int m24, .ref m25, .ref m26, .int m27, .int m28, .ref m29, .ref m30, .ref m31, .ref m32, .int m33, .ref m34, .ref m35, .ref m36, .ref m37, .int m38, .int 0, .ref m40, .ref m41, .ref m42, .ref m43, .ref m44, .ref m45, .ref m46, .ref m47, .ref m48, .ref m49, .ref m50, .ref m51, .ref m52])), (m21, .inl (cnd, 70, .inl (fun _ => 0)))]) [0, 1] rfl
  have hD9 := hD.sub (ws' := [(h0, .inr (10, [.int m0, .ref m1, .int m2, .int m3, .int m4, .int m5, .int m6, .int m7, .ref m8, .int m9, .int m10, .ref m11, .ref m12, .ref m13, .ref m14, .ref m15, .ref m16, .ref m17, .ref m18, .ref m19, .ref m20, .ref m21, .int m22, .int m23, .int m24, .ref m25, .ref m26, .int m27, .int m28, .ref m29, .ref m30, .ref m31, .ref m32, .int m33, .ref m34, .ref m35, .ref m36, .ref m37, .int m38, .int 0, .ref m40, .ref m41, .ref m42, .ref m43, .ref m44, .ref m45, .ref m46, .ref m47, .ref m48, .ref m49, .ref m50, .ref m51, .ref m52])), (m21, .inl (cnd, 70, .inl (fun _ => 0)))]) [0, 1] (by decide) rfl
  have hK9 := hK.sub (tys' := [(cnd, .int)]) [0] rfl
  refine W.widen (k := 0) (n := 0) (by omega) (by omega) ?_
  exact W.vret hx hb hr (fun t ht hW => ⟨⟨(), rfl, trivial, by rw [ht]; exact hP9, va_K.moved hW.alike hK9, hD9⟩, hS.F ht⟩) hS.2.2 dX10_laysStates_215
set_option maxHeartbeats 4000000 in
set_option maxRecDepth 100000 in
theorem m_orders (l : Launch) (dC : Nat → ClassId) (dI : Nat → Nat → Nat) (sz : Nat) (h0 : Nat) (m1 : Nat) (m8 : Nat) (m11 : Nat) (m12 : Nat) (m13 : Nat) (m14 : Nat) (m15 : Nat) (m16 : Nat) (m17 : Nat) (m18 : Nat) (m19 : Nat) (m20 : Nat) (m21 : Nat) (m25 : Nat) (m26 : Nat) (m29 : Nat) (m30 : Nat) (m31 : Nat) (m32 : Nat) (m34 : Nat) (m35 : Nat) (m36 : Nat) (m37 : Nat) (m40 : Nat) (m41 : Nat) (m42 : Nat) (m43 : Nat) (m44 : Nat) (m45 : Nat) (m46 : Nat) (m47 : Nat) (m48 : Nat) (m49 : Nat) (m50 : Nat) (m51 : Nat) (m52 : Nat) (crf : ClassId) (p1 : Int32) (hq : ¬ p1 < 0 ∧ ¬ (3 : Int32) < p1) : Met l yX10_orders (Cond.code yX10_orders cX10_orders 9 (some .int) :: wsG) ({ frames := 2, cells := 0, slots := 0, locals := 37 } : Room) (va_Pc [.ref h0, .int p1] (fun U => U.heap.size = sz ∧ va_P (dC, dI) vwCl [(h0, .inr (10, [.int 0, .ref m1, .int 0, .int 0, .int 0, .int (-1), .int 0, .int 0, .ref m8, .int 0, .int 0, .ref m11, .ref m12, .ref m13, .ref m14, .ref m15, .ref m16, .ref m17, .ref m18, .ref m19, .ref m20, .ref m21, .int 0, .int 0, .int 0, .ref m25, .ref m26, .int 0, .int 0, .ref m29, .ref m30, .ref m31, .ref m32, .int 0, .ref m34, .ref m35, .ref m36, .ref m37, .int 0, .int 0, .ref m40, .ref m41, .ref m42, .ref m43, .ref m44, .ref m45, .ref m46, .ref m47, .ref m48, .ref m49, .ref m50, .ref m51, .ref m52])), (m1, .inl (crf, 3, .inl (fun _ => 0)))] U.heap ∧ va_K (dC, dI) vwCl [(crf, .int)] U ∧ va_D (fun _ => True) [(h0, .inr (10, [.int 0, .ref m1, .int 0, .int 0, .int 0, .int (-1), .int 0, .int 0, .ref m8, .int 0, .int 0, .ref m11, .ref m12, .ref m13, .ref m14, .ref m15, .ref m16, .ref m17, .ref m18, .ref m19, .ref m20, .ref m21, .int 0, .int 0, .int 0, .ref m25, .ref m26, .int 0, .int 0, .ref m29, .ref m30, .ref m31, .ref m32, .int 0, .ref m34, .ref m35, .ref m36, .ref m37, .int 0, .int 0, .ref m40, .ref m41, .ref m42, .ref m43, .ref m44, .ref m45, .ref m46, .ref m47, .ref m48, .ref m49, .ref m50, .ref m51, .ref m52])), (m1, .inl (crf, 3, .inl (fun _ => 0)))])) (va_Qi (fun (r : Int32) (_ : Unit) => r = 0) (fun (_ : Unit) (t : State) => va_P (dC, dI) vwCl [(h0, .inr (10, [.int 2, .ref m1, .int 0, .int 0, .int 0, .int (-1), .int 0, .int 0, .ref m8, .int 0, .int 0, .ref m11, .ref m12, .ref m13, .ref m14, .ref m15, .ref m16, .ref m17, .ref m18, .ref m19, .ref m20, .ref m21, .int 0, .int 0, .int 0, .ref m25, .ref m26, .int 0, .int 0, .ref m29, .ref m30, .ref m31, .ref m32, .int 0, .ref m34, .ref m35, .ref m36, .ref m37, .int 0, .int 0, .ref m40, .ref m41, .ref m42, .ref m43, .ref m44, .ref m45, .ref m46, .ref m47, .ref m48, .ref m49, .ref m50, .ref m51, .ref m52]))] t.heap ∧ va_K (dC, dI) vwCl [] t ∧ va_D (va_A [(h0, .inr (10, [.int 0, .ref m1, .int 0, .int 0, .int 0, .int (-1), .int 0, .int 0, .ref m8, .int 0, .int 0, .ref m11, .ref m12, .ref m13, .ref m14, .ref m15, .ref m16, .ref m17, .ref m18, .ref m19, .ref m20, .ref m21, .int 0, .int 0, .int 0, .ref m25, .ref m26, .int 0, .int 0, .ref m29, .ref m30, .ref m31, .ref m32, .int 0, .ref m34, .ref m35, .ref m36, .ref m37, .int 0, .int 0, .ref m40, .ref m41, .ref m42, .ref m43, .ref m44, .ref m45, .ref m46, .ref m47, .ref m48, .ref m49, .ref m50, .ref m51, .ref m52])), (m1, .inl (crf, 3, .inl (fun _ => 0)))] sz) [(h0, .inr (10, [.int 2, .ref m1, .int 0, .int 0, .int 0, .int (-1), .int 0, .int 0, .ref m8, .int 0, .int 0, .ref m11, .ref m12, .ref m13, .ref m14, .ref m15, .ref m16, .ref m17, .ref m18, .ref m19, .ref m20, .ref m21, .int 0, .int 0, .int 0, .ref m25, .ref m26, .int 0, .int 0, .ref m29, .ref m30, .ref m31, .ref m32, .int 0, .ref m34, .ref m35, .ref m36, .ref m37, .int 0, .int 0, .ref m40, .ref m41, .ref m42, .ref m43, .ref m44, .ref m45, .ref m46, .ref m47, .ref m48, .ref m49, .ref m50, .ref m51, .ref m52]))]) (va_A [(h0, .inr (10, [.int 0, .ref m1, .int 0, .int 0, .int 0, .int (-1), .int 0, .int 0, .ref m8, .int 0, .int 0, .ref m11, .ref m12, .ref m13, .ref m14, .ref m15, .ref m16, .ref m17, .ref m18, .ref m19, .ref m20, .ref m21, .int 0, .int 0, .int 0, .ref m25, .ref m26, .int 0, .int 0, .ref m29, .ref m30, .ref m31, .ref m32, .int 0, .ref m34, .ref m35, .ref m36, .ref m37, .int 0, .int 0, .ref m40, .ref m41, .ref m42, .ref m43, .ref m44, .ref m45, .ref m46, .ref m47, .ref m48, .ref m49, .ref m50, .ref m51, .ref m52])), (m1, .inl (crf, 3, .inl (fun _ => 0)))] sz)) 0 0 (va_A [(h0, .inr (10, [.int 0, .ref m1, .int 0, .int 0, .int 0, .int (-1), .int 0, .int 0, .ref m8, .int 0, .int 0, .ref m11, .ref m12, .ref m13, .ref m14, .ref m15, .ref m16, .ref m17, .ref m18, .ref m19, .ref m20, .ref m21, .int 0, .int 0, .int 0, .ref m25, .ref m26, .int 0, .int 0, .ref m29, .ref m30, .ref m31, .ref m32, .int 0, .ref m34, .ref m35, .ref m36, .ref m37, .int 0, .int 0, .ref m40, .ref m41, .ref m42, .ref m43, .ref m44, .ref m45, .ref m46, .ref m47, .ref m48, .ref m49, .ref m50, .ref m51, .ref m52])), (m1, .inl (crf, 3, .inl (fun _ => 0)))] sz) := by
  refine Met.ofW (cc := cX10_orders) (maxL := 9) (ret := (some .int)) (by decide) rfl ?_
  intro p e s m args below meth c s₁ B hml hv
  obtain ⟨rfl, hsz, hP, hK, hD0⟩ := hv
  have hx := B.exec
  have hb := B.bytes
  have hr := B.returns
  have hts : ∀ w ∈ wsG, w.before _ s = true := hG_of (atoms_spec (ws := (Cond.code yX10_orders cX10_orders 9 (some .int) :: wsG)) B.pre)
  have hown : s.vm.findClass RX10 = some m.cls := findClass_of_methodNamed B.named
  have hlocks := B.notSynchronized
  subst hsz
  have hD := hD0.self (sz := s.heap.size)
  generalize hAe : va_A [(h0, .inr (10, [.int 0, .ref m1, .int 0, .int 0, .int 0, .int (-1), .int 0, .int 0, .ref m8, .int 0, .int 0, .ref m11, .ref m12, .ref m13, .ref m14, .ref m15, .ref m16, .ref m17, .ref m18, .ref m19, .ref m20, .ref m21, .int 0, .int 0, .int 0, .ref m25, .ref m26, .int 0, .int 0, .ref m29, .ref m30, .ref m31, .ref m32, .int 0, .ref m34, .ref m35, .ref m36, .ref m37, .int 0, .int 0, .ref m40, .ref m41, .ref m42, .ref m43, .ref m44, .ref m45, .ref m46, .ref m47, .ref m48, .ref m49, .ref m50, .ref m51, .ref m52])), (m1, .inl (crf, 3, .inl (fun _ => 0)))] s.heap.size = A at hD ⊢
  have hA : ∀ q : Nat, s.heap.size ≤ q → A q := fun q h => by rw [← hAe]; exact Or.inr h
  have hS : va_S A s.heap s.heap [] := va_S.rf
  have hl := lv_entry ([.ref h0, .int p1]) (n := 9) (Nat.le_of_ble_eq_true rfl)
  rw [lg_entry_eq]
  generalize (lg_sl ([.ref h0, .int p1]) ++ List.replicate (9 - (lg_sl ([.ref h0, .int p1])).length) Slot.unset).toArray = ls at hl ⊢
  have hl : lv_has ls 9 [(0, .ref h0), (1, .int p1)] := hl
  refine lv_aload_n hx hb dX10_orders_0 rfl (lv_at hl 0 rfl) ?_
  refine lv_iconst (v := 0) hx hb dX10_orders_1 (by decide) ?_
  refine va_put (D := (dC, dI)) (ci := 10) (v := .int 0) (ty := .int) (C := RX10) (T := TX10) (N := 53) hx hb hts inG10 tyX10 tyX10_ok nmX10 hown hK hP hD hS 0 rfl rfl 0 (by decide) (hts _ k1166) (fun _ h9 => h9) rfl (by decide +kernel) rfl rfl (Nat.le_of_ble_eq_true rfl) dX10_orders_2 (fun H locs hP hD hS => ?_)
  have hP : va_P (dC, dI) vwCl [(h0, .inr (10, [.int 0, .ref m1, .int 0, .int 0, .int 0, .int (-1), .int 0, .int 0, .ref m8, .int 0, .int 0, .ref m11, .ref m12, .ref m13, .ref m14, .ref m15, .ref m16, .ref m17, .ref m18, .ref m19, .ref m20, .ref m21, .int 0, .int 0, .int 0, .ref m25, .ref m26, .int 0, .int 0, .ref m29, .ref m30, .ref m31, .ref m32, .int 0, .ref m34, .ref m35, .ref m36, .ref m37, .int 0, .int 0, .ref m40, .ref m41, .ref m42, .ref m43, .ref m44, .ref m45, .ref m46, .ref m47, .ref m48, .ref m49, .ref m50, .ref m51, .ref m52])), (m1, .inl (crf, 3, .inl (fun _ => 0)))] H := hP
  have hD : va_D A [(h0, .inr (10, [.int 0, .ref m1, .int 0, .int 0, .int 0, .int (-1), .int 0, .int 0, .ref m8, .int 0, .int 0, .ref m11, .ref m12, .ref m13, .ref m14, .ref m15, .ref m16, .ref m17, .ref m18, .ref m19, .ref m20, .ref m21, .int 0, .int 0, .int 0, .ref m25, .ref m26, .int 0, .int 0, .ref m29, .ref m30, .ref m31, .ref m32, .int 0, .ref m34, .ref m35, .ref m36, .ref m37, .int 0, .int 0, .ref m40, .ref m41, .ref m42, .ref m43, .ref m44, .ref m45, .ref m46, .ref m47, .ref m48, .ref m49, .ref m50, .ref m51, .ref m52])), (m1, .inl (crf, 3, .inl (fun _ => 0)))] := hD
  refine lv_aload_n hx hb dX10_orders_5 rfl (lv_at hl 0 rfl) ?_
  refine lv_iload_n hx hb dX10_orders_6 rfl (lv_at hl 1 rfl) ?_
  refine lv_iconst (v := 0) hx hb dX10_orders_7 (by decide) ?_
  refine lv_iconst (v := 3) hx hb dX10_orders_8 (by decide) ?_
  have hPc := hP.sub (ws' := []) [] rfl
  have hDc := hD.sub (ws' := []) [] (by decide) rfl
  have hKc := hK.sub (tys' := []) [] rfl
  have hFc := va_free (wc := []) hD hS hA [] rfl
  refine va_calli (va_runS (As := [.int p1, .int 0, .int 3]) (rest := [.ref h0]) ⟨hx, hb, hml, hown, hts⟩ (m_in1 l dC dI H.size (p1) (0) (3) (⟨hq.1, hq.2⟩)) (cwS 3 hts (gS_G k1339 k1340 k13 k1341) rfl rfl rfl (by decide +kernel) ⟨Nat.le_of_ble_eq_true rfl, Nat.le_of_ble_eq_true rfl⟩) ⟨fun a U g mk q => by obtain ⟨q0, q1, qP, qK, qD⟩ := q; exact ⟨q0, q1, qP, va_K.moved (u := U) (U := U.calling g mk a) (Vm.Alike.refl U.vm) qK, qD⟩, fun U hU hW => ⟨rfl, by rw [hU], by rw [hU]; exact hPc, va_K.moved hW.alike hKc, hDc.weaken (fun _ _ _ _ => trivial)⟩⟩ rfl rfl hl.1 rfl (lv_room (Nat.le_of_ble_eq_true rfl)) dX10_orders_9 ⟨Nat.le_of_ble_eq_true rfl, Nat.le_of_ble_eq_true rfl⟩) hS (fun q _ h => hFc q h) hFc (fun r1 u t H1 locs ht hvm hw hB hz1 hk1 hS => ?_)
  obtain ⟨hP1, hK1, hD1⟩ := hB
  rw [ht] at hP1
  have hK1 := va_K.moved hvm.symm hK1
  try dsimp only at hw
  obtain ⟨hP, hD⟩ := va_join (wr := [(h0, .inr (10, [.int 0, .ref m1, .int 0, .int 0, .int 0, .int (-1), .int 0, .int 0, .ref m8, .int 0, .int 0, .ref m11, .ref m12, .ref m13, .ref m14, .ref m15, .ref m16, .ref m17, .ref m18, .ref m19, .ref m20, .ref m21, .int 0, .int 0, .int 0, .ref m25, .ref m26, .int 0, .int 0, .ref m29, .ref m30, .ref m31, .ref m32, .int 0, .ref m34, .ref m35, .ref m36, .ref m37, .int 0, .int 0, .ref m40, .ref m41, .ref m42, .ref m43, .ref m44, .ref m45, .ref m46, .ref m47, .ref m48, .ref m49, .ref m50, .ref m51, .ref m52])), (m1, .inl (crf, 3, .inl (fun _ => 0)))]) (w1 := []) hP hD [] [0, 1] rfl rfl (by decide) (by decide) hk1 hFc hP1 hD1
  have hK := hK.app hK1
  generalize H1 = H at hP hS ⊢
  have hP : va_P (dC, dI) vwCl [(h0, .inr (10, [.int 0, .ref m1, .int 0, .int 0, .int 0, .int (-1), .int 0, .int 0, .ref m8, .int 0, .int 0, .ref m11, .ref m12, .ref m13, .ref m14, .ref m15, .ref m16, .ref m17, .ref m18, .ref m19, .ref m20, .ref m21, .int 0, .int 0, .int 0, .ref m25, .ref m26, .int 0, .int 0, .ref m29, .ref m30, .ref m31, .ref m32, .int 0, .ref m34, .ref m35, .ref m36, .ref m37, .int 0, .int 0, .ref m40, .ref m41, .ref m42, .ref m43, .ref m44, .ref m45, .ref m46, .ref m47, .ref m48, .ref m49, .ref m50, .ref m51, .ref m52])), (m1, .inl (crf, 3, .inl (fun _ => 0)))] H := hP
  have hD : va_D A [(h0, .inr (10, [.int 0, .ref m1, .int 0, .int 0, .int 0, .int (-1), .int 0, .int 0, .ref m8, .int 0, .int 0, .ref m11, .ref m12, .ref m13, .ref m14, .ref m15, .ref m16, .ref m17, .ref m18, .ref m19, .ref m20, .ref m21, .int 0, .int 0, .int 0, .ref m25, .ref m26, .int 0, .int 0, .ref m29, .ref m30, .ref m31, .ref m32, .int 0, .ref m34, .ref m35, .ref m36, .ref m37, .int 0, .int 0, .ref m40, .ref m41, .ref m42, .ref m43, .ref m44, .ref m45, .ref m46, .ref m47, .ref m48, .ref m49, .ref m50, .ref m51, .ref m52])), (m1, .inl (crf, 3, .inl (fun _ => 0)))] := hD
  have hK : va_K (dC, dI) vwCl [(crf, .int)] s := hK
  refine W.widen (k := 0) (n := 0) (by omega) (by omega) ?_
  obtain rfl : r1 = 1 := hw
  refine lv_if_ne (tgt := 19) hx hb dX10_orders_12 (by decide) (fun _ => ?_) (fun c9 => absurd c9 (by decide +kernel))
  refine lv_iconst (v := 0) hx hb dX10_orders_19 (by decide) ?_
  refine lv_iconst (v := 1) hx hb dX10_orders_20 (by decide) ?_
  refine lv_iconst (v := 1) hx hb dX10_orders_21 (by decide) ?_
  have hPc := hP.sub (ws' := [(h0, .inr (10, [.int 0, .ref m1, .int 0, .int 0, .int 0, .int (-1), .int 0, .int 0, .ref m8, .int 0, .int 0, .ref m11, .ref m12, .ref m13, .ref m14, .ref m15, .ref m16, .ref m17, .ref m18, .ref m19, .ref m20, .ref m21, .int 0, .int 0, .int 0, .ref m25, .ref m26, .int 0, .int 0, .ref m29, .ref m30, .ref m31, .ref m32, .int 0, .ref m34, .ref m35, .ref m36, .ref m37, .int 0, .int 0, .ref m40, .ref m41, .ref m42, .ref m43, .ref m44, .ref m45, .ref m46, .ref m47, .ref m48, .ref m49, .ref m50, .ref m51, .ref m52])), (m1, .inl (crf, 3, .inl (fun _ => 0)))]) [0, 1] rfl
  have hDc := hD.sub (ws' := [(h0, .inr (10, [.int 0, .ref m1, .int 0, .int 0, .int 0, .int (-1), .int 0, .int 0, .ref m8, .int 0, .int 0, .ref m11, .ref m12, .ref m13, .ref m14, .ref m15, .ref m16, .ref m17, .ref m18, .ref m19, .ref m20, .ref m21, .int 0, .int 0, .int 0, .ref m25, .ref m26, .int 0, .int 0, .ref m29, .ref m30, .ref m31, .ref m32, .int 0, .ref m34, .ref m35, .ref m36, .ref m37, .int 0, .int 0, .ref m40, .ref m41, .ref m42, .ref m43, .ref m44, .ref m45, .ref m46, .ref m47, .ref m48, .ref m49, .ref m50, .ref m51, .ref m52])), (m1, .inl (crf, 3, .inl (fun _ => 0)))]) [0, 1] (by decide) rfl
  have hKc := hK.sub (tys' := [(crf, .int)]) [0] rfl
  have hFc := va_free (wc := [(h0, .inr (10, [.int 0, .ref m1, .int 0, .int 0, .int 0, .int (-1), .int 0, .int 0, .ref m8, .int 0, .int 0, .ref m11, .ref m12, .ref m13, .ref m14, .ref m15, .ref m16, .ref m17, .ref m18, .ref m19, .ref m20, .ref m21, .int 0, .int 0, .int 0, .ref m25, .ref m26, .int 0, .int 0, .ref m29, .ref m30, .ref m31, .ref m32, .int 0, .ref m34, .ref m35, .ref m36, .ref m37, .int 0, .int 0, .ref m40, .ref m41, .ref m42, .ref m43, .ref m44, .ref m45, .ref m46, .ref m47, .ref m48, .ref m49, .ref m50, .ref m51, .ref m52])), (m1, .inl (crf, 3, .inl (fun _ => 0)))]) hD hS hA [0, 1] rfl
  refine va_calli (va_runV (As := [.int 0, .int 1, .int 1]) (rest := []) ⟨hx, hb, hml, hown, hts⟩ (m_bad011 l dC dI H.size (h0) (m1) (0) (0) (0) ((-1)) (0) (0) (m8) (0) (0) (m11) (m12) (m13) (m14) (m15) (m16) (m17) (m18) (m19) (m20) (m21) (0) (0) (0) (m25) (m26) (0) (0) (m29) (m30) (m31) (m32) (0) (m34) (m35) (m36) (m37) (0) (0) (m40) (m41) (m42) (m43) (m44) (m45) (m46) (m47) (m48) (m49) (m50) (m51) (m52) (crf)) (cwV 3 hts (gV_G k1342 k1344 ks_yX10_bad k13 k1345) rfl rfl rfl (by decide +kernel) ⟨Nat.le_of_ble_eq_true rfl, Nat.le_of_ble_eq_true rfl⟩) ⟨fun a U g mk q => by obtain ⟨q0, q1, qP, qK, qD⟩ := q; exact ⟨q0, q1, qP, va_K.moved (u := U) (U := U.calling g mk a) (Vm.Alike.refl U.vm) qK, qD⟩, va_recv hKc hPc (ci := 10) (q0 := 0) rfl rfl, fun U hU hW => ⟨rfl, by rw [hU], by rw [hU]; exact hPc, va_K.moved hW.alike hKc, hDc.weaken (fun _ _ _ _ => trivial)⟩⟩ rfl rfl hl.1 rfl (lv_room (Nat.le_of_ble_eq_true rfl)) dX10_orders_22 ⟨Nat.le_of_ble_eq_true rfl, Nat.le_of_ble_eq_true rfl⟩) hS (fun q _ h => hFc q h) hFc (fun r2 u t H1 locs ht hvm hw hB hz1 hk1 hS => ?_)
  obtain ⟨hP1, hK1, hD1⟩ := hB
  rw [ht] at hP1
  have hK1 := va_K.moved hvm.symm hK1
  try dsimp only at hw
  obtain ⟨hP, hD⟩ := va_join (wr := []) (w1 := [(h0, .inr (10, [.int 0, .ref m1, .int 0, .int 0, .int 0, .int (-1), .int 0, .int 0, .ref m8, .int 0, .int 0, .ref m11, .ref m12, .ref m13, .ref m14, .ref m15, .ref m16, .ref m17, .ref m18, .ref m19, .ref m20, .ref m21, .int 0, .int 0, .int 0, .ref m25, .ref m26, .int 0, .int 0, .ref m29, .ref m30, .ref m31, .ref m32, .int 0, .ref m34, .ref m35, .ref m36, .ref m37, .int 0, .int 0, .ref m40, .ref m41, .ref m42, .ref m43, .ref m44, .ref m45, .ref m46, .ref m47, .ref m48, .ref m49, .ref m50, .ref m51, .ref m52])), (m1, .inl (crf, 3, .inl (fun _ => 0)))]) hP hD [0, 1] [] rfl rfl (by decide) (by decide) hk1 hFc hP1 hD1
  have hK := hK.app hK1
  generalize H1 = H at hP hS ⊢
  have hP : va_P (dC, dI) vwCl [(h0, .inr (10, [.int 0, .ref m1, .int 0, .int 0, .int 0, .int (-1), .int 0, .int 0, .ref m8, .int 0, .int 0, .ref m11, .ref m12, .ref m13, .ref m14, .ref m15, .ref m16, .ref m17, .ref m18, .ref m19, .ref m20, .ref m21, .int 0, .int 0, .int 0, .ref m25, .ref m26, .int 0, .int 0, .ref m29, .ref m30, .ref m31, .ref m32, .int 0, .ref m34, .ref m35, .ref m36, .ref m37, .int 0, .int 0, .ref m40, .ref m41, .ref m42, .ref m43, .ref m44, .ref m45, .ref m46, .ref m47, .ref m48, .ref m49, .ref m50, .ref m51, .ref m52])), (m1, .inl (crf, 3, .inl (fun _ => 0)))] H := hP
  have hD : va_D A [(h0, .inr (10, [.int 0, .ref m1, .int 0, .int 0, .int 0, .int (-1), .int 0, .int 0, .ref m8, .int 0, .int 0, .ref m11, .ref m12, .ref m13, .ref m14, .ref m15, .ref m16, .ref m17, .ref m18, .ref m19, .ref m20, .ref m21, .int 0, .int 0, .int 0, .ref m25, .ref m26, .int 0, .int 0, .ref m29, .ref m30, .ref m31, .ref m32, .int 0, .ref m34, .ref m35, .ref m36, .ref m37, .int 0, .int 0, .ref m40, .ref m41, .ref m42, .ref m43, .ref m44, .ref m45, .ref m46, .ref m47, .ref m48, .ref m49, .ref m50, .ref m51, .ref m52])), (m1, .inl (crf, 3, .inl (fun _ => 0)))] := hD
  have hK : va_K (dC, dI) vwCl [(crf, .int), (crf, .int)] s := hK
  refine W.widen (k := 0) (n := 0) (by omega) (by omega) ?_
  obtain rfl : r2 = 0 := hw
  refine lv_if_ne (tgt := 54) hx hb dX10_orders_25 (by decide) (fun c9 => absurd (by decide +kernel) c9) (fun _ => ?_)
  refine lv_aload_n hx hb dX10_orders_28 rfl (lv_at hl 0 rfl) ?_
  refine lv_aload_n hx hb dX10_orders_29 rfl (lv_at hl 0 rfl) ?_
  refine va_get (D := (dC, dI)) (ci := 10) (v := .int 0) (C := RX10) (T := TX10) (N := 53) hx hb hts inG10 hown hK hP 0 rfl rfl 10 (by decide) (hts _ k1176) (fun _ h9 => h9) rfl dX10_orders_30 ?_
  refine lv_iconst (v := 1) hx hb dX10_orders_33 (by decide) ?_
  refine lv_iconst (v := 4) hx hb dX10_orders_34 (by decide) ?_
  have hPc := hP.sub (ws' := []) [] rfl
  have hDc := hD.sub (ws' := []) [] (by decide) rfl
  have hKc := hK.sub (tys' := []) [] rfl
  have hFc := va_free (wc := []) hD hS hA [] rfl
  refine va_calli (va_runS (As := [.int 0, .int 1, .int 4]) (rest := [.ref h0]) ⟨hx, hb, hml, hown, hts⟩ (m_in0 l dC dI H.size (0) (1) (4) ((by decide +kernel))) (cwS 3 hts (gS_G k1339 k1340 k13 k1341) rfl rfl rfl (by decide +kernel) ⟨Nat.le_of_ble_eq_true rfl, Nat.le_of_ble_eq_true rfl⟩) ⟨fun a U g mk q => by obtain ⟨q0, q1, qP, qK, qD⟩ := q; exact ⟨q0, q1, qP, va_K.moved (u := U) (U := U.calling g mk a) (Vm.Alike.refl U.vm) qK, qD⟩, fun U hU hW => ⟨rfl, by rw [hU], by rw [hU]; exact hPc, va_K.moved hW.alike hKc, hDc.weaken (fun _ _ _ _ => trivial)⟩⟩ rfl rfl hl.1 rfl (lv_room (Nat.le_of_ble_eq_true rfl)) dX10_orders_35 ⟨Nat.le_of_ble_eq_true rfl, Nat.le_of_ble_eq_true rfl⟩) hS (fun q _ h => hFc q h) hFc (fun r3 u t H1 locs ht hvm hw hB hz1 hk1 hS => ?_)
  obtain ⟨hP1, hK1, hD1⟩ := hB
  rw [ht] at hP1
  have hK1 := va_K.moved hvm.symm hK1
  try dsimp only at hw
  obtain ⟨hP, hD⟩ := va_join (wr := [(h0, .inr (10, [.int 0, .ref m1, .int 0, .int 0, .int 0, .int (-1), .int 0, .int 0, .ref m8, .int 0, .int 0, .ref m11, .ref m12, .ref m13, .ref m14, .ref m15, .ref m16, .ref m17, .ref m18, .ref m19, .ref m20, .ref m21, .int 0, .int 0, .int 0, .ref m25, .ref m26, .int 0, .int 0, .ref m29, .ref m30, .ref m31, .ref m32, .int 0, .ref m34, .ref m35, .ref m36, .ref m37, .int 0, .int 0, .ref m40, .ref m41, .ref m42, .ref m43, .ref m44, .ref m45, .ref m46, .ref m47, .ref m48, .ref m49, .ref m50, .ref m51, .ref m52])), (m1, .inl (crf, 3, .inl (fun _ => 0)))]) (w1 := []) hP hD [] [0, 1] rfl rfl (by decide) (by decide) hk1 hFc hP1 hD1
  have hK := hK.app hK1
  generalize H1 = H at hP hS ⊢
  have hP : va_P (dC, dI) vwCl [(h0, .inr (10, [.int 0, .ref m1, .int 0, .int 0, .int 0, .int (-1), .int 0, .int 0, .ref m8, .int 0, .int 0, .ref m11, .ref m12, .ref m13, .ref m14, .ref m15, .ref m16, .ref m17, .ref m18, .ref m19, .ref m20, .ref m21, .int 0, .int 0, .int 0, .ref m25, .ref m26, .int 0, .int 0, .ref m29, .ref m30, .ref m31, .ref m32, .int 0, .ref m34, .ref m35, .ref m36, .ref m37, .int 0, .int 0, .ref m40, .ref m41, .ref m42, .ref m43, .ref m44, .ref m45, .ref m46, .ref m47, .ref m48, .ref m49, .ref m50, .ref m51, .ref m52])), (m1, .inl (crf, 3, .inl (fun _ => 0)))] H := hP
  have hD : va_D A [(h0, .inr (10, [.int 0, .ref m1, .int 0, .int 0, .int 0, .int (-1), .int 0, .int 0, .ref m8, .int 0, .int 0, .ref m11, .ref m12, .ref m13, .ref m14, .ref m15, .ref m16, .ref m17, .ref m18, .ref m19, .ref m20, .ref m21, .int 0, .int 0, .int 0, .ref m25, .ref m26, .int 0, .int 0, .ref m29, .ref m30, .ref m31, .ref m32, .int 0, .ref m34, .ref m35, .ref m36, .ref m37, .int 0, .int 0, .ref m40, .ref m41, .ref m42, .ref m43, .ref m44, .ref m45, .ref m46, .ref m47, .ref m48, .ref m49, .ref m50, .ref m51, .ref m52])), (m1, .inl (crf, 3, .inl (fun _ => 0)))] := hD
  have hK : va_K (dC, dI) vwCl [(crf, .int), (crf, .int)] s := hK
  refine W.widen (k := 0) (n := 0) (by omega) (by omega) ?_
  obtain rfl : r3 = 0 := hw
  refine lv_if_ne (tgt := 45) hx hb dX10_orders_38 (by decide) (fun c9 => absurd (by decide +kernel) c9) (fun _ => ?_)
  refine lv_iconst (v := 1) hx hb dX10_orders_41 (by decide) ?_
  refine lv_goto (tgt := 46) hx hb dX10_orders_42 (by decide) ?_
  refine lv_iconst (v := 2) hx hb dX10_orders_46 (by decide) ?_
  refine lv_iconst (v := 2) hx hb dX10_orders_47 (by decide) ?_
  have hPc := hP.sub (ws' := [(h0, .inr (10, [.int 0, .ref m1, .int 0, .int 0, .int 0, .int (-1), .int 0, .int 0, .ref m8, .int 0, .int 0, .ref m11, .ref m12, .ref m13, .ref m14, .ref m15, .ref m16, .ref m17, .ref m18, .ref m19, .ref m20, .ref m21, .int 0, .int 0, .int 0, .ref m25, .ref m26, .int 0, .int 0, .ref m29, .ref m30, .ref m31, .ref m32, .int 0, .ref m34, .ref m35, .ref m36, .ref m37, .int 0, .int 0, .ref m40, .ref m41, .ref m42, .ref m43, .ref m44, .ref m45, .ref m46, .ref m47, .ref m48, .ref m49, .ref m50, .ref m51, .ref m52])), (m1, .inl (crf, 3, .inl (fun _ => 0)))]) [0, 1] rfl
  have hDc := hD.sub (ws' := [(h0, .inr (10, [.int 0, .ref m1, .int 0, .int 0, .int 0, .int (-1), .int 0, .int 0, .ref m8, .int 0, .int 0, .ref m11, .ref m12, .ref m13, .ref m14, .ref m15, .ref m16, .ref m17, .ref m18, .ref m19, .ref m20, .ref m21, .int 0, .int 0, .int 0, .ref m25, .ref m26, .int 0, .int 0, .ref m29, .ref m30, .ref m31, .ref m32, .int 0, .ref m34, .ref m35, .ref m36, .ref m37, .int 0, .int 0, .ref m40, .ref m41, .ref m42, .ref m43, .ref m44, .ref m45, .ref m46, .ref m47, .ref m48, .ref m49, .ref m50, .ref m51, .ref m52])), (m1, .inl (crf, 3, .inl (fun _ => 0)))]) [0, 1] (by decide) rfl
  have hKc := hK.sub (tys' := [(crf, .int)]) [0] rfl
  have hFc := va_free (wc := [(h0, .inr (10, [.int 0, .ref m1, .int 0, .int 0, .int 0, .int (-1), .int 0, .int 0, .ref m8, .int 0, .int 0, .ref m11, .ref m12, .ref m13, .ref m14, .ref m15, .ref m16, .ref m17, .ref m18, .ref m19, .ref m20, .ref m21, .int 0, .int 0, .int 0, .ref m25, .ref m26, .int 0, .int 0, .ref m29, .ref m30, .ref m31, .ref m32, .int 0, .ref m34, .ref m35, .ref m36, .ref m37, .int 0, .int 0, .ref m40, .ref m41, .ref m42, .ref m43, .ref m44, .ref m45, .ref m46, .ref m47, .ref m48, .ref m49, .ref m50, .ref m51, .ref m52])), (m1, .inl (crf, 3, .inl (fun _ => 0)))]) hD hS hA [0, 1] rfl
  refine va_calli (va_runV (As := [.int 1, .int 2, .int 2]) (rest := []) ⟨hx, hb, hml, hown, hts⟩ (m_bad122 l dC dI H.size (h0) (m1) (0) (0) (0) ((-1)) (0) (0) (m8) (0) (0) (m11) (m12) (m13) (m14) (m15) (m16) (m17) (m18) (m19) (m20) (m21) (0) (0) (0) (m25) (m26) (0) (0) (m29) (m30) (m31) (m32) (0) (m34) (m35) (m36) (m37) (0) (0) (m40) (m41) (m42) (m43) (m44) (m45) (m46) (m47) (m48) (m49) (m50) (m51) (m52) (crf)) (cwV 3 hts (gV_G k1342 k1344 ks_yX10_bad k13 k1345) rfl rfl rfl (by decide +kernel) ⟨Nat.le_of_ble_eq_true rfl, Nat.le_of_ble_eq_true rfl⟩) ⟨fun a U g mk q => by obtain ⟨q0, q1, qP, qK, qD⟩ := q; exact ⟨q0, q1, qP, va_K.moved (u := U) (U := U.calling g mk a) (Vm.Alike.refl U.vm) qK, qD⟩, va_recv hKc hPc (ci := 10) (q0 := 0) rfl rfl, fun U hU hW => ⟨rfl, by rw [hU], by rw [hU]; exact hPc, va_K.moved hW.alike hKc, hDc.weaken (fun _ _ _ _ => trivial)⟩⟩ rfl rfl hl.1 rfl (lv_room (Nat.le_of_ble_eq_true rfl)) dX10_orders_48 ⟨Nat.le_of_ble_eq_true rfl, Nat.le_of_ble_eq_true rfl⟩) hS (fun q _ h => hFc q h) hFc (fun r4 u t H1 locs ht hvm hw hB hz1 hk1 hS => ?_)
  obtain ⟨z5, hP1, hK1, hD1⟩ := hB
  rw [ht] at hP1
  have hK1 := va_K.moved hvm.symm hK1
  try dsimp only at hw
  obtain ⟨hP, hD⟩ := va_join (wr := []) (w1 := [(h0, .inr (10, [.int 2, .ref m1, .int 0, .int 0, .int 0, .int (-1), .int 0, .int 0, .ref m8, .int 0, .int 0, .ref m11, .ref m12, .ref m13, .ref m14, .ref m15, .ref m16, .ref m17, .ref m18, .ref m19, .ref m20, .ref m21, .int 0, .int 0, .int 0, .ref m25, .ref m26, .int 0, .int 0, .ref m29, .ref m30, .ref m31, .ref m32, .int 0, .ref m34, .ref m35, .ref m36, .ref m37, .int 0, .int 0, .ref m40, .ref m41, .ref m42, .ref m43, .ref m44, .ref m45, .ref m46, .ref m47, .ref m48, .ref m49, .ref m50, .ref m51, .ref m52])), (m1, .inl (crf, 3, .inl (z5)))]) hP hD [0, 1] [] rfl rfl (by decide) (by decide) hk1 hFc hP1 hD1
  have hK := hK.app hK1
  generalize H1 = H at hP hS ⊢
  have hP : va_P (dC, dI) vwCl [(h0, .inr (10, [.int 2, .ref m1, .int 0, .int 0, .int 0, .int (-1), .int 0, .int 0, .ref m8, .int 0, .int 0, .ref m11, .ref m12, .ref m13, .ref m14, .ref m15, .ref m16, .ref m17, .ref m18, .ref m19, .ref m20, .ref m21, .int 0, .int 0, .int 0, .ref m25, .ref m26, .int 0, .int 0, .ref m29, .ref m30, .ref m31, .ref m32, .int 0, .ref m34, .ref m35, .ref m36, .ref m37, .int 0, .int 0, .ref m40, .ref m41, .ref m42, .ref m43, .ref m44, .ref m45, .ref m46, .ref m47, .ref m48, .ref m49, .ref m50, .ref m51, .ref m52])), (m1, .inl (crf, 3, .inl (z5)))] H := hP
  have hD : va_D A [(h0, .inr (10, [.int 2, .ref m1, .int 0, .int 0, .int 0, .int (-1), .int 0, .int 0, .ref m8, .int 0, .int 0, .ref m11, .ref m12, .ref m13, .ref m14, .ref m15, .ref m16, .ref m17, .ref m18, .ref m19, .ref m20, .ref m21, .int 0, .int 0, .int 0, .ref m25, .ref m26, .int 0, .int 0, .ref m29, .ref m30, .ref m31, .ref m32, .int 0, .ref m34, .ref m35, .ref m36, .ref m37, .int 0, .int 0, .ref m40, .ref m41, .ref m42, .ref m43, .ref m44, .ref m45, .ref m46, .ref m47, .ref m48, .ref m49, .ref m50, .ref m51, .ref m52])), (m1, .inl (crf, 3, .inl (z5)))] := hD
  have hK : va_K (dC, dI) vwCl [(crf, .int), (crf, .int), (crf, .int)] s := hK
  refine W.widen (k := 0) (n := 0) (by omega) (by omega) ?_
  obtain rfl : r4 = 1 := hw
  refine lv_if_eq (tgt := 56) hx hb dX10_orders_51 (by decide) (fun c9 => absurd c9 (by decide +kernel)) (fun _ => ?_)
  refine lv_iconst (v := 0) hx hb dX10_orders_54 (by decide) ?_
  have hP9 := hP.sub (ws' := [(h0, .inr (10, [.int 2, .ref m1, .int 0, .int 0, .int 0, .int (-1), .int 0, .int 0, .ref m8, .int 0, .int 0, .ref m11, .ref m12, .ref m13, .ref m14, .ref m15, .ref m16, .ref m17, .ref m18, .ref m19, .ref m20, .ref m21, .int 0, .int 0, .int 0, .ref m25, .ref m26, .int 0, .int 0, .ref m29, .ref m30, .ref m31, .ref m32, .int 0, .ref m34, .ref m35, .ref m36, .ref m37, .int 0, .int 0, .ref m40, .ref m41, .ref m42, .ref m43, .ref m44, .ref m45, .ref m46, .ref m47, .ref m48, .ref m49, .ref m50, .ref m51, .ref m52]))]) [0] rfl
  have hD9 := hD.sub (ws' := [(h0, .inr (10, [.int 2, .ref m1, .int 0, .int 0, .int 0, .int (-1), .int 0, .int 0, .ref m8, .int 0, .int 0, .ref m11, .ref m12, .ref m13, .ref m14, .ref m15, .ref m16, .ref m17, .ref m18, .ref m19, .ref m20, .ref m21, .int 0, .int 0, .int 0, .ref m25, .ref m26, .int 0, .int 0, .ref m29, .ref m30, .ref m31, .ref m32, .int 0, .ref m34, .ref m35, .ref m36, .ref m37, .int 0, .int 0, .ref m40, .ref m41, .ref m42, .ref m43, .ref m44, .ref m45, .ref m46, .ref m47, .ref m48, .ref m49, .ref m50, .ref m51, .ref m52]))]) [0] (by decide) rfl
  have hK9 := hK.sub (tys' := []) [] rfl
  refine W.widen (k := 0) (n := 0) (by omega) (by omega) ?_
  exact W.iret (v := 0) hx hb hr (fun t ht hW => ⟨⟨0, (), rfl, rfl, by rw [ht]; exact hP9, va_K.moved hW.alike hK9, hD9⟩, hS.F ht⟩) hS.2.2 dX10_orders_55

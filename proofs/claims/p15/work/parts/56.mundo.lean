theorem dX10_areSame_0 : decode cX10_areSame 0 = .ok (.aload_n 0, 1) := by decide +kernel
theorem dX10_areSame_1 : decode cX10_areSame 1 = .ok (.getfield 54, 3) := by decide +kernel
theorem dX10_areSame_4 : decode cX10_areSame 4 = .ok (.iload_n 1, 1) := by decide +kernel
theorem dX10_areSame_5 : decode cX10_areSame 5 = .ok (.iaload, 1) := by decide +kernel
theorem dX10_areSame_6 : decode cX10_areSame 6 = .ok (.aload_n 0, 1) := by decide +kernel
theorem dX10_areSame_7 : decode cX10_areSame 7 = .ok (.getfield 54, 3) := by decide +kernel
theorem dX10_areSame_10 : decode cX10_areSame 10 = .ok (.iload_n 2, 1) := by decide +kernel
theorem dX10_areSame_11 : decode cX10_areSame 11 = .ok (.iaload, 1) := by decide +kernel
theorem dX10_areSame_12 : decode cX10_areSame 12 = .ok (.if_icmp .eq 5, 3) := by decide +kernel
theorem dX10_areSame_15 : decode cX10_areSame 15 = .ok (.iconst 0, 1) := by decide +kernel
theorem dX10_areSame_16 : decode cX10_areSame 16 = .ok (.ireturn, 1) := by decide +kernel
theorem dX10_areSame_17 : decode cX10_areSame 17 = .ok (.iconst 0, 1) := by decide +kernel
theorem dX10_areSame_18 : decode cX10_areSame 18 = .ok (.istore_n 3, 1) := by decide +kernel
theorem dX10_areSame_19 : decode cX10_areSame 19 = .ok (.iload_n 3, 1) := by decide +kernel
theorem dX10_areSame_20 : decode cX10_areSame 20 = .ok (.aload_n 0, 1) := by decide +kernel
theorem dX10_areSame_21 : decode cX10_areSame 21 = .ok (.getfield 54, 3) := by decide +kernel
theorem dX10_areSame_24 : decode cX10_areSame 24 = .ok (.iload_n 1, 1) := by decide +kernel
theorem dX10_areSame_25 : decode cX10_areSame 25 = .ok (.iaload, 1) := by decide +kernel
theorem dX10_areSame_26 : decode cX10_areSame 26 = .ok (.if_icmp .ge 80, 3) := by decide +kernel
theorem dX10_areSame_29 : decode cX10_areSame 29 = .ok (.aload_n 0, 1) := by decide +kernel
theorem dX10_areSame_30 : decode cX10_areSame 30 = .ok (.getfield 45, 3) := by decide +kernel
theorem dX10_areSame_33 : decode cX10_areSame 33 = .ok (.iload_n 1, 1) := by decide +kernel
theorem dX10_areSame_34 : decode cX10_areSame 34 = .ok (.aaload, 1) := by decide +kernel
theorem dX10_areSame_35 : decode cX10_areSame 35 = .ok (.iload_n 3, 1) := by decide +kernel
theorem dX10_areSame_36 : decode cX10_areSame 36 = .ok (.iaload, 1) := by decide +kernel
theorem dX10_areSame_37 : decode cX10_areSame 37 = .ok (.aload_n 0, 1) := by decide +kernel
theorem dX10_areSame_38 : decode cX10_areSame 38 = .ok (.getfield 45, 3) := by decide +kernel
theorem dX10_areSame_41 : decode cX10_areSame 41 = .ok (.iload_n 2, 1) := by decide +kernel
theorem dX10_areSame_42 : decode cX10_areSame 42 = .ok (.aaload, 1) := by decide +kernel
theorem dX10_areSame_43 : decode cX10_areSame 43 = .ok (.iload_n 3, 1) := by decide +kernel
theorem dX10_areSame_44 : decode cX10_areSame 44 = .ok (.iaload, 1) := by decide +kernel
theorem dX10_areSame_45 : decode cX10_areSame 45 = .ok (.if_icmp .ne 53, 3) := by decide +kernel
theorem dX10_areSame_48 : decode cX10_areSame 48 = .ok (.aload_n 0, 1) := by decide +kernel
theorem dX10_areSame_49 : decode cX10_areSame 49 = .ok (.getfield 51, 3) := by decide +kernel
theorem dX10_areSame_52 : decode cX10_areSame 52 = .ok (.iload_n 1, 1) := by decide +kernel
theorem dX10_areSame_53 : decode cX10_areSame 53 = .ok (.aaload, 1) := by decide +kernel
theorem dX10_areSame_54 : decode cX10_areSame 54 = .ok (.iload_n 3, 1) := by decide +kernel
theorem dX10_areSame_55 : decode cX10_areSame 55 = .ok (.iaload, 1) := by decide +kernel
theorem dX10_areSame_56 : decode cX10_areSame 56 = .ok (.aload_n 0, 1) := by decide +kernel
theorem dX10_areSame_57 : decode cX10_areSame 57 = .ok (.getfield 51, 3) := by decide +kernel
theorem dX10_areSame_60 : decode cX10_areSame 60 = .ok (.iload_n 2, 1) := by decide +kernel
theorem dX10_areSame_61 : decode cX10_areSame 61 = .ok (.aaload, 1) := by decide +kernel
theorem dX10_areSame_62 : decode cX10_areSame 62 = .ok (.iload_n 3, 1) := by decide +kernel
theorem dX10_areSame_63 : decode cX10_areSame 63 = .ok (.iaload, 1) := by decide +kernel
theorem dX10_areSame_64 : decode cX10_areSame 64 = .ok (.if_icmp .ne 34, 3) := by decide +kernel
theorem dX10_areSame_67 : decode cX10_areSame 67 = .ok (.aload_n 0, 1) := by decide +kernel
theorem dX10_areSame_68 : decode cX10_areSame 68 = .ok (.getfield 45, 3) := by decide +kernel
theorem dX10_areSame_71 : decode cX10_areSame 71 = .ok (.iload_n 1, 1) := by decide +kernel
theorem dX10_areSame_72 : decode cX10_areSame 72 = .ok (.aaload, 1) := by decide +kernel
theorem dX10_areSame_73 : decode cX10_areSame 73 = .ok (.iload_n 3, 1) := by decide +kernel
theorem dX10_areSame_74 : decode cX10_areSame 74 = .ok (.iaload, 1) := by decide +kernel
theorem dX10_areSame_75 : decode cX10_areSame 75 = .ok (.iconst 2, 1) := by decide +kernel
theorem dX10_areSame_76 : decode cX10_areSame 76 = .ok (.if_icmp .ge 24, 3) := by decide +kernel
theorem dX10_areSame_79 : decode cX10_areSame 79 = .ok (.aload_n 0, 1) := by decide +kernel
theorem dX10_areSame_80 : decode cX10_areSame 80 = .ok (.getfield 48, 3) := by decide +kernel
theorem dX10_areSame_83 : decode cX10_areSame 83 = .ok (.iload_n 1, 1) := by decide +kernel
theorem dX10_areSame_84 : decode cX10_areSame 84 = .ok (.aaload, 1) := by decide +kernel
theorem dX10_areSame_85 : decode cX10_areSame 85 = .ok (.iload_n 3, 1) := by decide +kernel
theorem dX10_areSame_86 : decode cX10_areSame 86 = .ok (.iaload, 1) := by decide +kernel
theorem dX10_areSame_87 : decode cX10_areSame 87 = .ok (.aload_n 0, 1) := by decide +kernel
theorem dX10_areSame_88 : decode cX10_areSame 88 = .ok (.getfield 48, 3) := by decide +kernel
theorem dX10_areSame_91 : decode cX10_areSame 91 = .ok (.iload_n 2, 1) := by decide +kernel
theorem dX10_areSame_92 : decode cX10_areSame 92 = .ok (.aaload, 1) := by decide +kernel
theorem dX10_areSame_93 : decode cX10_areSame 93 = .ok (.iload_n 3, 1) := by decide +kernel
theorem dX10_areSame_94 : decode cX10_areSame 94 = .ok (.iaload, 1) := by decide +kernel
theorem dX10_areSame_95 : decode cX10_areSame 95 = .ok (.if_icmp .eq 5, 3) := by decide +kernel
theorem dX10_areSame_98 : decode cX10_areSame 98 = .ok (.iconst 0, 1) := by decide +kernel
theorem dX10_areSame_99 : decode cX10_areSame 99 = .ok (.ireturn, 1) := by decide +kernel
theorem dX10_areSame_100 : decode cX10_areSame 100 = .ok (.iinc 3 1, 3) := by decide +kernel
theorem dX10_areSame_103 : decode cX10_areSame 103 = .ok (.goto (-84), 3) := by decide +kernel
theorem dX10_areSame_106 : decode cX10_areSame 106 = .ok (.iconst 1, 1) := by decide +kernel
theorem dX10_areSame_107 : decode cX10_areSame 107 = .ok (.ireturn, 1) := by decide +kernel
theorem dX10_clear_0 : decode cX10_clear 0 = .ok (.aload_n 0, 1) := by decide +kernel
theorem dX10_clear_1 : decode cX10_clear 1 = .ok (.iconst 0, 1) := by decide +kernel
theorem dX10_clear_2 : decode cX10_clear 2 = .ok (.putfield 127, 3) := by decide +kernel
theorem dX10_clear_5 : decode cX10_clear 5 = .ok (.aload_n 0, 1) := by decide +kernel
theorem dX10_clear_6 : decode cX10_clear 6 = .ok (.iconst 0, 1) := by decide +kernel
theorem dX10_clear_7 : decode cX10_clear 7 = .ok (.invokevirtual 313, 3) := by decide +kernel
theorem dX10_clear_10 : decode cX10_clear 10 = .ok (.istore_n 1, 1) := by decide +kernel
theorem dX10_clear_11 : decode cX10_clear 11 = .ok (.aload_n 0, 1) := by decide +kernel
theorem dX10_clear_12 : decode cX10_clear 12 = .ok (.iconst 0, 1) := by decide +kernel
theorem dX10_clear_13 : decode cX10_clear 13 = .ok (.invokevirtual 197, 3) := by decide +kernel
theorem dX10_clear_16 : decode cX10_clear 16 = .ok (.aload_n 0, 1) := by decide +kernel
theorem dX10_clear_17 : decode cX10_clear 17 = .ok (.iconst 0, 1) := by decide +kernel
theorem dX10_clear_18 : decode cX10_clear 18 = .ok (.putfield 325, 3) := by decide +kernel
theorem dX10_clear_21 : decode cX10_clear 21 = .ok (.aload_n 0, 1) := by decide +kernel
theorem dX10_clear_22 : decode cX10_clear 22 = .ok (.iconst 0, 1) := by decide +kernel
theorem dX10_clear_23 : decode cX10_clear 23 = .ok (.putfield 319, 3) := by decide +kernel
theorem dX10_clear_26 : decode cX10_clear 26 = .ok (.aload_n 0, 1) := by decide +kernel
theorem dX10_clear_27 : decode cX10_clear 27 = .ok (.iconst 0, 1) := by decide +kernel
theorem dX10_clear_28 : decode cX10_clear 28 = .ok (.putfield 331, 3) := by decide +kernel
theorem dX10_clear_31 : decode cX10_clear 31 = .ok (.iload_n 1, 1) := by decide +kernel
theorem dX10_clear_32 : decode cX10_clear 32 = .ok (.ireturn, 1) := by decide +kernel
theorem dX10_undo_0 : decode cX10_undo 0 = .ok (.aload_n 0, 1) := by decide +kernel
theorem dX10_undo_1 : decode cX10_undo 1 = .ok (.iconst 0, 1) := by decide +kernel
theorem dX10_undo_2 : decode cX10_undo 2 = .ok (.putfield 127, 3) := by decide +kernel
theorem dX10_undo_5 : decode cX10_undo 5 = .ok (.aload_n 0, 1) := by decide +kernel
theorem dX10_undo_6 : decode cX10_undo 6 = .ok (.getfield 319, 3) := by decide +kernel
theorem dX10_undo_9 : decode cX10_undo 9 = .ok (.ifCond .ne 5, 3) := by decide +kernel
theorem dX10_undo_12 : decode cX10_undo 12 = .ok (.iconst (-1), 1) := by decide +kernel
theorem dX10_undo_13 : decode cX10_undo 13 = .ok (.ireturn, 1) := by decide +kernel
theorem dX10_undo_14 : decode cX10_undo 14 = .ok (.aload_n 0, 1) := by decide +kernel
theorem dX10_undo_15 : decode cX10_undo 15 = .ok (.aload_n 0, 1) := by decide +kernel
theorem dX10_undo_16 : decode cX10_undo 16 = .ok (.getfield 319, 3) := by decide +kernel
theorem dX10_undo_19 : decode cX10_undo 19 = .ok (.iconst 0, 1) := by decide +kernel
theorem dX10_undo_20 : decode cX10_undo 20 = .ok (.invokevirtual 241, 3) := by decide +kernel
theorem dX10_undo_23 : decode cX10_undo 23 = .ok (.aload_n 0, 1) := by decide +kernel
theorem dX10_undo_24 : decode cX10_undo 24 = .ok (.dup, 1) := by decide +kernel
theorem dX10_undo_25 : decode cX10_undo 25 = .ok (.getfield 319, 3) := by decide +kernel
theorem dX10_undo_28 : decode cX10_undo 28 = .ok (.iconst 1, 1) := by decide +kernel
theorem dX10_undo_29 : decode cX10_undo 29 = .ok (.isub, 1) := by decide +kernel
theorem dX10_undo_30 : decode cX10_undo 30 = .ok (.putfield 319, 3) := by decide +kernel
theorem dX10_undo_33 : decode cX10_undo 33 = .ok (.aload_n 0, 1) := by decide +kernel
theorem dX10_undo_34 : decode cX10_undo 34 = .ok (.aload_n 0, 1) := by decide +kernel
theorem dX10_undo_35 : decode cX10_undo 35 = .ok (.getfield 60, 3) := by decide +kernel
theorem dX10_undo_38 : decode cX10_undo 38 = .ok (.aload_n 0, 1) := by decide +kernel
theorem dX10_undo_39 : decode cX10_undo 39 = .ok (.getfield 319, 3) := by decide +kernel
theorem dX10_undo_42 : decode cX10_undo 42 = .ok (.baload, 1) := by decide +kernel
theorem dX10_undo_43 : decode cX10_undo 43 = .ok (.putfield 325, 3) := by decide +kernel
theorem dX10_undo_46 : decode cX10_undo 46 = .ok (.aload_n 0, 1) := by decide +kernel
theorem dX10_undo_47 : decode cX10_undo 47 = .ok (.dup, 1) := by decide +kernel
theorem dX10_undo_48 : decode cX10_undo 48 = .ok (.getfield 331, 3) := by decide +kernel
theorem dX10_undo_51 : decode cX10_undo 51 = .ok (.aload_n 0, 1) := by decide +kernel
theorem dX10_undo_52 : decode cX10_undo 52 = .ok (.getfield 57, 3) := by decide +kernel
theorem dX10_undo_55 : decode cX10_undo 55 = .ok (.aload_n 0, 1) := by decide +kernel
theorem dX10_undo_56 : decode cX10_undo 56 = .ok (.getfield 319, 3) := by decide +kernel
theorem dX10_undo_59 : decode cX10_undo 59 = .ok (.iaload, 1) := by decide +kernel
theorem dX10_undo_60 : decode cX10_undo 60 = .ok (.isub, 1) := by decide +kernel
theorem dX10_undo_61 : decode cX10_undo 61 = .ok (.putfield 331, 3) := by decide +kernel
theorem dX10_undo_64 : decode cX10_undo 64 = .ok (.aload_n 0, 1) := by decide +kernel
theorem dX10_undo_65 : decode cX10_undo 65 = .ok (.iconst 0, 1) := by decide +kernel
theorem dX10_undo_66 : decode cX10_undo 66 = .ok (.invokevirtual 313, 3) := by decide +kernel
theorem dX10_undo_69 : decode cX10_undo 69 = .ok (.ireturn, 1) := by decide +kernel
theorem fits_b {z : Int} (h : z = 0 ∨ z = 1) : fits FieldType.boolean (Value.int (iZ z)) = true := by rcases h with rfl | rfl <;> rfl
/-- a step back, a clearing: what is kept -/
theorem skB_0 : skB Std.DTreeMap.Internal.Impl.leaf := ⟨trivial, Nat.zero_le _, Nat.zero_le _, Nat.zero_le _, trivial⟩
def GE (J : Rw → Prop) (μ u : va_M) : Prop := fr KF μ u ∧ RI J u ∧ (u 0 0 = 0 ∨ u 0 0 = 1 ∨ u 0 0 = 2)
theorem GE_PS {J : Rw → Prop} {μ u : va_M} (h : RI J μ) (hf : fr PS μ u ∧ (u 0 0 = 0 ∨ u 0 0 = 1 ∨ u 0 0 = 2)) : GE J μ u := ⟨fr_mono hf.1 (fun _ _ h => Or.inl h), RI_PS h hf.1, hf.2⟩
set_option maxHeartbeats 4000000 in
set_option maxRecDepth 100000 in
theorem m_undo (l : Launch) (dC : Nat → ClassId) (dI : Nat → Nat → Nat) (cI cZ cII cIII : ClassId) (h0 sz : Nat) (μ : va_M) (J : Rw → Prop) (hR : RI J μ) (hJ0 : J Std.DTreeMap.Internal.Impl.leaf) : Met l yX10_undo (Cond.code yX10_undo cX10_undo 1 (some .int) :: wsG) ({ frames := 4, cells := 0, slots := 0, locals := 86 } : Room) (va_Pc [.ref h0] (fun U => U.heap.size = sz ∧ va_P (dC, dI) vwCl (fw (mE cI cZ cII cIII h0) h0 6325 μ) U.heap ∧ va_K (dC, dI) vwCl (mT cI cZ cII cIII) U)) (va_Qi (fun (r9 : Int32) (u : va_M × Int) => r9 = iZ u.2 ∧ (fun (u : va_M) (r : Int) => GE J μ u) u.1 u.2) (fun u t => va_P (dC, dI) vwCl (fw (mE cI cZ cII cIII h0) h0 6325 u.1) t.heap ∧ va_K (dC, dI) vwCl (mT cI cZ cII cIII) t) (fA h0 6325 sz)) 0 0 (fA h0 6325 sz) := by
  refine Met.ofW (cc := cX10_undo) (maxL := 1) (ret := (some .int)) (by decide) rfl ?_
  intro p e s m args below meth c s₁ B hml hv
  obtain ⟨rfl, hsz, hP, hK⟩ := hv
  have hx := B.exec
  have hb := B.bytes
  have hr := B.returns
  have hts : ∀ w ∈ wsG, w.before _ s = true := hG_of (atoms_spec (ws := (Cond.code yX10_undo cX10_undo 1 (some .int) :: wsG)) B.pre)
  have hown : s.vm.findClass RX10 = some m.cls := findClass_of_methodNamed B.named
  have hlocks := B.notSynchronized
  subst hsz
  have hS : va_S (fA h0 6325 s.heap.size) s.heap s.heap [] := va_S.rf
  have hl := lv_entry ([.ref h0]) (n := 1) (Nat.le_of_ble_eq_true rfl)
  rw [lg_entry_eq]
  generalize (lg_sl ([.ref h0]) ++ List.replicate (1 - (lg_sl ([.ref h0])).length) Slot.unset).toArray = ls at hl ⊢
  have hl : lv_has ls 1 [(0, .ref h0)] := hl
  have hRc := hR
  obtain ⟨r1, ⟨rw0, r2, r3, r4⟩, ⟨r5, r6, r7, r8⟩⟩ := hRc
  have hRb := hR.2.2
  refine lv_aload_n hx hb dX10_undo_0 rfl (lv_at hl 0 rfl) ?_
  refine lv_iconst (v := iZ 0) hx hb dX10_undo_1 rfl ?_
  refine fz_put (D := (dC, dI)) (ci := 10) (ty := .int) (z := 0) (C := RX10) (T := TX10) (N := 53) hx hb hts inG10 tyX10 tyX10_ok nmX10 hown hK hP fA_in hS (k := 0) (by decide) (F := mF h0) mE_obj rfl 0 (by decide) (hts _ k1166) (fun _ h9 => h9) rfl (by decide +kernel) rfl rfl (fun _ => Nat.le_of_ble_eq_true rfl) (fun _ _ => rfl) dX10_undo_2 (fun H locs hP hS => ?_)
  obtain ⟨μ1, eμ1⟩ : ∃ x : va_M, x = uz μ 0 0 (0) := ⟨_, rfl⟩
  rw [← eμ1] at hP
  have hf1 : fr KF μ μ1 := by rw [eμ1]; exact fr_uz fr_rfl (by unfold KF PS; omega)
  have hz : fr (fun x y => x = 0 ∧ y = 0) μ μ1 := by rw [eμ1]; exact fr_uz fr_rfl ⟨rfl, rfl⟩
  have h00 : μ1 0 0 = 0 := by rw [eμ1, uz_s]
  refine lv_aload_n hx hb dX10_undo_5 rfl (lv_at hl 0 rfl) ?_
  refine fz_get (D := (dC, dI)) (ci := 10) (v := .int (iZ (μ1 0 23))) (C := RX10) (T := TX10) (N := 53) hx hb hts inG10 hown hK hP (k := 0) (by decide) (F := mF h0) mE_obj rfl 23 (by decide) (hts _ k1189) (fun _ h9 => h9) rfl dX10_undo_6 ?_
  rw [show μ1 0 23 = μ 0 23 from by rw [eμ1, uz_n (by (first | ((try clear J); (try clear hμ5); (try clear hμa); (try clear g22); omega) | omega))]]
  refine fz_if_ne (tgt := 14) (by constructor <;> (first | ((try clear J); (try clear hμ5); (try clear hμa); (try clear g22); omega) | omega)) hx hb dX10_undo_9 (by decide) (fun c9_ => ?_) (fun c9_ => ?_)
  · obtain ⟨wk, k1, k2, k3⟩ := r8 (μ 0 23).toNat (by (first | ((try clear J); (try clear hμ5); (try clear hμa); (try clear g22); omega) | omega)) (by (first | ((try clear J); (try clear hμ5); (try clear hμa); (try clear g22); omega) | omega))
    have k4 : TR μ1 (μ 0 23).toNat wk := TR_fr k3 hz (fun x => by (first | ((try clear J); (try clear hμ5); (try clear hμa); (try clear g22); omega) | omega)) (by (first | ((try clear J); (try clear hμ5); (try clear hμa); (try clear g22); omega) | omega))
    refine lv_aload_n hx hb dX10_undo_14 rfl (lv_at hl 0 rfl) ?_
    refine lv_aload_n hx hb dX10_undo_15 rfl (lv_at hl 0 rfl) ?_
    refine fz_get (D := (dC, dI)) (ci := 10) (v := .int (iZ (μ1 0 23))) (C := RX10) (T := TX10) (N := 53) hx hb hts inG10 hown hK hP (k := 0) (by decide) (F := mF h0) mE_obj rfl 23 (by decide) (hts _ k1189) (fun _ h9 => h9) rfl dX10_undo_16 ?_
    rw [show μ1 0 23 = μ 0 23 from by rw [eμ1, uz_n (by (first | ((try clear J); (try clear hμ5); (try clear hμa); (try clear g22); omega) | omega))]]
    refine lv_iconst (v := iZ 0) hx hb dX10_undo_19 rfl ?_
    refine va_callv (va_runV (As := [.int (iZ (μ 0 23)), .int (iZ (0))]) (rest := []) ⟨hx, hb, hml, hown, hts⟩ (m_copiesAll l dC dI cI cZ cII cIII h0 H.size μ1 (μ 0 23) (0) (wk) (by (first | ((try clear J); (try clear hμ5); (try clear hμa); (try clear g22); omega) | omega)) (by (first | ((try clear J); (try clear hμ5); (try clear hμa); (try clear g22); omega) | omega)) (by (first | ((try clear J); (try clear hμ5); (try clear hμa); (try clear g22); omega) | omega)) (by exact k4) (by exact k2.2.1)) (cwV 2 hts (gV_G k1428 k1430 ks_yX10_copiesAll k13 k1431) rfl rfl rfl (by decide +kernel) ⟨Nat.le_of_ble_eq_true rfl, Nat.le_of_ble_eq_true rfl⟩) ⟨fun a U g mk q => by obtain ⟨q0, q1, qP, qK⟩ := q; exact ⟨q0, q1, qP, va_K.moved (u := U) (U := U.calling g mk a) (Vm.Alike.refl U.vm) qK⟩, va_recv hK hP (ci := 10) (q0 := 0) rfl ((fw_get (by decide)).trans (by rw [mE_obj]; rfl)), fun U hU hW => ⟨rfl, by rw [hU], by rw [hU]; exact hP, va_K.moved hW.alike hK⟩⟩ rfl rfl hl.1 rfl (lv_room (Nat.le_of_ble_eq_true rfl)) dX10_undo_20 ⟨Nat.le_of_ble_eq_true rfl, Nat.le_of_ble_eq_true rfl⟩) hS (fun q _ h => fA_le hS.1 q h) (fA_le hS.1) (fun u9 t9 H1 locs ht9 hvm9 hw9 hB9 hz9 hk9 hS => ?_)
    obtain ⟨hP, -⟩ := hB9
    rw [ht9] at hP
    generalize H1 = H at hP hS ⊢
    obtain ⟨μa, eμa⟩ : ∃ x : va_M, x = u9 := ⟨_, rfl⟩
    rw [← eμa] at hP hw9
    have hμa := hw9; clear hw9
    obtain ⟨c1, c2⟩ := hμa
    rw [show (0 : Int).toNat = 0 from rfl] at c1 c2
    have a23 : μa 0 23 = μ 0 23 := (c2 0 23 (by unfold PT; omega)).trans (hz 0 23 (by (first | ((try clear J); (try clear hμ5); (try clear hμa); (try clear g22); omega) | omega)))
    have a00 : μa 0 0 = 0 := (c2 0 0 (by unfold PT; omega)).trans h00
    have a721 : ∀ j, μa 721 j = μ 721 j := fun j => (c2 721 j (by unfold PT; omega)).trans (hz 721 j (by (first | ((try clear J); (try clear hμ5); (try clear hμa); (try clear g22); omega) | omega)))
    have a72 := a721 (μ 0 23 - 1).toNat
    have r7k := r7 (μ 0 23 - 1).toNat (by (first | ((try clear J); (try clear hμ5); (try clear hμa); (try clear g22); omega) | omega))
    refine lv_aload_n hx hb dX10_undo_23 rfl (lv_at hl 0 rfl) ?_
    refine lv_dup hx hb dX10_undo_24 rfl ?_
    refine fz_get (D := (dC, dI)) (ci := 10) (v := .int (iZ (μa 0 23))) (C := RX10) (T := TX10) (N := 53) hx hb hts inG10 hown hK hP (k := 0) (by decide) (F := mF h0) mE_obj rfl 23 (by decide) (hts _ k1189) (fun _ h9 => h9) rfl dX10_undo_25 ?_
    rw [show μa 0 23 = μ 0 23 from (by exact a23)]
    refine lv_iconst (v := iZ 1) hx hb dX10_undo_28 rfl ?_
    refine lv_isub hx hb dX10_undo_29 ?_
    refine lv_topi (fun x9 ex9 => ?_)
    obtain rfl : x9 = iZ ((μ 0 23) - 1) := ex9.trans (iZ_sub _ _)
    refine fz_put (D := (dC, dI)) (ci := 10) (ty := .int) (z := ((μ 0 23) - 1)) (C := RX10) (T := TX10) (N := 53) hx hb hts inG10 tyX10 tyX10_ok nmX10 hown hK hP fA_in hS (k := 0) (by decide) (F := mF h0) mE_obj rfl 23 (by decide) (hts _ k1189) (fun _ h9 => h9) rfl (by decide +kernel) rfl rfl (fun _ => Nat.le_of_ble_eq_true rfl) (fun _ _ => rfl) dX10_undo_30 (fun H locs hP hS => ?_)
    obtain ⟨μ2, eμ2⟩ : ∃ x : va_M, x = uz μa 0 23 ((μ 0 23) - 1) := ⟨_, rfl⟩
    rw [← eμ2] at hP
    refine lv_aload_n hx hb dX10_undo_33 rfl (lv_at hl 0 rfl) ?_
    refine lv_aload_n hx hb dX10_undo_34 rfl (lv_at hl 0 rfl) ?_
    refine fz_get (D := (dC, dI)) (ci := 10) (v := .ref (h0 + 721)) (C := RX10) (T := TX10) (N := 53) hx hb hts inG10 hown hK hP (k := 0) (by decide) (F := mF h0) mE_obj rfl 26 (by decide) (hts _ k1192) (fun _ h9 => h9) rfl dX10_undo_35 ?_
    refine lv_aload_n hx hb dX10_undo_38 rfl (lv_at hl 0 rfl) ?_
    refine fz_get (D := (dC, dI)) (ci := 10) (v := .int (iZ (μ2 0 23))) (C := RX10) (T := TX10) (N := 53) hx hb hts inG10 hown hK hP (k := 0) (by decide) (F := mF h0) mE_obj rfl 23 (by decide) (hts _ k1189) (fun _ h9 => h9) rfl dX10_undo_39 ?_
    rw [show μ2 0 23 = (μ 0 23) - 1 from by rw [eμ2, uz_s]]
    refine fz_zld (k := 721) (n := 16) hx hb hK hP 1 (by decide) mE_backHad rfl ⟨by (first | ((try clear J); (try clear hμ5); (try clear hμa); (try clear g22); omega) | omega), by (first | ((try clear J); (try clear hμ5); (try clear hμa); (try clear g22); omega) | omega)⟩ (by decide) dX10_undo_42 ?_
    rw [show μ2 721 ((μ 0 23) - 1).toNat = μa 721 ((μ 0 23) - 1).toNat from by rw [eμ2, uz_n (by (first | ((try clear J); (try clear hμ5); (try clear hμa); (try clear g22); omega) | omega))]]
    refine fz_put (D := (dC, dI)) (ci := 10) (ty := .boolean) (z := (μa 721 ((μ 0 23) - 1).toNat)) (C := RX10) (T := TX10) (N := 53) hx hb hts inG10 tyX10 tyX10_ok nmX10 hown hK hP fA_in hS (k := 0) (by decide) (F := mF h0) mE_obj rfl 22 (by decide) (hts _ k1188) (fun _ h9 => h9) rfl (by decide +kernel) (fz_narZ (by (first | ((try clear J); (try clear hμ5); (try clear hμa); (try clear g22); omega) | omega))) (fits_b (by (first | ((try clear J); (try clear hμ5); (try clear hμa); (try clear g22); omega) | omega))) (fun _ => Nat.le_of_ble_eq_true rfl) (fun _ _ => rfl) dX10_undo_43 (fun H locs hP hS => ?_)
    obtain ⟨μ3, eμ3⟩ : ∃ x : va_M, x = uz μ2 0 22 (μa 721 ((μ 0 23) - 1).toNat) := ⟨_, rfl⟩
    rw [← eμ3] at hP
    refine lv_aload_n hx hb dX10_undo_46 rfl (lv_at hl 0 rfl) ?_
    refine lv_dup hx hb dX10_undo_47 rfl ?_
    refine fz_get (D := (dC, dI)) (ci := 10) (v := .int (iZ (μ3 0 24))) (C := RX10) (T := TX10) (N := 53) hx hb hts inG10 hown hK hP (k := 0) (by decide) (F := mF h0) mE_obj rfl 24 (by decide) (hts _ k1190) (fun _ h9 => h9) rfl dX10_undo_48 ?_
    rw [show μ3 0 24 = μa 0 24 from by rw [eμ3, uz_n (by (first | ((try clear J); (try clear hμ5); (try clear hμa); (try clear g22); omega) | omega)), eμ2, uz_n (by (first | ((try clear J); (try clear hμ5); (try clear hμa); (try clear g22); omega) | omega))]]
    refine lv_aload_n hx hb dX10_undo_51 rfl (lv_at hl 0 rfl) ?_
    refine fz_get (D := (dC, dI)) (ci := 10) (v := .ref (h0 + 720)) (C := RX10) (T := TX10) (N := 53) hx hb hts inG10 hown hK hP (k := 0) (by decide) (F := mF h0) mE_obj rfl 25 (by decide) (hts _ k1191) (fun _ h9 => h9) rfl dX10_undo_52 ?_
    refine lv_aload_n hx hb dX10_undo_55 rfl (lv_at hl 0 rfl) ?_
    refine fz_get (D := (dC, dI)) (ci := 10) (v := .int (iZ (μ3 0 23))) (C := RX10) (T := TX10) (N := 53) hx hb hts inG10 hown hK hP (k := 0) (by decide) (F := mF h0) mE_obj rfl 23 (by decide) (hts _ k1189) (fun _ h9 => h9) rfl dX10_undo_56 ?_
    rw [show μ3 0 23 = (μ 0 23) - 1 from by rw [eμ3, uz_n (by (first | ((try clear J); (try clear hμ5); (try clear hμa); (try clear g22); omega) | omega)), eμ2, uz_s]]
    refine fz_ld (k := 720) (n := 16) hx hb hK hP 0 (by decide) mE_backCost rfl ⟨by (first | ((try clear J); (try clear hμ5); (try clear hμa); (try clear g22); omega) | omega), by (first | ((try clear J); (try clear hμ5); (try clear hμa); (try clear g22); omega) | omega)⟩ (by decide) dX10_undo_59 ?_
    rw [show μ3 720 ((μ 0 23) - 1).toNat = μa 720 ((μ 0 23) - 1).toNat from by rw [eμ3, uz_n (by (first | ((try clear J); (try clear hμ5); (try clear hμa); (try clear g22); omega) | omega)), eμ2, uz_n (by (first | ((try clear J); (try clear hμ5); (try clear hμa); (try clear g22); omega) | omega))]]
    refine lv_isub hx hb dX10_undo_60 ?_
    refine lv_topi (fun x9 ex9 => ?_)
    obtain rfl : x9 = iZ ((μa 0 24) - (μa 720 ((μ 0 23) - 1).toNat)) := ex9.trans (iZ_sub _ _)
    refine fz_put (D := (dC, dI)) (ci := 10) (ty := .int) (z := ((μa 0 24) - (μa 720 ((μ 0 23) - 1).toNat))) (C := RX10) (T := TX10) (N := 53) hx hb hts inG10 tyX10 tyX10_ok nmX10 hown hK hP fA_in hS (k := 0) (by decide) (F := mF h0) mE_obj rfl 24 (by decide) (hts _ k1190) (fun _ h9 => h9) rfl (by decide +kernel) rfl rfl (fun _ => Nat.le_of_ble_eq_true rfl) (fun _ _ => rfl) dX10_undo_61 (fun H locs hP hS => ?_)
    obtain ⟨μ4, eμ4⟩ : ∃ x : va_M, x = uz μ3 0 24 ((μa 0 24) - (μa 720 ((μ 0 23) - 1).toNat)) := ⟨_, rfl⟩
    rw [← eμ4] at hP
    refine lv_aload_n hx hb dX10_undo_64 rfl (lv_at hl 0 rfl) ?_
    refine lv_iconst (v := iZ 0) hx hb dX10_undo_65 rfl ?_
    refine va_calli (va_runV (As := [.int (iZ (0))]) (rest := []) ⟨hx, hb, hml, hown, hts⟩ (m_sizeOfAll2 l dC dI cI cZ cII cIII h0 H.size μ4 (0) (by decide) (by
                have ff : fr (fun x y => x = 0 ∧ (y = 22 ∨ y = 23 ∨ y = 24)) μa μ4 := by rw [eμ4, eμ3, eμ2]; exact fr_uz (fr_uz (fr_uz fr_rfl ⟨rfl, by (first | ((try clear J); (try clear hμ5); (try clear hμa); (try clear g22); omega) | omega)⟩) ⟨rfl, by (first | ((try clear J); (try clear hμ5); (try clear hμa); (try clear g22); omega) | omega)⟩) ⟨rfl, by (first | ((try clear J); (try clear hμ5); (try clear hμa); (try clear g22); omega) | omega)⟩
                exact TR_tok (TR_fr c1 ff (fun x => by (first | ((try clear J); (try clear hμ5); (try clear hμa); (try clear g22); omega) | omega)) (by (first | ((try clear J); (try clear hμ5); (try clear hμa); (try clear g22); omega) | omega))) k2.1 k2.2.1)) (cwV 1 hts (gV_G k1488 k1490 ks_yX10_sizeOfAll k13 k1491) rfl rfl rfl (by decide +kernel) ⟨Nat.le_of_ble_eq_true rfl, Nat.le_of_ble_eq_true rfl⟩) ⟨fun a U g mk q => by obtain ⟨q0, q1, qP, qK⟩ := q; exact ⟨q0, q1, qP, va_K.moved (u := U) (U := U.calling g mk a) (Vm.Alike.refl U.vm) qK⟩, va_recv hK hP (ci := 10) (q0 := 0) rfl ((fw_get (by decide)).trans (by rw [mE_obj]; rfl)), fun U hU hW => ⟨rfl, by rw [hU], by rw [hU]; exact hP, va_K.moved hW.alike hK⟩⟩ rfl rfl hl.1 rfl (lv_room (Nat.le_of_ble_eq_true rfl)) dX10_undo_66 ⟨Nat.le_of_ble_eq_true rfl, Nat.le_of_ble_eq_true rfl⟩) hS (fun q _ h => fA_le hS.1 q h) (fA_le hS.1) (fun r9 u9 t9 H1 locs ht9 hvm9 hw9 hB9 hz9 hk9 hS => ?_)
    obtain ⟨μ5, r6⟩ := u9
    obtain ⟨hP, -⟩ := hB9
    rw [ht9] at hP
    generalize H1 = H at hP hS ⊢
    obtain ⟨e9, hw9⟩ := hw9
    have e9 : r9 = iZ r6 := e9
    subst e9
    simp only at hP hw9
    have hμ5 := hw9; clear hw9
    rw [hμ5.1] at hP; have hμ5 := hμ5.2
    exact W.iret (v := iZ (r6)) hx hb hr (fun t9 ht9 hW9 => ⟨⟨iZ (r6), (μ4, r6), rfl, ⟨rfl, (by
                dsimp only
                have ff : fr (fun x y => x = 0 ∧ (y = 22 ∨ y = 23 ∨ y = 24)) μa μ4 := by rw [eμ4, eμ3, eμ2]; exact fr_uz (fr_uz (fr_uz fr_rfl ⟨rfl, by (first | ((try clear J); (try clear hμ5); (try clear hμa); (try clear g22); omega) | omega)⟩) ⟨rfl, by (first | ((try clear J); (try clear hμ5); (try clear hμa); (try clear g22); omega) | omega)⟩) ⟨rfl, by (first | ((try clear J); (try clear hμ5); (try clear hμa); (try clear g22); omega) | omega)⟩
                have gT : TR μ4 0 wk := TR_fr c1 ff (fun x => by (first | ((try clear J); (try clear hμ5); (try clear hμa); (try clear g22); omega) | omega)) (by (first | ((try clear J); (try clear hμ5); (try clear hμa); (try clear g22); omega) | omega))
                have gf : fr KF μ μ4 := fr_trans (fr_trans hf1 (fr_mono c2 (fun x y h => Or.inr (Or.inl h)))) (fr_mono ff (fun x y h => by unfold KF BF; omega))
                have g23 : μ4 0 23 = μ 0 23 - 1 := by rw [eμ4, eμ3, eμ2, uz_n (by (first | ((try clear J); (try clear hμ5); (try clear hμa); (try clear g22); omega) | omega)), uz_n (by (first | ((try clear J); (try clear hμ5); (try clear hμa); (try clear g22); omega) | omega)), uz_s]
                have g22 : μ4 0 22 = 0 ∨ μ4 0 22 = 1 := by rw [eμ4, eμ3, eμ2, uz_n (by (first | ((try clear J); (try clear hμ5); (try clear hμa); (try clear g22); omega) | omega)), uz_s]; omega
                have g00 := ff 0 0 (by (first | ((try clear J); (try clear hμ5); (try clear hμa); (try clear g22); omega) | omega))
                refine ⟨gf, ⟨RQ_to r1 gf ⟨wk, k2, gT⟩, ⟨wk, k1, k2, gT⟩, ⟨by (first | ((try clear J); (try clear hμ5); (try clear hμa); (try clear g22); omega) | omega), g22, fun k hk => by rw [ff 721 k (by (first | ((try clear J); (try clear hμ5); (try clear hμa); (try clear g22); omega) | omega)), a721]; exact r7 k hk, fun k h1 h2 => ?_⟩⟩, by (first | ((try clear J); (try clear hμ5); (try clear hμa); (try clear g22); omega) | omega)⟩
                obtain ⟨v, v1, v2, v3⟩ := r8 k h1 (by (first | ((try clear J); (try clear hμ5); (try clear hμa); (try clear g22); omega) | omega))
                exact ⟨v, v1, v2, TR_fr (TR_fr (TR_fr v3 hz (fun x => by (first | ((try clear J); (try clear hμ5); (try clear hμa); (try clear g22); omega) | omega)) (by (first | ((try clear J); (try clear hμ5); (try clear hμa); (try clear g22); omega) | omega))) c2 (fun x => by unfold PT; omega) (by unfold PT; omega)) ff (fun x => by (first | ((try clear J); (try clear hμ5); (try clear hμa); (try clear g22); omega) | omega)) (by (first | ((try clear J); (try clear hμ5); (try clear hμa); (try clear g22); omega) | omega))⟩)⟩, by rw [ht9]; exact hP, va_K.moved hW9.alike hK⟩, hS.F ht9⟩) hS.2.2 dX10_undo_69
  · refine lv_iconst (v := iZ (-1)) hx hb dX10_undo_12 rfl ?_
    exact W.iret (v := iZ ((-1))) hx hb hr (fun t9 ht9 hW9 => ⟨⟨iZ ((-1)), (μ1, (-1)), rfl, ⟨rfl, (by
                dsimp only
                exact ⟨hf1, ⟨RQ_fr r1 (fr_mono hz (fun x y h => by unfold PS; omega)), ⟨rw0, r2, r3, TR_fr r4 hz (fun x => by (first | ((try clear J); (try clear hμ5); (try clear hμa); (try clear g22); omega) | omega)) (by (first | ((try clear J); (try clear hμ5); (try clear hμa); (try clear g22); omega) | omega))⟩, ⟨by rw [hz 0 23 (by (first | ((try clear J); (try clear hμ5); (try clear hμa); (try clear g22); omega) | omega))]; exact r5, by rw [hz 0 22 (by (first | ((try clear J); (try clear hμ5); (try clear hμa); (try clear g22); omega) | omega))]; exact r6, fun k hk => by rw [hz 721 k (by (first | ((try clear J); (try clear hμ5); (try clear hμa); (try clear g22); omega) | omega))]; exact r7 k hk, fun k h1 h2 => by
                  rw [hz 0 23 (by (first | ((try clear J); (try clear hμ5); (try clear hμa); (try clear g22); omega) | omega))] at h2
                  obtain ⟨v, v1, v2, v3⟩ := r8 k h1 h2
                  exact ⟨v, v1, v2, TR_fr v3 hz (fun x => by (first | ((try clear J); (try clear hμ5); (try clear hμa); (try clear g22); omega) | omega)) (by (first | ((try clear J); (try clear hμ5); (try clear hμa); (try clear g22); omega) | omega))⟩⟩⟩, by (first | ((try clear J); (try clear hμ5); (try clear hμa); (try clear g22); omega) | omega)⟩)⟩, by rw [ht9]; exact hP, va_K.moved hW9.alike hK⟩, hS.F ht9⟩) hS.2.2 dX10_undo_13
set_option maxHeartbeats 4000000 in
set_option maxRecDepth 100000 in
theorem m_clear (l : Launch) (dC : Nat → ClassId) (dI : Nat → Nat → Nat) (cI cZ cII cIII : ClassId) (h0 sz : Nat) (μ : va_M) (J : Rw → Prop) (hR : RI J μ) (hJ0 : J Std.DTreeMap.Internal.Impl.leaf) : Met l yX10_clear (Cond.code yX10_clear cX10_clear 2 (some .int) :: wsG) ({ frames := 3, cells := 0, slots := 0, locals := 60 } : Room) (va_Pc [.ref h0] (fun U => U.heap.size = sz ∧ va_P (dC, dI) vwCl (fw (mE cI cZ cII cIII h0) h0 6325 μ) U.heap ∧ va_K (dC, dI) vwCl (mT cI cZ cII cIII) U)) (va_Qi (fun (r9 : Int32) (u : va_M × Int) => r9 = iZ u.2 ∧ (fun (u : va_M) (r : Int) => GE J μ u) u.1 u.2) (fun u t => va_P (dC, dI) vwCl (fw (mE cI cZ cII cIII h0) h0 6325 u.1) t.heap ∧ va_K (dC, dI) vwCl (mT cI cZ cII cIII) t) (fA h0 6325 sz)) 0 0 (fA h0 6325 sz) := by
  refine Met.ofW (cc := cX10_clear) (maxL := 2) (ret := (some .int)) (by decide) rfl ?_
  intro p e s m args below meth c s₁ B hml hv
  obtain ⟨rfl, hsz, hP, hK⟩ := hv
  have hx := B.exec
  have hb := B.bytes
  have hr := B.returns
  have hts : ∀ w ∈ wsG, w.before _ s = true := hG_of (atoms_spec (ws := (Cond.code yX10_clear cX10_clear 2 (some .int) :: wsG)) B.pre)
  have hown : s.vm.findClass RX10 = some m.cls := findClass_of_methodNamed B.named
  have hlocks := B.notSynchronized
  subst hsz
  have hS : va_S (fA h0 6325 s.heap.size) s.heap s.heap [] := va_S.rf
  have hl := lv_entry ([.ref h0]) (n := 2) (Nat.le_of_ble_eq_true rfl)
  rw [lg_entry_eq]
  generalize (lg_sl ([.ref h0]) ++ List.replicate (2 - (lg_sl ([.ref h0])).length) Slot.unset).toArray = ls at hl ⊢
  have hl : lv_has ls 2 [(0, .ref h0)] := hl
  have hRc := hR
  obtain ⟨r1, ⟨rw0, r2, r3, r4⟩, ⟨r5, r6, r7, r8⟩⟩ := hRc
  have hRb := hR.2.2
  refine lv_aload_n hx hb dX10_clear_0 rfl (lv_at hl 0 rfl) ?_
  refine lv_iconst (v := iZ 0) hx hb dX10_clear_1 rfl ?_
  refine fz_put (D := (dC, dI)) (ci := 10) (ty := .int) (z := 0) (C := RX10) (T := TX10) (N := 53) hx hb hts inG10 tyX10 tyX10_ok nmX10 hown hK hP fA_in hS (k := 0) (by decide) (F := mF h0) mE_obj rfl 0 (by decide) (hts _ k1166) (fun _ h9 => h9) rfl (by decide +kernel) rfl rfl (fun _ => Nat.le_of_ble_eq_true rfl) (fun _ _ => rfl) dX10_clear_2 (fun H locs hP hS => ?_)
  obtain ⟨μ1, eμ1⟩ : ∃ x : va_M, x = uz μ 0 0 (0) := ⟨_, rfl⟩
  rw [← eμ1] at hP
  have hz : fr (fun x y => x = 0 ∧ y = 0) μ μ1 := by rw [eμ1]; exact fr_uz fr_rfl ⟨rfl, rfl⟩
  have h00 : μ1 0 0 = 0 := by rw [eμ1, uz_s]
  refine lv_aload_n hx hb dX10_clear_5 rfl (lv_at hl 0 rfl) ?_
  refine lv_iconst (v := iZ 0) hx hb dX10_clear_6 rfl ?_
  refine va_calli (va_runV (As := [.int (iZ (0))]) (rest := []) ⟨hx, hb, hml, hown, hts⟩ (m_sizeOfAll2 l dC dI cI cZ cII cIII h0 H.size μ1 (0) (by decide) (by exact TR_tok (TR_fr r4 hz (fun x => by (first | ((try clear J); (try clear hμ2); (try clear hμa); omega) | omega)) (by (first | ((try clear J); (try clear hμ2); (try clear hμa); omega) | omega))) r3.1 r3.2.1)) (cwV 1 hts (gV_G k1488 k1490 ks_yX10_sizeOfAll k13 k1491) rfl rfl rfl (by decide +kernel) ⟨Nat.le_of_ble_eq_true rfl, Nat.le_of_ble_eq_true rfl⟩) ⟨fun a U g mk q => by obtain ⟨q0, q1, qP, qK⟩ := q; exact ⟨q0, q1, qP, va_K.moved (u := U) (U := U.calling g mk a) (Vm.Alike.refl U.vm) qK⟩, va_recv hK hP (ci := 10) (q0 := 0) rfl ((fw_get (by decide)).trans (by rw [mE_obj]; rfl)), fun U hU hW => ⟨rfl, by rw [hU], by rw [hU]; exact hP, va_K.moved hW.alike hK⟩⟩ rfl rfl hl.1 rfl (lv_room (Nat.le_of_ble_eq_true rfl)) dX10_clear_7 ⟨Nat.le_of_ble_eq_true rfl, Nat.le_of_ble_eq_true rfl⟩) hS (fun q _ h => fA_le hS.1 q h) (fA_le hS.1) (fun r9 u9 t9 H1 locs ht9 hvm9 hw9 hB9 hz9 hk9 hS => ?_)
  obtain ⟨μ2, r3⟩ := u9
  obtain ⟨hP, -⟩ := hB9
  rw [ht9] at hP
  generalize H1 = H at hP hS ⊢
  obtain ⟨e9, hw9⟩ := hw9
  have e9 : r9 = iZ r3 := e9
  subst e9
  simp only at hP hw9
  have hμ2 := hw9; clear hw9
  rw [hμ2.1] at hP; have hμ2 := hμ2.2
  refine lv_istore_n (lv' := [(1, .int (iZ (r3))), (0, .ref h0)]) hx hb dX10_clear_10 rfl hl (by decide) rfl (fun ls hl => ?_)
  refine lv_aload_n hx hb dX10_clear_11 rfl (lv_at hl 1 rfl) ?_
  refine lv_iconst (v := iZ 0) hx hb dX10_clear_12 rfl ?_
  refine va_callv (va_runV (As := [.int (iZ (0))]) (rest := []) ⟨hx, hb, hml, hown, hts⟩ (m_empties l dC dI cI cZ cII cIII h0 H.size μ1 (0) (by decide)) (cwV 1 hts (gV_G k1377 k1379 ks_yX10_empties k13 k1380) rfl rfl rfl (by decide +kernel) ⟨Nat.le_of_ble_eq_true rfl, Nat.le_of_ble_eq_true rfl⟩) ⟨fun a U g mk q => by obtain ⟨q0, q1, qP, qK⟩ := q; exact ⟨q0, q1, qP, va_K.moved (u := U) (U := U.calling g mk a) (Vm.Alike.refl U.vm) qK⟩, va_recv hK hP (ci := 10) (q0 := 0) rfl ((fw_get (by decide)).trans (by rw [mE_obj]; rfl)), fun U hU hW => ⟨rfl, by rw [hU], by rw [hU]; exact hP, va_K.moved hW.alike hK⟩⟩ rfl rfl hl.1 rfl (lv_room (Nat.le_of_ble_eq_true rfl)) dX10_clear_13 ⟨Nat.le_of_ble_eq_true rfl, Nat.le_of_ble_eq_true rfl⟩) hS (fun q _ h => fA_le hS.1 q h) (fA_le hS.1) (fun u9 t9 H1 locs ht9 hvm9 hw9 hB9 hz9 hk9 hS => ?_)
  obtain ⟨hP, -⟩ := hB9
  rw [ht9] at hP
  generalize H1 = H at hP hS ⊢
  obtain ⟨μa, eμa⟩ : ∃ x : va_M, x = u9 := ⟨_, rfl⟩
  rw [← eμa] at hP hw9
  have hμa := hw9; clear hw9
  rw [show (0 : Int).toNat = 0 from rfl] at hμa
  have hy : fr (fun x y => (x = 0 ∧ y = 0) ∨ (x = 719 ∧ y = 0)) μ μa := by rw [hμa]; exact fr_uz (fr_mono hz (fun x y h => Or.inl h)) (Or.inr ⟨rfl, rfl⟩)
  have hn0 : μa 719 0 = 0 := by rw [hμa, uz_s]
  have h0a : μa 0 0 = 0 := by rw [hμa, uz_n (by (first | ((try clear J); (try clear hμ2); (try clear hμa); omega) | omega))]; exact h00
  refine lv_aload_n hx hb dX10_clear_16 rfl (lv_at hl 1 rfl) ?_
  refine lv_iconst (v := iZ 0) hx hb dX10_clear_17 rfl ?_
  refine fz_put (D := (dC, dI)) (ci := 10) (ty := .boolean) (z := 0) (C := RX10) (T := TX10) (N := 53) hx hb hts inG10 tyX10 tyX10_ok nmX10 hown hK hP fA_in hS (k := 0) (by decide) (F := mF h0) mE_obj rfl 22 (by decide) (hts _ k1188) (fun _ h9 => h9) rfl (by decide +kernel) (fz_narZ (by decide)) rfl (fun _ => Nat.le_of_ble_eq_true rfl) (fun _ _ => rfl) dX10_clear_18 (fun H locs hP hS => ?_)
  obtain ⟨μ4, eμ4⟩ : ∃ x : va_M, x = uz μa 0 22 (0) := ⟨_, rfl⟩
  rw [← eμ4] at hP
  refine lv_aload_n hx hb dX10_clear_21 rfl (lv_at hl 1 rfl) ?_
  refine lv_iconst (v := iZ 0) hx hb dX10_clear_22 rfl ?_
  refine fz_put (D := (dC, dI)) (ci := 10) (ty := .int) (z := 0) (C := RX10) (T := TX10) (N := 53) hx hb hts inG10 tyX10 tyX10_ok nmX10 hown hK hP fA_in hS (k := 0) (by decide) (F := mF h0) mE_obj rfl 23 (by decide) (hts _ k1189) (fun _ h9 => h9) rfl (by decide +kernel) rfl rfl (fun _ => Nat.le_of_ble_eq_true rfl) (fun _ _ => rfl) dX10_clear_23 (fun H locs hP hS => ?_)
  obtain ⟨μ5, eμ5⟩ : ∃ x : va_M, x = uz μ4 0 23 (0) := ⟨_, rfl⟩
  rw [← eμ5] at hP
  refine lv_aload_n hx hb dX10_clear_26 rfl (lv_at hl 1 rfl) ?_
  refine lv_iconst (v := iZ 0) hx hb dX10_clear_27 rfl ?_
  refine fz_put (D := (dC, dI)) (ci := 10) (ty := .int) (z := 0) (C := RX10) (T := TX10) (N := 53) hx hb hts inG10 tyX10 tyX10_ok nmX10 hown hK hP fA_in hS (k := 0) (by decide) (F := mF h0) mE_obj rfl 24 (by decide) (hts _ k1190) (fun _ h9 => h9) rfl (by decide +kernel) rfl rfl (fun _ => Nat.le_of_ble_eq_true rfl) (fun _ _ => rfl) dX10_clear_28 (fun H locs hP hS => ?_)
  obtain ⟨μ6, eμ6⟩ : ∃ x : va_M, x = uz μ5 0 24 (0) := ⟨_, rfl⟩
  rw [← eμ6] at hP
  refine lv_iload_n hx hb dX10_clear_31 rfl (lv_at hl 0 rfl) ?_
  exact W.iret (v := iZ (r3)) hx hb hr (fun t9 ht9 hW9 => ⟨⟨iZ (r3), (μ6, r3), rfl, ⟨rfl, (by
            dsimp only
            have ff : fr (fun x y => x = 0 ∧ (y = 22 ∨ y = 23 ∨ y = 24)) μa μ6 := by rw [eμ6, eμ5, eμ4]; exact fr_uz (fr_uz (fr_uz fr_rfl ⟨rfl, by (first | ((try clear J); (try clear hμ2); (try clear hμa); omega) | omega)⟩) ⟨rfl, by (first | ((try clear J); (try clear hμ2); (try clear hμa); omega) | omega)⟩) ⟨rfl, by (first | ((try clear J); (try clear hμ2); (try clear hμa); omega) | omega)⟩
            have fz : fr (fun x y => (x = 0 ∧ (y = 0 ∨ y = 22 ∨ y = 23 ∨ y = 24)) ∨ (x = 719 ∧ y = 0)) μ μ6 := fr_trans (fr_mono hy (fun x y h => by (first | ((try clear J); (try clear hμ2); (try clear hμa); omega) | omega))) (fr_mono ff (fun x y h => by (first | ((try clear J); (try clear hμ2); (try clear hμa); omega) | omega)))
            have gT : TR μ6 0 Std.DTreeMap.Internal.Impl.leaf := ⟨by rw [ff 719 0 (by (first | ((try clear J); (try clear hμ2); (try clear hμa); omega) | omega))]; exact hn0, trivial⟩
            have gf : fr KF μ μ6 := fr_mono fz (fun x y h => by unfold KF PS PT BF; omega)
            have g23 : μ6 0 23 = 0 := by rw [eμ6, eμ5, eμ4, uz_n (by (first | ((try clear J); (try clear hμ2); (try clear hμa); omega) | omega)), uz_s]
            have g22 : μ6 0 22 = 0 := by rw [eμ6, eμ5, eμ4, uz_n (by (first | ((try clear J); (try clear hμ2); (try clear hμa); omega) | omega)), uz_n (by (first | ((try clear J); (try clear hμ2); (try clear hμa); omega) | omega)), uz_s]
            have g00 := ff 0 0 (by (first | ((try clear J); (try clear hμ2); (try clear hμa); omega) | omega))
            exact ⟨gf, ⟨RQ_to r1 gf ⟨_, skB_0, gT⟩, ⟨_, hJ0, skB_0, gT⟩, ⟨by (first | ((try clear J); (try clear hμ2); (try clear hμa); omega) | omega), Or.inl g22, fun k hk => by rw [fz 721 k (by (first | ((try clear J); (try clear hμ2); (try clear hμa); omega) | omega))]; exact r7 k hk, fun k h1 h2 => by (first | ((try clear J); (try clear hμ2); (try clear hμa); omega) | omega)⟩⟩, by (first | ((try clear J); (try clear hμ2); (try clear hμa); omega) | omega)⟩)⟩, by rw [ht9]; exact hP, va_K.moved hW9.alike hK⟩, hS.F ht9⟩) hS.2.2 dX10_clear_32
set_option maxHeartbeats 4000000 in
set_option maxRecDepth 100000 in
theorem LX10_areSame_19 {p : Program} {l : Launch} {e : Env} {R : Room} {s : State} {m : MethodId} {args : Array Value} {below : List Frame} {meth : Method} {c : Code} {cells slots : Nat} {Q : State → Prop} {dC : Nat → ClassId} {dI : Nat → Nat → Nat} {h0 : Nat} {cI cZ cII cIII : ClassId} (hx : p.tables.exec = Jvm.exec) (hb : c.code = cX10_areSame) (hml : c.maxLocals = 4) (hown : s.vm.findClass RX10 = some m.cls) (hts : ∀ w ∈ wsG, w.before args s = true) (hK : va_K (dC, dI) vwCl (mT cI cZ cII cIII) s) (hRf : 1 ≤ R.frames) (hRl : 14 ≤ R.locals) (hRc : cells ≤ R.cells) (hRs : slots ≤ R.slots) (μ0 : va_M) (t : Int) (u1 : Int) (ht : 0 ≤ t ∧ t < 70) (hu : 0 ≤ u1 ∧ u1 < 70) (hT : tok μ0 t.toNat) (hU : tok μ0 u1.toNat) (hn : μ0 719 t.toNat = μ0 719 u1.toNat) (hexit98 : ∀ (i : Int) (μ : va_M) (H : Heap) (locs : List Loc) (ls : Array Slot), (μ = μ0) → va_P (dC, dI) vwCl (fw (mE cI cZ cII cIII h0) h0 6325 μ) H → va_S (fA h0 6325 s.heap.size) s.heap H locs → lv_has ls 4 [] → W p l e R s m args below meth c H locs cells slots Q (F0 m 98 ls [])) (hexit106 : ∀ (i : Int) (μ : va_M) (H : Heap) (locs : List Loc) (ls : Array Slot), (μ = μ0) → va_P (dC, dI) vwCl (fw (mE cI cZ cII cIII h0) h0 6325 μ) H → va_S (fA h0 6325 s.heap.size) s.heap H locs → lv_has ls 4 [] → W p l e R s m args below meth c H locs cells slots Q (F0 m 106 ls [])) :
    ∀ (n9 : Nat) (i : Int) (μ : va_M) (H : Heap) (locs : List Loc) (ls : Array Slot), (μ = μ0) → (0 ≤ i ∧ i ≤ μ0 719 t.toNat) → (1000 - i).toNat < n9 → va_P (dC, dI) vwCl (fw (mE cI cZ cII cIII h0) h0 6325 μ) H → va_S (fA h0 6325 s.heap.size) s.heap H locs → lv_has ls 4 [(3, .int (iZ (i))), (2, .int (iZ (u1))), (1, .int (iZ (t))), (0, .ref h0)] → W p l e R s m args below meth c H locs cells slots Q (F0 m 19 ls []) := by
  intro n9
  induction n9 with
  | zero => intro i μ H locs ls hm hi hm9 hP hS hl; exact absurd hm9 (Nat.not_lt_zero _)
  | succ n9 ih =>
    intro i μ H locs ls hm hi hm9 hP hS hl
    subst hm
    have hT2 := hT.2.1
    have hU2 := hU.2.1
    refine lv_iload_n hx hb dX10_areSame_19 rfl (lv_at hl 0 rfl) ?_
    refine lv_aload_n hx hb dX10_areSame_20 rfl (lv_at hl 3 rfl) ?_
    refine fz_get (D := (dC, dI)) (ci := 10) (v := .ref (h0 + 719)) (C := RX10) (T := TX10) (N := 53) hx hb hts inG10 hown hK hP (k := 0) (by decide) (F := mF h0) mE_obj rfl 21 (by decide) (hts _ k1187) (fun _ h9 => h9) rfl dX10_areSame_21 ?_
    refine lv_iload_n hx hb dX10_areSame_24 rfl (lv_at hl 2 rfl) ?_
    refine fz_ld (k := 719) (n := 70) hx hb hK hP 0 (by decide) mE_nodes rfl ⟨by omega, by omega⟩ (by decide) dX10_areSame_25 ?_
    refine fz_icmp_ge (tgt := 106) (by constructor <;> omega) (by constructor <;> omega) hx hb dX10_areSame_26 (by decide) (fun c26_ => ?_) (fun c26_ => ?_)
    · exact hexit106 (i) μ H locs ls (by rfl) hP hS (lv_sub hl [] rfl)
    · obtain ⟨x1, x2, x3, x4⟩ := hT.2.2 i.toNat (by omega)
      obtain ⟨y1, y2, y3, y4⟩ := hU.2.2 i.toNat (by omega)
      refine lv_aload_n hx hb dX10_areSame_29 rfl (lv_at hl 3 rfl) ?_
      refine fz_get (D := (dC, dI)) (ci := 10) (v := .ref (h0 + 506)) (C := RX10) (T := TX10) (N := 53) hx hb hts inG10 hown hK hP (k := 0) (by decide) (F := mF h0) mE_obj rfl 18 (by decide) (hts _ k1184) (fun _ h9 => h9) rfl dX10_areSame_30 ?_
      refine lv_iload_n hx hb dX10_areSame_33 rfl (lv_at hl 2 rfl) ?_
      refine fz_ald (k := 506) (n := 70) (k2 := (507 + (t).toNat)) hx hb hK hP 2 rfl (by decide) mE_sort rfl ⟨by omega, by omega⟩ (by decide) (if_pos (by omega)) dX10_areSame_34 ?_
      refine lv_iload_n hx hb dX10_areSame_35 rfl (lv_at hl 0 rfl) ?_
      refine fz_ld (k := (507 + (t).toNat)) (n := 900) hx hb hK hP 0 (by omega) (mE_sortR (by omega)) rfl ⟨by omega, by omega⟩ (by decide) dX10_areSame_36 ?_
      refine lv_aload_n hx hb dX10_areSame_37 rfl (lv_at hl 3 rfl) ?_
      refine fz_get (D := (dC, dI)) (ci := 10) (v := .ref (h0 + 506)) (C := RX10) (T := TX10) (N := 53) hx hb hts inG10 hown hK hP (k := 0) (by decide) (F := mF h0) mE_obj rfl 18 (by decide) (hts _ k1184) (fun _ h9 => h9) rfl dX10_areSame_38 ?_
      refine lv_iload_n hx hb dX10_areSame_41 rfl (lv_at hl 1 rfl) ?_
      refine fz_ald (k := 506) (n := 70) (k2 := (507 + (u1).toNat)) hx hb hK hP 2 rfl (by decide) mE_sort rfl ⟨by omega, by omega⟩ (by decide) (if_pos (by omega)) dX10_areSame_42 ?_
      refine lv_iload_n hx hb dX10_areSame_43 rfl (lv_at hl 0 rfl) ?_
      refine fz_ld (k := (507 + (u1).toNat)) (n := 900) hx hb hK hP 0 (by omega) (mE_sortR (by omega)) rfl ⟨by omega, by omega⟩ (by decide) dX10_areSame_44 ?_
      refine fz_icmp_ne (tgt := 98) (by constructor <;> omega) (by constructor <;> omega) hx hb dX10_areSame_45 (by decide) (fun c45_ => ?_) (fun c45_ => ?_)
      · exact hexit98 (i) μ H locs ls (by rfl) hP hS (lv_sub hl [] rfl)
      · refine lv_aload_n hx hb dX10_areSame_48 rfl (lv_at hl 3 rfl) ?_
        refine fz_get (D := (dC, dI)) (ci := 10) (v := .ref (h0 + 648)) (C := RX10) (T := TX10) (N := 53) hx hb hts inG10 hown hK hP (k := 0) (by decide) (F := mF h0) mE_obj rfl 20 (by decide) (hts _ k1186) (fun _ h9 => h9) rfl dX10_areSame_49 ?_
        refine lv_iload_n hx hb dX10_areSame_52 rfl (lv_at hl 2 rfl) ?_
        refine fz_ald (k := 648) (n := 70) (k2 := (649 + (t).toNat)) hx hb hK hP 2 rfl (by decide) mE_span rfl ⟨by omega, by omega⟩ (by decide) (if_pos (by omega)) dX10_areSame_53 ?_
        refine lv_iload_n hx hb dX10_areSame_54 rfl (lv_at hl 0 rfl) ?_
        refine fz_ld (k := (649 + (t).toNat)) (n := 900) hx hb hK hP 0 (by omega) (mE_spanR (by omega)) rfl ⟨by omega, by omega⟩ (by decide) dX10_areSame_55 ?_
        refine lv_aload_n hx hb dX10_areSame_56 rfl (lv_at hl 3 rfl) ?_
        refine fz_get (D := (dC, dI)) (ci := 10) (v := .ref (h0 + 648)) (C := RX10) (T := TX10) (N := 53) hx hb hts inG10 hown hK hP (k := 0) (by decide) (F := mF h0) mE_obj rfl 20 (by decide) (hts _ k1186) (fun _ h9 => h9) rfl dX10_areSame_57 ?_
        refine lv_iload_n hx hb dX10_areSame_60 rfl (lv_at hl 1 rfl) ?_
        refine fz_ald (k := 648) (n := 70) (k2 := (649 + (u1).toNat)) hx hb hK hP 2 rfl (by decide) mE_span rfl ⟨by omega, by omega⟩ (by decide) (if_pos (by omega)) dX10_areSame_61 ?_
        refine lv_iload_n hx hb dX10_areSame_62 rfl (lv_at hl 0 rfl) ?_
        refine fz_ld (k := (649 + (u1).toNat)) (n := 900) hx hb hK hP 0 (by omega) (mE_spanR (by omega)) rfl ⟨by omega, by omega⟩ (by decide) dX10_areSame_63 ?_
        refine fz_icmp_ne (tgt := 98) (by constructor <;> omega) (by constructor <;> omega) hx hb dX10_areSame_64 (by decide) (fun c64_ => ?_) (fun c64_ => ?_)
        · exact hexit98 (i) μ H locs ls (by rfl) hP hS (lv_sub hl [] rfl)
        · refine lv_aload_n hx hb dX10_areSame_67 rfl (lv_at hl 3 rfl) ?_
          refine fz_get (D := (dC, dI)) (ci := 10) (v := .ref (h0 + 506)) (C := RX10) (T := TX10) (N := 53) hx hb hts inG10 hown hK hP (k := 0) (by decide) (F := mF h0) mE_obj rfl 18 (by decide) (hts _ k1184) (fun _ h9 => h9) rfl dX10_areSame_68 ?_
          refine lv_iload_n hx hb dX10_areSame_71 rfl (lv_at hl 2 rfl) ?_
          refine fz_ald (k := 506) (n := 70) (k2 := (507 + (t).toNat)) hx hb hK hP 2 rfl (by decide) mE_sort rfl ⟨by omega, by omega⟩ (by decide) (if_pos (by omega)) dX10_areSame_72 ?_
          refine lv_iload_n hx hb dX10_areSame_73 rfl (lv_at hl 0 rfl) ?_
          refine fz_ld (k := (507 + (t).toNat)) (n := 900) hx hb hK hP 0 (by omega) (mE_sortR (by omega)) rfl ⟨by omega, by omega⟩ (by decide) dX10_areSame_74 ?_
          refine lv_iconst (v := iZ 2) hx hb dX10_areSame_75 rfl ?_
          refine fz_icmp_ge (tgt := 100) (by constructor <;> omega) (by decide) hx hb dX10_areSame_76 (by decide) (fun c76_ => ?_) (fun c76_ => ?_)
          · refine lv_iinc (v := iZ (i + 1)) (lv' := [(3, .int (iZ (i + 1))), (2, .int (iZ (u1))), (1, .int (iZ (t))), (0, .ref h0)]) hx hb dX10_areSame_100 hl (k := 0) rfl (iZ_add _ _) (by decide) rfl (fun ls hl => ?_)
            refine lv_goto (tgt := 19) hx hb dX10_areSame_103 (by decide) ?_
            exact ih (i + 1) μ H locs ls (by rfl) (by omega) (by omega) hP hS (lv_sub hl [0, 1, 2, 3] rfl)
          · refine lv_aload_n hx hb dX10_areSame_79 rfl (lv_at hl 3 rfl) ?_
            refine fz_get (D := (dC, dI)) (ci := 10) (v := .ref (h0 + 577)) (C := RX10) (T := TX10) (N := 53) hx hb hts inG10 hown hK hP (k := 0) (by decide) (F := mF h0) mE_obj rfl 19 (by decide) (hts _ k1185) (fun _ h9 => h9) rfl dX10_areSame_80 ?_
            refine lv_iload_n hx hb dX10_areSame_83 rfl (lv_at hl 2 rfl) ?_
            refine fz_ald (k := 577) (n := 70) (k2 := (578 + (t).toNat)) hx hb hK hP 2 rfl (by decide) mE_token rfl ⟨by omega, by omega⟩ (by decide) (if_pos (by omega)) dX10_areSame_84 ?_
            refine lv_iload_n hx hb dX10_areSame_85 rfl (lv_at hl 0 rfl) ?_
            refine fz_ld (k := (578 + (t).toNat)) (n := 900) hx hb hK hP 0 (by omega) (mE_tokenR (by omega)) rfl ⟨by omega, by omega⟩ (by decide) dX10_areSame_86 ?_
            refine lv_aload_n hx hb dX10_areSame_87 rfl (lv_at hl 3 rfl) ?_
            refine fz_get (D := (dC, dI)) (ci := 10) (v := .ref (h0 + 577)) (C := RX10) (T := TX10) (N := 53) hx hb hts inG10 hown hK hP (k := 0) (by decide) (F := mF h0) mE_obj rfl 19 (by decide) (hts _ k1185) (fun _ h9 => h9) rfl dX10_areSame_88 ?_
            refine lv_iload_n hx hb dX10_areSame_91 rfl (lv_at hl 1 rfl) ?_
            refine fz_ald (k := 577) (n := 70) (k2 := (578 + (u1).toNat)) hx hb hK hP 2 rfl (by decide) mE_token rfl ⟨by omega, by omega⟩ (by decide) (if_pos (by omega)) dX10_areSame_92 ?_
            refine lv_iload_n hx hb dX10_areSame_93 rfl (lv_at hl 0 rfl) ?_
            refine fz_ld (k := (578 + (u1).toNat)) (n := 900) hx hb hK hP 0 (by omega) (mE_tokenR (by omega)) rfl ⟨by omega, by omega⟩ (by decide) dX10_areSame_94 ?_
            refine fz_icmp_eq (tgt := 100) (by constructor <;> omega) (by constructor <;> omega) hx hb dX10_areSame_95 (by decide) (fun c95_ => ?_) (fun c95_ => ?_)
            · refine lv_iinc (v := iZ (i + 1)) (lv' := [(3, .int (iZ (i + 1))), (2, .int (iZ (u1))), (1, .int (iZ (t))), (0, .ref h0)]) hx hb dX10_areSame_100 hl (k := 0) rfl (iZ_add _ _) (by decide) rfl (fun ls hl => ?_)
              refine lv_goto (tgt := 19) hx hb dX10_areSame_103 (by decide) ?_
              exact ih (i + 1) μ H locs ls (by rfl) (by omega) (by omega) hP hS (lv_sub hl [0, 1, 2, 3] rfl)
            · exact hexit98 (i) μ H locs ls (by rfl) hP hS (lv_sub hl [] rfl)
set_option maxHeartbeats 4000000 in
set_option maxRecDepth 100000 in
theorem m_areSame (l : Launch) (dC : Nat → ClassId) (dI : Nat → Nat → Nat) (cI cZ cII cIII : ClassId) (h0 sz : Nat) (μ : va_M) (t : Int) (u1 : Int) (ht : 0 ≤ t ∧ t < 70) (hu : 0 ≤ u1 ∧ u1 < 70) (hT : tok μ t.toNat) (hU : tok μ u1.toNat) : Met l yX10_areSame (Cond.code yX10_areSame cX10_areSame 4 (some .boolean) :: wsG) ({ frames := 1, cells := 0, slots := 0, locals := 14 } : Room) (va_Pc [.ref h0, .int (iZ (t)), .int (iZ (u1))] (fun U => U.heap.size = sz ∧ va_P (dC, dI) vwCl (fw (mE cI cZ cII cIII h0) h0 6325 μ) U.heap ∧ va_K (dC, dI) vwCl (mT cI cZ cII cIII) U)) (va_Qi (fun (r9 : Int32) (u : va_M × Int) => r9 = iZ u.2 ∧ (fun (u : va_M) (r : Int) => u = μ ∧ (r = 0 ∨ r = 1)) u.1 u.2) (fun u t => va_P (dC, dI) vwCl (fw (mE cI cZ cII cIII h0) h0 6325 u.1) t.heap ∧ va_K (dC, dI) vwCl (mT cI cZ cII cIII) t) (fA h0 6325 sz)) 0 0 (fA h0 6325 sz) := by
  refine Met.ofW (cc := cX10_areSame) (maxL := 4) (ret := (some .boolean)) (by decide) rfl ?_
  intro p e s m args below meth c s₁ B hml hv
  obtain ⟨rfl, hsz, hP, hK⟩ := hv
  have hx := B.exec
  have hb := B.bytes
  have hr := B.returns
  have hts : ∀ w ∈ wsG, w.before _ s = true := hG_of (atoms_spec (ws := (Cond.code yX10_areSame cX10_areSame 4 (some .boolean) :: wsG)) B.pre)
  have hown : s.vm.findClass RX10 = some m.cls := findClass_of_methodNamed B.named
  have hlocks := B.notSynchronized
  subst hsz
  have hS : va_S (fA h0 6325 s.heap.size) s.heap s.heap [] := va_S.rf
  have hl := lv_entry ([.ref h0, .int (iZ (t)), .int (iZ (u1))]) (n := 4) (Nat.le_of_ble_eq_true rfl)
  rw [lg_entry_eq]
  generalize (lg_sl ([.ref h0, .int (iZ (t)), .int (iZ (u1))]) ++ List.replicate (4 - (lg_sl ([.ref h0, .int (iZ (t)), .int (iZ (u1))])).length) Slot.unset).toArray = ls at hl ⊢
  have hl : lv_has ls 4 [(0, .ref h0), (1, .int (iZ (t))), (2, .int (iZ (u1)))] := hl
  have hT0 := hT.1
  have hT2 := hT.2.1
  have hU0 := hU.1
  have hU2 := hU.2.1
  refine lv_aload_n hx hb dX10_areSame_0 rfl (lv_at hl 0 rfl) ?_
  refine fz_get (D := (dC, dI)) (ci := 10) (v := .ref (h0 + 719)) (C := RX10) (T := TX10) (N := 53) hx hb hts inG10 hown hK hP (k := 0) (by decide) (F := mF h0) mE_obj rfl 21 (by decide) (hts _ k1187) (fun _ h9 => h9) rfl dX10_areSame_1 ?_
  refine lv_iload_n hx hb dX10_areSame_4 rfl (lv_at hl 1 rfl) ?_
  refine fz_ld (k := 719) (n := 70) hx hb hK hP 0 (by decide) mE_nodes rfl ⟨by omega, by omega⟩ (by decide) dX10_areSame_5 ?_
  refine lv_aload_n hx hb dX10_areSame_6 rfl (lv_at hl 0 rfl) ?_
  refine fz_get (D := (dC, dI)) (ci := 10) (v := .ref (h0 + 719)) (C := RX10) (T := TX10) (N := 53) hx hb hts inG10 hown hK hP (k := 0) (by decide) (F := mF h0) mE_obj rfl 21 (by decide) (hts _ k1187) (fun _ h9 => h9) rfl dX10_areSame_7 ?_
  refine lv_iload_n hx hb dX10_areSame_10 rfl (lv_at hl 2 rfl) ?_
  refine fz_ld (k := 719) (n := 70) hx hb hK hP 0 (by decide) mE_nodes rfl ⟨by omega, by omega⟩ (by decide) dX10_areSame_11 ?_
  refine fz_icmp_eq (tgt := 17) (by constructor <;> omega) (by constructor <;> omega) hx hb dX10_areSame_12 (by decide) (fun c12_ => ?_) (fun c12_ => ?_)
  · refine lv_iconst (v := iZ 0) hx hb dX10_areSame_17 rfl ?_
    refine lv_istore_n (lv' := [(3, .int (iZ (0))), (0, .ref h0), (1, .int (iZ (t))), (2, .int (iZ (u1)))]) hx hb dX10_areSame_18 rfl hl (by decide) rfl (fun ls hl => ?_)
    refine LX10_areSame_19 hx hb hml hown hts hK (Nat.le_of_ble_eq_true rfl) (Nat.le_of_ble_eq_true rfl) (Nat.le_of_ble_eq_true rfl) (Nat.le_of_ble_eq_true rfl) (μ) (t) (u1) (by assumption) (by assumption) (by assumption) (by assumption) (by omega) ?_ ?_ _ (0) μ s.heap [] ls (by rfl) (by omega) (Nat.lt_succ_self _) hP hS (lv_sub hl [0, 3, 2, 1] rfl)
    · intro i_1 μ1_ H locs ls q2_1 hP hS hl
      have hl : lv_has ls 4 [] := hl
      refine lv_iconst (v := iZ 0) hx hb dX10_areSame_98 rfl ?_
      exact W.zret (v := iZ (0)) hx hb hr (by decide +kernel) (fun t9 ht9 hW9 => ⟨⟨iZ (0), (μ1_, 0), rfl, ⟨rfl, (by
                    dsimp only
                    exact ⟨q2_1, Or.inl rfl⟩)⟩, by rw [ht9]; exact hP, va_K.moved hW9.alike hK⟩, hS.F ht9⟩) hS.2.2 dX10_areSame_99
    · intro i_2 μ2_ H locs ls q1_2 hP hS hl
      have hl : lv_has ls 4 [] := hl
      refine lv_iconst (v := iZ 1) hx hb dX10_areSame_106 rfl ?_
      exact W.zret (v := iZ (1)) hx hb hr (by decide +kernel) (fun t9 ht9 hW9 => ⟨⟨iZ (1), (μ2_, 1), rfl, ⟨rfl, (by
                    dsimp only
                    exact ⟨q1_2, Or.inr rfl⟩)⟩, by rw [ht9]; exact hP, va_K.moved hW9.alike hK⟩, hS.F ht9⟩) hS.2.2 dX10_areSame_107
  · refine lv_iconst (v := iZ 0) hx hb dX10_areSame_15 rfl ?_
    exact W.zret (v := iZ (0)) hx hb hr (by decide +kernel) (fun t9 ht9 hW9 => ⟨⟨iZ (0), (μ, 0), rfl, ⟨rfl, (by
                dsimp only
                exact ⟨rfl, Or.inl rfl⟩)⟩, by rw [ht9]; exact hP, va_K.moved hW9.alike hK⟩, hS.F ht9⟩) hS.2.2 dX10_areSame_16

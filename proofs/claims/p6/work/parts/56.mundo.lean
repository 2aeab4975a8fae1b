theorem dX10_areSame_0 : decode cX10_areSame 0 = .ok (.aload_n 0, 1) := by decide +kernel
theorem dX10_areSame_1 : decode cX10_areSame 1 = .ok (.getfield 54, 3) := by decide +kernel
theorem dX10_areSame_4 : decode cX10_areSame 4 = .ok (.iload_n 1, 1) := by decide +kernel
theorem dX10_areSame_5 : decode cX10_areSame 5 = .ok (.iaload, 1) := by decide +kernel
theorem dX10_areSame_6 : decode cX10_areSame 6 = .ok (.aload_n 0, 1) := by decide +kernel
theorem dX10_areSame_7 : decode cX10_areSame 7 = .ok (.getfield 54, 3) := by decide +kernel
theorem dX10_areSame_10 : decode cX10_areSame 10 = .ok (.iload_n 2, 1) := by decide +kernel
theorem dX10_areSame_11 : decode cX10_areSame 11 = .ok (.iaload, 1) := by decide +kernel
theorem dX10_areSame_12 : decode cX10_areSame 12 = .ok (.if_icmp .eq 5, 3) := by decide +kernel
theorem dX10_areSame_15 : decode cX10_areSame 15 = .ok (.iconst 0, 1) := by decide +kernel
theorem dX10_areSame_16 : decode cX10_areSame 16 = .ok (.ireturn, 1) := by decide +kernel
theorem dX10_areSame_17 : decode cX10_areSame 17 = .ok (.iconst 0, 1) := by decide +kernel
theorem dX10_areSame_18 : decode cX10_areSame 18 = .ok (.istore_n 3, 1) := by decide +kernel
theorem dX10_areSame_19 : decode cX10_areSame 19 = .ok (.iload_n 3, 1) := by decide +kernel
theorem dX10_areSame_20 : decode cX10_areSame 20 = .ok (.aload_n 0, 1) := by decide +kernel
theorem dX10_areSame_21 : decode cX10_areSame 21 = .ok (.getfield 54, 3) := by decide +kernel
theorem dX10_areSame_24 : decode cX10_areSame 24 = .ok (.iload_n 1, 1) := by decide +kernel
theorem dX10_areSame_25 : decode cX10_areSame 25 = .ok (.iaload, 1) := by decide +kernel
theorem dX10_areSame_26 : decode cX10_areSame 26 = .ok (.if_icmp .ge 80, 3) := by decide +kernel
theorem dX10_areSame_29 : decode cX10_areSame 29 = .ok (.aload_n 0, 1) := by decide +kernel
theorem dX10_areSame_30 : decode cX10_areSame 30 = .ok (.getfield 45, 3) := by decide +kernel
theorem dX10_areSame_33 : decode cX10_areSame 33 = .ok (.iload_n 1, 1) := by decide +kernel
theorem dX10_areSame_34 : decode cX10_areSame 34 = .ok (.aaload, 1) := by decide +kernel
theorem dX10_areSame_35 : decode cX10_areSame 35 = .ok (.iload_n 3, 1) := by decide +kernel
theorem dX10_areSame_36 : decode cX10_areSame 36 = .ok (.iaload, 1) := by decide +kernel
theorem dX10_areSame_37 : decode cX10_areSame 37 = .ok (.aload_n 0, 1) := by decide +kernel
theorem dX10_areSame_38 : decode cX10_areSame 38 = .ok (.getfield 45, 3) := by decide +kernel
theorem dX10_areSame_41 : decode cX10_areSame 41 = .ok (.iload_n 2, 1) := by decide +kernel
theorem dX10_areSame_42 : decode cX10_areSame 42 = .ok (.aaload, 1) := by decide +kernel
theorem dX10_areSame_43 : decode cX10_areSame 43 = .ok (.iload_n 3, 1) := by decide +kernel
theorem dX10_areSame_44 : decode cX10_areSame 44 = .ok (.iaload, 1) := by decide +kernel
theorem dX10_areSame_45 : decode cX10_areSame 45 = .ok (.if_icmp .ne 53, 3) := by decide +kernel
theorem dX10_areSame_48 : decode cX10_areSame 48 = .ok (.aload_n 0, 1) := by decide +kernel
theorem dX10_areSame_49 : decode cX10_areSame 49 = .ok (.getfield 51, 3) := by decide +kernel
theorem dX10_areSame_52 : decode cX10_areSame 52 = .ok (.iload_n 1, 1) := by decide +kernel
theorem dX10_areSame_53 : decode cX10_areSame 53 = .ok (.aaload, 1) := by decide +kernel
theorem dX10_areSame_54 : decode cX10_areSame 54 = .ok (.iload_n 3, 1) := by decide +kernel
theorem dX10_areSame_55 : decode cX10_areSame 55 = .ok (.iaload, 1) := by decide +kernel
theorem dX10_areSame_56 : decode cX10_areSame 56 = .ok (.aload_n 0, 1) := by decide +kernel
theorem dX10_areSame_57 : decode cX10_areSame 57 = .ok (.getfield 51, 3) := by decide +kernel
theorem dX10_areSame_60 : decode cX10_areSame 60 = .ok (.iload_n 2, 1) := by decide +kernel
theorem dX10_areSame_61 : decode cX10_areSame 61 = .ok (.aaload, 1) := by decide +kernel
theorem dX10_areSame_62 : decode cX10_areSame 62 = .ok (.iload_n 3, 1) := by decide +kernel
theorem dX10_areSame_63 : decode cX10_areSame 63 = .ok (.iaload, 1) := by decide +kernel
theorem dX10_areSame_64 : decode cX10_areSame 64 = .ok (.if_icmp .ne 34, 3) := by decide +kernel
theorem dX10_areSame_67 : decode cX10_areSame 67 = .ok (.aload_n 0, 1) := by decide +kernel
theorem dX10_areSame_68 : decode cX10_areSame 68 = .ok (.getfield 45, 3) := by decide +kernel
theorem dX10_areSame_71 : decode cX10_areSame 71 = .ok (.iload_n 1, 1) := by decide +kernel
theorem dX10_areSame_72 : decode cX10_areSame 72 = .ok (.aaload, 1) := by decide +kernel
theorem dX10_areSame_73 : decode cX10_areSame 73 = .ok (.iload_n 3, 1) := by decide +kernel
theorem dX10_areSame_74 : decode cX10_areSame 74 = .ok (.iaload, 1) := by decide +kernel
theorem dX10_areSame_75 : decode cX10_areSame 75 = .ok (.iconst 2, 1) := by decide +kernel
theorem dX10_areSame_76 : decode cX10_areSame 76 = .ok (.if_icmp .ge 24, 3) := by decide +kernel
theorem dX10_areSame_79 : decode cX10_areSame 79 = .ok (.aload_n 0, 1) := by decide +kernel
theorem dX10_areSame_80 : decode cX10_areSame 80 = .ok (.getfield 48, 3) := by decide +kernel
theorem dX10_areSame_83 : decode cX10_areSame 83 = .ok (.iload_n 1, 1) := by decide +kernel
theorem dX10_areSame_84 : decode cX10_areSame 84 = .ok (.aaload, 1) := by decide +kernel
theorem dX10_areSame_85 : decode cX10_areSame 85 = .ok (.iload_n 3, 1) := by decide +kernel
theorem dX10_areSame_86 : decode cX10_areSame 86 = .ok (.iaload, 1) := by decide +kernel
theorem dX10_areSame_87 : decode cX10_areSame 87 = .ok (.aload_n 0, 1) := by decide +kernel
theorem dX10_areSame_88 : decode cX10_areSame 88 = .ok (.getfield 48, 3) := by decide +kernel
theorem dX10_areSame_91 : decode cX10_areSame 91 = .ok (.iload_n 2, 1) := by decide +kernel
theorem dX10_areSame_92 : decode cX10_areSame 92 = .ok (.aaload, 1) := by decide +kernel
theorem dX10_areSame_93 : decode cX10_areSame 93 = .ok (.iload_n 3, 1) := by decide +kernel
theorem dX10_areSame_94 : decode cX10_areSame 94 = .ok (.iaload, 1) := by decide +kernel
theorem dX10_areSame_95 : decode cX10_areSame 95 = .ok (.if_icmp .eq 5, 3) := by decide +kernel
theorem dX10_areSame_98 : decode cX10_areSame 98 = .ok (.iconst 0, 1) := by decide +kernel
theorem dX10_areSame_99 : decode cX10_areSame 99 = .ok (.ireturn, 1) := by decide +kernel
theorem dX10_areSame_100 : decode cX10_areSame 100 = .ok (.iinc 3 1, 3) := by decide +kernel
theorem dX10_areSame_103 : decode cX10_areSame 103 = .ok (.goto (-84), 3) := by decide +kernel
theorem dX10_areSame_106 : decode cX10_areSame 106 = .ok (.iconst 1, 1) := by decide +kernel
theorem dX10_areSame_107 : decode cX10_areSame 107 = .ok (.ireturn, 1) := by decide +kernel
theorem dX10_clear_0 : decode cX10_clear 0 = .ok (.aload_n 0, 1) := by decide +kernel
theorem dX10_clear_1 : decode cX10_clear 1 = .ok (.iconst 0, 1) := by decide +kernel
theorem dX10_clear_2 : decode cX10_clear 2 = .ok (.putfield 127, 3) := by decide +kernel
theorem dX10_clear_5 : decode cX10_clear 5 = .ok (.aload_n 0, 1) := by decide +kernel
theorem dX10_clear_6 : decode cX10_clear 6 = .ok (.iconst 0, 1) := by decide +kernel
theorem dX10_clear_7 : decode cX10_clear 7 = .ok (.invokevirtual 313, 3) := by decide +kernel
theorem dX10_clear_10 : decode cX10_clear 10 = .ok (.istore_n 1, 1) := by decide +kernel
theorem dX10_clear_11 : decode cX10_clear 11 = .ok (.aload_n 0, 1) := by decide +kernel
theorem dX10_clear_12 : decode cX10_clear 12 = .ok (.iconst 0, 1) := by decide +kernel
theorem dX10_clear_13 : decode cX10_clear 13 = .ok (.invokevirtual 197, 3) := by decide +kernel
theorem dX10_clear_16 : decode cX10_clear 16 = .ok (.aload_n 0, 1) := by decide +kernel
theorem dX10_clear_17 : decode cX10_clear 17 = .ok (.iconst 0, 1) := by decide +kernel
theorem dX10_clear_18 : decode cX10_clear 18 = .ok (.putfield 325, 3) := by decide +kernel
theorem dX10_clear_21 : decode cX10_clear 21 = .ok (.aload_n 0, 1) := by decide +kernel
theorem dX10_clear_22 : decode cX10_clear 22 = .ok (.iconst 0, 1) := by decide +kernel
theorem dX10_clear_23 : decode cX10_clear 23 = .ok (.putfield 319, 3) := by decide +kernel
theorem dX10_clear_26 : decode cX10_clear 26 = .ok (.aload_n 0, 1) := by decide +kernel
theorem dX10_clear_27 : decode cX10_clear 27 = .ok (.iconst 0, 1) := by decide +kernel
theorem dX10_clear_28 : decode cX10_clear 28 = .ok (.putfield 331, 3) := by decide +kernel
theorem dX10_clear_31 : decode cX10_clear 31 = .ok (.iload_n 1, 1) := by decide +kernel
theorem dX10_clear_32 : decode cX10_clear 32 = .ok (.ireturn, 1) := by decide +kernel
theorem dX10_undo_0 : decode cX10_undo 0 = .ok (.aload_n 0, 1) := by decide +kernel
theorem dX10_undo_1 : decode cX10_undo 1 = .ok (.iconst 0, 1) := by decide +kernel
theorem dX10_undo_2 : decode cX10_undo 2 = .ok (.putfield 127, 3) := by decide +kernel
theorem dX10_undo_5 : decode cX10_undo 5 = .ok (.aload_n 0, 1) := by decide +kernel
theorem dX10_undo_6 : decode cX10_undo 6 = .ok (.getfield 319, 3) := by decide +kernel
theorem dX10_undo_9 : decode cX10_undo 9 = .ok (.ifCond .ne 5, 3) := by decide +kernel
theorem dX10_undo_12 : decode cX10_undo 12 = .ok (.iconst (-1), 1) := by decide +kernel
theorem dX10_undo_13 : decode cX10_undo 13 = .ok (.ireturn, 1) := by decide +kernel
theorem dX10_undo_14 : decode cX10_undo 14 = .ok (.aload_n 0, 1) := by decide +kernel
theorem dX10_undo_15 : decode cX10_undo 15 = .ok (.aload_n 0, 1) := by decide +kernel
theorem dX10_undo_16 : decode cX10_undo 16 = .ok (.getfield 319, 3) := by decide +kernel
theorem dX10_undo_19 : decode cX10_undo 19 = .ok (.iconst 0, 1) := by decide +kernel
theorem dX10_undo_20 : decode cX10_undo 20 = .ok (.invokevirtual 241, 3) := by decide +kernel
theorem dX10_undo_23 : decode cX10_undo 23 = .ok (.aload_n 0, 1) := by decide +kernel
theorem dX10_undo_24 : decode cX10_undo 24 = .ok (.dup, 1) := by decide +kernel
theorem dX10_undo_25 : decode cX10_undo 25 = .ok (.getfield 319, 3) := by decide +kernel
theorem dX10_undo_28 : decode cX10_undo 28 = .ok (.iconst 1, 1) := by decide +kernel
theorem dX10_undo_29 : decode cX10_undo 29 = .ok (.isub, 1) := by decide +kernel
theorem dX10_undo_30 : decode cX10_undo 30 = .ok (.putfield 319, 3) := by decide +kernel
theorem dX10_undo_33 : decode cX10_undo 33 = .ok (.aload_n 0, 1) := by decide +kernel
theorem dX10_undo_34 : decode cX10_undo 34 = .ok (.aload_n 0, 1) := by decide +kernel
theorem dX10_undo_35 : decode cX10_undo 35 = .ok (.getfield 60, 3) := by decide +kernel
theorem dX10_undo_38 : decode cX10_undo 38 = .ok (.aload_n 0, 1) := by decide +kernel
theorem dX10_undo_39 : decode cX10_undo 39 = .ok (.getfield 319, 3) := by decide +kernel
theorem dX10_undo_42 : decode cX10_undo 42 = .ok (.baload, 1) := by decide +kernel
theorem dX10_undo_43 : decode cX10_undo 43 = .ok (.putfield 325, 3) := by decide +kernel
theorem dX10_undo_46 : decode cX10_undo 46 = .ok (.aload_n 0, 1) := by decide +kernel
theorem dX10_undo_47 : decode cX10_undo 47 = .ok (.dup, 1) := by decide +kernel
theorem dX10_undo_48 : decode cX10_undo 48 = .ok (.getfield 331, 3) := by decide +kernel
theorem dX10_undo_51 : decode cX10_undo 51 = .ok (.aload_n 0, 1) := by decide +kernel
theorem dX10_undo_52 : decode cX10_undo 52 = .ok (.getfield 57, 3) := by decide +kernel
theorem dX10_undo_55 : decode cX10_undo 55 = .ok (.aload_n 0, 1) := by decide +kernel
theorem dX10_undo_56 : decode cX10_undo 56 = .ok (.getfield 319, 3) := by decide +kernel
theorem dX10_undo_59 : decode cX10_undo 59 = .ok (.iaload, 1) := by decide +kernel
theorem dX10_undo_60 : decode cX10_undo 60 = .ok (.isub, 1) := by decide +kernel
theorem dX10_undo_61 : decode cX10_undo 61 = .ok (.putfield 331, 3) := by decide +kernel
theorem dX10_undo_64 : decode cX10_undo 64 = .ok (.aload_n 0, 1) := by decide +kernel
theorem dX10_undo_65 : decode cX10_undo 65 = .ok (.iconst 0, 1) := by decide +kernel
theorem dX10_undo_66 : decode cX10_undo 66 = .ok (.invokevirtual 313, 3) := by decide +kernel
theorem dX10_undo_69 : decode cX10_undo 69 = .ok (.ireturn, 1) := by decide +kernel
theorem fits_b {z : Int} (h : z = 0 ∨ z = 1) : fits FieldType.boolean (Value.int (iZ z)) = true := by rcases h with rfl | rfl <;> rfl
def GE (J : Rw → Prop) (μ u : va_M) : Prop := fr KF μ u ∧ RI J u ∧ (u 0 0 = 0 ∨ u 0 0 = 1 ∨ u 0 0 = 2)
theorem GE_PS {J : Rw → Prop} {μ u : va_M} (h : RI J μ) (hf : fr PS μ u ∧ (u 0 0 = 0 ∨ u 0 0 = 1 ∨ u 0 0 = 2)) : GE J μ u := ⟨fr_mono hf.1 (fun _ _ h => Or.inl h), RI_PS h hf.1, hf.2⟩
set_option maxHeartbeats 4000000 in
set_option maxRecDepth 100000 in
theorem LX10_areSame_19 {p : Program} {l : Launch} {e : Env} {R : Room} {s : State} {m : MethodId} {args : Array Value} {below : List Frame} {meth : Method} {c : Code} {cells slots : Nat} {Q : State → Prop} {dC : Nat → ClassId} {dI : Nat → Nat → Nat} {h0 : Nat} {cI cZ cII cIII : ClassId} (hx : p.tables.exec = Jvm.exec) (hb : c.code = cX10_areSame) (hml : c.maxLocals = 4) (hown : s.vm.findClass RX10 = some m.cls) (hts : ∀ w ∈ wsG, w.before args s = true) (hK : va_K (dC, dI) vwCl (mT cI cZ cII cIII) s) (hRf : 1 ≤ R.frames) (hRl : 14 ≤ R.locals) (hRc : cells ≤ R.cells) (hRs : slots ≤ R.slots) (μ0 : va_M) (t : Int) (u1 : Int) (ht : 0 ≤ t ∧ t < 70) (hu : 0 ≤ u1 ∧ u1 < 70) (hT : tok μ0 t.toNat) (hU : tok μ0 u1.toNat) (hn : μ0 719 t.toNat = μ0 719 u1.toNat) (hexit98 : ∀ (i : Int) (μ : va_M) (H : Heap) (locs : List Loc) (ls : Array Slot), (μ = μ0) → va_P (dC, dI) vwCl (fw (mE cI cZ cII cIII h0) h0 6325 μ) H → va_S (fA h0 6325 s.heap.size) s.heap H locs → lv_has ls 4 [] → W p l e R s m args below meth c H locs cells slots Q (F0 m 98 ls [])) (hexit106 : ∀ (i : Int) (μ : va_M) (H : Heap) (locs : List Loc) (ls : Array Slot), (μ = μ0) → va_P (dC, dI) vwCl (fw (mE cI cZ cII cIII h0) h0 6325 μ) H → va_S (fA h0 6325 s.heap.size) s.heap H locs → lv_has ls 4 [] → W p l e R s m args below meth c H locs cells slots Q (F0 m 106 ls [])) :
    ∀ (n9 : Nat) (i : Int) (μ : va_M) (H : Heap) (locs : List Loc) (ls : Array Slot), (μ = μ0) → (0 ≤ i ∧ i ≤ μ0 719 t.toNat) → (1000 - i).toNat < n9 → va_P (dC, dI) vwCl (fw (mE cI cZ cII cIII h0) h0 6325 μ) H → va_S (fA h0 6325 s.heap.size) s.heap H locs → lv_has ls 4 [(3, .int (iZ (i))), (2, .int (iZ (u1))), (1, .int (iZ (t))), (0, .ref h0)] → W p l e R s m args below meth c H locs cells slots Q (F0 m 19 ls []) := by
  intro n9
  induction n9 with
  | zero => intro i μ H locs ls hm hi hm9 hP hS hl; exact absurd hm9 (Nat.not_lt_zero _)
  | succ n9 ih =>
    intro i μ H locs ls hm hi hm9 hP hS hl
    subst hm
    have hT2 := hT.2.1
    have hU2 := hU.2.1
    refine lv_iload_n hx hb dX10_areSame_19 rfl (lv_at hl 0 rfl) ?_
    refine lv_aload_n hx hb dX10_areSame_20 rfl (lv_at hl 3 rfl) ?_
    refine fz_get (D := (dC, dI)) (ci := 10) (v := .ref (h0 + 719)) (C := RX10) (T := TX10) (N := 53) hx hb hts inG10 hown hK hP (k := 0) (by decide) (F := mF h0) mE_obj rfl 21 (by decide) (hts _ k1187) (fun _ h9 => h9) rfl dX10_areSame_21 ?_
    refine lv_iload_n hx hb dX10_areSame_24 rfl (lv_at hl 2 rfl) ?_
    refine fz_ld (k := 719) (n := 70) hx hb hK hP 0 (by decide) mE_nodes rfl ⟨by omega, by omega⟩ (by decide) dX10_areSame_25 ?_
    refine fz_icmp_ge (tgt := 106) (by constructor <;> omega) (by constructor <;> omega) hx hb dX10_areSame_26 (by decide) (fun c26_ => ?_) (fun c26_ => ?_)
    · exact hexit106 (i) μ H locs ls (by rfl) hP hS (lv_sub hl [] rfl)
    · obtain ⟨x1, x2, x3, x4⟩ := hT.2.2 i.toNat (by omega)
      obtain ⟨y1, y2, y3, y4⟩ := hU.2.2 i.toNat (by omega)
      refine lv_aload_n hx hb dX10_areSame_29 rfl (lv_at hl 3 rfl) ?_
      refine fz_get (D := (dC, dI)) (ci := 10) (v := .ref (h0 + 506)) (C := RX10) (T := TX10) (N := 53) hx hb hts inG10 hown hK hP (k := 0) (by decide) (F := mF h0) mE_obj rfl 18 (by decide) (hts _ k1184) (fun _ h9 => h9) rfl dX10_areSame_30 ?_
      refine lv_iload_n hx hb dX10_areSame_33 rfl (lv_at hl 2 rfl) ?_
      refine fz_ald (k := 506) (n := 70) (k2 := (507 + (t).toNat)) hx hb hK hP 2 rfl (by decide) mE_sort rfl ⟨by omega, by omega⟩ (by decide) (if_pos (by omega)) dX10_areSame_34 ?_
      refine lv_iload_n hx hb dX10_areSame_35 rfl (lv_at hl 0 rfl) ?_
      refine fz_ld (k := (507 + (t).toNat)) (n := 900) hx hb hK hP 0 (by omega) (mE_sortR (by omega)) rfl ⟨by omega, by omega⟩ (by decide) dX10_areSame_36 ?_
      refine lv_aload_n hx hb dX10_areSame_37 rfl (lv_at hl 3 rfl) ?_
      refine fz_get (D := (dC, dI)) (ci := 10) (v := .ref (h0 + 506)) (C := RX10) (T := TX10) (N := 53) hx hb hts inG10 hown hK hP (k := 0) (by decide) (F := mF h0) mE_obj rfl 18 (by decide) (hts _ k1184) (fun _ h9 => h9) rfl dX10_areSame_38 ?_
      refine lv_iload_n hx hb dX10_areSame_41 rfl (lv_at hl 1 rfl) ?_
      refine fz_ald (k := 506) (n := 70) (k2 := (507 + (u1).toNat)) hx hb hK hP 2 rfl (by decide) mE_sort rfl ⟨by omega, by omega⟩ (by decide) (if_pos (by omega)) dX10_areSame_42 ?_
      refine lv_iload_n hx hb dX10_areSame_43 rfl (lv_at hl 0 rfl) ?_
      refine fz_ld (k := (507 + (u1).toNat)) (n := 900) hx hb hK hP 0 (by omega) (mE_sortR (by omega)) rfl ⟨by omega, by omega⟩ (by decide) dX10_areSame_44 ?_
      refine fz_icmp_ne (tgt := 98) (by constructor <;> omega) (by constructor <;> omega) hx hb dX10_areSame_45 (by decide) (fun c45_ => ?_) (fun c45_ => ?_)
      · exact hexit98 (i) μ H locs ls (by rfl) hP hS (lv_sub hl [] rfl)
      · refine lv_aload_n hx hb dX10_areSame_48 rfl (lv_at hl 3 rfl) ?_
        refine fz_get (D := (dC, dI)) (ci := 10) (v := .ref (h0 + 648)) (C := RX10) (T := TX10) (N := 53) hx hb hts inG10 hown hK hP (k := 0) (by decide) (F := mF h0) mE_obj rfl 20 (by decide) (hts _ k1186) (fun _ h9 => h9) rfl dX10_areSame_49 ?_
        refine lv_iload_n hx hb dX10_areSame_52 rfl (lv_at hl 2 rfl) ?_
        refine fz_ald (k := 648) (n := 70) (k2 := (649 + (t).toNat)) hx hb hK hP 2 rfl (by decide) mE_span rfl ⟨by omega, by omega⟩ (by decide) (if_pos (by omega)) dX10_areSame_53 ?_
        refine lv_iload_n hx hb dX10_areSame_54 rfl (lv_at hl 0 rfl) ?_
        refine fz_ld (k := (649 + (t).toNat)) (n := 900) hx hb hK hP 0 (by omega) (mE_spanR (by omega)) rfl ⟨by omega, by omega⟩ (by decide) dX10_areSame_55 ?_
        refine lv_aload_n hx hb dX10_areSame_56 rfl (lv_at hl 3 rfl) ?_
        refine fz_get (D := (dC, dI)) (ci := 10) (v := .ref (h0 + 648)) (C := RX10) (T := TX10) (N := 53) hx hb hts inG10 hown hK hP (k := 0) (by decide) (F := mF h0) mE_obj rfl 20 (by decide) (hts _ k1186) (fun _ h9 => h9) rfl dX10_areSame_57 ?_
        refine lv_iload_n hx hb dX10_areSame_60 rfl (lv_at hl 1 rfl) ?_
        refine fz_ald (k := 648) (n := 70) (k2 := (649 + (u1).toNat)) hx hb hK hP 2 rfl (by decide) mE_span rfl ⟨by omega, by omega⟩ (by decide) (if_pos (by omega)) dX10_areSame_61 ?_
        refine lv_iload_n hx hb dX10_areSame_62 rfl (lv_at hl 0 rfl) ?_
        refine fz_ld (k := (649 + (u1).toNat)) (n := 900) hx hb hK hP 0 (by omega) (mE_spanR (by omega)) rfl ⟨by omega, by omega⟩ (by decide) dX10_areSame_63 ?_
        refine fz_icmp_ne (tgt := 98) (by constructor <;> omega) (by constructor <;> omega) hx hb dX10_areSame_64 (by decide) (fun c64_ => ?_) (fun c64_ => ?_)
        · exact hexit98 (i) μ H locs ls (by rfl) hP hS (lv_sub hl [] rfl)
        · refine lv_aload_n hx hb dX10_areSame_67 rfl (lv_at hl 3 rfl) ?_
          refine fz_get (D := (dC, dI)) (ci := 10) (v := .ref (h0 + 506)) (C := RX10) (T := TX10) (N := 53) hx hb hts inG10 hown hK hP (k := 0) (by decide) (F := mF h0) mE_obj rfl 18 (by decide) (hts _ k1184) (fun _ h9 => h9) rfl dX10_areSame_68 ?_
          refine lv_iload_n hx hb dX10_areSame_71 rfl (lv_at hl 2 rfl) ?_
          refine fz_ald (k := 506) (n := 70) (k2 := (507 + (t).toNat)) hx hb hK hP 2 rfl (by decide) mE_sort rfl ⟨by omega, by omega⟩ (by decide) (if_pos (by omega)) dX10_areSame_72 ?_
          refine lv_iload_n hx hb dX10_areSame_73 rfl (lv_at hl 0 rfl) ?_
          refine fz_ld (k := (507 + (t).toNat)) (n := 900) hx hb hK hP 0 (by omega) (mE_sortR (by omega)) rfl ⟨by omega, by omega⟩ (by decide) dX10_areSame_74 ?_
          refine lv_iconst (v := iZ 2) hx hb dX10_areSame_75 rfl ?_
          refine fz_icmp_ge (tgt := 100) (by constructor <;> omega) (by decide) hx hb dX10_areSame_76 (by decide) (fun c76_ => ?_) (fun c76_ => ?_)
          · refine lv_iinc (v := iZ (i + 1)) (lv' := [(3, .int (iZ (i + 1))), (2, .int (iZ (u1))), (1, .int (iZ (t))), (0, .ref h0)]) hx hb dX10_areSame_100 hl (k := 0) rfl (iZ_add _ _) (by decide) rfl (fun ls hl => ?_)
            refine lv_goto (tgt := 19) hx hb dX10_areSame_103 (by decide) ?_
            exact ih (i + 1) μ H locs ls (by rfl) (by omega) (by omega) hP hS (lv_sub hl [0, 1, 2, 3] rfl)
          · refine lv_aload_n hx hb dX10_areSame_79 rfl (lv_at hl 3 rfl) ?_
            refine fz_get (D := (dC, dI)) (ci := 10) (v := .ref (h0 + 577)) (C := RX10) (T := TX10) (N := 53) hx hb hts inG10 hown hK hP (k := 0) (by decide) (F := mF h0) mE_obj rfl 19 (by decide) (hts _ k1185) (fun _ h9 => h9) rfl dX10_areSame_80 ?_
            refine lv_iload_n hx hb dX10_areSame_83 rfl (lv_at hl 2 rfl) ?_
            refine fz_ald (k := 577) (n := 70) (k2 := (578 + (t).toNat)) hx hb hK hP 2 rfl (by decide) mE_token rfl ⟨by omega, by omega⟩ (by decide) (if_pos (by omega)) dX10_areSame_84 ?_
            refine lv_iload_n hx hb dX10_areSame_85 rfl (lv_at hl 0 rfl) ?_
            refine fz_ld (k := (578 + (t).toNat)) (n := 900) hx hb hK hP 0 (by omega) (mE_tokenR (by omega)) rfl ⟨by omega, by omega⟩ (by decide) dX10_areSame_86 ?_
            refine lv_aload_n hx hb dX10_areSame_87 rfl (lv_at hl 3 rfl) ?_
            refine fz_get (D := (dC, dI)) (ci := 10) (v := .ref (h0 + 577)) (C := RX10) (T := TX10) (N := 53) hx hb hts inG10 hown hK hP (k := 0) (by decide) (F := mF h0) mE_obj rfl 19 (by decide) (hts _ k1185) (fun _ h9 => h9) rfl dX10_areSame_88 ?_
            refine lv_iload_n hx hb dX10_areSame_91 rfl (lv_at hl 1 rfl) ?_
            refine fz_ald (k := 577) (n := 70) (k2 := (578 + (u1).toNat)) hx hb hK hP 2 rfl (by decide) mE_token rfl ⟨by omega, by omega⟩ (by decide) (if_pos (by omega)) dX10_areSame_92 ?_
            refine lv_iload_n hx hb dX10_areSame_93 rfl (lv_at hl 0 rfl) ?_
            refine fz_ld (k := (578 + (u1).toNat)) (n := 900) hx hb hK hP 0 (by omega) (mE_tokenR (by omega)) rfl ⟨by omega, by omega⟩ (by decide) dX10_areSame_94 ?_
            refine fz_icmp_eq (tgt := 100) (by constructor <;> omega) (by constructor <;> omega) hx hb dX10_areSame_95 (by decide) (fun c95_ => ?_) (fun c95_ => ?_)
            · refine lv_iinc (v := iZ (i + 1)) (lv' := [(3, .int (iZ (i + 1))), (2, .int (iZ (u1))), (1, .int (iZ (t))), (0, .ref h0)]) hx hb dX10_areSame_100 hl (k := 0) rfl (iZ_add _ _) (by decide) rfl (fun ls hl => ?_)
              refine lv_goto (tgt := 19) hx hb dX10_areSame_103 (by decide) ?_
              exact ih (i + 1) μ H locs ls (by rfl) (by omega) (by omega) hP hS (lv_sub hl [0, 1, 2, 3] rfl)
            · exact hexit98 (i) μ H locs ls (by rfl) hP hS (lv_sub hl [] rfl)
set_option maxHeartbeats 4000000 in
set_option maxRecDepth 100000 in
theorem m_areSame (l : Launch) (dC : Nat → ClassId) (dI : Nat → Nat → Nat) (cI cZ cII cIII : ClassId) (h0 sz : Nat) (μ : va_M) (t : Int) (u1 : Int) (ht : 0 ≤ t ∧ t < 70) (hu : 0 ≤ u1 ∧ u1 < 70) (hT : tok μ t.toNat) (hU : tok μ u1.toNat) : Met l yX10_areSame (Cond.code yX10_areSame cX10_areSame 4 (some .boolean) :: wsG) ({ frames := 1, cells := 0, slots := 0, locals := 14 } : Room) (va_Pc [.ref h0, .int (iZ (t)), .int (iZ (u1))] (fun U => U.heap.size = sz ∧ va_P (dC, dI) vwCl (fw (mE cI cZ cII cIII h0) h0 6325 μ) U.heap ∧ va_K (dC, dI) vwCl (mT cI cZ cII cIII) U)) (va_Qi (fun (r9 : Int32) (u : va_M × Int) => r9 = iZ u.2 ∧ (fun (u : va_M) (r : Int) => u = μ ∧ (r = 0 ∨ r = 1)) u.1 u.2) (fun u t => va_P (dC, dI) vwCl (fw (mE cI cZ cII cIII h0) h0 6325 u.1) t.heap ∧ va_K (dC, dI) vwCl (mT cI cZ cII cIII) t) (fA h0 6325 sz)) 0 0 (fA h0 6325 sz) := by
  refine Met.ofW (cc := cX10_areSame) (maxL := 4) (ret := (some .boolean)) (by decide) rfl ?_
  intro p e s m args below meth c s₁ B hml hv
  obtain ⟨rfl, hsz, hP, hK⟩ := hv
  have hx := B.exec
  have hb := B.bytes
  have hr := B.returns
  have hts : ∀ w ∈ wsG, w.before _ s = true := hG_of (atoms_spec (ws := (Cond.code yX10_areSame cX10_areSame 4 (some .boolean) :: wsG)) B.pre)
  have hown : s.vm.findClass RX10 = some m.cls := findClass_of_methodNamed B.named
  have hlocks := B.notSynchronized
  subst hsz
  have hS : va_S (fA h0 6325 s.heap.size) s.heap s.heap [] := va_S.rf
  have hl := lv_entry ([.ref h0, .int (iZ (t)), .int (iZ (u1))]) (n := 4) (Nat.le_of_ble_eq_true rfl)
  rw [lg_entry_eq]
  generalize (lg_sl ([.ref h0, .int (iZ (t)), .int (iZ (u1))]) ++ List.replicate (4 - (lg_sl ([.ref h0, .int (iZ (t)), .int (iZ (u1))])).length) Slot.unset).toArray = ls at hl ⊢
  have hl : lv_has ls 4 [(0, .ref h0), (1, .int (iZ (t))), (2, .int (iZ (u1)))] := hl
  have hT0 := hT.1
  have hT2 := hT.2.1
  have hU0 := hU.1
  have hU2 := hU.2.1
  refine lv_aload_n hx hb dX10_areSame_0 rfl (lv_at hl 0 rfl) ?_
  refine fz_get (D := (dC, dI)) (ci := 10) (v := .ref (h0 + 719)) (C := RX10) (T := TX10) (N := 53) hx hb hts inG10 hown hK hP (k := 0) (by decide) (F := mF h0) mE_obj rfl 21 (by decide) (hts _ k1187) (fun _ h9 => h9) rfl dX10_areSame_1 ?_
  refine lv_iload_n hx hb dX10_areSame_4 rfl (lv_at hl 1 rfl) ?_
  refine fz_ld (k := 719) (n := 70) hx hb hK hP 0 (by decide) mE_nodes rfl ⟨by omega, by omega⟩ (by decide) dX10_areSame_5 ?_
  refine lv_aload_n hx hb dX10_areSame_6 rfl (lv_at hl 0 rfl) ?_
  refine fz_get (D := (dC, dI)) (ci := 10) (v := .ref (h0 + 719)) (C := RX10) (T := TX10) (N := 53) hx hb hts inG10 hown hK hP (k := 0) (by decide) (F := mF h0) mE_obj rfl 21 (by decide) (hts _ k1187) (fun _ h9 => h9) rfl dX10_areSame_7 ?_
  refine lv_iload_n hx hb dX10_areSame_10 rfl (lv_at hl 2 rfl) ?_
  refine fz_ld (k := 719) (n := 70) hx hb hK hP 0 (by decide) mE_nodes rfl ⟨by omega, by omega⟩ (by decide) dX10_areSame_11 ?_
  refine fz_icmp_eq (tgt := 17) (by constructor <;> omega) (by constructor <;> omega) hx hb dX10_areSame_12 (by decide) (fun c12_ => ?_) (fun c12_ => ?_)
  · refine lv_iconst (v := iZ 0) hx hb dX10_areSame_17 rfl ?_
    refine lv_istore_n (lv' := [(3, .int (iZ (0))), (0, .ref h0), (1, .int (iZ (t))), (2, .int (iZ (u1)))]) hx hb dX10_areSame_18 rfl hl (by decide) rfl (fun ls hl => ?_)
    refine LX10_areSame_19 hx hb hml hown hts hK (Nat.le_of_ble_eq_true rfl) (Nat.le_of_ble_eq_true rfl) (Nat.le_of_ble_eq_true rfl) (Nat.le_of_ble_eq_true rfl) (μ) (t) (u1) (by assumption) (by assumption) (by assumption) (by assumption) (by omega) ?_ ?_ _ (0) μ s.heap [] ls (by rfl) (by omega) (Nat.lt_succ_self _) hP hS (lv_sub hl [0, 3, 2, 1] rfl)
    · intro i_1 μ1_ H locs ls q2_1 hP hS hl
      have hl : lv_has ls 4 [] := hl
      refine lv_iconst (v := iZ 0) hx hb dX10_areSame_98 rfl ?_
      exact W.zret (v := iZ (0)) hx hb hr (by decide +kernel) (fun t9 ht9 hW9 => ⟨⟨iZ (0), (μ1_, 0), rfl, ⟨rfl, (by
                    dsimp only
                    exact ⟨q2_1, Or.inl rfl⟩)⟩, by rw [ht9]; exact hP, va_K.moved hW9.alike hK⟩, hS.F ht9⟩) hS.2.2 dX10_areSame_99
    · intro i_2 μ2_ H locs ls q1_2 hP hS hl
      have hl : lv_has ls 4 [] := hl
      refine lv_iconst (v := iZ 1) hx hb dX10_areSame_106 rfl ?_
      exact W.zret (v := iZ (1)) hx hb hr (by decide +kernel) (fun t9 ht9 hW9 => ⟨⟨iZ (1), (μ2_, 1), rfl, ⟨rfl, (by
                    dsimp only
                    exact ⟨q1_2, Or.inr rfl⟩)⟩, by rw [ht9]; exact hP, va_K.moved hW9.alike hK⟩, hS.F ht9⟩) hS.2.2 dX10_areSame_107
  · refine lv_iconst (v := iZ 0) hx hb dX10_areSame_15 rfl ?_
    exact W.zret (v := iZ (0)) hx hb hr (by decide +kernel) (fun t9 ht9 hW9 => ⟨⟨iZ (0), (μ, 0), rfl, ⟨rfl, (by
                dsimp only
                exact ⟨rfl, Or.inl rfl⟩)⟩, by rw [ht9]; exact hP, va_K.moved hW9.alike hK⟩, hS.F ht9⟩) hS.2.2 dX10_areSame_16

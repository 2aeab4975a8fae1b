set_option maxRecDepth 100000 in
theorem k13 : (Cond.initialized "PageSkeletonModel") ∈ wsG := wsG_a1 13 rfl rfl
set_option maxRecDepth 100000 in
theorem k1170 : (Cond.fieldLink "PageSkeletonModel" (142 : Nat) "PageSkeletonModel" "at" "I") ∈ wsG := wsG_a5 210 rfl rfl
set_option maxRecDepth 100000 in
theorem k1193 : (Cond.fieldLink "PageSkeletonModel" (149 : Nat) "PageSkeletonModel" "letters" "I") ∈ wsG := wsG_a5 233 rfl rfl
set_option maxRecDepth 100000 in
theorem k1194 : (Cond.fieldLink "PageSkeletonModel" (152 : Nat) "PageSkeletonModel" "longs" "I") ∈ wsG := wsG_a5 234 rfl rfl
set_option maxRecDepth 100000 in
theorem k1350 : (Cond.methodLink "PageSkeletonModel" (145 : Nat) ({ cls := "PageSkeletonModel", name := "byteAt", desc := "(I)I" } : MethodName)) ∈ wsG := wsG_a6 150 rfl rfl
set_option maxRecDepth 100000 in
theorem k1352 : (Cond.instanceMethod ({ cls := "PageSkeletonModel", name := "byteAt", desc := "(I)I" } : MethodName)) ∈ wsG := wsG_a6 152 rfl rfl
set_option maxRecDepth 100000 in
theorem k1353 : (Cond.code ({ cls := "PageSkeletonModel", name := "byteAt", desc := "(I)I" } : MethodName) prog_12_method_8_code (2 : Nat) (Option.some FieldType.int)) ∈ wsG := wsG_a6 153 rfl rfl
set_option maxRecDepth 100000 in
theorem k1354 : (Cond.methodLink "PageSkeletonModel" (155 : Nat) ({ cls := "PageSkeletonModel", name := "isSmall", desc := "(I)Z" } : MethodName)) ∈ wsG := wsG_a6 154 rfl rfl
set_option maxRecDepth 100000 in
theorem k1355 : (Cond.static ({ cls := "PageSkeletonModel", name := "isSmall", desc := "(I)Z" } : MethodName)) ∈ wsG := wsG_a6 155 rfl rfl
set_option maxRecDepth 100000 in
theorem k1356 : (Cond.code ({ cls := "PageSkeletonModel", name := "isSmall", desc := "(I)Z" } : MethodName) prog_12_method_9_code (1 : Nat) (Option.some FieldType.boolean)) ∈ wsG := wsG_a6 156 rfl rfl
set_option maxRecDepth 100000 in
theorem k1357 : (Cond.methodLink "PageSkeletonModel" (159 : Nat) ({ cls := "PageSkeletonModel", name := "wrong", desc := "(II)V" } : MethodName)) ∈ wsG := wsG_a6 157 rfl rfl
set_option maxRecDepth 100000 in
theorem k1359 : (Cond.instanceMethod ({ cls := "PageSkeletonModel", name := "wrong", desc := "(II)V" } : MethodName)) ∈ wsG := wsG_a6 159 rfl rfl
set_option maxRecDepth 100000 in
theorem k1360 : (Cond.code ({ cls := "PageSkeletonModel", name := "wrong", desc := "(II)V" } : MethodName) prog_12_method_10_code (3 : Nat) (Option.none : Option Jvm.ClassFile.FieldType)) ∈ wsG := wsG_a6 160 rfl rfl
set_option maxRecDepth 100000 in
theorem ks_yX10_byteAt : Cond.selects RX10 yX10_byteAt yX10_byteAt ∈ wsG := wsG_p 50 rfl rfl
set_option maxRecDepth 100000 in
theorem ks_yX10_wrong : Cond.selects RX10 yX10_wrong yX10_wrong ∈ wsG := wsG_p 51 rfl rfl
theorem dX10_blanks_0 : decode cX10_blanks 0 = .ok (.aload_n 0, 1) := by decide +kernel
theorem dX10_blanks_1 : decode cX10_blanks 1 = .ok (.aload_n 0, 1) := by decide +kernel
theorem dX10_blanks_2 : decode cX10_blanks 2 = .ok (.getfield 142, 3) := by decide +kernel
theorem dX10_blanks_5 : decode cX10_blanks 5 = .ok (.invokevirtual 145, 3) := by decide +kernel
theorem dX10_blanks_8 : decode cX10_blanks 8 = .ok (.bipush 32, 2) := by decide +kernel
theorem dX10_blanks_10 : decode cX10_blanks 10 = .ok (.if_icmp .ne 16, 3) := by decide +kernel
theorem dX10_blanks_13 : decode cX10_blanks 13 = .ok (.aload_n 0, 1) := by decide +kernel
theorem dX10_blanks_14 : decode cX10_blanks 14 = .ok (.dup, 1) := by decide +kernel
theorem dX10_blanks_15 : decode cX10_blanks 15 = .ok (.getfield 142, 3) := by decide +kernel
theorem dX10_blanks_18 : decode cX10_blanks 18 = .ok (.iconst 1, 1) := by decide +kernel
theorem dX10_blanks_19 : decode cX10_blanks 19 = .ok (.iadd, 1) := by decide +kernel
theorem dX10_blanks_20 : decode cX10_blanks 20 = .ok (.putfield 142, 3) := by decide +kernel
theorem dX10_blanks_23 : decode cX10_blanks 23 = .ok (.goto (-23), 3) := by decide +kernel
theorem dX10_blanks_26 : decode cX10_blanks 26 = .ok (.aload_n 0, 1) := by decide +kernel
theorem dX10_blanks_27 : decode cX10_blanks 27 = .ok (.aload_n 0, 1) := by decide +kernel
theorem dX10_blanks_28 : decode cX10_blanks 28 = .ok (.getfield 142, 3) := by decide +kernel
theorem dX10_blanks_31 : decode cX10_blanks 31 = .ok (.invokevirtual 145, 3) := by decide +kernel
theorem dX10_blanks_34 : decode cX10_blanks 34 = .ok (.ireturn, 1) := by decide +kernel
theorem dX10_readsName_0 : decode cX10_readsName 0 = .ok (.aload_n 0, 1) := by decide +kernel
theorem dX10_readsName_1 : decode cX10_readsName 1 = .ok (.iconst 0, 1) := by decide +kernel
theorem dX10_readsName_2 : decode cX10_readsName 2 = .ok (.putfield 149, 3) := by decide +kernel
theorem dX10_readsName_5 : decode cX10_readsName 5 = .ok (.aload_n 0, 1) := by decide +kernel
theorem dX10_readsName_6 : decode cX10_readsName 6 = .ok (.iconst 0, 1) := by decide +kernel
theorem dX10_readsName_7 : decode cX10_readsName 7 = .ok (.putfield 152, 3) := by decide +kernel
theorem dX10_readsName_10 : decode cX10_readsName 10 = .ok (.aload_n 0, 1) := by decide +kernel
theorem dX10_readsName_11 : decode cX10_readsName 11 = .ok (.aload_n 0, 1) := by decide +kernel
theorem dX10_readsName_12 : decode cX10_readsName 12 = .ok (.getfield 142, 3) := by decide +kernel
theorem dX10_readsName_15 : decode cX10_readsName 15 = .ok (.invokevirtual 145, 3) := by decide +kernel
theorem dX10_readsName_18 : decode cX10_readsName 18 = .ok (.invokestatic 155, 3) := by decide +kernel
theorem dX10_readsName_21 : decode cX10_readsName 21 = .ok (.ifCond .ne 12, 3) := by decide +kernel
theorem dX10_readsName_24 : decode cX10_readsName 24 = .ok (.aload_n 0, 1) := by decide +kernel
theorem dX10_readsName_25 : decode cX10_readsName 25 = .ok (.iconst 1, 1) := by decide +kernel
theorem dX10_readsName_26 : decode cX10_readsName 26 = .ok (.aload_n 0, 1) := by decide +kernel
theorem dX10_readsName_27 : decode cX10_readsName 27 = .ok (.getfield 142, 3) := by decide +kernel
theorem dX10_readsName_30 : decode cX10_readsName 30 = .ok (.invokevirtual 159, 3) := by decide +kernel
theorem dX10_readsName_33 : decode cX10_readsName 33 = .ok (.aload_n 0, 1) := by decide +kernel
theorem dX10_readsName_34 : decode cX10_readsName 34 = .ok (.getfield 136, 3) := by decide +kernel
theorem dX10_readsName_37 : decode cX10_readsName 37 = .ok (.ifCond .ne 83, 3) := by decide +kernel
theorem dX10_readsName_40 : decode cX10_readsName 40 = .ok (.aload_n 0, 1) := by decide +kernel
theorem dX10_readsName_41 : decode cX10_readsName 41 = .ok (.aload_n 0, 1) := by decide +kernel
theorem dX10_readsName_42 : decode cX10_readsName 42 = .ok (.getfield 142, 3) := by decide +kernel
theorem dX10_readsName_45 : decode cX10_readsName 45 = .ok (.invokevirtual 145, 3) := by decide +kernel
theorem dX10_readsName_48 : decode cX10_readsName 48 = .ok (.invokestatic 155, 3) := by decide +kernel
theorem dX10_readsName_51 : decode cX10_readsName 51 = .ok (.ifCond .eq 69, 3) := by decide +kernel
theorem dX10_readsName_54 : decode cX10_readsName 54 = .ok (.aload_n 0, 1) := by decide +kernel
theorem dX10_readsName_55 : decode cX10_readsName 55 = .ok (.getfield 152, 3) := by decide +kernel
theorem dX10_readsName_58 : decode cX10_readsName 58 = .ok (.bipush 6, 2) := by decide +kernel
theorem dX10_readsName_60 : decode cX10_readsName 60 = .ok (.if_icmp .ne 12, 3) := by decide +kernel
theorem dX10_readsName_63 : decode cX10_readsName 63 = .ok (.aload_n 0, 1) := by decide +kernel
theorem dX10_readsName_64 : decode cX10_readsName 64 = .ok (.iconst 1, 1) := by decide +kernel
theorem dX10_readsName_65 : decode cX10_readsName 65 = .ok (.aload_n 0, 1) := by decide +kernel
theorem dX10_readsName_66 : decode cX10_readsName 66 = .ok (.getfield 142, 3) := by decide +kernel
theorem dX10_readsName_69 : decode cX10_readsName 69 = .ok (.invokevirtual 159, 3) := by decide +kernel
theorem dX10_readsName_72 : decode cX10_readsName 72 = .ok (.aload_n 0, 1) := by decide +kernel
theorem dX10_readsName_73 : decode cX10_readsName 73 = .ok (.bipush 27, 2) := by decide +kernel
theorem dX10_readsName_75 : decode cX10_readsName 75 = .ok (.aload_n 0, 1) := by decide +kernel
theorem dX10_readsName_76 : decode cX10_readsName 76 = .ok (.getfield 149, 3) := by decide +kernel
theorem dX10_readsName_79 : decode cX10_readsName 79 = .ok (.imul, 1) := by decide +kernel
theorem dX10_readsName_80 : decode cX10_readsName 80 = .ok (.aload_n 0, 1) := by decide +kernel
theorem dX10_readsName_81 : decode cX10_readsName 81 = .ok (.aload_n 0, 1) := by decide +kernel
theorem dX10_readsName_82 : decode cX10_readsName 82 = .ok (.getfield 142, 3) := by decide +kernel
theorem dX10_readsName_85 : decode cX10_readsName 85 = .ok (.invokevirtual 145, 3) := by decide +kernel
theorem dX10_readsName_88 : decode cX10_readsName 88 = .ok (.iadd, 1) := by decide +kernel
theorem dX10_readsName_89 : decode cX10_readsName 89 = .ok (.bipush 97, 2) := by decide +kernel
theorem dX10_readsName_91 : decode cX10_readsName 91 = .ok (.isub, 1) := by decide +kernel
theorem dX10_readsName_92 : decode cX10_readsName 92 = .ok (.iconst 1, 1) := by decide +kernel
theorem dX10_readsName_93 : decode cX10_readsName 93 = .ok (.iadd, 1) := by decide +kernel
theorem dX10_readsName_94 : decode cX10_readsName 94 = .ok (.putfield 149, 3) := by decide +kernel
theorem dX10_readsName_97 : decode cX10_readsName 97 = .ok (.aload_n 0, 1) := by decide +kernel
theorem dX10_readsName_98 : decode cX10_readsName 98 = .ok (.dup, 1) := by decide +kernel
theorem dX10_readsName_99 : decode cX10_readsName 99 = .ok (.getfield 152, 3) := by decide +kernel
theorem dX10_readsName_102 : decode cX10_readsName 102 = .ok (.iconst 1, 1) := by decide +kernel
theorem dX10_readsName_103 : decode cX10_readsName 103 = .ok (.iadd, 1) := by decide +kernel
theorem dX10_readsName_104 : decode cX10_readsName 104 = .ok (.putfield 152, 3) := by decide +kernel
theorem dX10_readsName_107 : decode cX10_readsName 107 = .ok (.aload_n 0, 1) := by decide +kernel
theorem dX10_readsName_108 : decode cX10_readsName 108 = .ok (.dup, 1) := by decide +kernel
theorem dX10_readsName_109 : decode cX10_readsName 109 = .ok (.getfield 142, 3) := by decide +kernel
theorem dX10_readsName_112 : decode cX10_readsName 112 = .ok (.iconst 1, 1) := by decide +kernel
theorem dX10_readsName_113 : decode cX10_readsName 113 = .ok (.iadd, 1) := by decide +kernel
theorem dX10_readsName_114 : decode cX10_readsName 114 = .ok (.putfield 142, 3) := by decide +kernel
theorem dX10_readsName_117 : decode cX10_readsName 117 = .ok (.goto (-84), 3) := by decide +kernel
theorem dX10_readsName_120 : decode cX10_readsName 120 = .ok (.return_, 1) := by decide +kernel
theorem dX10_readsSort_0 : decode cX10_readsSort 0 = .ok (.aload_n 0, 1) := by decide +kernel
theorem dX10_readsSort_1 : decode cX10_readsSort 1 = .ok (.aload_n 0, 1) := by decide +kernel
theorem dX10_readsSort_2 : decode cX10_readsSort 2 = .ok (.getfield 142, 3) := by decide +kernel
theorem dX10_readsSort_5 : decode cX10_readsSort 5 = .ok (.invokevirtual 145, 3) := by decide +kernel
theorem dX10_readsSort_8 : decode cX10_readsSort 8 = .ok (.invokestatic 155, 3) := by decide +kernel
theorem dX10_readsSort_11 : decode cX10_readsSort 11 = .ok (.ifCond .eq 5, 3) := by decide +kernel
theorem dX10_readsSort_14 : decode cX10_readsSort 14 = .ok (.iconst 2, 1) := by decide +kernel
theorem dX10_readsSort_15 : decode cX10_readsSort 15 = .ok (.ireturn, 1) := by decide +kernel
theorem dX10_readsSort_16 : decode cX10_readsSort 16 = .ok (.aload_n 0, 1) := by decide +kernel
theorem dX10_readsSort_17 : decode cX10_readsSort 17 = .ok (.dup, 1) := by decide +kernel
theorem dX10_readsSort_18 : decode cX10_readsSort 18 = .ok (.getfield 142, 3) := by decide +kernel
theorem dX10_readsSort_21 : decode cX10_readsSort 21 = .ok (.iconst 1, 1) := by decide +kernel
theorem dX10_readsSort_22 : decode cX10_readsSort 22 = .ok (.iadd, 1) := by decide +kernel
theorem dX10_readsSort_23 : decode cX10_readsSort 23 = .ok (.putfield 142, 3) := by decide +kernel
theorem dX10_readsSort_26 : decode cX10_readsSort 26 = .ok (.aload_n 0, 1) := by decide +kernel
theorem dX10_readsSort_27 : decode cX10_readsSort 27 = .ok (.aload_n 0, 1) := by decide +kernel
theorem dX10_readsSort_28 : decode cX10_readsSort 28 = .ok (.getfield 142, 3) := by decide +kernel
theorem dX10_readsSort_31 : decode cX10_readsSort 31 = .ok (.invokevirtual 145, 3) := by decide +kernel
theorem dX10_readsSort_34 : decode cX10_readsSort 34 = .ok (.bipush 47, 2) := by decide +kernel
theorem dX10_readsSort_36 : decode cX10_readsSort 36 = .ok (.if_icmp .eq 5, 3) := by decide +kernel
theorem dX10_readsSort_39 : decode cX10_readsSort 39 = .ok (.iconst 0, 1) := by decide +kernel
theorem dX10_readsSort_40 : decode cX10_readsSort 40 = .ok (.ireturn, 1) := by decide +kernel
theorem dX10_readsSort_41 : decode cX10_readsSort 41 = .ok (.aload_n 0, 1) := by decide +kernel
theorem dX10_readsSort_42 : decode cX10_readsSort 42 = .ok (.dup, 1) := by decide +kernel
theorem dX10_readsSort_43 : decode cX10_readsSort 43 = .ok (.getfield 142, 3) := by decide +kernel
theorem dX10_readsSort_46 : decode cX10_readsSort 46 = .ok (.iconst 1, 1) := by decide +kernel
theorem dX10_readsSort_47 : decode cX10_readsSort 47 = .ok (.iadd, 1) := by decide +kernel
theorem dX10_readsSort_48 : decode cX10_readsSort 48 = .ok (.putfield 142, 3) := by decide +kernel
theorem dX10_readsSort_51 : decode cX10_readsSort 51 = .ok (.iconst 1, 1) := by decide +kernel
theorem dX10_readsSort_52 : decode cX10_readsSort 52 = .ok (.ireturn, 1) := by decide +kernel
def okB (μ : va_M) : Prop := 0 ≤ μ 0 3 ∧ μ 0 3 ≤ 400 ∧ ∀ j : Nat, j < 400 → 0 ≤ μ 2 j ∧ μ 2 j ≤ 255
def sm (x : Int) : Prop := 97 ≤ x ∧ x ≤ 122
theorem bA_rng {μ : va_M} {k : Int} (h : okB μ) (hk : 0 ≤ k) : -1 ≤ bA μ k ∧ bA μ k ≤ 255 := by
  unfold bA
  split
  · omega
  · have := h.2.2 k.toNat (by have := h.2.1; omega)
    omega
theorem bA_end {μ : va_M} {k : Int} (h : bA μ k ≠ -1) : k < μ 0 3 := by
  unfold bA at h
  split at h
  · exact absurd rfl h
  · omega
theorem bA_fr {P : Nat → Nat → Prop} {μ u : va_M} {k : Int} (h : fr P μ u) (h3 : ¬ P 0 3) (h2 : ∀ j, ¬ P 2 j) : bA u k = bA μ k := by
  unfold bA
  rw [h 0 3 h3, h 2 _ (h2 _)]
theorem okB_fr {P : Nat → Nat → Prop} {μ u : va_M} (h : fr P μ u) (h3 : ¬ P 0 3) (h2 : ∀ j, ¬ P 2 j) (ho : okB μ) : okB u := by
  unfold okB
  rw [h 0 3 h3]
  exact ⟨ho.1, ho.2.1, fun j hj => by rw [h 2 _ (h2 _)]; exact ho.2.2 j hj⟩
/-- what so many letters from a place on come to -/
def nmV (μ : va_M) (a : Int) : Nat → Int
  | 0 => 0
  | k + 1 => 27 * nmV μ a k + bA μ (a + k) - 96
theorem nmV_rng {μ : va_M} {a : Int} : ∀ L : Nat, (∀ i : Nat, i < L → sm (bA μ (a + i))) → 0 ≤ nmV μ a L ∧ nmV μ a L + 1 ≤ 27 ^ L
  | 0, _ => by simp [nmV]
  | L + 1, h => by
    have h1 := nmV_rng L (fun i hi => h i (Nat.lt_succ_of_lt hi))
    have h2 := h L (Nat.lt_succ_self L)
    unfold sm at h2
    rw [nmV, Int.pow_succ]
    omega
set_option maxHeartbeats 4000000 in
set_option maxRecDepth 100000 in
theorem LX10_blanks_0 {p : Program} {l : Launch} {e : Env} {R : Room} {s : State} {m : MethodId} {args : Array Value} {below : List Frame} {meth : Method} {c : Code} {cells slots : Nat} {Q : State → Prop} {dC : Nat → ClassId} {dI : Nat → Nat → Nat} {h0 : Nat} {cI cZ cII cIII : ClassId} (hx : p.tables.exec = Jvm.exec) (hb : c.code = cX10_blanks) (hml : c.maxLocals = 1) (hown : s.vm.findClass RX10 = some m.cls) (hts : ∀ w ∈ wsG, w.before args s = true) (hK : va_K (dC, dI) vwCl (mT cI cZ cII cIII) s) (hRf : 2 ≤ R.frames) (hRl : 35 ≤ R.locals) (hRc : cells ≤ R.cells) (hRs : slots ≤ R.slots) (μ0 : va_M) (a : Int) (ha : 0 ≤ a) (hexit26 : ∀  (μ : va_M) (H : Heap) (locs : List Loc) (ls : Array Slot), (okB μ) → (a ≤ μ 0 4 ∧ μ 0 4 ≤ μ 0 3) → (fr (fun x y => x = 0 ∧ y = 4) μ0 μ) → (∀ j : Int, a ≤ j → j < μ 0 4 → bA μ0 j = 32) → (bA μ (μ 0 4) ≠ 32) → va_P (dC, dI) vwCl (fw (mE cI cZ cII cIII h0) h0 6325 μ) H → va_S (fA h0 6325 s.heap.size) s.heap H locs → lv_has ls 1 [(0, .ref h0)] → W p l e R s m args below meth c H locs cells slots Q (F0 m 26 ls [])) :
    ∀ (n9 : Nat)  (μ : va_M) (H : Heap) (locs : List Loc) (ls : Array Slot), (okB μ) → (a ≤ μ 0 4 ∧ μ 0 4 ≤ μ 0 3) → (fr (fun x y => x = 0 ∧ y = 4) μ0 μ) → (∀ j : Int, a ≤ j → j < μ 0 4 → bA μ0 j = 32) → (401 - μ 0 4).toNat < n9 → va_P (dC, dI) vwCl (fw (mE cI cZ cII cIII h0) h0 6325 μ) H → va_S (fA h0 6325 s.heap.size) s.heap H locs → lv_has ls 1 [(0, .ref h0)] → W p l e R s m args below meth c H locs cells slots Q (F0 m 0 ls []) := by
  intro n9
  induction n9 with
  | zero => intro  μ H locs ls hB h4 hfr hbl hm9 hP hS hl; exact absurd hm9 (Nat.not_lt_zero _)
  | succ n9 ih =>
    intro  μ H locs ls hB h4 hfr hbl hm9 hP hS hl
    have hB1 := hB.1
    have hB2 := hB.2.1
    refine lv_aload_n hx hb dX10_blanks_0 rfl (lv_at hl 0 rfl) ?_
    refine lv_aload_n hx hb dX10_blanks_1 rfl (lv_at hl 0 rfl) ?_
    refine fz_get (D := (dC, dI)) (ci := 10) (v := .int (iZ (μ 0 4))) (C := RX10) (T := TX10) (N := 53) hx hb hts inG10 hown hK hP (k := 0) (by decide) (F := mF h0) mE_obj rfl 4 (by decide) (hts _ k1170) (fun _ h9 => h9) rfl dX10_blanks_2 ?_
    refine va_calli (va_runV (As := [.int (iZ (μ 0 4))]) (rest := []) ⟨hx, hb, hml, hown, hts⟩ (m_byteAt l dC dI cI cZ cII cIII h0 H.size μ (μ 0 4) (by first | omega | exact ⟨by have := hB.1; omega, by have := hB.2.1; omega⟩ | exact ⟨hB.1, hB.2.1⟩) (by first | omega | exact ⟨by have := hB.1; omega, by have := hB.2.1; omega⟩ | exact ⟨hB.1, hB.2.1⟩) (by first | omega | exact ⟨by have := hB.1; omega, by have := hB.2.1; omega⟩ | exact ⟨hB.1, hB.2.1⟩)) (cwV 1 hts (gV_G k1350 k1352 ks_yX10_byteAt k13 k1353) rfl rfl rfl (by decide +kernel) ⟨by show 1 + 1 ≤ _; omega, by show 8 + (2 + 11) + (14) ≤ _; omega⟩) ⟨fun a U g mk q => by obtain ⟨q0, q1, qP, qK⟩ := q; exact ⟨q0, q1, qP, va_K.moved (u := U) (U := U.calling g mk a) (Vm.Alike.refl U.vm) qK⟩, va_recv hK hP (ci := 10) (q0 := 0) rfl ((fw_get (by decide)).trans (by rw [mE_obj]; rfl)), fun U hU hW => ⟨rfl, by rw [hU], by rw [hU]; exact hP, va_K.moved hW.alike hK⟩⟩ rfl rfl hl.1 rfl (lv_room (Nat.le_of_ble_eq_true rfl)) dX10_blanks_5 ⟨hRc, hRs⟩) hS (fun q _ h => fA_le hS.1 q h) (fA_le hS.1) (fun r9 u9 t9 H1 locs ht9 hvm9 hw9 hB9 hz9 hk9 hS => ?_)
    obtain ⟨μ1, r2⟩ := u9
    obtain ⟨hP, -⟩ := hB9
    rw [ht9] at hP
    generalize H1 = H at hP hS ⊢
    obtain ⟨e9, hw9⟩ := hw9
    have e9 : r9 = iZ r2 := e9
    subst e9
    simp only at hP hw9
    have hμ1 := hw9; clear hw9
    rw [hμ1.1] at hP; have hμ1 := hμ1.2
    have hr1 := bA_rng (k := μ 0 4) hB (by omega)
    refine lv_bipush (v := iZ 32) hx hb dX10_blanks_8 rfl ?_
    refine fz_icmp_ne (tgt := 26) (by constructor <;> omega) (by decide) hx hb dX10_blanks_10 (by decide) (fun c10_ => ?_) (fun c10_ => ?_)
    · exact hexit26  μ H locs ls (by exact hB) (by omega) (by exact hfr) (by exact hbl) (by omega) hP hS (lv_sub hl [0] rfl)
    · refine lv_aload_n hx hb dX10_blanks_13 rfl (lv_at hl 0 rfl) ?_
      refine lv_dup hx hb dX10_blanks_14 rfl ?_
      refine fz_get (D := (dC, dI)) (ci := 10) (v := .int (iZ (μ 0 4))) (C := RX10) (T := TX10) (N := 53) hx hb hts inG10 hown hK hP (k := 0) (by decide) (F := mF h0) mE_obj rfl 4 (by decide) (hts _ k1170) (fun _ h9 => h9) rfl dX10_blanks_15 ?_
      refine lv_iconst (v := iZ 1) hx hb dX10_blanks_18 rfl ?_
      refine lv_iadd hx hb dX10_blanks_19 ?_
      refine lv_topi (fun x9 ex9 => ?_)
      obtain rfl : x9 = iZ ((μ 0 4) + 1) := ex9.trans (iZ_add _ _)
      refine fz_put (D := (dC, dI)) (ci := 10) (ty := .int) (z := ((μ 0 4) + 1)) (C := RX10) (T := TX10) (N := 53) hx hb hts inG10 tyX10 tyX10_ok nmX10 hown hK hP fA_in hS (k := 0) (by decide) (F := mF h0) mE_obj rfl 4 (by decide) (hts _ k1170) (fun _ h9 => h9) rfl (by decide +kernel) rfl rfl (fun _ => Nat.le_of_ble_eq_true rfl) (fun _ _ => rfl) dX10_blanks_20 (fun H locs hP hS => ?_)
      obtain ⟨μ3, eμ3⟩ : ∃ x : va_M, x = uz μ 0 4 ((μ 0 4) + 1) := ⟨_, rfl⟩
      rw [← eμ3] at hP
      refine lv_goto (tgt := 0) hx hb dX10_blanks_23 (by decide) ?_
      exact ih  μ3 H locs ls (by
                    subst eμ3
                    exact okB_fr (fr_uz fr_rfl ⟨rfl, rfl⟩) (P := (fun x y => x = 0 ∧ y = 4)) (by simp) (by simp) hB) (by
                    have := bA_end (k := μ 0 4) (μ := μ) (by omega)
                    subst eμ3
                    rw [uz_s, uz_n (by omega)]
                    omega) (by
                    subst eμ3
                    exact fr_uz hfr ⟨rfl, rfl⟩) (by
                    subst eμ3
                    rw [uz_s]
                    intro j h1 h2
                    by_cases h3 : j < μ 0 4
                    · exact hbl j h1 h3
                    · rw [← bA_fr hfr (by simp) (by simp), show j = μ 0 4 by omega]
                      omega) (by have := bA_end (k := μ 0 4) (μ := μ) (by omega); subst eμ3; rw [uz_s]; omega) hP hS (lv_sub hl [0] rfl)
set_option maxHeartbeats 4000000 in
set_option maxRecDepth 100000 in
theorem m_blanks (l : Launch) (dC : Nat → ClassId) (dI : Nat → Nat → Nat) (cI cZ cII cIII : ClassId) (h0 sz : Nat) (μ : va_M)  (hB : okB μ) (h4 : 0 ≤ μ 0 4 ∧ μ 0 4 ≤ μ 0 3) : Met l yX10_blanks (Cond.code yX10_blanks cX10_blanks 1 (some .int) :: wsG) ({ frames := 2, cells := 0, slots := 0, locals := 35 } : Room) (va_Pc [.ref h0] (fun U => U.heap.size = sz ∧ va_P (dC, dI) vwCl (fw (mE cI cZ cII cIII h0) h0 6325 μ) U.heap ∧ va_K (dC, dI) vwCl (mT cI cZ cII cIII) U)) (va_Qi (fun (r9 : Int32) (u : va_M × Int) => r9 = iZ u.2 ∧ (fun (u : va_M) (r : Int) => fr (fun x y => x = 0 ∧ y = 4) μ u ∧ μ 0 4 ≤ u 0 4 ∧ u 0 4 ≤ u 0 3 ∧ (∀ j : Int, μ 0 4 ≤ j → j < u 0 4 → bA μ j = 32) ∧ r ≠ 32 ∧ r = bA u (u 0 4)) u.1 u.2) (fun u t => va_P (dC, dI) vwCl (fw (mE cI cZ cII cIII h0) h0 6325 u.1) t.heap ∧ va_K (dC, dI) vwCl (mT cI cZ cII cIII) t) (fA h0 6325 sz)) 0 0 (fA h0 6325 sz) := by
  refine Met.ofW (cc := cX10_blanks) (maxL := 1) (ret := (some .int)) (by decide) rfl ?_
  intro p e s m args below meth c s₁ B hml hv
  obtain ⟨rfl, hsz, hP, hK⟩ := hv
  have hx := B.exec
  have hb := B.bytes
  have hr := B.returns
  have hts : ∀ w ∈ wsG, w.before _ s = true := hG_of (atoms_spec (ws := (Cond.code yX10_blanks cX10_blanks 1 (some .int) :: wsG)) B.pre)
  have hown : s.vm.findClass RX10 = some m.cls := findClass_of_methodNamed B.named
  have hlocks := B.notSynchronized
  subst hsz
  have hS : va_S (fA h0 6325 s.heap.size) s.heap s.heap [] := va_S.rf
  have hl := lv_entry ([.ref h0]) (n := 1) (Nat.le_of_ble_eq_true rfl)
  rw [lg_entry_eq]
  generalize (lg_sl ([.ref h0]) ++ List.replicate (1 - (lg_sl ([.ref h0])).length) Slot.unset).toArray = ls at hl ⊢
  have hl : lv_has ls 1 [(0, .ref h0)] := hl
  refine LX10_blanks_0 hx hb hml hown hts hK (Nat.le_of_ble_eq_true rfl) (Nat.le_of_ble_eq_true rfl) (Nat.le_of_ble_eq_true rfl) (Nat.le_of_ble_eq_true rfl) (μ) (μ 0 4) (by exact h4.1) ?_ _  μ s.heap [] ls (by exact hB) (by omega) (by exact fr_rfl) (by intro j h1 h2; omega) (Nat.lt_succ_self _) hP hS (lv_sub hl [0] rfl)
  · intro  μ4_ H locs ls hq0_4 hq1_4 hq2_4 hq3_4 hq4_4 hP hS hl
    have hl : lv_has ls 1 [(0, .ref h0)] := hl
    have hB1 := hq0_4.1
    have hB2 := hq0_4.2.1
    refine lv_aload_n hx hb dX10_blanks_26 rfl (lv_at hl 0 rfl) ?_
    refine lv_aload_n hx hb dX10_blanks_27 rfl (lv_at hl 0 rfl) ?_
    refine fz_get (D := (dC, dI)) (ci := 10) (v := .int (iZ (μ4_ 0 4))) (C := RX10) (T := TX10) (N := 53) hx hb hts inG10 hown hK hP (k := 0) (by decide) (F := mF h0) mE_obj rfl 4 (by decide) (hts _ k1170) (fun _ h9 => h9) rfl dX10_blanks_28 ?_
    refine va_calli (va_runV (As := [.int (iZ (μ4_ 0 4))]) (rest := []) ⟨hx, hb, hml, hown, hts⟩ (m_byteAt l dC dI cI cZ cII cIII h0 H.size μ4_ (μ4_ 0 4) (by first | omega | exact ⟨by have := hB.1; omega, by have := hB.2.1; omega⟩ | exact ⟨hB.1, hB.2.1⟩) (by first | omega | exact ⟨by have := hB.1; omega, by have := hB.2.1; omega⟩ | exact ⟨hB.1, hB.2.1⟩) (by first | omega | exact ⟨by have := hB.1; omega, by have := hB.2.1; omega⟩ | exact ⟨hB.1, hB.2.1⟩)) (cwV 1 hts (gV_G k1350 k1352 ks_yX10_byteAt k13 k1353) rfl rfl rfl (by decide +kernel) ⟨Nat.le_of_ble_eq_true rfl, Nat.le_of_ble_eq_true rfl⟩) ⟨fun a U g mk q => by obtain ⟨q0, q1, qP, qK⟩ := q; exact ⟨q0, q1, qP, va_K.moved (u := U) (U := U.calling g mk a) (Vm.Alike.refl U.vm) qK⟩, va_recv hK hP (ci := 10) (q0 := 0) rfl ((fw_get (by decide)).trans (by rw [mE_obj]; rfl)), fun U hU hW => ⟨rfl, by rw [hU], by rw [hU]; exact hP, va_K.moved hW.alike hK⟩⟩ rfl rfl hl.1 rfl (lv_room (Nat.le_of_ble_eq_true rfl)) dX10_blanks_31 ⟨Nat.le_of_ble_eq_true rfl, Nat.le_of_ble_eq_true rfl⟩) hS (fun q _ h => fA_le hS.1 q h) (fA_le hS.1) (fun r9 u9 t9 H1 locs ht9 hvm9 hw9 hB9 hz9 hk9 hS => ?_)
    obtain ⟨μ5, r6⟩ := u9
    obtain ⟨hP, -⟩ := hB9
    rw [ht9] at hP
    generalize H1 = H at hP hS ⊢
    obtain ⟨e9, hw9⟩ := hw9
    have e9 : r9 = iZ r6 := e9
    subst e9
    simp only at hP hw9
    have hμ5 := hw9; clear hw9
    rw [hμ5.1] at hP; have hμ5 := hμ5.2
    have hr9 := bA_rng (k := μ4_ 0 4) (by first | exact hB | exact hq0_4) (by omega)
    exact W.iret (v := iZ (r6)) hx hb hr (fun t9 ht9 hW9 => ⟨⟨iZ (r6), (μ4_, r6), rfl, ⟨rfl, (by
                dsimp only
                exact ⟨hq2_4, hq1_4.1, hq1_4.2, hq3_4, by rw [hμ5]; exact hq4_4, hμ5⟩)⟩, by rw [ht9]; exact hP, va_K.moved hW9.alike hK⟩, hS.F ht9⟩) hS.2.2 dX10_blanks_34
set_option maxHeartbeats 4000000 in
set_option maxRecDepth 100000 in
theorem m_readsSort (l : Launch) (dC : Nat → ClassId) (dI : Nat → Nat → Nat) (cI cZ cII cIII : ClassId) (h0 sz : Nat) (μ : va_M)  (hB : okB μ) (h4 : 0 ≤ μ 0 4 ∧ μ 0 4 ≤ μ 0 3) (hne : bA μ (μ 0 4) ≠ -1) : Met l yX10_readsSort (Cond.code yX10_readsSort cX10_readsSort 1 (some .int) :: wsG) ({ frames := 2, cells := 0, slots := 0, locals := 35 } : Room) (va_Pc [.ref h0] (fun U => U.heap.size = sz ∧ va_P (dC, dI) vwCl (fw (mE cI cZ cII cIII h0) h0 6325 μ) U.heap ∧ va_K (dC, dI) vwCl (mT cI cZ cII cIII) U)) (va_Qi (fun (r9 : Int32) (u : va_M × Int) => r9 = iZ u.2 ∧ (fun (u : va_M) (r : Int) => (sm (bA μ (μ 0 4)) ∧ u = μ ∧ r = 2) ∨ (¬ sm (bA μ (μ 0 4)) ∧ bA μ (μ 0 4 + 1) ≠ 47 ∧ u = uz μ 0 4 (μ 0 4 + 1) ∧ r = 0) ∨ (¬ sm (bA μ (μ 0 4)) ∧ bA μ (μ 0 4 + 1) = 47 ∧ u = uz (uz μ 0 4 (μ 0 4 + 1)) 0 4 (μ 0 4 + 1 + 1) ∧ r = 1)) u.1 u.2) (fun u t => va_P (dC, dI) vwCl (fw (mE cI cZ cII cIII h0) h0 6325 u.1) t.heap ∧ va_K (dC, dI) vwCl (mT cI cZ cII cIII) t) (fA h0 6325 sz)) 0 0 (fA h0 6325 sz) := by
  refine Met.ofW (cc := cX10_readsSort) (maxL := 1) (ret := (some .int)) (by decide) rfl ?_
  intro p e s m args below meth c s₁ B hml hv
  obtain ⟨rfl, hsz, hP, hK⟩ := hv
  have hx := B.exec
  have hb := B.bytes
  have hr := B.returns
  have hts : ∀ w ∈ wsG, w.before _ s = true := hG_of (atoms_spec (ws := (Cond.code yX10_readsSort cX10_readsSort 1 (some .int) :: wsG)) B.pre)
  have hown : s.vm.findClass RX10 = some m.cls := findClass_of_methodNamed B.named
  have hlocks := B.notSynchronized
  subst hsz
  have hS : va_S (fA h0 6325 s.heap.size) s.heap s.heap [] := va_S.rf
  have hl := lv_entry ([.ref h0]) (n := 1) (Nat.le_of_ble_eq_true rfl)
  rw [lg_entry_eq]
  generalize (lg_sl ([.ref h0]) ++ List.replicate (1 - (lg_sl ([.ref h0])).length) Slot.unset).toArray = ls at hl ⊢
  have hl : lv_has ls 1 [(0, .ref h0)] := hl
  have hB1 := hB.1
  have hB2 := hB.2.1
  have hend := bA_end hne
  refine lv_aload_n hx hb dX10_readsSort_0 rfl (lv_at hl 0 rfl) ?_
  refine lv_aload_n hx hb dX10_readsSort_1 rfl (lv_at hl 0 rfl) ?_
  refine fz_get (D := (dC, dI)) (ci := 10) (v := .int (iZ (μ 0 4))) (C := RX10) (T := TX10) (N := 53) hx hb hts inG10 hown hK hP (k := 0) (by decide) (F := mF h0) mE_obj rfl 4 (by decide) (hts _ k1170) (fun _ h9 => h9) rfl dX10_readsSort_2 ?_
  refine va_calli (va_runV (As := [.int (iZ (μ 0 4))]) (rest := []) ⟨hx, hb, hml, hown, hts⟩ (m_byteAt l dC dI cI cZ cII cIII h0 s.heap.size μ (μ 0 4) (by first | omega | exact ⟨by have := hB.1; omega, by have := hB.2.1; omega⟩ | exact ⟨hB.1, hB.2.1⟩ | assumption) (by first | omega | exact ⟨by have := hB.1; omega, by have := hB.2.1; omega⟩ | exact ⟨hB.1, hB.2.1⟩ | assumption) (by exact ⟨hB.1, hB.2.1⟩)) (cwV 1 hts (gV_G k1350 k1352 ks_yX10_byteAt k13 k1353) rfl rfl rfl (by decide +kernel) ⟨Nat.le_of_ble_eq_true rfl, Nat.le_of_ble_eq_true rfl⟩) ⟨fun a U g mk q => by obtain ⟨q0, q1, qP, qK⟩ := q; exact ⟨q0, q1, qP, va_K.moved (u := U) (U := U.calling g mk a) (Vm.Alike.refl U.vm) qK⟩, va_recv hK hP (ci := 10) (q0 := 0) rfl ((fw_get (by decide)).trans (by rw [mE_obj]; rfl)), fun U hU hW => ⟨rfl, by rw [hU], by rw [hU]; exact hP, va_K.moved hW.alike hK⟩⟩ rfl rfl hl.1 rfl (lv_room (Nat.le_of_ble_eq_true rfl)) dX10_readsSort_5 ⟨Nat.le_of_ble_eq_true rfl, Nat.le_of_ble_eq_true rfl⟩) hS (fun q _ h => fA_le hS.1 q h) (fA_le hS.1) (fun r9 u9 t9 H1 locs ht9 hvm9 hw9 hB9 hz9 hk9 hS => ?_)
  obtain ⟨μ1, r2⟩ := u9
  obtain ⟨hP, -⟩ := hB9
  rw [ht9] at hP
  generalize H1 = H at hP hS ⊢
  obtain ⟨e9, hw9⟩ := hw9
  have e9 : r9 = iZ r2 := e9
  subst e9
  simp only at hP hw9
  have hμ1 := hw9; clear hw9
  rw [hμ1.1] at hP; have hμ1 := hμ1.2
  have hr1 := bA_rng (k := μ 0 4) hB h4.1
  refine va_calli (va_runS (As := [.int (iZ (r2))]) (rest := []) ⟨hx, hb, hml, hown, hts⟩ (m_isSmall l dC dI cI cZ cII cIII h0 H.size μ (r2) (by first | omega | exact ⟨by have := hB.1; omega, by have := hB.2.1; omega⟩ | exact ⟨hB.1, hB.2.1⟩ | assumption)) (cwS 1 hts (gS_G k1354 k1355 k13 k1356) rfl rfl rfl (by decide +kernel) ⟨Nat.le_of_ble_eq_true rfl, Nat.le_of_ble_eq_true rfl⟩) ⟨fun a U g mk q => by obtain ⟨q0, q1, qP, qK⟩ := q; exact ⟨q0, q1, qP, va_K.moved (u := U) (U := U.calling g mk a) (Vm.Alike.refl U.vm) qK⟩, fun U hU hW => ⟨rfl, by rw [hU], by rw [hU]; exact hP, va_K.moved hW.alike hK⟩⟩ rfl rfl hl.1 rfl (lv_room (Nat.le_of_ble_eq_true rfl)) dX10_readsSort_8 ⟨Nat.le_of_ble_eq_true rfl, Nat.le_of_ble_eq_true rfl⟩) hS (fun q _ h => fA_le hS.1 q h) (fA_le hS.1) (fun r9 u9 t9 H1 locs ht9 hvm9 hw9 hB9 hz9 hk9 hS => ?_)
  obtain ⟨μ3, r4⟩ := u9
  obtain ⟨hP, -⟩ := hB9
  rw [ht9] at hP
  generalize H1 = H at hP hS ⊢
  obtain ⟨e9, hw9⟩ := hw9
  have e9 : r9 = iZ r4 := e9
  subst e9
  simp only at hP hw9
  have hμ3 := hw9; clear hw9
  rw [hμ3.1] at hP; have hμ3 := hμ3.2
  refine fz_if_eq (tgt := 16) (by constructor <;> omega) hx hb dX10_readsSort_11 (by decide) (fun c11_ => ?_) (fun c11_ => ?_)
  · refine lv_aload_n hx hb dX10_readsSort_16 rfl (lv_at hl 0 rfl) ?_
    refine lv_dup hx hb dX10_readsSort_17 rfl ?_
    refine fz_get (D := (dC, dI)) (ci := 10) (v := .int (iZ (μ 0 4))) (C := RX10) (T := TX10) (N := 53) hx hb hts inG10 hown hK hP (k := 0) (by decide) (F := mF h0) mE_obj rfl 4 (by decide) (hts _ k1170) (fun _ h9 => h9) rfl dX10_readsSort_18 ?_
    refine lv_iconst (v := iZ 1) hx hb dX10_readsSort_21 rfl ?_
    refine lv_iadd hx hb dX10_readsSort_22 ?_
    refine lv_topi (fun x9 ex9 => ?_)
    obtain rfl : x9 = iZ ((μ 0 4) + 1) := ex9.trans (iZ_add _ _)
    refine fz_put (D := (dC, dI)) (ci := 10) (ty := .int) (z := ((μ 0 4) + 1)) (C := RX10) (T := TX10) (N := 53) hx hb hts inG10 tyX10 tyX10_ok nmX10 hown hK hP fA_in hS (k := 0) (by decide) (F := mF h0) mE_obj rfl 4 (by decide) (hts _ k1170) (fun _ h9 => h9) rfl (by decide +kernel) rfl rfl (fun _ => Nat.le_of_ble_eq_true rfl) (fun _ _ => rfl) dX10_readsSort_23 (fun H locs hP hS => ?_)
    obtain ⟨μ5, eμ5⟩ : ∃ x : va_M, x = uz μ 0 4 ((μ 0 4) + 1) := ⟨_, rfl⟩
    rw [← eμ5] at hP
    refine lv_aload_n hx hb dX10_readsSort_26 rfl (lv_at hl 0 rfl) ?_
    refine lv_aload_n hx hb dX10_readsSort_27 rfl (lv_at hl 0 rfl) ?_
    refine fz_get (D := (dC, dI)) (ci := 10) (v := .int (iZ (μ5 0 4))) (C := RX10) (T := TX10) (N := 53) hx hb hts inG10 hown hK hP (k := 0) (by decide) (F := mF h0) mE_obj rfl 4 (by decide) (hts _ k1170) (fun _ h9 => h9) rfl dX10_readsSort_28 ?_
    rw [show μ5 0 4 = (μ 0 4) + 1 from by rw [eμ5, uz_s]]
    refine va_calli (va_runV (As := [.int (iZ ((μ 0 4) + 1))]) (rest := []) ⟨hx, hb, hml, hown, hts⟩ (m_byteAt l dC dI cI cZ cII cIII h0 H.size μ5 ((μ 0 4) + 1) (by omega) (by first | omega | exact ⟨by have := hB.1; omega, by have := hB.2.1; omega⟩ | exact ⟨hB.1, hB.2.1⟩ | assumption) (by
                subst eμ5
                exact ⟨hB.1, hB.2.1⟩)) (cwV 1 hts (gV_G k1350 k1352 ks_yX10_byteAt k13 k1353) rfl rfl rfl (by decide +kernel) ⟨Nat.le_of_ble_eq_true rfl, Nat.le_of_ble_eq_true rfl⟩) ⟨fun a U g mk q => by obtain ⟨q0, q1, qP, qK⟩ := q; exact ⟨q0, q1, qP, va_K.moved (u := U) (U := U.calling g mk a) (Vm.Alike.refl U.vm) qK⟩, va_recv hK hP (ci := 10) (q0 := 0) rfl ((fw_get (by decide)).trans (by rw [mE_obj]; rfl)), fun U hU hW => ⟨rfl, by rw [hU], by rw [hU]; exact hP, va_K.moved hW.alike hK⟩⟩ rfl rfl hl.1 rfl (lv_room (Nat.le_of_ble_eq_true rfl)) dX10_readsSort_31 ⟨Nat.le_of_ble_eq_true rfl, Nat.le_of_ble_eq_true rfl⟩) hS (fun q _ h => fA_le hS.1 q h) (fA_le hS.1) (fun r9 u9 t9 H1 locs ht9 hvm9 hw9 hB9 hz9 hk9 hS => ?_)
    obtain ⟨μ6, r7⟩ := u9
    obtain ⟨hP, -⟩ := hB9
    rw [ht9] at hP
    generalize H1 = H at hP hS ⊢
    obtain ⟨e9, hw9⟩ := hw9
    have e9 : r9 = iZ r7 := e9
    subst e9
    simp only at hP hw9
    have hμ6 := hw9; clear hw9
    rw [hμ6.1] at hP; have hμ6 := hμ6.2
    have hfr1 : fr (fun x y => x = 0 ∧ y = 4) μ μ5 := by subst eμ5; exact fr_uz fr_rfl ⟨rfl, rfl⟩
    rw [bA_fr hfr1 (by simp) (by simp)] at hμ6
    have hr1 := bA_rng (k := μ 0 4 + 1) hB (by omega)
    refine lv_bipush (v := iZ 47) hx hb dX10_readsSort_34 rfl ?_
    refine fz_icmp_eq (tgt := 41) (by constructor <;> omega) (by decide) hx hb dX10_readsSort_36 (by decide) (fun c36_ => ?_) (fun c36_ => ?_)
    · refine lv_aload_n hx hb dX10_readsSort_41 rfl (lv_at hl 0 rfl) ?_
      refine lv_dup hx hb dX10_readsSort_42 rfl ?_
      refine fz_get (D := (dC, dI)) (ci := 10) (v := .int (iZ (μ5 0 4))) (C := RX10) (T := TX10) (N := 53) hx hb hts inG10 hown hK hP (k := 0) (by decide) (F := mF h0) mE_obj rfl 4 (by decide) (hts _ k1170) (fun _ h9 => h9) rfl dX10_readsSort_43 ?_
      rw [show μ5 0 4 = (μ 0 4) + 1 from by rw [eμ5, uz_s]]
      refine lv_iconst (v := iZ 1) hx hb dX10_readsSort_46 rfl ?_
      refine lv_iadd hx hb dX10_readsSort_47 ?_
      refine lv_topi (fun x9 ex9 => ?_)
      obtain rfl : x9 = iZ (((μ 0 4) + 1) + 1) := ex9.trans (iZ_add _ _)
      refine fz_put (D := (dC, dI)) (ci := 10) (ty := .int) (z := (((μ 0 4) + 1) + 1)) (C := RX10) (T := TX10) (N := 53) hx hb hts inG10 tyX10 tyX10_ok nmX10 hown hK hP fA_in hS (k := 0) (by decide) (F := mF h0) mE_obj rfl 4 (by decide) (hts _ k1170) (fun _ h9 => h9) rfl (by decide +kernel) rfl rfl (fun _ => Nat.le_of_ble_eq_true rfl) (fun _ _ => rfl) dX10_readsSort_48 (fun H locs hP hS => ?_)
      obtain ⟨μ8, eμ8⟩ : ∃ x : va_M, x = uz μ5 0 4 (((μ 0 4) + 1) + 1) := ⟨_, rfl⟩
      rw [← eμ8] at hP
      refine lv_iconst (v := iZ 1) hx hb dX10_readsSort_51 rfl ?_
      exact W.iret (v := iZ (1)) hx hb hr (fun t9 ht9 hW9 => ⟨⟨iZ (1), (μ8, 1), rfl, ⟨rfl, (by
                    dsimp only
                    exact Or.inr (Or.inr ⟨by unfold sm; split at hμ3 <;> omega, by omega, by subst eμ8 eμ5; rfl, rfl⟩))⟩, by rw [ht9]; exact hP, va_K.moved hW9.alike hK⟩, hS.F ht9⟩) hS.2.2 dX10_readsSort_52
    · refine lv_iconst (v := iZ 0) hx hb dX10_readsSort_39 rfl ?_
      exact W.iret (v := iZ (0)) hx hb hr (fun t9 ht9 hW9 => ⟨⟨iZ (0), (μ5, 0), rfl, ⟨rfl, (by
                    dsimp only
                    exact Or.inr (Or.inl ⟨by unfold sm; split at hμ3 <;> omega, by omega, by subst eμ5; rfl, rfl⟩))⟩, by rw [ht9]; exact hP, va_K.moved hW9.alike hK⟩, hS.F ht9⟩) hS.2.2 dX10_readsSort_40
  · refine lv_iconst (v := iZ 2) hx hb dX10_readsSort_14 rfl ?_
    exact W.iret (v := iZ (2)) hx hb hr (fun t9 ht9 hW9 => ⟨⟨iZ (2), (μ, 2), rfl, ⟨rfl, (by
                dsimp only
                exact Or.inl ⟨by unfold sm; split at hμ3 <;> omega, rfl, rfl⟩)⟩, by rw [ht9]; exact hP, va_K.moved hW9.alike hK⟩, hS.F ht9⟩) hS.2.2 dX10_readsSort_15
def PN (x y : Nat) : Prop := x = 0 ∧ (y = 4 ∨ y = 6 ∨ y = 7 ∨ y = 27 ∨ y = 28)
set_option maxHeartbeats 4000000 in
set_option maxRecDepth 100000 in
theorem LX10_readsName_33 {p : Program} {l : Launch} {e : Env} {R : Room} {s : State} {m : MethodId} {args : Array Value} {below : List Frame} {meth : Method} {c : Code} {cells slots : Nat} {Q : State → Prop} {dC : Nat → ClassId} {dI : Nat → Nat → Nat} {h0 : Nat} {cI cZ cII cIII : ClassId} (hx : p.tables.exec = Jvm.exec) (hb : c.code = cX10_readsName) (hml : c.maxLocals = 1) (hown : s.vm.findClass RX10 = some m.cls) (hts : ∀ w ∈ wsG, w.before args s = true) (hK : va_K (dC, dI) vwCl (mT cI cZ cII cIII) s) (hRf : 2 ≤ R.frames) (hRl : 36 ≤ R.locals) (hRc : cells ≤ R.cells) (hRs : slots ≤ R.slots) (μ0 : va_M) (a : Int) (hB : okB μ0) (ha : 0 ≤ a) (hexit120 : ∀ (L : Nat) (μ : va_M) (H : Heap) (locs : List Loc) (ls : Array Slot), (fr PN μ0 μ) → (μ 0 4 = a + L ∧ μ 0 4 ≤ μ0 0 3) → (μ 0 27 = nmV μ0 a L) → (μ 0 28 = L) → (∀ i : Nat, i < L → sm (bA μ0 (a + i))) → ((μ 0 6 = 0 ∧ 1 ≤ L ∧ L ≤ 6 ∧ ¬ sm (bA μ0 (a + L))) ∨ (μ 0 6 = 1 ∧ (L = 7 ∨ (L = 0 ∧ ¬ sm (bA μ0 a))))) → va_P (dC, dI) vwCl (fw (mE cI cZ cII cIII h0) h0 6325 μ) H → va_S (fA h0 6325 s.heap.size) s.heap H locs → lv_has ls 1 [(0, .ref h0)] → W p l e R s m args below meth c H locs cells slots Q (F0 m 120 ls [])) :
    ∀ (n9 : Nat) (L : Nat) (μ : va_M) (H : Heap) (locs : List Loc) (ls : Array Slot), (fr PN μ0 μ) → (μ 0 4 = a + L ∧ μ 0 4 ≤ μ0 0 3) → (μ 0 27 = nmV μ0 a L) → (μ 0 28 = L) → (∀ i : Nat, i < L → sm (bA μ0 (a + i))) → ((μ 0 6 = 0 ∧ L ≤ 6 ∧ (L = 0 → sm (bA μ0 a))) ∨ (μ 0 6 = 1 ∧ (L = 7 ∨ (L = 0 ∧ ¬ sm (bA μ0 a))))) → 8 - L < n9 → va_P (dC, dI) vwCl (fw (mE cI cZ cII cIII h0) h0 6325 μ) H → va_S (fA h0 6325 s.heap.size) s.heap H locs → lv_has ls 1 [(0, .ref h0)] → W p l e R s m args below meth c H locs cells slots Q (F0 m 33 ls []) := by
  intro n9
  induction n9 with
  | zero => intro L μ H locs ls hfr h4 hv h28 hs hf hm9 hP hS hl; exact absurd hm9 (Nat.not_lt_zero _)
  | succ n9 ih =>
    intro L μ H locs ls hfr h4 hv h28 hs hf hm9 hP hS hl
    have hB1 := hB.1
    have hB2 := hB.2.1
    have e3 : μ 0 3 = μ0 0 3 := hfr 0 3 (by simp [PN])
    have hby : ∀ k, bA μ k = bA μ0 k := fun k => bA_fr hfr (by simp [PN]) (by simp [PN])
    refine lv_aload_n hx hb dX10_readsName_33 rfl (lv_at hl 0 rfl) ?_
    refine fz_get (D := (dC, dI)) (ci := 10) (v := .int (iZ (μ 0 6))) (C := RX10) (T := TX10) (N := 53) hx hb hts inG10 hown hK hP (k := 0) (by decide) (F := mF h0) mE_obj rfl 6 (by decide) (hts _ k1172) (fun _ h9 => h9) rfl dX10_readsName_34 ?_
    refine fz_if_ne (tgt := 120) (by constructor <;> omega) hx hb dX10_readsName_37 (by decide) (fun c37_ => ?_) (fun c37_ => ?_)
    · exact hexit120 (L) μ H locs ls (by exact hfr) (by exact h4) (by exact hv) (by exact h28) (by exact hs) (by
                    rcases hf with ⟨h1, h2, h3⟩ | ⟨h1, h2⟩
                    · have h9 : ¬ sm (bA μ0 (a + L)) := by first | omega | (rw [← h4.1]; unfold sm; split at @c0 <;> omega)
                      refine Or.inl ⟨h1, ?_, h2, h9⟩
                      rcases Nat.eq_zero_or_pos L with h8 | h8
                      · subst h8
                        exact absurd (h3 rfl) (by simpa using h9)
                      · exact h8
                    · exact Or.inr ⟨h1, h2⟩) hP hS (lv_sub hl [0] rfl)
    · refine lv_aload_n hx hb dX10_readsName_40 rfl (lv_at hl 0 rfl) ?_
      refine lv_aload_n hx hb dX10_readsName_41 rfl (lv_at hl 0 rfl) ?_
      refine fz_get (D := (dC, dI)) (ci := 10) (v := .int (iZ (μ 0 4))) (C := RX10) (T := TX10) (N := 53) hx hb hts inG10 hown hK hP (k := 0) (by decide) (F := mF h0) mE_obj rfl 4 (by decide) (hts _ k1170) (fun _ h9 => h9) rfl dX10_readsName_42 ?_
      refine va_calli (va_runV (As := [.int (iZ (μ 0 4))]) (rest := []) ⟨hx, hb, hml, hown, hts⟩ (m_byteAt l dC dI cI cZ cII cIII h0 H.size μ (μ 0 4) (by first | omega | exact ⟨by omega, by omega⟩ | assumption) (by first | omega | exact ⟨by omega, by omega⟩ | assumption) (by first | omega | exact ⟨by omega, by omega⟩ | assumption)) (cwV 1 hts (gV_G k1350 k1352 ks_yX10_byteAt k13 k1353) rfl rfl rfl (by decide +kernel) ⟨by show 1 + 1 ≤ _; omega, by show 8 + (2 + 11) + (14) ≤ _; omega⟩) ⟨fun a U g mk q => by obtain ⟨q0, q1, qP, qK⟩ := q; exact ⟨q0, q1, qP, va_K.moved (u := U) (U := U.calling g mk a) (Vm.Alike.refl U.vm) qK⟩, va_recv hK hP (ci := 10) (q0 := 0) rfl ((fw_get (by decide)).trans (by rw [mE_obj]; rfl)), fun U hU hW => ⟨rfl, by rw [hU], by rw [hU]; exact hP, va_K.moved hW.alike hK⟩⟩ rfl rfl hl.1 rfl (lv_room (Nat.le_of_ble_eq_true rfl)) dX10_readsName_45 ⟨hRc, hRs⟩) hS (fun q _ h => fA_le hS.1 q h) (fA_le hS.1) (fun r9 u9 t9 H1 locs ht9 hvm9 hw9 hB9 hz9 hk9 hS => ?_)
      obtain ⟨μ1, r2⟩ := u9
      obtain ⟨hP, -⟩ := hB9
      rw [ht9] at hP
      generalize H1 = H at hP hS ⊢
      obtain ⟨e9, hw9⟩ := hw9
      have e9 : r9 = iZ r2 := e9
      subst e9
      simp only at hP hw9
      have hμ1 := hw9; clear hw9
      rw [hμ1.1] at hP; have hμ1 := hμ1.2
      rw [hby] at hμ1
      have hr1 := bA_rng (k := μ 0 4) hB (by omega)
      refine va_calli (va_runS (As := [.int (iZ (r2))]) (rest := []) ⟨hx, hb, hml, hown, hts⟩ (m_isSmall l dC dI cI cZ cII cIII h0 H.size μ (r2) (by first | omega | exact ⟨by omega, by omega⟩ | assumption)) (cwS 1 hts (gS_G k1354 k1355 k13 k1356) rfl rfl rfl (by decide +kernel) ⟨by show 1 + 1 ≤ _; omega, by show 8 + (1 + 11) + (14) ≤ _; omega⟩) ⟨fun a U g mk q => by obtain ⟨q0, q1, qP, qK⟩ := q; exact ⟨q0, q1, qP, va_K.moved (u := U) (U := U.calling g mk a) (Vm.Alike.refl U.vm) qK⟩, fun U hU hW => ⟨rfl, by rw [hU], by rw [hU]; exact hP, va_K.moved hW.alike hK⟩⟩ rfl rfl hl.1 rfl (lv_room (Nat.le_of_ble_eq_true rfl)) dX10_readsName_48 ⟨hRc, hRs⟩) hS (fun q _ h => fA_le hS.1 q h) (fA_le hS.1) (fun r9 u9 t9 H1 locs ht9 hvm9 hw9 hB9 hz9 hk9 hS => ?_)
      obtain ⟨μ3, r4⟩ := u9
      obtain ⟨hP, -⟩ := hB9
      rw [ht9] at hP
      generalize H1 = H at hP hS ⊢
      obtain ⟨e9, hw9⟩ := hw9
      have e9 : r9 = iZ r4 := e9
      subst e9
      simp only at hP hw9
      have hμ3 := hw9; clear hw9
      rw [hμ3.1] at hP; have hμ3 := hμ3.2
      refine fz_if_eq (tgt := 120) (by constructor <;> omega) hx hb dX10_readsName_51 (by decide) (fun c51_ => ?_) (fun c51_ => ?_)
      · exact hexit120 (L) μ H locs ls (by exact hfr) (by exact h4) (by exact hv) (by exact h28) (by exact hs) (by
                        rcases hf with ⟨h1, h2, h3⟩ | ⟨h1, h2⟩
                        · have h9 : ¬ sm (bA μ0 (a + L)) := by first | omega | (rw [← h4.1]; unfold sm; split at hμ3 <;> omega)
                          refine Or.inl ⟨h1, ?_, h2, h9⟩
                          rcases Nat.eq_zero_or_pos L with h8 | h8
                          · subst h8
                            exact absurd (h3 rfl) (by simpa using h9)
                          · exact h8
                        · exact Or.inr ⟨h1, h2⟩) hP hS (lv_sub hl [0] rfl)
      · refine lv_aload_n hx hb dX10_readsName_54 rfl (lv_at hl 0 rfl) ?_
        refine fz_get (D := (dC, dI)) (ci := 10) (v := .int (iZ (μ 0 28))) (C := RX10) (T := TX10) (N := 53) hx hb hts inG10 hown hK hP (k := 0) (by decide) (F := mF h0) mE_obj rfl 28 (by decide) (hts _ k1194) (fun _ h9 => h9) rfl dX10_readsName_55 ?_
        refine lv_bipush (v := iZ 6) hx hb dX10_readsName_58 rfl ?_
        refine fz_icmp_ne (tgt := 72) (by constructor <;> omega) (by decide) hx hb dX10_readsName_60 (by decide) (fun c60_ => ?_) (fun c60_ => ?_)
        · have w6 : μ 0 6 = 0 := by omega
          have w27 := hv
          have w28 := h28
          have w4 := h4.1
          have wfr := hfr
          refine lv_aload_n hx hb dX10_readsName_72 rfl (lv_at hl 0 rfl) ?_
          refine lv_bipush (v := iZ 27) hx hb dX10_readsName_73 rfl ?_
          refine lv_aload_n hx hb dX10_readsName_75 rfl (lv_at hl 0 rfl) ?_
          refine fz_get (D := (dC, dI)) (ci := 10) (v := .int (iZ (μ 0 27))) (C := RX10) (T := TX10) (N := 53) hx hb hts inG10 hown hK hP (k := 0) (by decide) (F := mF h0) mE_obj rfl 27 (by decide) (hts _ k1193) (fun _ h9 => h9) rfl dX10_readsName_76 ?_
          refine lv_imul hx hb dX10_readsName_79 ?_
          refine lv_topi (fun x9 ex9 => ?_)
          obtain rfl : x9 = iZ (27 * (μ 0 27)) := ex9.trans (iZ_mul _ _)
          refine lv_aload_n hx hb dX10_readsName_80 rfl (lv_at hl 0 rfl) ?_
          refine lv_aload_n hx hb dX10_readsName_81 rfl (lv_at hl 0 rfl) ?_
          refine fz_get (D := (dC, dI)) (ci := 10) (v := .int (iZ (μ 0 4))) (C := RX10) (T := TX10) (N := 53) hx hb hts inG10 hown hK hP (k := 0) (by decide) (F := mF h0) mE_obj rfl 4 (by decide) (hts _ k1170) (fun _ h9 => h9) rfl dX10_readsName_82 ?_
          refine va_calli (va_runV (As := [.int (iZ (μ 0 4))]) (rest := [.int (iZ (27 * (μ 0 27))), .ref h0]) ⟨hx, hb, hml, hown, hts⟩ (m_byteAt l dC dI cI cZ cII cIII h0 H.size μ (μ 0 4) (by first | omega | exact ⟨by omega, by omega⟩ | assumption) (by first | omega | exact ⟨by omega, by omega⟩ | assumption) (by first | omega | exact ⟨by omega, by omega⟩ | assumption)) (cwV 1 hts (gV_G k1350 k1352 ks_yX10_byteAt k13 k1353) rfl rfl rfl (by decide +kernel) ⟨by show 1 + 1 ≤ _; omega, by show 8 + (2 + 11) + (14) ≤ _; omega⟩) ⟨fun a U g mk q => by obtain ⟨q0, q1, qP, qK⟩ := q; exact ⟨q0, q1, qP, va_K.moved (u := U) (U := U.calling g mk a) (Vm.Alike.refl U.vm) qK⟩, va_recv hK hP (ci := 10) (q0 := 0) rfl ((fw_get (by decide)).trans (by rw [mE_obj]; rfl)), fun U hU hW => ⟨rfl, by rw [hU], by rw [hU]; exact hP, va_K.moved hW.alike hK⟩⟩ rfl rfl hl.1 rfl (lv_room (Nat.le_of_ble_eq_true rfl)) dX10_readsName_85 ⟨hRc, hRs⟩) hS (fun q _ h => fA_le hS.1 q h) (fA_le hS.1) (fun r9 u9 t9 H1 locs ht9 hvm9 hw9 hB9 hz9 hk9 hS => ?_)
          obtain ⟨μ5, r6⟩ := u9
          obtain ⟨hP, -⟩ := hB9
          rw [ht9] at hP
          generalize H1 = H at hP hS ⊢
          obtain ⟨e9, hw9⟩ := hw9
          have e9 : r9 = iZ r6 := e9
          subst e9
          simp only at hP hw9
          have hμ5 := hw9; clear hw9
          rw [hμ5.1] at hP; have hμ5 := hμ5.2
          rw [hby] at hμ5
          refine lv_iadd hx hb dX10_readsName_88 ?_
          refine lv_topi (fun x9 ex9 => ?_)
          obtain rfl : x9 = iZ ((27 * (μ 0 27)) + r6) := ex9.trans (iZ_add _ _)
          refine lv_bipush (v := iZ 97) hx hb dX10_readsName_89 rfl ?_
          refine lv_isub hx hb dX10_readsName_91 ?_
          refine lv_topi (fun x9 ex9 => ?_)
          obtain rfl : x9 = iZ (((27 * (μ 0 27)) + r6) - 97) := ex9.trans (iZ_sub _ _)
          refine lv_iconst (v := iZ 1) hx hb dX10_readsName_92 rfl ?_
          refine lv_iadd hx hb dX10_readsName_93 ?_
          refine lv_topi (fun x9 ex9 => ?_)
          obtain rfl : x9 = iZ ((((27 * (μ 0 27)) + r6) - 97) + 1) := ex9.trans (iZ_add _ _)
          refine fz_put (D := (dC, dI)) (ci := 10) (ty := .int) (z := ((((27 * (μ 0 27)) + r6) - 97) + 1)) (C := RX10) (T := TX10) (N := 53) hx hb hts inG10 tyX10 tyX10_ok nmX10 hown hK hP fA_in hS (k := 0) (by decide) (F := mF h0) mE_obj rfl 27 (by decide) (hts _ k1193) (fun _ h9 => h9) rfl (by decide +kernel) rfl rfl (fun _ => Nat.le_of_ble_eq_true rfl) (fun _ _ => rfl) dX10_readsName_94 (fun H locs hP hS => ?_)
          obtain ⟨μ7, eμ7⟩ : ∃ x : va_M, x = uz μ 0 27 ((((27 * (μ 0 27)) + r6) - 97) + 1) := ⟨_, rfl⟩
          rw [← eμ7] at hP
          refine lv_aload_n hx hb dX10_readsName_97 rfl (lv_at hl 0 rfl) ?_
          refine lv_dup hx hb dX10_readsName_98 rfl ?_
          refine fz_get (D := (dC, dI)) (ci := 10) (v := .int (iZ (μ7 0 28))) (C := RX10) (T := TX10) (N := 53) hx hb hts inG10 hown hK hP (k := 0) (by decide) (F := mF h0) mE_obj rfl 28 (by decide) (hts _ k1194) (fun _ h9 => h9) rfl dX10_readsName_99 ?_
          rw [show μ7 0 28 = μ 0 28 from by rw [eμ7, uz_n (by omega)]]
          refine lv_iconst (v := iZ 1) hx hb dX10_readsName_102 rfl ?_
          refine lv_iadd hx hb dX10_readsName_103 ?_
          refine lv_topi (fun x9 ex9 => ?_)
          obtain rfl : x9 = iZ ((μ 0 28) + 1) := ex9.trans (iZ_add _ _)
          refine fz_put (D := (dC, dI)) (ci := 10) (ty := .int) (z := ((μ 0 28) + 1)) (C := RX10) (T := TX10) (N := 53) hx hb hts inG10 tyX10 tyX10_ok nmX10 hown hK hP fA_in hS (k := 0) (by decide) (F := mF h0) mE_obj rfl 28 (by decide) (hts _ k1194) (fun _ h9 => h9) rfl (by decide +kernel) rfl rfl (fun _ => Nat.le_of_ble_eq_true rfl) (fun _ _ => rfl) dX10_readsName_104 (fun H locs hP hS => ?_)
          obtain ⟨μ8, eμ8⟩ : ∃ x : va_M, x = uz μ7 0 28 ((μ 0 28) + 1) := ⟨_, rfl⟩
          rw [← eμ8] at hP
          refine lv_aload_n hx hb dX10_readsName_107 rfl (lv_at hl 0 rfl) ?_
          refine lv_dup hx hb dX10_readsName_108 rfl ?_
          refine fz_get (D := (dC, dI)) (ci := 10) (v := .int (iZ (μ8 0 4))) (C := RX10) (T := TX10) (N := 53) hx hb hts inG10 hown hK hP (k := 0) (by decide) (F := mF h0) mE_obj rfl 4 (by decide) (hts _ k1170) (fun _ h9 => h9) rfl dX10_readsName_109 ?_
          rw [show μ8 0 4 = μ 0 4 from by rw [eμ8, uz_n (by omega), eμ7, uz_n (by omega)]]
          refine lv_iconst (v := iZ 1) hx hb dX10_readsName_112 rfl ?_
          refine lv_iadd hx hb dX10_readsName_113 ?_
          refine lv_topi (fun x9 ex9 => ?_)
          obtain rfl : x9 = iZ ((μ 0 4) + 1) := ex9.trans (iZ_add _ _)
          refine fz_put (D := (dC, dI)) (ci := 10) (ty := .int) (z := ((μ 0 4) + 1)) (C := RX10) (T := TX10) (N := 53) hx hb hts inG10 tyX10 tyX10_ok nmX10 hown hK hP fA_in hS (k := 0) (by decide) (F := mF h0) mE_obj rfl 4 (by decide) (hts _ k1170) (fun _ h9 => h9) rfl (by decide +kernel) rfl rfl (fun _ => Nat.le_of_ble_eq_true rfl) (fun _ _ => rfl) dX10_readsName_114 (fun H locs hP hS => ?_)
          obtain ⟨μ9, eμ9⟩ : ∃ x : va_M, x = uz μ8 0 4 ((μ 0 4) + 1) := ⟨_, rfl⟩
          rw [← eμ9] at hP
          refine lv_goto (tgt := 33) hx hb dX10_readsName_117 (by decide) ?_
          exact ih (L + 1) μ9 H locs ls (by
                            subst eμ9 eμ8 eμ7
                            exact fr_uz (fr_uz (fr_uz wfr (by simp [PN])) (by simp [PN])) (by simp [PN])) (by
                            have h9 := bA_end (μ := μ0) (k := μ 0 4) (by omega)
                            subst eμ9 eμ8 eμ7
                            rw [uz_s]
                            omega) (by
                            subst eμ9 eμ8 eμ7
                            rw [uz_n (by omega), uz_n (by omega), uz_s]
                            rw [nmV, ← w4]
                            omega) (by
                            subst eμ9 eμ8 eμ7
                            rw [uz_n (by omega), uz_s]
                            omega) (by
                            intro i hi
                            by_cases h9 : i < L
                            · exact hs i h9
                            · have h8 : a + (i : Int) = μ 0 4 := by omega
                              rw [h8]
                              unfold sm
                              omega) (by
                            subst eμ9 eμ8 eμ7
                            rw [uz_n (by omega), uz_n (by omega), uz_n (by omega), w6]
                            omega) (by omega) hP hS (lv_sub hl [0] rfl)
        · refine lv_aload_n hx hb dX10_readsName_63 rfl (lv_at hl 0 rfl) ?_
          refine lv_iconst (v := iZ 1) hx hb dX10_readsName_64 rfl ?_
          refine lv_aload_n hx hb dX10_readsName_65 rfl (lv_at hl 0 rfl) ?_
          refine fz_get (D := (dC, dI)) (ci := 10) (v := .int (iZ (μ 0 4))) (C := RX10) (T := TX10) (N := 53) hx hb hts inG10 hown hK hP (k := 0) (by decide) (F := mF h0) mE_obj rfl 4 (by decide) (hts _ k1170) (fun _ h9 => h9) rfl dX10_readsName_66 ?_
          refine va_callv (va_runV (As := [.int (iZ (1)), .int (iZ (μ 0 4))]) (rest := []) ⟨hx, hb, hml, hown, hts⟩ (m_wrong l dC dI cI cZ cII cIII h0 H.size μ (1) (μ 0 4) (by first | omega | exact ⟨by omega, by omega⟩ | assumption)) (cwV 2 hts (gV_G k1357 k1359 ks_yX10_wrong k13 k1360) rfl rfl rfl (by decide +kernel) ⟨by show 1 + 1 ≤ _; omega, by show 8 + (3 + 11) + (14) ≤ _; omega⟩) ⟨fun a U g mk q => by obtain ⟨q0, q1, qP, qK⟩ := q; exact ⟨q0, q1, qP, va_K.moved (u := U) (U := U.calling g mk a) (Vm.Alike.refl U.vm) qK⟩, va_recv hK hP (ci := 10) (q0 := 0) rfl ((fw_get (by decide)).trans (by rw [mE_obj]; rfl)), fun U hU hW => ⟨rfl, by rw [hU], by rw [hU]; exact hP, va_K.moved hW.alike hK⟩⟩ rfl rfl hl.1 rfl (lv_room (Nat.le_of_ble_eq_true rfl)) dX10_readsName_69 ⟨hRc, hRs⟩) hS (fun q _ h => fA_le hS.1 q h) (fA_le hS.1) (fun u9 t9 H1 locs ht9 hvm9 hw9 hB9 hz9 hk9 hS => ?_)
          obtain ⟨hP, -⟩ := hB9
          rw [ht9] at hP
          generalize H1 = H at hP hS ⊢
          obtain ⟨μ10, eμ10⟩ : ∃ x : va_M, x = u9 := ⟨_, rfl⟩
          rw [← eμ10] at hP hw9
          have hμ10 := hw9; clear hw9
          rw [if_pos (by omega)] at hμ10
          have w6 : μ10 0 6 = 1 := by rw [hμ10, uz_n (by omega), uz_s]
          have w27 : μ10 0 27 = nmV μ0 a L := by rw [hμ10, uz_n (by omega), uz_n (by omega)]; exact hv
          have w28 : μ10 0 28 = L := by rw [hμ10, uz_n (by omega), uz_n (by omega)]; exact h28
          have w4 : μ10 0 4 = a + L := by rw [hμ10, uz_n (by omega), uz_n (by omega)]; exact h4.1
          have wfr : fr PN μ0 μ10 := by rw [hμ10]; exact fr_uz (fr_uz hfr (by simp [PN])) (by simp [PN])
          have e3 : μ10 0 3 = μ0 0 3 := wfr 0 3 (by simp [PN])
          have hby : ∀ k, bA μ10 k = bA μ0 k := fun k => bA_fr wfr (by simp [PN]) (by simp [PN])
          refine lv_aload_n hx hb dX10_readsName_72 rfl (lv_at hl 0 rfl) ?_
          refine lv_bipush (v := iZ 27) hx hb dX10_readsName_73 rfl ?_
          refine lv_aload_n hx hb dX10_readsName_75 rfl (lv_at hl 0 rfl) ?_
          refine fz_get (D := (dC, dI)) (ci := 10) (v := .int (iZ (μ10 0 27))) (C := RX10) (T := TX10) (N := 53) hx hb hts inG10 hown hK hP (k := 0) (by decide) (F := mF h0) mE_obj rfl 27 (by decide) (hts _ k1193) (fun _ h9 => h9) rfl dX10_readsName_76 ?_
          refine lv_imul hx hb dX10_readsName_79 ?_
          refine lv_topi (fun x9 ex9 => ?_)
          obtain rfl : x9 = iZ (27 * (μ10 0 27)) := ex9.trans (iZ_mul _ _)
          refine lv_aload_n hx hb dX10_readsName_80 rfl (lv_at hl 0 rfl) ?_
          refine lv_aload_n hx hb dX10_readsName_81 rfl (lv_at hl 0 rfl) ?_
          refine fz_get (D := (dC, dI)) (ci := 10) (v := .int (iZ (μ10 0 4))) (C := RX10) (T := TX10) (N := 53) hx hb hts inG10 hown hK hP (k := 0) (by decide) (F := mF h0) mE_obj rfl 4 (by decide) (hts _ k1170) (fun _ h9 => h9) rfl dX10_readsName_82 ?_
          refine va_calli (va_runV (As := [.int (iZ (μ10 0 4))]) (rest := [.int (iZ (27 * (μ10 0 27))), .ref h0]) ⟨hx, hb, hml, hown, hts⟩ (m_byteAt l dC dI cI cZ cII cIII h0 H.size μ10 (μ10 0 4) (by first | omega | exact ⟨by omega, by omega⟩ | assumption) (by first | omega | exact ⟨by omega, by omega⟩ | assumption) (by first | omega | exact ⟨by omega, by omega⟩ | assumption)) (cwV 1 hts (gV_G k1350 k1352 ks_yX10_byteAt k13 k1353) rfl rfl rfl (by decide +kernel) ⟨by show 1 + 1 ≤ _; omega, by show 8 + (2 + 11) + (14) ≤ _; omega⟩) ⟨fun a U g mk q => by obtain ⟨q0, q1, qP, qK⟩ := q; exact ⟨q0, q1, qP, va_K.moved (u := U) (U := U.calling g mk a) (Vm.Alike.refl U.vm) qK⟩, va_recv hK hP (ci := 10) (q0 := 0) rfl ((fw_get (by decide)).trans (by rw [mE_obj]; rfl)), fun U hU hW => ⟨rfl, by rw [hU], by rw [hU]; exact hP, va_K.moved hW.alike hK⟩⟩ rfl rfl hl.1 rfl (lv_room (Nat.le_of_ble_eq_true rfl)) dX10_readsName_85 ⟨hRc, hRs⟩) hS (fun q _ h => fA_le hS.1 q h) (fA_le hS.1) (fun r9 u9 t9 H1 locs ht9 hvm9 hw9 hB9 hz9 hk9 hS => ?_)
          obtain ⟨μ11, r12⟩ := u9
          obtain ⟨hP, -⟩ := hB9
          rw [ht9] at hP
          generalize H1 = H at hP hS ⊢
          obtain ⟨e9, hw9⟩ := hw9
          have e9 : r9 = iZ r12 := e9
          subst e9
          simp only at hP hw9
          have hμ11 := hw9; clear hw9
          rw [hμ11.1] at hP; have hμ11 := hμ11.2
          rw [hby] at hμ11
          refine lv_iadd hx hb dX10_readsName_88 ?_
          refine lv_topi (fun x9 ex9 => ?_)
          obtain rfl : x9 = iZ ((27 * (μ10 0 27)) + r12) := ex9.trans (iZ_add _ _)
          refine lv_bipush (v := iZ 97) hx hb dX10_readsName_89 rfl ?_
          refine lv_isub hx hb dX10_readsName_91 ?_
          refine lv_topi (fun x9 ex9 => ?_)
          obtain rfl : x9 = iZ (((27 * (μ10 0 27)) + r12) - 97) := ex9.trans (iZ_sub _ _)
          refine lv_iconst (v := iZ 1) hx hb dX10_readsName_92 rfl ?_
          refine lv_iadd hx hb dX10_readsName_93 ?_
          refine lv_topi (fun x9 ex9 => ?_)
          obtain rfl : x9 = iZ ((((27 * (μ10 0 27)) + r12) - 97) + 1) := ex9.trans (iZ_add _ _)
          refine fz_put (D := (dC, dI)) (ci := 10) (ty := .int) (z := ((((27 * (μ10 0 27)) + r12) - 97) + 1)) (C := RX10) (T := TX10) (N := 53) hx hb hts inG10 tyX10 tyX10_ok nmX10 hown hK hP fA_in hS (k := 0) (by decide) (F := mF h0) mE_obj rfl 27 (by decide) (hts _ k1193) (fun _ h9 => h9) rfl (by decide +kernel) rfl rfl (fun _ => Nat.le_of_ble_eq_true rfl) (fun _ _ => rfl) dX10_readsName_94 (fun H locs hP hS => ?_)
          obtain ⟨μ13, eμ13⟩ : ∃ x : va_M, x = uz μ10 0 27 ((((27 * (μ10 0 27)) + r12) - 97) + 1) := ⟨_, rfl⟩
          rw [← eμ13] at hP
          refine lv_aload_n hx hb dX10_readsName_97 rfl (lv_at hl 0 rfl) ?_
          refine lv_dup hx hb dX10_readsName_98 rfl ?_
          refine fz_get (D := (dC, dI)) (ci := 10) (v := .int (iZ (μ13 0 28))) (C := RX10) (T := TX10) (N := 53) hx hb hts inG10 hown hK hP (k := 0) (by decide) (F := mF h0) mE_obj rfl 28 (by decide) (hts _ k1194) (fun _ h9 => h9) rfl dX10_readsName_99 ?_
          rw [show μ13 0 28 = μ10 0 28 from by rw [eμ13, uz_n (by omega)]]
          refine lv_iconst (v := iZ 1) hx hb dX10_readsName_102 rfl ?_
          refine lv_iadd hx hb dX10_readsName_103 ?_
          refine lv_topi (fun x9 ex9 => ?_)
          obtain rfl : x9 = iZ ((μ10 0 28) + 1) := ex9.trans (iZ_add _ _)
          refine fz_put (D := (dC, dI)) (ci := 10) (ty := .int) (z := ((μ10 0 28) + 1)) (C := RX10) (T := TX10) (N := 53) hx hb hts inG10 tyX10 tyX10_ok nmX10 hown hK hP fA_in hS (k := 0) (by decide) (F := mF h0) mE_obj rfl 28 (by decide) (hts _ k1194) (fun _ h9 => h9) rfl (by decide +kernel) rfl rfl (fun _ => Nat.le_of_ble_eq_true rfl) (fun _ _ => rfl) dX10_readsName_104 (fun H locs hP hS => ?_)
          obtain ⟨μ14, eμ14⟩ : ∃ x : va_M, x = uz μ13 0 28 ((μ10 0 28) + 1) := ⟨_, rfl⟩
          rw [← eμ14] at hP
          refine lv_aload_n hx hb dX10_readsName_107 rfl (lv_at hl 0 rfl) ?_
          refine lv_dup hx hb dX10_readsName_108 rfl ?_
          refine fz_get (D := (dC, dI)) (ci := 10) (v := .int (iZ (μ14 0 4))) (C := RX10) (T := TX10) (N := 53) hx hb hts inG10 hown hK hP (k := 0) (by decide) (F := mF h0) mE_obj rfl 4 (by decide) (hts _ k1170) (fun _ h9 => h9) rfl dX10_readsName_109 ?_
          rw [show μ14 0 4 = μ10 0 4 from by rw [eμ14, uz_n (by omega), eμ13, uz_n (by omega)]]
          refine lv_iconst (v := iZ 1) hx hb dX10_readsName_112 rfl ?_
          refine lv_iadd hx hb dX10_readsName_113 ?_
          refine lv_topi (fun x9 ex9 => ?_)
          obtain rfl : x9 = iZ ((μ10 0 4) + 1) := ex9.trans (iZ_add _ _)
          refine fz_put (D := (dC, dI)) (ci := 10) (ty := .int) (z := ((μ10 0 4) + 1)) (C := RX10) (T := TX10) (N := 53) hx hb hts inG10 tyX10 tyX10_ok nmX10 hown hK hP fA_in hS (k := 0) (by decide) (F := mF h0) mE_obj rfl 4 (by decide) (hts _ k1170) (fun _ h9 => h9) rfl (by decide +kernel) rfl rfl (fun _ => Nat.le_of_ble_eq_true rfl) (fun _ _ => rfl) dX10_readsName_114 (fun H locs hP hS => ?_)
          obtain ⟨μ15, eμ15⟩ : ∃ x : va_M, x = uz μ14 0 4 ((μ10 0 4) + 1) := ⟨_, rfl⟩
          rw [← eμ15] at hP
          refine lv_goto (tgt := 33) hx hb dX10_readsName_117 (by decide) ?_
          exact ih (L + 1) μ15 H locs ls (by
                            subst eμ15 eμ14 eμ13
                            exact fr_uz (fr_uz (fr_uz wfr (by simp [PN])) (by simp [PN])) (by simp [PN])) (by
                            have h9 := bA_end (μ := μ0) (k := μ 0 4) (by omega)
                            subst eμ15 eμ14 eμ13
                            rw [uz_s]
                            omega) (by
                            subst eμ15 eμ14 eμ13
                            rw [uz_n (by omega), uz_n (by omega), uz_s]
                            rw [nmV, ← w4]
                            omega) (by
                            subst eμ15 eμ14 eμ13
                            rw [uz_n (by omega), uz_s]
                            omega) (by
                            intro i hi
                            by_cases h9 : i < L
                            · exact hs i h9
                            · have h8 : a + (i : Int) = μ 0 4 := by omega
                              rw [h8]
                              unfold sm
                              omega) (by
                            subst eμ15 eμ14 eμ13
                            rw [uz_n (by omega), uz_n (by omega), uz_n (by omega), w6]
                            omega) (by omega) hP hS (lv_sub hl [0] rfl)
set_option maxHeartbeats 4000000 in
set_option maxRecDepth 100000 in
theorem m_readsName (l : Launch) (dC : Nat → ClassId) (dI : Nat → Nat → Nat) (cI cZ cII cIII : ClassId) (h0 sz : Nat) (μ : va_M)  (hB : okB μ) (h4 : 0 ≤ μ 0 4 ∧ μ 0 4 ≤ μ 0 3) (hf0 : μ 0 6 = 0) : Met l yX10_readsName (Cond.code yX10_readsName cX10_readsName 1 none :: wsG) ({ frames := 2, cells := 0, slots := 0, locals := 36 } : Room) (va_Pc [.ref h0] (fun U => U.heap.size = sz ∧ va_P (dC, dI) vwCl (fw (mE cI cZ cII cIII h0) h0 6325 μ) U.heap ∧ va_K (dC, dI) vwCl (mT cI cZ cII cIII) U)) (va_Qv (fun (u : va_M) => ∃ L : Nat, fr PN μ u ∧ u 0 4 = μ 0 4 + L ∧ u 0 4 ≤ μ 0 3 ∧ u 0 27 = nmV μ (μ 0 4) L ∧ u 0 28 = L ∧ (∀ i : Nat, i < L → sm (bA μ (μ 0 4 + i))) ∧ ((u 0 6 = 0 ∧ 1 ≤ L ∧ L ≤ 6 ∧ ¬ sm (bA μ (μ 0 4 + L))) ∨ (u 0 6 = 1 ∧ (L = 7 ∨ (L = 0 ∧ ¬ sm (bA μ (μ 0 4))))))) (fun u t => va_P (dC, dI) vwCl (fw (mE cI cZ cII cIII h0) h0 6325 u) t.heap ∧ va_K (dC, dI) vwCl (mT cI cZ cII cIII) t) (fA h0 6325 sz)) 0 0 (fA h0 6325 sz) := by
  refine Met.ofW (cc := cX10_readsName) (maxL := 1) (ret := none) (by decide) rfl ?_
  intro p e s m args below meth c s₁ B hml hv
  obtain ⟨rfl, hsz, hP, hK⟩ := hv
  have hx := B.exec
  have hb := B.bytes
  have hr := B.returns
  have hts : ∀ w ∈ wsG, w.before _ s = true := hG_of (atoms_spec (ws := (Cond.code yX10_readsName cX10_readsName 1 none :: wsG)) B.pre)
  have hown : s.vm.findClass RX10 = some m.cls := findClass_of_methodNamed B.named
  have hlocks := B.notSynchronized
  subst hsz
  have hS : va_S (fA h0 6325 s.heap.size) s.heap s.heap [] := va_S.rf
  have hl := lv_entry ([.ref h0]) (n := 1) (Nat.le_of_ble_eq_true rfl)
  rw [lg_entry_eq]
  generalize (lg_sl ([.ref h0]) ++ List.replicate (1 - (lg_sl ([.ref h0])).length) Slot.unset).toArray = ls at hl ⊢
  have hl : lv_has ls 1 [(0, .ref h0)] := hl
  have hB1 := hB.1
  have hB2 := hB.2.1
  refine lv_aload_n hx hb dX10_readsName_0 rfl (lv_at hl 0 rfl) ?_
  refine lv_iconst (v := iZ 0) hx hb dX10_readsName_1 rfl ?_
  refine fz_put (D := (dC, dI)) (ci := 10) (ty := .int) (z := 0) (C := RX10) (T := TX10) (N := 53) hx hb hts inG10 tyX10 tyX10_ok nmX10 hown hK hP fA_in hS (k := 0) (by decide) (F := mF h0) mE_obj rfl 27 (by decide) (hts _ k1193) (fun _ h9 => h9) rfl (by decide +kernel) rfl rfl (fun _ => Nat.le_of_ble_eq_true rfl) (fun _ _ => rfl) dX10_readsName_2 (fun H locs hP hS => ?_)
  obtain ⟨μ16, eμ16⟩ : ∃ x : va_M, x = uz μ 0 27 (0) := ⟨_, rfl⟩
  rw [← eμ16] at hP
  refine lv_aload_n hx hb dX10_readsName_5 rfl (lv_at hl 0 rfl) ?_
  refine lv_iconst (v := iZ 0) hx hb dX10_readsName_6 rfl ?_
  refine fz_put (D := (dC, dI)) (ci := 10) (ty := .int) (z := 0) (C := RX10) (T := TX10) (N := 53) hx hb hts inG10 tyX10 tyX10_ok nmX10 hown hK hP fA_in hS (k := 0) (by decide) (F := mF h0) mE_obj rfl 28 (by decide) (hts _ k1194) (fun _ h9 => h9) rfl (by decide +kernel) rfl rfl (fun _ => Nat.le_of_ble_eq_true rfl) (fun _ _ => rfl) dX10_readsName_7 (fun H locs hP hS => ?_)
  obtain ⟨μ17, eμ17⟩ : ∃ x : va_M, x = uz μ16 0 28 (0) := ⟨_, rfl⟩
  rw [← eμ17] at hP
  refine lv_aload_n hx hb dX10_readsName_10 rfl (lv_at hl 0 rfl) ?_
  refine lv_aload_n hx hb dX10_readsName_11 rfl (lv_at hl 0 rfl) ?_
  refine fz_get (D := (dC, dI)) (ci := 10) (v := .int (iZ (μ17 0 4))) (C := RX10) (T := TX10) (N := 53) hx hb hts inG10 hown hK hP (k := 0) (by decide) (F := mF h0) mE_obj rfl 4 (by decide) (hts _ k1170) (fun _ h9 => h9) rfl dX10_readsName_12 ?_
  rw [show μ17 0 4 = μ 0 4 from by rw [eμ17, uz_n (by omega), eμ16, uz_n (by omega)]]
  refine va_calli (va_runV (As := [.int (iZ (μ 0 4))]) (rest := []) ⟨hx, hb, hml, hown, hts⟩ (m_byteAt l dC dI cI cZ cII cIII h0 H.size μ17 (μ 0 4) (by first | omega | exact ⟨by omega, by omega⟩ | assumption) (by first | omega | exact ⟨by omega, by omega⟩ | assumption) (by
            rw [eμ17, eμ16, uz_n (by omega), uz_n (by omega)]
            exact ⟨hB.1, hB.2.1⟩)) (cwV 1 hts (gV_G k1350 k1352 ks_yX10_byteAt k13 k1353) rfl rfl rfl (by decide +kernel) ⟨Nat.le_of_ble_eq_true rfl, Nat.le_of_ble_eq_true rfl⟩) ⟨fun a U g mk q => by obtain ⟨q0, q1, qP, qK⟩ := q; exact ⟨q0, q1, qP, va_K.moved (u := U) (U := U.calling g mk a) (Vm.Alike.refl U.vm) qK⟩, va_recv hK hP (ci := 10) (q0 := 0) rfl ((fw_get (by decide)).trans (by rw [mE_obj]; rfl)), fun U hU hW => ⟨rfl, by rw [hU], by rw [hU]; exact hP, va_K.moved hW.alike hK⟩⟩ rfl rfl hl.1 rfl (lv_room (Nat.le_of_ble_eq_true rfl)) dX10_readsName_15 ⟨Nat.le_of_ble_eq_true rfl, Nat.le_of_ble_eq_true rfl⟩) hS (fun q _ h => fA_le hS.1 q h) (fA_le hS.1) (fun r9 u9 t9 H1 locs ht9 hvm9 hw9 hB9 hz9 hk9 hS => ?_)
  obtain ⟨μ18, r19⟩ := u9
  obtain ⟨hP, -⟩ := hB9
  rw [ht9] at hP
  generalize H1 = H at hP hS ⊢
  obtain ⟨e9, hw9⟩ := hw9
  have e9 : r9 = iZ r19 := e9
  subst e9
  simp only at hP hw9
  have hμ18 := hw9; clear hw9
  rw [hμ18.1] at hP; have hμ18 := hμ18.2
  have vfr : fr PN μ μ17 := by subst eμ17 eμ16; exact fr_uz (fr_uz fr_rfl (by simp [PN])) (by simp [PN])
  have hby : ∀ k, bA μ17 k = bA μ k := fun k => bA_fr vfr (by simp [PN]) (by simp [PN])
  rw [hby] at hμ18
  have hr1 := bA_rng (k := μ 0 4) hB h4.1
  refine va_calli (va_runS (As := [.int (iZ (r19))]) (rest := []) ⟨hx, hb, hml, hown, hts⟩ (m_isSmall l dC dI cI cZ cII cIII h0 H.size μ17 (r19) (by first | omega | exact ⟨by omega, by omega⟩ | assumption)) (cwS 1 hts (gS_G k1354 k1355 k13 k1356) rfl rfl rfl (by decide +kernel) ⟨Nat.le_of_ble_eq_true rfl, Nat.le_of_ble_eq_true rfl⟩) ⟨fun a U g mk q => by obtain ⟨q0, q1, qP, qK⟩ := q; exact ⟨q0, q1, qP, va_K.moved (u := U) (U := U.calling g mk a) (Vm.Alike.refl U.vm) qK⟩, fun U hU hW => ⟨rfl, by rw [hU], by rw [hU]; exact hP, va_K.moved hW.alike hK⟩⟩ rfl rfl hl.1 rfl (lv_room (Nat.le_of_ble_eq_true rfl)) dX10_readsName_18 ⟨Nat.le_of_ble_eq_true rfl, Nat.le_of_ble_eq_true rfl⟩) hS (fun q _ h => fA_le hS.1 q h) (fA_le hS.1) (fun r9 u9 t9 H1 locs ht9 hvm9 hw9 hB9 hz9 hk9 hS => ?_)
  obtain ⟨μ20, r21⟩ := u9
  obtain ⟨hP, -⟩ := hB9
  rw [ht9] at hP
  generalize H1 = H at hP hS ⊢
  obtain ⟨e9, hw9⟩ := hw9
  have e9 : r9 = iZ r21 := e9
  subst e9
  simp only at hP hw9
  have hμ20 := hw9; clear hw9
  rw [hμ20.1] at hP; have hμ20 := hμ20.2
  refine fz_if_ne (tgt := 33) (by constructor <;> omega) hx hb dX10_readsName_21 (by decide) (fun c21_ => ?_) (fun c21_ => ?_)
  · have v4 : μ17 0 4 = μ 0 4 := by rw [eμ17, eμ16, uz_n (by omega), uz_n (by omega)]
    have v27 : μ17 0 27 = 0 := by rw [eμ17, eμ16, uz_n (by omega), uz_s]
    have v28 : μ17 0 28 = 0 := by rw [eμ17, eμ16, uz_s]
    have v6 : (μ17 0 6 = 0 ∧ sm (bA μ (μ 0 4))) ∨ (μ17 0 6 = 1 ∧ ¬ sm (bA μ (μ 0 4))) := Or.inl ⟨by rw [eμ17, eμ16, uz_n (by omega), uz_n (by omega)]; exact hf0, by unfold sm; split at hμ20 <;> omega⟩
    refine LX10_readsName_33 hx hb hml hown hts hK (Nat.le_of_ble_eq_true rfl) (Nat.le_of_ble_eq_true rfl) (Nat.le_of_ble_eq_true rfl) (Nat.le_of_ble_eq_true rfl) (μ) (μ 0 4) (by exact hB) (by exact h4.1) ?_ _ (0) μ17 H locs ls (by exact vfr) (by
                rw [v4]
                exact ⟨by simp, h4.2⟩) (by rw [v27]; rfl) (by rw [v28]; rfl) (by intro i hi; omega) (by
                rcases v6 with ⟨h1, h2⟩ | ⟨h1, h2⟩
                · exact Or.inl ⟨h1, by omega, fun _ => h2⟩
                · exact Or.inr ⟨h1, Or.inr ⟨rfl, h2⟩⟩) (Nat.lt_succ_self _) hP hS (lv_sub hl [0] rfl)
    · intro L_22 μ22_ H locs ls q1_22 q2_22 q3_22 q4_22 q5_22 q6_22 hP hS hl
      have hl : lv_has ls 1 [(0, .ref h0)] := hl
      exact W.vret hx hb hr (fun t9 ht9 hW9 => ⟨⟨μ22_, rfl, (by
                    try dsimp only
                    exact ⟨L_22, q1_22, q2_22.1, q2_22.2, q3_22, q4_22, q5_22, q6_22⟩), by rw [ht9]; exact hP, va_K.moved hW9.alike hK⟩, hS.F ht9⟩) hS.2.2 dX10_readsName_120
  · refine lv_aload_n hx hb dX10_readsName_24 rfl (lv_at hl 0 rfl) ?_
    refine lv_iconst (v := iZ 1) hx hb dX10_readsName_25 rfl ?_
    refine lv_aload_n hx hb dX10_readsName_26 rfl (lv_at hl 0 rfl) ?_
    refine fz_get (D := (dC, dI)) (ci := 10) (v := .int (iZ (μ17 0 4))) (C := RX10) (T := TX10) (N := 53) hx hb hts inG10 hown hK hP (k := 0) (by decide) (F := mF h0) mE_obj rfl 4 (by decide) (hts _ k1170) (fun _ h9 => h9) rfl dX10_readsName_27 ?_
    rw [show μ17 0 4 = μ 0 4 from by rw [eμ17, uz_n (by omega), eμ16, uz_n (by omega)]]
    refine va_callv (va_runV (As := [.int (iZ (1)), .int (iZ (μ 0 4))]) (rest := []) ⟨hx, hb, hml, hown, hts⟩ (m_wrong l dC dI cI cZ cII cIII h0 H.size μ17 (1) (μ 0 4) (by
                rw [eμ17, eμ16, uz_n (by omega), uz_n (by omega), hf0]
                decide)) (cwV 2 hts (gV_G k1357 k1359 ks_yX10_wrong k13 k1360) rfl rfl rfl (by decide +kernel) ⟨Nat.le_of_ble_eq_true rfl, Nat.le_of_ble_eq_true rfl⟩) ⟨fun a U g mk q => by obtain ⟨q0, q1, qP, qK⟩ := q; exact ⟨q0, q1, qP, va_K.moved (u := U) (U := U.calling g mk a) (Vm.Alike.refl U.vm) qK⟩, va_recv hK hP (ci := 10) (q0 := 0) rfl ((fw_get (by decide)).trans (by rw [mE_obj]; rfl)), fun U hU hW => ⟨rfl, by rw [hU], by rw [hU]; exact hP, va_K.moved hW.alike hK⟩⟩ rfl rfl hl.1 rfl (lv_room (Nat.le_of_ble_eq_true rfl)) dX10_readsName_30 ⟨Nat.le_of_ble_eq_true rfl, Nat.le_of_ble_eq_true rfl⟩) hS (fun q _ h => fA_le hS.1 q h) (fA_le hS.1) (fun u9 t9 H1 locs ht9 hvm9 hw9 hB9 hz9 hk9 hS => ?_)
    obtain ⟨hP, -⟩ := hB9
    rw [ht9] at hP
    generalize H1 = H at hP hS ⊢
    obtain ⟨μ23, eμ23⟩ : ∃ x : va_M, x = u9 := ⟨_, rfl⟩
    rw [← eμ23] at hP hw9
    have hμ23 := hw9; clear hw9
    rw [if_pos (by rw [eμ17, eμ16, uz_n (by omega), uz_n (by omega)]; exact hf0)] at hμ23
    have v4 : μ23 0 4 = μ 0 4 := by rw [hμ23, eμ17, eμ16, uz_n (by omega), uz_n (by omega), uz_n (by omega), uz_n (by omega)]
    have v27 : μ23 0 27 = 0 := by rw [hμ23, eμ17, eμ16, uz_n (by omega), uz_n (by omega), uz_n (by omega), uz_s]
    have v28 : μ23 0 28 = 0 := by rw [hμ23, eμ17, eμ16, uz_n (by omega), uz_n (by omega), uz_s]
    have v6 : (μ23 0 6 = 0 ∧ sm (bA μ (μ 0 4))) ∨ (μ23 0 6 = 1 ∧ ¬ sm (bA μ (μ 0 4))) := Or.inr ⟨by rw [hμ23, uz_n (by omega), uz_s], by unfold sm; split at hμ20 <;> omega⟩
    have vfr : fr PN μ μ23 := by rw [hμ23]; exact fr_uz (fr_uz vfr (by simp [PN])) (by simp [PN])
    refine LX10_readsName_33 hx hb hml hown hts hK (Nat.le_of_ble_eq_true rfl) (Nat.le_of_ble_eq_true rfl) (Nat.le_of_ble_eq_true rfl) (Nat.le_of_ble_eq_true rfl) (μ) (μ 0 4) (by exact hB) (by exact h4.1) ?_ _ (0) μ23 H locs ls (by exact vfr) (by
                rw [v4]
                exact ⟨by simp, h4.2⟩) (by rw [v27]; rfl) (by rw [v28]; rfl) (by intro i hi; omega) (by
                rcases v6 with ⟨h1, h2⟩ | ⟨h1, h2⟩
                · exact Or.inl ⟨h1, by omega, fun _ => h2⟩
                · exact Or.inr ⟨h1, Or.inr ⟨rfl, h2⟩⟩) (Nat.lt_succ_self _) hP hS (lv_sub hl [0] rfl)
    · intro L_24 μ24_ H locs ls q1_24 q2_24 q3_24 q4_24 q5_24 q6_24 hP hS hl
      have hl : lv_has ls 1 [(0, .ref h0)] := hl
      exact W.vret hx hb hr (fun t9 ht9 hW9 => ⟨⟨μ24_, rfl, (by
                    try dsimp only
                    exact ⟨L_24, q1_24, q2_24.1, q2_24.2, q3_24, q4_24, q5_24, q6_24⟩), by rw [ht9]; exact hP, va_K.moved hW9.alike hK⟩, hS.F ht9⟩) hS.2.2 dX10_readsName_120

set_option maxRecDepth 100000 in
theorem k402 : (Cond.methodLink "PageSkeleton$Row" (48 : Nat) ({ cls := "PageSkeleton$Row", name := "load", desc := "([II)V" } : MethodName)) ∈ wsG := wsG_a2 162 rfl rfl
set_option maxRecDepth 100000 in
theorem k403 : (Cond.instanceMethod ({ cls := "PageSkeleton$Row", name := "load", desc := "([II)V" } : MethodName)) ∈ wsG := wsG_a2 163 rfl rfl
set_option maxRecDepth 100000 in
theorem k404 : (Cond.selects "PageSkeleton$Row" ({ cls := "PageSkeleton$Row", name := "load", desc := "([II)V" } : MethodName) ({ cls := "PageSkeleton$Row", name := "load", desc := "([II)V" } : MethodName)) ∈ wsG := wsG_a2 164 rfl rfl
set_option maxRecDepth 100000 in
theorem k405 : (Cond.code ({ cls := "PageSkeleton$Row", name := "load", desc := "([II)V" } : MethodName) prog_6_method_6_code (4 : Nat) (Option.none : Option Jvm.ClassFile.FieldType)) ∈ wsG := wsG_a2 165 rfl rfl
set_option maxRecDepth 100000 in
theorem k438 : (Cond.instanceMethod ({ cls := "PageSkeleton$Row", name := "after", desc := "(I)I" } : MethodName)) ∈ wsG := wsG_a2 198 rfl rfl
set_option maxRecDepth 100000 in
theorem k439 : (Cond.selects "PageSkeleton$Row" ({ cls := "PageSkeleton$Row", name := "after", desc := "(I)I" } : MethodName) ({ cls := "PageSkeleton$Row", name := "after", desc := "(I)I" } : MethodName)) ∈ wsG := wsG_a2 199 rfl rfl
set_option maxRecDepth 100000 in
theorem k440 : (Cond.code ({ cls := "PageSkeleton$Row", name := "after", desc := "(I)I" } : MethodName) prog_6_method_10_code (2 : Nat) (Option.some FieldType.int)) ∈ wsG := wsG_a2 200 rfl rfl
set_option maxRecDepth 100000 in
theorem k812 : (Cond.methodLink "PageSkeleton$Row" (65 : Nat) ({ cls := "PageSkeleton$Row", name := "after", desc := "(I)I" } : MethodName)) ∈ wsG := wsG_a4 92 rfl rfl
theorem dX4_countOf_0 : decode cX4_countOf 0 = .ok (.iconst 0, 1) := by decide +kernel
theorem dX4_countOf_1 : decode cX4_countOf 1 = .ok (.istore_n 2, 1) := by decide +kernel
theorem dX4_countOf_2 : decode cX4_countOf 2 = .ok (.iconst 0, 1) := by decide +kernel
theorem dX4_countOf_3 : decode cX4_countOf 3 = .ok (.istore_n 3, 1) := by decide +kernel
theorem dX4_countOf_4 : decode cX4_countOf 4 = .ok (.iload_n 3, 1) := by decide +kernel
theorem dX4_countOf_5 : decode cX4_countOf 5 = .ok (.aload_n 0, 1) := by decide +kernel
theorem dX4_countOf_6 : decode cX4_countOf 6 = .ok (.getfield 9, 3) := by decide +kernel
theorem dX4_countOf_9 : decode cX4_countOf 9 = .ok (.if_icmp .ge 22, 3) := by decide +kernel
theorem dX4_countOf_12 : decode cX4_countOf 12 = .ok (.aload_n 0, 1) := by decide +kernel
theorem dX4_countOf_13 : decode cX4_countOf 13 = .ok (.getfield 28, 3) := by decide +kernel
theorem dX4_countOf_16 : decode cX4_countOf 16 = .ok (.iload_n 3, 1) := by decide +kernel
theorem dX4_countOf_17 : decode cX4_countOf 17 = .ok (.iaload, 1) := by decide +kernel
theorem dX4_countOf_18 : decode cX4_countOf 18 = .ok (.iload_n 1, 1) := by decide +kernel
theorem dX4_countOf_19 : decode cX4_countOf 19 = .ok (.if_icmp .ne 6, 3) := by decide +kernel
theorem dX4_countOf_22 : decode cX4_countOf 22 = .ok (.iinc 2 1, 3) := by decide +kernel
theorem dX4_countOf_25 : decode cX4_countOf 25 = .ok (.iinc 3 1, 3) := by decide +kernel
theorem dX4_countOf_28 : decode cX4_countOf 28 = .ok (.goto (-24), 3) := by decide +kernel
theorem dX4_countOf_31 : decode cX4_countOf 31 = .ok (.iload_n 2, 1) := by decide +kernel
theorem dX4_countOf_32 : decode cX4_countOf 32 = .ok (.ireturn, 1) := by decide +kernel
theorem dX4_sizeAt_0 : decode cX4_sizeAt 0 = .ok (.aload_n 0, 1) := by decide +kernel
theorem dX4_sizeAt_1 : decode cX4_sizeAt 1 = .ok (.getfield 35, 3) := by decide +kernel
theorem dX4_sizeAt_4 : decode cX4_sizeAt 4 = .ok (.aload_n 0, 1) := by decide +kernel
theorem dX4_sizeAt_5 : decode cX4_sizeAt 5 = .ok (.iload_n 1, 1) := by decide +kernel
theorem dX4_sizeAt_6 : decode cX4_sizeAt 6 = .ok (.invokevirtual 65, 3) := by decide +kernel
theorem dX4_sizeAt_9 : decode cX4_sizeAt 9 = .ok (.iaload, 1) := by decide +kernel
theorem dX4_sizeAt_10 : decode cX4_sizeAt 10 = .ok (.aload_n 0, 1) := by decide +kernel
theorem dX4_sizeAt_11 : decode cX4_sizeAt 11 = .ok (.getfield 35, 3) := by decide +kernel
theorem dX4_sizeAt_14 : decode cX4_sizeAt 14 = .ok (.iload_n 1, 1) := by decide +kernel
theorem dX4_sizeAt_15 : decode cX4_sizeAt 15 = .ok (.iaload, 1) := by decide +kernel
theorem dX4_sizeAt_16 : decode cX4_sizeAt 16 = .ok (.isub, 1) := by decide +kernel
theorem dX4_sizeAt_17 : decode cX4_sizeAt 17 = .ok (.ireturn, 1) := by decide +kernel
theorem dX4_take_0 : decode cX4_take 0 = .ok (.aload_n 0, 1) := by decide +kernel
theorem dX4_take_1 : decode cX4_take 1 = .ok (.aload_n 1, 1) := by decide +kernel
theorem dX4_take_2 : decode cX4_take 2 = .ok (.getfield 28, 3) := by decide +kernel
theorem dX4_take_5 : decode cX4_take 5 = .ok (.aload_n 1, 1) := by decide +kernel
theorem dX4_take_6 : decode cX4_take 6 = .ok (.getfield 9, 3) := by decide +kernel
theorem dX4_take_9 : decode cX4_take 9 = .ok (.invokevirtual 48, 3) := by decide +kernel
theorem dX4_take_12 : decode cX4_take 12 = .ok (.return_, 1) := by decide +kernel
/-! a row taken from another; what a row is asked -/
set_option maxHeartbeats 4000000 in
set_option maxRecDepth 100000 in
theorem LX4_countOf_4 {p : Program} {l : Launch} {e : Env} {R : Room} {s : State} {m : MethodId} {args : Array Value} {below : List Frame} {meth : Method} {c : Code} {cells slots : Nat} {Q : State → Prop} {dC : Nat → ClassId} {dI : Nat → Nat → Nat} {h0 : Nat} {cI cZ cII cIII : ClassId} (hx : p.tables.exec = Jvm.exec) (hb : c.code = cX4_countOf) (hml : c.maxLocals = 4) (hown : s.vm.findClass RX4 = some m.cls) (hts : ∀ w ∈ wsG, w.before args s = true) (hK : va_K (dC, dI) vwCl (sT cI cZ cII cIII) s) (hM : xM s) (hRf : 1 ≤ R.frames) (hRl : 14 ≤ R.locals) (hRc : cells ≤ R.cells) (hRs : slots ≤ R.slots) (μ0 : va_M) (q : Nat) (rm : Nat) (sg : Int) (hq : rowB q rm) (hlen : 0 ≤ μ0 q 5 ∧ μ0 q 5 ≤ rm) (hsg : sgA μ0 (q + 1)) (hsr : inR sg) (hexit31 : ∀ (i : Int) (cn : Int) (μ : va_M) (H : Heap) (locs : List Loc) (ls : Array Slot), (μ = μ0) → (cn = nOf μ0 (q + 1) sg (μ0 q 5).toNat) → va_P (dC, dI) vwCl (fw (sE cI cZ cII cIII h0) h0 233 μ) H → va_S (fA h0 233 s.heap.size) s.heap H locs → lv_has ls 4 [(2, .int (iZ (cn)))] → W p l e R s m args below meth c H locs cells slots Q (F0 m 31 ls [])) :
    ∀ (n9 : Nat) (i : Int) (cn : Int) (μ : va_M) (H : Heap) (locs : List Loc) (ls : Array Slot), (μ = μ0) → (0 ≤ i ∧ i ≤ μ0 q 5) → (cn = nOf μ0 (q + 1) sg i.toNat) → (1101 - i).toNat < n9 → va_P (dC, dI) vwCl (fw (sE cI cZ cII cIII h0) h0 233 μ) H → va_S (fA h0 233 s.heap.size) s.heap H locs → lv_has ls 4 [(3, .int (iZ (i))), (2, .int (iZ (cn))), (1, .int (iZ (sg))), (0, .ref (h0 + q))] → W p l e R s m args below meth c H locs cells slots Q (F0 m 4 ls []) := by
  intro n9
  induction n9 with
  | zero => intro i cn μ H locs ls hm9_ hi hc hm9 hP hS hl; exact absurd hm9 (Nat.not_lt_zero _)
  | succ n9 ih =>
    intro i cn μ H locs ls hm9_ hi hc hm9 hP hS hl
    subst hm9_
    have hqb := rowB_b hq
    have hnb := nOf_b μ (q + 1) sg i.toNat
    have hsi := hsg i.toNat
    refine lv_iload_n hx hb dX4_countOf_4 rfl (lv_at hl 0 rfl) ?_
    refine lv_aload_n hx hb dX4_countOf_5 rfl (lv_at hl 3 rfl) ?_
    refine fz_get (D := (dC, dI)) (ci := 4) (v := .int (iZ (μ q 5))) (C := RX4) (T := TX4) (N := 8) hx hb hts inG4 hown hK hP (k := q) (by omega) (F := (sRF h0 q)) (sE_rowO hq) rfl 5 (by decide) (hts _ k92) (fun _ h9 => h9) rfl dX4_countOf_6 ?_
    refine fz_icmp_ge (tgt := 31) (by constructor <;> omega) (by constructor <;> omega) hx hb dX4_countOf_9 (by decide) (fun c9_ => ?_) (fun c9_ => ?_)
    · exact hexit31 (i) (cn) μ H locs ls (by rfl) (by rw [show (μ q 5).toNat = i.toNat by omega]; exact hc) hP hS (lv_sub hl [1] rfl)
    · refine lv_aload_n hx hb dX4_countOf_12 rfl (lv_at hl 3 rfl) ?_
      refine fz_get (D := (dC, dI)) (ci := 4) (v := .ref (h0 + (q + 1))) (C := RX4) (T := TX4) (N := 8) hx hb hts inG4 hown hK hP (k := q) (by omega) (F := (sRF h0 q)) (sE_rowO hq) rfl 0 (by decide) (hts _ k77) (fun _ h9 => h9) rfl dX4_countOf_13 ?_
      refine lv_iload_n hx hb dX4_countOf_16 rfl (lv_at hl 0 rfl) ?_
      refine fz_ld (k := (q + 1)) (n := rm) hx hb hK hP 0 (by omega) (sE_rowA (r := 1) hq (by decide)) rfl ⟨by omega, by omega⟩ (by omega) dX4_countOf_17 ?_
      refine lv_iload_n hx hb dX4_countOf_18 rfl (lv_at hl 2 rfl) ?_
      refine fz_icmp_ne (tgt := 25) (by first | (constructor <;> omega) | exact hsr) (by first | (constructor <;> omega) | exact hsr) hx hb dX4_countOf_19 (by decide) (fun c19_ => ?_) (fun c19_ => ?_)
      · have hst : nOf μ (q + 1) sg (i.toNat + 1) = nOf μ (q + 1) sg i.toNat := by rw [nOf, if_neg (by omega), Int.add_zero]
        refine lv_iinc (v := iZ (i + 1)) (lv' := [(3, .int (iZ (i + 1))), (2, .int (iZ (cn))), (1, .int (iZ (sg))), (0, .ref (h0 + q))]) hx hb dX4_countOf_25 hl (k := 0) rfl (iZ_add _ _) (by decide) rfl (fun ls hl => ?_)
        refine lv_goto (tgt := 4) hx hb dX4_countOf_28 (by decide) ?_
        exact ih (i + 1) (cn) μ H locs ls (by rfl) (by omega) (by rw [show (i + 1).toNat = i.toNat + 1 by omega, hst, hc]) (by omega) hP hS (lv_sub hl [0, 1, 2, 3] rfl)
      · have hst : nOf μ (q + 1) sg (i.toNat + 1) = nOf μ (q + 1) sg i.toNat + 1 := by rw [nOf, if_pos (by omega)]
        refine lv_iinc (v := iZ (cn + 1)) (lv' := [(2, .int (iZ (cn + 1))), (3, .int (iZ (i))), (1, .int (iZ (sg))), (0, .ref (h0 + q))]) hx hb dX4_countOf_22 hl (k := 1) rfl (iZ_add _ _) (by decide) rfl (fun ls hl => ?_)
        refine lv_iinc (v := iZ (i + 1)) (lv' := [(3, .int (iZ (i + 1))), (2, .int (iZ (cn + 1))), (1, .int (iZ (sg))), (0, .ref (h0 + q))]) hx hb dX4_countOf_25 hl (k := 1) rfl (iZ_add _ _) (by decide) rfl (fun ls hl => ?_)
        refine lv_goto (tgt := 4) hx hb dX4_countOf_28 (by decide) ?_
        exact ih (i + 1) (cn + 1) μ H locs ls (by rfl) (by omega) (by rw [show (i + 1).toNat = i.toNat + 1 by omega, hst, hc]) (by omega) hP hS (lv_sub hl [0, 1, 2, 3] rfl)
set_option maxHeartbeats 4000000 in
set_option maxRecDepth 100000 in
theorem s_RcountOf (l : Launch) (dC : Nat → ClassId) (dI : Nat → Nat → Nat) (cI cZ cII cIII : ClassId) (h0 sz : Nat) (μ : va_M) (q : Nat) (rm : Nat) (sg : Int) (hq : rowB q rm) (hlen : 0 ≤ μ q 5 ∧ μ q 5 ≤ rm) (hsg : sgA μ (q + 1)) (hsr : inR sg) : Met l yX4_countOf (Cond.code yX4_countOf cX4_countOf 4 (some .int) :: wsG) ({ frames := 1, cells := 0, slots := 0, locals := 14 } : Room) (va_Pc [.ref (h0 + q), .int (iZ (sg))] (fun U => U.heap.size = sz ∧ va_P (dC, dI) vwCl (fw (sE cI cZ cII cIII h0) h0 233 μ) U.heap ∧ va_K (dC, dI) vwCl (sT cI cZ cII cIII) U ∧ xM U)) (va_Qi (fun (r9 : Int32) (u : va_M × Int) => r9 = iZ u.2 ∧ (fun (u : va_M) (r : Int) => u = μ ∧ r = nOf μ (q + 1) sg (μ q 5).toNat) u.1 u.2) (fun u t => va_P (dC, dI) vwCl (fw (sE cI cZ cII cIII h0) h0 233 u.1) t.heap ∧ va_K (dC, dI) vwCl (sT cI cZ cII cIII) t) (fA h0 233 sz)) 0 0 (fA h0 233 sz) := by
  refine Met.ofW (cc := cX4_countOf) (maxL := 4) (ret := (some .int)) (by decide) rfl ?_
  intro p e s m args below meth c s₁ B hml hv
  obtain ⟨rfl, hsz, hP, hK, hM⟩ := hv
  have hx := B.exec
  have hb := B.bytes
  have hr := B.returns
  have hts : ∀ w ∈ wsG, w.before _ s = true := hG_of (atoms_spec (ws := (Cond.code yX4_countOf cX4_countOf 4 (some .int) :: wsG)) B.pre)
  have hown : s.vm.findClass RX4 = some m.cls := findClass_of_methodNamed B.named
  have hlocks := B.notSynchronized
  subst hsz
  have hS : va_S (fA h0 233 s.heap.size) s.heap s.heap [] := va_S.rf
  have hl := lv_entry ([.ref (h0 + q), .int (iZ (sg))]) (n := 4) (Nat.le_of_ble_eq_true rfl)
  rw [lg_entry_eq]
  generalize (lg_sl ([.ref (h0 + q), .int (iZ (sg))]) ++ List.replicate (4 - (lg_sl ([.ref (h0 + q), .int (iZ (sg))])).length) Slot.unset).toArray = ls at hl ⊢
  have hl : lv_has ls 4 [(0, .ref (h0 + q)), (1, .int (iZ (sg)))] := hl
  have hqb := rowB_b hq
  refine lv_iconst (v := iZ 0) hx hb dX4_countOf_0 rfl ?_
  refine lv_istore_n (lv' := [(2, .int (iZ (0))), (0, .ref (h0 + q)), (1, .int (iZ (sg)))]) hx hb dX4_countOf_1 rfl hl (by decide) rfl (fun ls hl => ?_)
  refine lv_iconst (v := iZ 0) hx hb dX4_countOf_2 rfl ?_
  refine lv_istore_n (lv' := [(3, .int (iZ (0))), (2, .int (iZ (0))), (0, .ref (h0 + q)), (1, .int (iZ (sg)))]) hx hb dX4_countOf_3 rfl hl (by decide) rfl (fun ls hl => ?_)
  refine LX4_countOf_4 hx hb hml hown hts hK hM (Nat.le_of_ble_eq_true rfl) (Nat.le_of_ble_eq_true rfl) (Nat.le_of_ble_eq_true rfl) (Nat.le_of_ble_eq_true rfl) (μ) (q) (rm) (sg) (by assumption) (by assumption) (by assumption) (by assumption) ?_ _ (0) (0) μ s.heap [] ls (by rfl) (by omega) (by rfl) (Nat.lt_succ_self _) hP hS (lv_sub hl [0, 1, 3, 2] rfl)
  · intro i_1 cn_1 μ1_ H locs ls q1_1 q2_1 hP hS hl
    have hl : lv_has ls 4 [(2, .int (iZ (cn_1)))] := hl
    have hPn31 := hP
    obtain rfl := q1_1
    have hP := hPn31
    refine lv_iload_n hx hb dX4_countOf_31 rfl (lv_at hl 0 rfl) ?_
    exact W.iret (v := iZ (cn_1)) hx hb hr (fun t9 ht9 hW9 => ⟨⟨iZ (cn_1), (μ1_, cn_1), rfl, ⟨rfl, (by
                dsimp only
                exact ⟨rfl, q2_1⟩)⟩, by rw [ht9]; exact hP, va_K.moved hW9.alike hK⟩, hS.F ht9⟩) hS.2.2 dX4_countOf_32
set_option maxHeartbeats 4000000 in
set_option maxRecDepth 100000 in
theorem s_RsizeAt (l : Launch) (dC : Nat → ClassId) (dI : Nat → Nat → Nat) (cI cZ cII cIII : ClassId) (h0 sz : Nat) (μ : va_M) (q : Nat) (rm : Nat) (p9 : Int) (hq : rowB q rm) (h_p : 0 ≤ p9 ∧ p9 < rm) (hr9 : 0 ≤ μ (q + 2) p9.toNat ∧ μ (q + 2) p9.toNat < rm) : Met l yX4_sizeAt (Cond.code yX4_sizeAt cX4_sizeAt 2 (some .int) :: wsG) ({ frames := 2, cells := 0, slots := 0, locals := 35 } : Room) (va_Pc [.ref (h0 + q), .int (iZ (p9))] (fun U => U.heap.size = sz ∧ va_P (dC, dI) vwCl (fw (sE cI cZ cII cIII h0) h0 233 μ) U.heap ∧ va_K (dC, dI) vwCl (sT cI cZ cII cIII) U ∧ xM U)) (va_Qi (fun (r9 : Int32) (u : va_M × Int) => r9 = iZ u.2 ∧ (fun (u : va_M) (r : Int) => u = μ ∧ r = μ (q + 3) (μ (q + 2) p9.toNat + 1).toNat - μ (q + 3) p9.toNat) u.1 u.2) (fun u t => va_P (dC, dI) vwCl (fw (sE cI cZ cII cIII h0) h0 233 u.1) t.heap ∧ va_K (dC, dI) vwCl (sT cI cZ cII cIII) t) (fA h0 233 sz)) 0 0 (fA h0 233 sz) := by
  refine Met.ofW (cc := cX4_sizeAt) (maxL := 2) (ret := (some .int)) (by decide) rfl ?_
  intro p e s m args below meth c s₁ B hml hv
  obtain ⟨rfl, hsz, hP, hK, hM⟩ := hv
  have hx := B.exec
  have hb := B.bytes
  have hr := B.returns
  have hts : ∀ w ∈ wsG, w.before _ s = true := hG_of (atoms_spec (ws := (Cond.code yX4_sizeAt cX4_sizeAt 2 (some .int) :: wsG)) B.pre)
  have hown : s.vm.findClass RX4 = some m.cls := findClass_of_methodNamed B.named
  have hlocks := B.notSynchronized
  subst hsz
  have hS : va_S (fA h0 233 s.heap.size) s.heap s.heap [] := va_S.rf
  have hl := lv_entry ([.ref (h0 + q), .int (iZ (p9))]) (n := 2) (Nat.le_of_ble_eq_true rfl)
  rw [lg_entry_eq]
  generalize (lg_sl ([.ref (h0 + q), .int (iZ (p9))]) ++ List.replicate (2 - (lg_sl ([.ref (h0 + q), .int (iZ (p9))])).length) Slot.unset).toArray = ls at hl ⊢
  have hl : lv_has ls 2 [(0, .ref (h0 + q)), (1, .int (iZ (p9)))] := hl
  have hqb := rowB_b hq
  refine lv_aload_n hx hb dX4_sizeAt_0 rfl (lv_at hl 0 rfl) ?_
  refine fz_get (D := (dC, dI)) (ci := 4) (v := .ref (h0 + (q + 3))) (C := RX4) (T := TX4) (N := 8) hx hb hts inG4 hown hK hP (k := q) (by omega) (F := (sRF h0 q)) (sE_rowO hq) rfl 2 (by decide) (hts _ k87) (fun _ h9 => h9) rfl dX4_sizeAt_1 ?_
  refine lv_aload_n hx hb dX4_sizeAt_4 rfl (lv_at hl 0 rfl) ?_
  refine lv_iload_n hx hb dX4_sizeAt_5 rfl (lv_at hl 1 rfl) ?_
  refine va_calli (va_runV (As := [.int (iZ (p9))]) (rest := [.ref (h0 + (q + 3))]) ⟨hx, hb, hml, hown, hts⟩ (s_Rafter l dC dI cI cZ cII cIII h0 s.heap.size μ (q) (rm) (p9) (hq) (by first | assumption | omega | exact ⟨by omega, by omega⟩) (by constructor <;> omega)) (cwV 1 hts (gV_G k812 k438 k439 k3 k440) rfl rfl rfl (by decide +kernel) ⟨Nat.le_of_ble_eq_true rfl, Nat.le_of_ble_eq_true rfl⟩) ⟨fun a U g mk q => by obtain ⟨q0, q1, qP, qK, qM⟩ := q; exact ⟨q0, q1, qP, va_K.moved (u := U) (U := U.calling g mk a) (Vm.Alike.refl U.vm) qK, qM⟩, va_recv hK hP (ci := 4) (q0 := q) rfl ((fw_get (by omega)).trans (by rw [(sE_rowO hq)])), fun U hU hW => ⟨rfl, by rw [hU], by rw [hU]; exact hP, va_K.moved hW.alike hK, xM_warm hW hM⟩⟩ rfl rfl hl.1 rfl (lv_room (Nat.le_of_ble_eq_true rfl)) dX4_sizeAt_6 ⟨Nat.le_of_ble_eq_true rfl, Nat.le_of_ble_eq_true rfl⟩) hS (fun q _ h => fA_le hS.1 q h) (fA_le hS.1) (fun r9 u9 t9 H1 locs ht9 hvm9 hw9 hB9 hz9 hk9 hS => ?_)
  obtain ⟨μa, ra⟩ := u9
  obtain ⟨hP, -⟩ := hB9
  rw [ht9] at hP
  generalize H1 = H at hP hS ⊢
  obtain ⟨e9, hw9⟩ := hw9
  have e9 : r9 = iZ ra := e9
  subst e9
  simp only at hP hw9
  have hμa := hw9; clear hw9
  rw [hμa.1] at hP; have hμa := hμa.2
  have hra := hμa
  refine fz_ld (k := (q + 3)) (n := (rm + 1)) hx hb hK hP 0 (by omega) (sE_row3 hq) rfl ⟨by omega, by omega⟩ (by omega) dX4_sizeAt_9 ?_
  refine lv_aload_n hx hb dX4_sizeAt_10 rfl (lv_at hl 0 rfl) ?_
  refine fz_get (D := (dC, dI)) (ci := 4) (v := .ref (h0 + (q + 3))) (C := RX4) (T := TX4) (N := 8) hx hb hts inG4 hown hK hP (k := q) (by omega) (F := (sRF h0 q)) (sE_rowO hq) rfl 2 (by decide) (hts _ k87) (fun _ h9 => h9) rfl dX4_sizeAt_11 ?_
  refine lv_iload_n hx hb dX4_sizeAt_14 rfl (lv_at hl 1 rfl) ?_
  refine fz_ld (k := (q + 3)) (n := (rm + 1)) hx hb hK hP 0 (by omega) (sE_row3 hq) rfl ⟨by omega, by omega⟩ (by omega) dX4_sizeAt_15 ?_
  refine lv_isub hx hb dX4_sizeAt_16 ?_
  refine lv_topi (fun x9 ex9 => ?_)
  obtain rfl : x9 = iZ ((μ (q + 3) (ra).toNat) - (μ (q + 3) (p9).toNat)) := ex9.trans (iZ_sub _ _)
  exact W.iret (v := iZ ((μ (q + 3) (ra).toNat) - (μ (q + 3) (p9).toNat))) hx hb hr (fun t9 ht9 hW9 => ⟨⟨iZ ((μ (q + 3) (ra).toNat) - (μ (q + 3) (p9).toNat)), (μ, (μ (q + 3) (ra).toNat) - (μ (q + 3) (p9).toNat)), rfl, ⟨rfl, (by
            dsimp only
            exact ⟨rfl, by rw [hra]⟩)⟩, by rw [ht9]; exact hP, va_K.moved hW9.alike hK⟩, hS.F ht9⟩) hS.2.2 dX4_sizeAt_17

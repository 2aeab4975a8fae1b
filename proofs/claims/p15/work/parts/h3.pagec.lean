
/-! what is told of a page and of its nodes: the class -/
theorem row_all {μ : va_M} {q : Nat} {w : Rw} (h : rowS μ q w) (hw : rW0 w) : μ q 6 = rN w ∧ μ (q + 3) (μ q 5).toNat = rL w ∧ nOf μ (q + 1) 514 (μ q 5).toNat = rkC 4 w ∧ mQ μ q (μ q 5).toNat = mxD 0 w := by
  obtain ⟨⟨h1, h2, h3⟩, h4, h5⟩ := h
  have e : (μ q 5).toNat = sL w := by omega
  have a := nOf_row (kk := 4) (Or.inr (Or.inr rfl)) w 0 hw h4
  have b := (mQ_row w 0 0 0 hw h4 h5).2
  have c := mxD_0 w 0
  have d : nOf μ (q + 1) (510 + ((4 : Nat) : Int)) 0 = 0 := rfl
  have d2 : mQ μ q 0 = 0 := rfl
  have d3 : rQ μ q 0 = 0 := rfl
  rw [Nat.zero_add] at a b
  rw [d, Int.zero_add] at a
  rw [d2, d3] at b
  rw [e]
  exact ⟨h2, h3, a, by omega⟩
set_option maxHeartbeats 4000000 in
set_option maxRecDepth 100000 in
theorem LX4_deepestRepeat_6b {p : Program} {l : Launch} {e : Env} {R : Room} {s : State} {m : MethodId} {args : Array Value} {below : List Frame} {meth : Method} {c : Code} {cells slots : Nat} {Q : State → Prop} {dC : Nat → ClassId} {dI : Nat → Nat → Nat} {h0 : Nat} {cI cZ cII cIII : ClassId} (hx : p.tables.exec = Jvm.exec) (hb : c.code = cX4_deepestRepeat) (hml : c.maxLocals = 4) (hown : s.vm.findClass RX4 = some m.cls) (hts : ∀ w ∈ wsG, w.before args s = true) (hK : va_K (dC, dI) vwCl (sT cI cZ cII cIII) s) (hM : xM s) (hRf : 1 ≤ R.frames) (hRl : 21 ≤ R.locals) (hRc : cells ≤ R.cells) (hRs : slots ≤ R.slots) (μ0 : va_M) (q : Nat) (rm : Nat) (hq : rowB q rm) (hG : rG μ0 q rm) (hexit76 : ∀ (i : Int) (dd : Int) (de : Int) (μ : va_M) (H : Heap) (locs : List Loc) (ls : Array Slot), (μ = μ0) → (dd = mQ μ0 q (μ0 q 5).toNat) → va_P (dC, dI) vwCl (fw (sE cI cZ cII cIII h0) h0 233 μ) H → va_S (fA h0 233 s.heap.size) s.heap H locs → lv_has ls 4 [(2, .int (iZ (dd)))] → W p l e R s m args below meth c H locs cells slots Q (F0 m 76 ls [])) :
    ∀ (n9 : Nat) (i : Int) (dd : Int) (de : Int) (μ : va_M) (H : Heap) (locs : List Loc) (ls : Array Slot), (μ = μ0) → (0 ≤ i ∧ i ≤ μ0 q 5) → (de = rQ μ0 q i.toNat ∧ dd = mQ μ0 q i.toNat) → (1101 - i).toNat < n9 → va_P (dC, dI) vwCl (fw (sE cI cZ cII cIII h0) h0 233 μ) H → va_S (fA h0 233 s.heap.size) s.heap H locs → lv_has ls 4 [(3, .int (iZ (i))), (2, .int (iZ (dd))), (1, .int (iZ (de))), (0, .ref (h0 + q))] → W p l e R s m args below meth c H locs cells slots Q (F0 m 6 ls []) := by
  intro n9
  induction n9 with
  | zero => intro i dd de μ H locs ls hm9_ hi hd hm9 hP hS hl; exact absurd hm9 (Nat.not_lt_zero _)
  | succ n9 ih =>
    intro i dd de μ H locs ls hm9_ hi hd hm9 hP hS hl
    subst hm9_
    have hrm := rG_rm hq hG
    have hqb := rowB_b hq
    have hb1 := rQ_b (μ := μ) (q := q) i.toNat
    have hb2 := mQ_b (μ := μ) (q := q) i.toNat
    refine lv_iload_n hx hb dX4_deepestRepeat_6 rfl (lv_at hl 0 rfl) ?_
    refine lv_aload_n hx hb dX4_deepestRepeat_7 rfl (lv_at hl 3 rfl) ?_
    refine fz_get (D := (dC, dI)) (ci := 4) (v := .int (iZ (μ q 5))) (C := RX4) (T := TX4) (N := 8) hx hb hts inG4 hown hK hP (k := q) (by omega) (F := (sRF h0 q)) (sE_rowO hq) rfl 5 (by decide) (hts _ k92) (fun _ h9 => h9) rfl dX4_deepestRepeat_8 ?_
    refine fz_icmp_ge (tgt := 76) (by constructor <;> omega) (by constructor <;> omega) hx hb dX4_deepestRepeat_11 (by decide) (fun c11_ => ?_) (fun c11_ => ?_)
    · exact hexit76 (i) (dd) (de) μ H locs ls (by rfl) (by rw [show (μ q 5).toNat = i.toNat by omega]; exact hd.2) hP hS (lv_sub hl [1] rfl)
    · have hmi := rG_m hG (i) (by omega) (by omega)
      have hs1 := hG.1 (i).toNat
      have hs2 := hG.1 (μ (q + 2) (i).toNat).toNat
      refine lv_aload_n hx hb dX4_deepestRepeat_14 rfl (lv_at hl 3 rfl) ?_
      refine fz_get (D := (dC, dI)) (ci := 4) (v := .ref (h0 + (q + 1))) (C := RX4) (T := TX4) (N := 8) hx hb hts inG4 hown hK hP (k := q) (by omega) (F := (sRF h0 q)) (sE_rowO hq) rfl 0 (by decide) (hts _ k77) (fun _ h9 => h9) rfl dX4_deepestRepeat_15 ?_
      refine lv_iload_n hx hb dX4_deepestRepeat_18 rfl (lv_at hl 0 rfl) ?_
      refine fz_ld (k := (q + 1)) (n := rm) hx hb hK hP 0 (by omega) (sE_rowA (r := 1) hq (by decide)) rfl ⟨by omega, by omega⟩ (by omega) dX4_deepestRepeat_19 ?_
      refine lv_sipush (v := iZ 514) hx hb dX4_deepestRepeat_20 rfl ?_
      refine fz_icmp_ne (tgt := 38) (by constructor <;> omega) (by decide) hx hb dX4_deepestRepeat_23 (by decide) (fun c23_ => ?_) (fun c23_ => ?_)
      · refine lv_aload_n hx hb dX4_deepestRepeat_38 rfl (lv_at hl 3 rfl) ?_
        refine fz_get (D := (dC, dI)) (ci := 4) (v := .ref (h0 + (q + 1))) (C := RX4) (T := TX4) (N := 8) hx hb hts inG4 hown hK hP (k := q) (by omega) (F := (sRF h0 q)) (sE_rowO hq) rfl 0 (by decide) (hts _ k77) (fun _ h9 => h9) rfl dX4_deepestRepeat_39 ?_
        refine lv_iload_n hx hb dX4_deepestRepeat_42 rfl (lv_at hl 0 rfl) ?_
        refine fz_ld (k := (q + 1)) (n := rm) hx hb hK hP 0 (by omega) (sE_rowA (r := 1) hq (by decide)) rfl ⟨by omega, by omega⟩ (by omega) dX4_deepestRepeat_43 ?_
        refine lv_sipush (v := iZ 515) hx hb dX4_deepestRepeat_44 rfl ?_
        refine fz_icmp_ne (tgt := 70) (by constructor <;> omega) (by decide) hx hb dX4_deepestRepeat_47 (by decide) (fun c47_ => ?_) (fun c47_ => ?_)
        · refine lv_iinc (v := iZ (i + 1)) (lv' := [(3, .int (iZ (i + 1))), (2, .int (iZ (dd))), (1, .int (iZ (de))), (0, .ref (h0 + q))]) hx hb dX4_deepestRepeat_70 hl (k := 0) rfl (iZ_add _ _) (by decide) rfl (fun ls hl => ?_)
          refine lv_goto (tgt := 6) hx hb dX4_deepestRepeat_73 (by decide) ?_
          exact ih (i + 1) (dd) (de) μ H locs ls (by rfl) (by omega) (by rw [show (i + 1).toNat = i.toNat + 1 by omega, rQ, mQ, if_neg (by omega), if_neg (by omega), if_neg (by omega)]; omega) (by omega) hP hS (lv_sub hl [0, 1, 2, 3] rfl)
        · refine lv_aload_n hx hb dX4_deepestRepeat_50 rfl (lv_at hl 3 rfl) ?_
          refine fz_get (D := (dC, dI)) (ci := 4) (v := .ref (h0 + (q + 1))) (C := RX4) (T := TX4) (N := 8) hx hb hts inG4 hown hK hP (k := q) (by omega) (F := (sRF h0 q)) (sE_rowO hq) rfl 0 (by decide) (hts _ k77) (fun _ h9 => h9) rfl dX4_deepestRepeat_51 ?_
          refine lv_aload_n hx hb dX4_deepestRepeat_54 rfl (lv_at hl 3 rfl) ?_
          refine fz_get (D := (dC, dI)) (ci := 4) (v := .ref (h0 + (q + 2))) (C := RX4) (T := TX4) (N := 8) hx hb hts inG4 hown hK hP (k := q) (by omega) (F := (sRF h0 q)) (sE_rowO hq) rfl 1 (by decide) (hts _ k83) (fun _ h9 => h9) rfl dX4_deepestRepeat_55 ?_
          refine lv_iload_n hx hb dX4_deepestRepeat_58 rfl (lv_at hl 0 rfl) ?_
          refine fz_ld (k := (q + 2)) (n := rm) hx hb hK hP 0 (by omega) (sE_rowA (r := 2) hq (by decide)) rfl ⟨by omega, by omega⟩ (by omega) dX4_deepestRepeat_59 ?_
          refine fz_ld (k := (q + 1)) (n := rm) hx hb hK hP 0 (by omega) (sE_rowA (r := 1) hq (by decide)) rfl ⟨by omega, by omega⟩ (by omega) dX4_deepestRepeat_60 ?_
          refine lv_sipush (v := iZ 514) hx hb dX4_deepestRepeat_61 rfl ?_
          refine fz_icmp_ne (tgt := 70) (by constructor <;> omega) (by decide) hx hb dX4_deepestRepeat_64 (by decide) (fun c64_ => ?_) (fun c64_ => ?_)
          · refine lv_iinc (v := iZ (i + 1)) (lv' := [(3, .int (iZ (i + 1))), (2, .int (iZ (dd))), (1, .int (iZ (de))), (0, .ref (h0 + q))]) hx hb dX4_deepestRepeat_70 hl (k := 0) rfl (iZ_add _ _) (by decide) rfl (fun ls hl => ?_)
            refine lv_goto (tgt := 6) hx hb dX4_deepestRepeat_73 (by decide) ?_
            exact ih (i + 1) (dd) (de) μ H locs ls (by rfl) (by omega) (by rw [show (i + 1).toNat = i.toNat + 1 by omega, rQ, mQ, if_neg (by omega), if_neg (by omega), if_neg (by omega)]; omega) (by omega) hP hS (lv_sub hl [0, 1, 2, 3] rfl)
          · refine lv_iinc (v := iZ (de - 1)) (lv' := [(1, .int (iZ (de - 1))), (3, .int (iZ (i))), (2, .int (iZ (dd))), (0, .ref (h0 + q))]) hx hb dX4_deepestRepeat_67 hl (k := 2) rfl (iZ_add _ (-1)) (by decide) rfl (fun ls hl => ?_)
            refine lv_iinc (v := iZ (i + 1)) (lv' := [(3, .int (iZ (i + 1))), (1, .int (iZ (de - 1))), (2, .int (iZ (dd))), (0, .ref (h0 + q))]) hx hb dX4_deepestRepeat_70 hl (k := 1) rfl (iZ_add _ _) (by decide) rfl (fun ls hl => ?_)
            refine lv_goto (tgt := 6) hx hb dX4_deepestRepeat_73 (by decide) ?_
            exact ih (i + 1) (dd) (de - 1) μ H locs ls (by rfl) (by omega) (by rw [show (i + 1).toNat = i.toNat + 1 by omega, rQ, mQ, if_neg (by omega), if_pos ⟨by omega, by omega⟩, if_neg (by omega)]; omega) (by omega) hP hS (lv_sub hl [0, 2, 1, 3] rfl)
      · refine lv_iinc (v := iZ (de + 1)) (lv' := [(1, .int (iZ (de + 1))), (3, .int (iZ (i))), (2, .int (iZ (dd))), (0, .ref (h0 + q))]) hx hb dX4_deepestRepeat_26 hl (k := 2) rfl (iZ_add _ _) (by decide) rfl (fun ls hl => ?_)
        refine lv_iload_n hx hb dX4_deepestRepeat_29 rfl (lv_at hl 2 rfl) ?_
        refine lv_iload_n hx hb dX4_deepestRepeat_30 rfl (lv_at hl 0 rfl) ?_
        refine va_mmax hx hb (hml.trans hl.1.symm) hown (hts _ k74) (hts _ k75) (hts _ k4) (hts _ k76) (Nat.le_trans (Nat.le_of_ble_eq_true rfl) hRf) (Nat.le_trans (m := 21) (Nat.le_of_ble_eq_true rfl) hRl) hRc hRs dX4_deepestRepeat_31 ?_
        refine lv_topi (fun x9 ex9 => ?_)
        obtain rfl : x9 = iZ (max dd (de + 1)) := ex9.trans (iZ_mx (by constructor <;> omega) (by constructor <;> omega))
        refine lv_istore_n (lv' := [(2, .int (iZ (max dd (de + 1)))), (1, .int (iZ (de + 1))), (3, .int (iZ (i))), (0, .ref (h0 + q))]) hx hb dX4_deepestRepeat_34 rfl hl (by decide) rfl (fun ls hl => ?_)
        refine lv_goto (tgt := 70) hx hb dX4_deepestRepeat_35 (by decide) ?_
        refine lv_iinc (v := iZ (i + 1)) (lv' := [(3, .int (iZ (i + 1))), (2, .int (iZ (max dd (de + 1)))), (1, .int (iZ (de + 1))), (0, .ref (h0 + q))]) hx hb dX4_deepestRepeat_70 hl (k := 2) rfl (iZ_add _ _) (by decide) rfl (fun ls hl => ?_)
        refine lv_goto (tgt := 6) hx hb dX4_deepestRepeat_73 (by decide) ?_
        exact ih (i + 1) (max dd (de + 1)) (de + 1) μ H locs ls (by rfl) (by omega) (by rw [show (i + 1).toNat = i.toNat + 1 by omega, rQ, mQ, if_pos (by omega), if_pos (by omega)]; omega) (by omega) hP hS (lv_sub hl [0, 1, 2, 3] rfl)
set_option maxHeartbeats 4000000 in
set_option maxRecDepth 100000 in
theorem s_RdeepestRepeat2 (l : Launch) (dC : Nat → ClassId) (dI : Nat → Nat → Nat) (cI cZ cII cIII : ClassId) (h0 sz : Nat) (μ : va_M) (q : Nat) (rm : Nat) (hq : rowB q rm) (hG : rG μ q rm) : Met l yX4_deepestRepeat (Cond.code yX4_deepestRepeat cX4_deepestRepeat 4 (some .int) :: wsG) ({ frames := 1, cells := 0, slots := 0, locals := 21 } : Room) (va_Pc [.ref (h0 + q)] (fun U => U.heap.size = sz ∧ va_P (dC, dI) vwCl (fw (sE cI cZ cII cIII h0) h0 233 μ) U.heap ∧ va_K (dC, dI) vwCl (sT cI cZ cII cIII) U ∧ xM U)) (va_Qi (fun (r9 : Int32) (u : va_M × Int) => r9 = iZ u.2 ∧ (fun (u : va_M) (r : Int) => u = μ ∧ r = mQ μ q (μ q 5).toNat) u.1 u.2) (fun u t => va_P (dC, dI) vwCl (fw (sE cI cZ cII cIII h0) h0 233 u.1) t.heap ∧ va_K (dC, dI) vwCl (sT cI cZ cII cIII) t) (fA h0 233 sz)) 0 0 (fA h0 233 sz) := by
  refine Met.ofW (cc := cX4_deepestRepeat) (maxL := 4) (ret := (some .int)) (by decide) rfl ?_
  intro p e s m args below meth c s₁ B hml hv
  obtain ⟨rfl, hsz, hP, hK, hM⟩ := hv
  have hx := B.exec
  have hb := B.bytes
  have hr := B.returns
  have hts : ∀ w ∈ wsG, w.before _ s = true := hG_of (atoms_spec (ws := (Cond.code yX4_deepestRepeat cX4_deepestRepeat 4 (some .int) :: wsG)) B.pre)
  have hown : s.vm.findClass RX4 = some m.cls := findClass_of_methodNamed B.named
  have hlocks := B.notSynchronized
  subst hsz
  have hS : va_S (fA h0 233 s.heap.size) s.heap s.heap [] := va_S.rf
  have hl := lv_entry ([.ref (h0 + q)]) (n := 4) (Nat.le_of_ble_eq_true rfl)
  rw [lg_entry_eq]
  generalize (lg_sl ([.ref (h0 + q)]) ++ List.replicate (4 - (lg_sl ([.ref (h0 + q)])).length) Slot.unset).toArray = ls at hl ⊢
  have hl : lv_has ls 4 [(0, .ref (h0 + q))] := hl
  have hqb := rowB_b hq
  refine lv_iconst (v := iZ 0) hx hb dX4_deepestRepeat_0 rfl ?_
  refine lv_istore_n (lv' := [(1, .int (iZ (0))), (0, .ref (h0 + q))]) hx hb dX4_deepestRepeat_1 rfl hl (by decide) rfl (fun ls hl => ?_)
  refine lv_iconst (v := iZ 0) hx hb dX4_deepestRepeat_2 rfl ?_
  refine lv_istore_n (lv' := [(2, .int (iZ (0))), (1, .int (iZ (0))), (0, .ref (h0 + q))]) hx hb dX4_deepestRepeat_3 rfl hl (by decide) rfl (fun ls hl => ?_)
  refine lv_iconst (v := iZ 0) hx hb dX4_deepestRepeat_4 rfl ?_
  refine lv_istore_n (lv' := [(3, .int (iZ (0))), (2, .int (iZ (0))), (1, .int (iZ (0))), (0, .ref (h0 + q))]) hx hb dX4_deepestRepeat_5 rfl hl (by decide) rfl (fun ls hl => ?_)
  refine LX4_deepestRepeat_6b hx hb hml hown hts hK hM (Nat.le_of_ble_eq_true rfl) (Nat.le_of_ble_eq_true rfl) (Nat.le_of_ble_eq_true rfl) (Nat.le_of_ble_eq_true rfl) (μ) (q) (rm) (by assumption) (by assumption) ?_ _ (0) (0) (0) μ s.heap [] ls (by rfl) (by have := rG_len hG; omega) (by exact ⟨rfl, rfl⟩) (Nat.lt_succ_self _) hP hS (lv_sub hl [0, 1, 2, 3] rfl)
  · intro i_1 dd_1 de_1 μ1_ H locs ls q1_1 q2_1 hP hS hl
    have hl : lv_has ls 4 [(2, .int (iZ (dd_1)))] := hl
    have hPn76 := hP
    obtain rfl := q1_1
    have hP := hPn76
    refine lv_iload_n hx hb dX4_deepestRepeat_76 rfl (lv_at hl 0 rfl) ?_
    exact W.iret (v := iZ (dd_1)) hx hb hr (fun t9 ht9 hW9 => ⟨⟨iZ (dd_1), (μ1_, dd_1), rfl, ⟨rfl, (by
                dsimp only
                exact ⟨rfl, q2_1⟩)⟩, by rw [ht9]; exact hP, va_K.moved hW9.alike hK⟩, hS.F ht9⟩) hS.2.2 dX4_deepestRepeat_77
set_option maxHeartbeats 4000000 in
set_option maxRecDepth 100000 in
theorem t_pageOf (l : Launch) (hfl : l.stackTraces = false) (dC : Nat → ClassId) (dI : Nat → Nat → Nat) (cI cZ cII cIII : ClassId) (h0 sz : Nat) (μ : va_M) (pg : Int) (wh : Int) (T : List Tk) (wp : Rw) (hI : CI T μ) (h_pg : inR pg) (h_wh : inR wh) (hwp : 0 ≤ pg ∧ pg < μ 0 2 → rowS μ (113 + (pg).toNat * 15 + 3) wp ∧ rWF wp) : vx_Met l yX9_pageOf (Cond.code yX9_pageOf cX9_pageOf 4 (some .int) :: wsG) ({ frames := 8, cells := 1, slots := 6, locals := 131 } : Room) (va_Pc [.ref h0, .int (iZ (pg)), .int (iZ (wh))] (fun U => U.heap.size = sz ∧ va_P (dC, dI) vwCl (fw (sE cI cZ cII cIII h0) h0 233 μ) U.heap ∧ va_K (dC, dI) vwCl (sT cI cZ cII cIII) U ∧ xM U ∧ xX (fA h0 233 sz) U)) (va_Qi (fun (r9 : Int32) (u : va_M × Int) => r9 = iZ u.2 ∧ (fun (u : va_M) (r : Int) => CI T u ∧ SZ μ u ∧ (0 ≤ pg ∧ pg < μ 0 2) ∧ (0 ≤ wh ∧ wh ≤ 4) ∧ r = pgV (μ (113 + (pg).toNat * 15) 2) wp wh) u.1 u.2) (fun u t => va_P (dC, dI) vwCl (fw (sE cI cZ cII cIII h0) h0 233 u.1) t.heap ∧ va_K (dC, dI) vwCl (sT cI cZ cII cIII) t) (fA h0 233 sz)) (vx_X (fun (u : va_M) => CI T u ∧ SZ μ u) (fun E u t => E ∈ (["java/util/NoSuchElementException", "java/lang/IllegalArgumentException"] : List String) ∧ va_P (dC, dI) vwCl (fw (sE cI cZ cII cIII h0) h0 233 u) t.heap ∧ va_K (dC, dI) vwCl (sT cI cZ cII cIII) t ∧ ((E = "java/util/NoSuchElementException" → cd2 (0 ≤ pg ∧ pg < μ 0 2) (0 ≤ wh ∧ wh ≤ 4) = 1) ∧ (E = "java/lang/IllegalArgumentException" → cd2 (0 ≤ pg ∧ pg < μ 0 2) (0 ≤ wh ∧ wh ≤ 4) = 2))) (fA h0 233 sz)) 1 6 (fA h0 233 sz) := by
  refine vx_ofW (cc := cX9_pageOf) (maxL := 4) (ret := (some .int)) (by decide) rfl ?_
  intro p e s m args below meth c s₁ B hml hnt hv
  obtain ⟨rfl, hsz, hP, hK, hM, hEx⟩ := hv
  have hx := B.exec
  have hb := B.bytes
  have hr := B.returns
  have hts : ∀ w ∈ wsG, w.before _ s = true := hG_of (atoms_spec (ws := (Cond.code yX9_pageOf cX9_pageOf 4 (some .int) :: wsG)) B.pre)
  have hown : s.vm.findClass RX9 = some m.cls := findClass_of_methodNamed B.named
  have hlocks := B.notSynchronized
  subst hsz
  have hS : va_S (fA h0 233 s.heap.size) s.heap s.heap [] := va_S.rf
  have hl := lv_entry ([.ref h0, .int (iZ (pg)), .int (iZ (wh))]) (n := 4) (Nat.le_of_ble_eq_true rfl)
  rw [lg_entry_eq]
  generalize (lg_sl ([.ref h0, .int (iZ (pg)), .int (iZ (wh))]) ++ List.replicate (4 - (lg_sl ([.ref h0, .int (iZ (pg)), .int (iZ (wh))])).length) Slot.unset).toArray = ls at hl ⊢
  have hl : lv_has ls 4 [(0, .ref h0), (1, .int (iZ (pg))), (2, .int (iZ (wh)))] := hl
  have hlc := CI_lc hI
  have h66 := CI_n6 hI
  refine lv_aload_n hx hb dX9_pageOf_0 rfl (lv_at hl 0 rfl) ?_
  refine lv_iload_n hx hb dX9_pageOf_1 rfl (lv_at hl 1 rfl) ?_
  by_cases hn2_ : 0 ≤ pg ∧ pg < μ 0 2
  · refine va_callv (va_runV (As := [.int (iZ (pg))]) (rest := []) ⟨hx, hb, hml, hown, hts⟩ (s_needPage l dC dI cI cZ cII cIII h0 s.heap.size μ (pg) (by first | assumption | omega | exact CI_lc hI | exact CI_cn hI | exact (CI_n6 hI).1 | decide) (by first | assumption | omega | exact CI_lc hI | exact CI_cn hI | exact (CI_n6 hI).1 | decide) (by exact hn2_)) (cwV 1 hts (gV_G k735 k737 ks_yX9_needPage k1 k738) rfl rfl rfl (by decide +kernel) ⟨Nat.le_of_ble_eq_true rfl, Nat.le_of_ble_eq_true rfl⟩) ⟨fun a U g mk q => by obtain ⟨q0, q1, qP, qK, qM⟩ := q; exact ⟨q0, q1, qP, va_K.moved (u := U) (U := U.calling g mk a) (Vm.Alike.refl U.vm) qK, qM⟩, va_recv hK hP (ci := 9) (q0 := 0) rfl ((fw_get (by decide)).trans (by rw [sE_0]; rfl)), fun U hU hW => ⟨rfl, by rw [hU], by rw [hU]; exact hP, va_K.moved hW.alike hK, xM_warm hW hM⟩⟩ rfl rfl hl.1 rfl (lv_room (Nat.le_of_ble_eq_true rfl)) dX9_pageOf_2 ⟨Nat.le_of_ble_eq_true rfl, Nat.le_of_ble_eq_true rfl⟩) hS (fun q _ h => fA_le hS.1 q h) (fA_le hS.1) (fun u9 t9 H1 locs ht9 hvm9 hw9 hB9 hz9 hk9 hS => ?_)
    obtain ⟨hP, -⟩ := hB9
    rw [ht9] at hP
    generalize H1 = H at hP hS ⊢
    obtain ⟨μ1, eμ1⟩ : ∃ x : va_M, x = u9 := ⟨_, rfl⟩
    rw [← eμ1] at hP hw9
    have hμ1 := hw9; clear hw9
    rw [hμ1] at hP
    obtain ⟨hl1, hl2⟩ := CI_lf hI pg (by omega) (by omega)
    have hg2 := hl1.2.2.2
    obtain ⟨w1_, w2_⟩ := hwp (by omega)
    obtain ⟨z1_, z2_, z3_, z4_⟩ := row_all w1_ (rWF_0 _ w2_)
    refine lv_aload_n hx hb dX9_pageOf_5 rfl (lv_at hl 0 rfl) ?_
    refine fz_get (D := (dC, dI)) (ci := 9) (v := .ref (h0 + 5)) (C := RX9) (T := TX9) (N := 15) hx hb hts inG9 hown hK hP (k := 0) (by decide) (F := (sF0 h0)) sE_0 rfl 1 (by decide) (hts _ k333) (fun _ h9 => h9) rfl dX9_pageOf_6 ?_
    refine lv_iload_n hx hb dX9_pageOf_9 rfl (lv_at hl 1 rfl) ?_
    refine fz_ald (k := 5) (n := 8) (k2 := (113 + (pg).toNat * 15)) hx hb hK hP 1 rfl (by decide) sE_5 rfl ⟨by omega, by omega⟩ (by decide) (if_pos (by omega)) dX9_pageOf_10 ?_
    refine lv_astore_n (lv' := [(3, .ref (h0 + (113 + (pg).toNat * 15))), (0, .ref h0), (1, .int (iZ (pg))), (2, .int (iZ (wh)))]) hx hb dX9_pageOf_11 rfl hl (by decide) rfl (fun ls hl => ?_)
    refine lv_iload_n hx hb dX9_pageOf_12 rfl (lv_at hl 3 rfl) ?_
    by_cases hc13_0 : wh = 0
    · refine lv_tableIn (tgt := 48) (off := 35) hx hb dX9_pageOf_13 (by rw [iZ_toInt (by first | assumption | (constructor <;> omega) | decide), hc13_0]; decide +kernel) (by rw [iZ_toInt (by first | assumption | (constructor <;> omega) | decide), hc13_0]; decide +kernel) (by rw [iZ_toInt (by first | assumption | (constructor <;> omega) | decide), hc13_0]; decide +kernel) (by decide) ?_
      refine lv_aload_n hx hb dX9_pageOf_48 rfl (lv_at hl 0 rfl) ?_
      refine fz_get (D := (dC, dI)) (ci := 1) (v := .int (iZ (μ (113 + (pg).toNat * 15) 2))) (C := RX1) (T := TX1) (N := 8) hx hb hts inG1 hown hK hP (k := (113 + (pg).toNat * 15)) (by omega) (F := (sLF h0 (113 + (pg).toNat * 15))) (sE_leafO (show (pg).toNat < 8 by omega) rfl) rfl 2 (by decide) (hts _ k301) (fun _ h9 => h9) rfl dX9_pageOf_49 ?_
      exact W_widen (Nat.le_of_ble_eq_true rfl) (Nat.le_of_ble_eq_true rfl) (vx_ret (W.iret (v := iZ (μ (113 + (pg).toNat * 15) 2)) hx hb hr (fun t9 ht9 hW9 => ⟨⟨iZ (μ (113 + (pg).toNat * 15) 2), (μ, μ (113 + (pg).toNat * 15) 2), rfl, ⟨rfl, (by
                    dsimp only
                    refine ⟨hI, SZ_rf, by omega, by omega, ?_⟩
                    rw [pgV, if_pos (by omega)])⟩, by rw [ht9]; exact hP, va_K.moved hW9.alike hK⟩, hS.F ht9⟩) hS.2.2 dX9_pageOf_52))
    · skip
      by_cases hc13_1 : wh = 1
      · refine lv_tableIn (tgt := 53) (off := 40) hx hb dX9_pageOf_13 (by rw [iZ_toInt (by first | assumption | (constructor <;> omega) | decide), hc13_1]; decide +kernel) (by rw [iZ_toInt (by first | assumption | (constructor <;> omega) | decide), hc13_1]; decide +kernel) (by rw [iZ_toInt (by first | assumption | (constructor <;> omega) | decide), hc13_1]; decide +kernel) (by decide) ?_
        refine lv_aload_n hx hb dX9_pageOf_53 rfl (lv_at hl 0 rfl) ?_
        refine fz_get (D := (dC, dI)) (ci := 1) (v := .ref (h0 + ((113 + (pg).toNat * 15) + 3))) (C := RX1) (T := TX1) (N := 8) hx hb hts inG1 hown hK hP (k := (113 + (pg).toNat * 15)) (by omega) (F := (sLF h0 (113 + (pg).toNat * 15))) (sE_leafO (show (pg).toNat < 8 by omega) rfl) rfl 3 (by decide) (hts _ k304) (fun _ h9 => h9) rfl dX9_pageOf_54 ?_
        refine fz_get (D := (dC, dI)) (ci := 4) (v := .int (iZ (μ ((113 + (pg).toNat * 15) + 3) 6))) (C := RX4) (T := TX4) (N := 8) hx hb hts inG4 hown hK hP (k := ((113 + (pg).toNat * 15) + 3)) (by omega) (F := (sRF h0 ((113 + (pg).toNat * 15) + 3))) (sE_rowO (rowB_L (show (pg).toNat < 8 by omega) rfl)) rfl 6 (by decide) (hts _ k101) (fun _ h9 => h9) rfl dX9_pageOf_57 ?_
        exact W_widen (Nat.le_of_ble_eq_true rfl) (Nat.le_of_ble_eq_true rfl) (vx_ret (W.iret (v := iZ (μ ((113 + (pg).toNat * 15) + 3) 6)) hx hb hr (fun t9 ht9 hW9 => ⟨⟨iZ (μ ((113 + (pg).toNat * 15) + 3) 6), (μ, μ ((113 + (pg).toNat * 15) + 3) 6), rfl, ⟨rfl, (by
                        dsimp only
                        refine ⟨hI, SZ_rf, by omega, by omega, ?_⟩
                        rw [pgV, if_neg (by omega), if_pos (by omega)]
                        exact z1_)⟩, by rw [ht9]; exact hP, va_K.moved hW9.alike hK⟩, hS.F ht9⟩) hS.2.2 dX9_pageOf_60))
      · skip
        by_cases hc13_2 : wh = 2
        · refine lv_tableIn (tgt := 61) (off := 48) hx hb dX9_pageOf_13 (by rw [iZ_toInt (by first | assumption | (constructor <;> omega) | decide), hc13_2]; decide +kernel) (by rw [iZ_toInt (by first | assumption | (constructor <;> omega) | decide), hc13_2]; decide +kernel) (by rw [iZ_toInt (by first | assumption | (constructor <;> omega) | decide), hc13_2]; decide +kernel) (by decide) ?_
          refine lv_aload_n hx hb dX9_pageOf_61 rfl (lv_at hl 0 rfl) ?_
          refine fz_get (D := (dC, dI)) (ci := 1) (v := .ref (h0 + ((113 + (pg).toNat * 15) + 3))) (C := RX1) (T := TX1) (N := 8) hx hb hts inG1 hown hK hP (k := (113 + (pg).toNat * 15)) (by omega) (F := (sLF h0 (113 + (pg).toNat * 15))) (sE_leafO (show (pg).toNat < 8 by omega) rfl) rfl 3 (by decide) (hts _ k304) (fun _ h9 => h9) rfl dX9_pageOf_62 ?_
          refine va_calli (va_runV (As := []) (rest := []) ⟨hx, hb, hml, hown, hts⟩ (s_Rsize l dC dI cI cZ cII cIII h0 H.size μ (((113 + (pg).toNat * 15) + 3)) (96) ((rowB_L (show (pg).toNat < 8 by omega) rfl)) (by exact rG_len hg2)) (cwV 0 hts (gV_G k513 k514 k515 k3 k516) rfl rfl rfl (by decide +kernel) ⟨Nat.le_of_ble_eq_true rfl, Nat.le_of_ble_eq_true rfl⟩) ⟨fun a U g mk q => by obtain ⟨q0, q1, qP, qK, qM⟩ := q; exact ⟨q0, q1, qP, va_K.moved (u := U) (U := U.calling g mk a) (Vm.Alike.refl U.vm) qK, qM⟩, va_recv hK hP (ci := 4) (q0 := ((113 + (pg).toNat * 15) + 3)) rfl ((fw_get (by omega)).trans (by rw [(sE_rowO (rowB_L (show (pg).toNat < 8 by omega) rfl))])), fun U hU hW => ⟨rfl, by rw [hU], by rw [hU]; exact hP, va_K.moved hW.alike hK, xM_warm hW hM⟩⟩ rfl rfl hl.1 rfl (lv_room (Nat.le_of_ble_eq_true rfl)) dX9_pageOf_65 ⟨Nat.le_of_ble_eq_true rfl, Nat.le_of_ble_eq_true rfl⟩) hS (fun q _ h => fA_le hS.1 q h) (fA_le hS.1) (fun r9 u9 t9 H1 locs ht9 hvm9 hw9 hB9 hz9 hk9 hS => ?_)
          obtain ⟨μ2, r3⟩ := u9
          obtain ⟨hP, -⟩ := hB9
          rw [ht9] at hP
          generalize H1 = H at hP hS ⊢
          obtain ⟨e9, hw9⟩ := hw9
          have e9 : r9 = iZ r3 := e9
          subst e9
          simp only at hP hw9
          have hμ2 := hw9; clear hw9
          rw [hμ2.1] at hP; have hμ2 := hμ2.2
          exact W_widen (Nat.le_of_ble_eq_true rfl) (Nat.le_of_ble_eq_true rfl) (vx_ret (W.iret (v := iZ (r3)) hx hb hr (fun t9 ht9 hW9 => ⟨⟨iZ (r3), (μ, r3), rfl, ⟨rfl, (by
                            dsimp only
                            refine ⟨hI, SZ_rf, by omega, by omega, ?_⟩
                            rw [pgV, if_neg (by omega), if_neg (by omega), if_pos (by omega)]
                            exact (hμ2).trans z2_)⟩, by rw [ht9]; exact hP, va_K.moved hW9.alike hK⟩, hS.F ht9⟩) hS.2.2 dX9_pageOf_68))
        · skip
          by_cases hc13_3 : wh = 3
          · refine lv_tableIn (tgt := 69) (off := 56) hx hb dX9_pageOf_13 (by rw [iZ_toInt (by first | assumption | (constructor <;> omega) | decide), hc13_3]; decide +kernel) (by rw [iZ_toInt (by first | assumption | (constructor <;> omega) | decide), hc13_3]; decide +kernel) (by rw [iZ_toInt (by first | assumption | (constructor <;> omega) | decide), hc13_3]; decide +kernel) (by decide) ?_
            refine lv_aload_n hx hb dX9_pageOf_69 rfl (lv_at hl 0 rfl) ?_
            refine fz_get (D := (dC, dI)) (ci := 1) (v := .ref (h0 + ((113 + (pg).toNat * 15) + 3))) (C := RX1) (T := TX1) (N := 8) hx hb hts inG1 hown hK hP (k := (113 + (pg).toNat * 15)) (by omega) (F := (sLF h0 (113 + (pg).toNat * 15))) (sE_leafO (show (pg).toNat < 8 by omega) rfl) rfl 3 (by decide) (hts _ k304) (fun _ h9 => h9) rfl dX9_pageOf_70 ?_
            refine lv_sipush (v := iZ 514) hx hb dX9_pageOf_73 rfl ?_
            refine va_calli (va_runV (As := [.int (iZ (514))]) (rest := []) ⟨hx, hb, hml, hown, hts⟩ (s_RcountOf l dC dI cI cZ cII cIII h0 H.size μ (((113 + (pg).toNat * 15) + 3)) (96) (514) ((rowB_L (show (pg).toNat < 8 by omega) rfl)) (by exact rG_len hg2) (by exact hg2.1) (by constructor <;> decide)) (cwV 1 hts (gV_G k856 k857 k858 k3 k859) rfl rfl rfl (by decide +kernel) ⟨Nat.le_of_ble_eq_true rfl, Nat.le_of_ble_eq_true rfl⟩) ⟨fun a U g mk q => by obtain ⟨q0, q1, qP, qK, qM⟩ := q; exact ⟨q0, q1, qP, va_K.moved (u := U) (U := U.calling g mk a) (Vm.Alike.refl U.vm) qK, qM⟩, va_recv hK hP (ci := 4) (q0 := ((113 + (pg).toNat * 15) + 3)) rfl ((fw_get (by omega)).trans (by rw [(sE_rowO (rowB_L (show (pg).toNat < 8 by omega) rfl))])), fun U hU hW => ⟨rfl, by rw [hU], by rw [hU]; exact hP, va_K.moved hW.alike hK, xM_warm hW hM⟩⟩ rfl rfl hl.1 rfl (lv_room (Nat.le_of_ble_eq_true rfl)) dX9_pageOf_76 ⟨Nat.le_of_ble_eq_true rfl, Nat.le_of_ble_eq_true rfl⟩) hS (fun q _ h => fA_le hS.1 q h) (fA_le hS.1) (fun r9 u9 t9 H1 locs ht9 hvm9 hw9 hB9 hz9 hk9 hS => ?_)
            obtain ⟨μ4, r5⟩ := u9
            obtain ⟨hP, -⟩ := hB9
            rw [ht9] at hP
            generalize H1 = H at hP hS ⊢
            obtain ⟨e9, hw9⟩ := hw9
            have e9 : r9 = iZ r5 := e9
            subst e9
            simp only at hP hw9
            have hμ4 := hw9; clear hw9
            rw [hμ4.1] at hP; have hμ4 := hμ4.2
            exact W_widen (Nat.le_of_ble_eq_true rfl) (Nat.le_of_ble_eq_true rfl) (vx_ret (W.iret (v := iZ (r5)) hx hb hr (fun t9 ht9 hW9 => ⟨⟨iZ (r5), (μ, r5), rfl, ⟨rfl, (by
                                dsimp only
                                refine ⟨hI, SZ_rf, by omega, by omega, ?_⟩
                                rw [pgV, if_neg (by omega), if_neg (by omega), if_neg (by omega), if_pos (by omega)]
                                exact (hμ4).trans z3_)⟩, by rw [ht9]; exact hP, va_K.moved hW9.alike hK⟩, hS.F ht9⟩) hS.2.2 dX9_pageOf_79))
          · skip
            by_cases hc13_4 : wh = 4
            · refine lv_tableIn (tgt := 80) (off := 67) hx hb dX9_pageOf_13 (by rw [iZ_toInt (by first | assumption | (constructor <;> omega) | decide), hc13_4]; decide +kernel) (by rw [iZ_toInt (by first | assumption | (constructor <;> omega) | decide), hc13_4]; decide +kernel) (by rw [iZ_toInt (by first | assumption | (constructor <;> omega) | decide), hc13_4]; decide +kernel) (by decide) ?_
              refine lv_aload_n hx hb dX9_pageOf_80 rfl (lv_at hl 0 rfl) ?_
              refine fz_get (D := (dC, dI)) (ci := 1) (v := .ref (h0 + ((113 + (pg).toNat * 15) + 3))) (C := RX1) (T := TX1) (N := 8) hx hb hts inG1 hown hK hP (k := (113 + (pg).toNat * 15)) (by omega) (F := (sLF h0 (113 + (pg).toNat * 15))) (sE_leafO (show (pg).toNat < 8 by omega) rfl) rfl 3 (by decide) (hts _ k304) (fun _ h9 => h9) rfl dX9_pageOf_81 ?_
              refine va_calli (va_runV (As := []) (rest := []) ⟨hx, hb, hml, hown, hts⟩ (s_RdeepestRepeat2 l dC dI cI cZ cII cIII h0 H.size μ (((113 + (pg).toNat * 15) + 3)) (96) ((rowB_L (show (pg).toNat < 8 by omega) rfl)) (by exact hg2)) (cwV 0 hts (gV_G k867 k868 k869 k3 k870) rfl rfl rfl (by decide +kernel) ⟨Nat.le_of_ble_eq_true rfl, Nat.le_of_ble_eq_true rfl⟩) ⟨fun a U g mk q => by obtain ⟨q0, q1, qP, qK, qM⟩ := q; exact ⟨q0, q1, qP, va_K.moved (u := U) (U := U.calling g mk a) (Vm.Alike.refl U.vm) qK, qM⟩, va_recv hK hP (ci := 4) (q0 := ((113 + (pg).toNat * 15) + 3)) rfl ((fw_get (by omega)).trans (by rw [(sE_rowO (rowB_L (show (pg).toNat < 8 by omega) rfl))])), fun U hU hW => ⟨rfl, by rw [hU], by rw [hU]; exact hP, va_K.moved hW.alike hK, xM_warm hW hM⟩⟩ rfl rfl hl.1 rfl (lv_room (Nat.le_of_ble_eq_true rfl)) dX9_pageOf_84 ⟨Nat.le_of_ble_eq_true rfl, Nat.le_of_ble_eq_true rfl⟩) hS (fun q _ h => fA_le hS.1 q h) (fA_le hS.1) (fun r9 u9 t9 H1 locs ht9 hvm9 hw9 hB9 hz9 hk9 hS => ?_)
              obtain ⟨μ6, r7⟩ := u9
              obtain ⟨hP, -⟩ := hB9
              rw [ht9] at hP
              generalize H1 = H at hP hS ⊢
              obtain ⟨e9, hw9⟩ := hw9
              have e9 : r9 = iZ r7 := e9
              subst e9
              simp only at hP hw9
              have hμ6 := hw9; clear hw9
              rw [hμ6.1] at hP; have hμ6 := hμ6.2
              exact W_widen (Nat.le_of_ble_eq_true rfl) (Nat.le_of_ble_eq_true rfl) (vx_ret (W.iret (v := iZ (r7)) hx hb hr (fun t9 ht9 hW9 => ⟨⟨iZ (r7), (μ, r7), rfl, ⟨rfl, (by
                                    dsimp only
                                    refine ⟨hI, SZ_rf, by omega, by omega, ?_⟩
                                    rw [pgV, if_neg (by omega), if_neg (by omega), if_neg (by omega), if_neg (by omega)]
                                    exact (hμ6).trans z4_)⟩, by rw [ht9]; exact hP, va_K.moved hW9.alike hK⟩, hS.F ht9⟩) hS.2.2 dX9_pageOf_87))
            · skip
              refine lv_tableOut (tgt := 88) hx hb dX9_pageOf_13 (by rw [iZ_toInt (by first | assumption | (constructor <;> omega) | decide)]; omega) (by decide) ?_
              refine lv_aload_n hx hb dX9_pageOf_88 rfl (lv_at hl 1 rfl) ?_
              refine lv_iconst (v := iZ 0) hx hb dX9_pageOf_89 rfl ?_
              refine vx_callv (vx_runV (As := [.int (iZ (0))]) (rest := []) ⟨hx, hb, hml, hown, hts⟩ (x_needArgument l hfl dC dI cI cZ cII cIII h0 H.size μ  ) (cwV 1 hts (gV_G k596 k598 ks_yX9_needArgument k1 k599) rfl rfl rfl (by decide +kernel) ⟨Nat.le_of_ble_eq_true rfl, Nat.le_of_ble_eq_true rfl⟩) ⟨fun a U g mk q => by obtain ⟨q0, q1, qP, qK, qM, qE⟩ := q; exact ⟨q0, q1, qP, va_K.moved (u := U) (U := U.calling g mk a) (Vm.Alike.refl U.vm) qK, qM, xX_call qE⟩, va_recv hK hP (ci := 9) (q0 := 0) rfl ((fw_get (by decide)).trans (by rw [sE_0]; rfl)), fun U hU hW => ⟨rfl, by rw [hU], by rw [hU]; exact hP, va_K.moved hW.alike hK, xM_warm hW hM, xX_at hEx hS (fun q h => fA_le hS.1 q h) hU hW⟩⟩ rfl rfl hl.1 rfl (lv_room (Nat.le_of_ble_eq_true rfl)) dX9_pageOf_90 ⟨Nat.le_of_ble_eq_true rfl, Nat.le_of_ble_eq_true rfl⟩) hS (fun q _ h => fA_le hS.1 q h) (fA_le hS.1) (fun q _ h => fA_le hS.1 q h) (fun E9 ce9 q9 u9 t9 H1 locs ht9 hvm9 hpx9 hBX9 hz9 hk9 hS hce9 hcv9 hcl9 => ?_) (fun u9 t9 H1 locs ht9 hvm9 hw9 hB9 hz9 hk9 hS => hw9.elim)
              obtain ⟨hE9, hP9, hK9⟩ := hBX9
              exact vx_out (fun x hx9 => (hnt x hx9).elim) hlocks hce9 hcv9 hcl9 (fun t8 ht8 hW8 => ⟨u9, (by
                                    show CI T u9 ∧ SZ μ u9
                                    exact CZ_thr hI hpx9), ⟨(show ∀ z ∈ (["java/lang/IllegalArgumentException"] : List String), z ∈ (["java/util/NoSuchElementException", "java/lang/IllegalArgumentException"] : List String) by decide +kernel) E9 hE9, by rw [ht8, ← ht9]; exact hP9, va_K.moved hW8 hK, (by have hE8 := List.mem_singleton.mp hE9; rw [hE8]; exact ⟨fun h => absurd h (by decide +kernel), fun _ => cd2_2 (by omega) (by omega)⟩)⟩, hS.F ht8⟩) hS.2.2 (Nat.le_of_ble_eq_true rfl) (Nat.le_of_ble_eq_true rfl)
  · refine vx_callv (vx_runV (As := [.int (iZ (pg))]) (rest := []) ⟨hx, hb, hml, hown, hts⟩ (x_needPage l hfl dC dI cI cZ cII cIII h0 s.heap.size μ (pg) (by first | assumption | omega | exact CI_lc hI | exact CI_cn hI | exact (CI_n6 hI).1 | decide) (by first | assumption | omega | exact CI_lc hI | exact CI_cn hI | exact (CI_n6 hI).1 | decide) (hn2_)) (cwV 1 hts (gV_G k735 k737 ks_yX9_needPage k1 k738) rfl rfl rfl (by decide +kernel) ⟨Nat.le_of_ble_eq_true rfl, Nat.le_of_ble_eq_true rfl⟩) ⟨fun a U g mk q => by obtain ⟨q0, q1, qP, qK, qM, qE⟩ := q; exact ⟨q0, q1, qP, va_K.moved (u := U) (U := U.calling g mk a) (Vm.Alike.refl U.vm) qK, qM, xX_call qE⟩, va_recv hK hP (ci := 9) (q0 := 0) rfl ((fw_get (by decide)).trans (by rw [sE_0]; rfl)), fun U hU hW => ⟨rfl, by rw [hU], by rw [hU]; exact hP, va_K.moved hW.alike hK, xM_warm hW hM, xX_at hEx hS (fun q h => fA_le hS.1 q h) hU hW⟩⟩ rfl rfl hl.1 rfl (lv_room (Nat.le_of_ble_eq_true rfl)) dX9_pageOf_2 ⟨Nat.le_of_ble_eq_true rfl, Nat.le_of_ble_eq_true rfl⟩) hS (fun q _ h => fA_le hS.1 q h) (fA_le hS.1) (fun q _ h => fA_le hS.1 q h) (fun E9 ce9 q9 u9 t9 H1 locs ht9 hvm9 hpx9 hBX9 hz9 hk9 hS hce9 hcv9 hcl9 => ?_) (fun u9 t9 H1 locs ht9 hvm9 hw9 hB9 hz9 hk9 hS => hw9.elim)
    obtain ⟨hE9, hP9, hK9⟩ := hBX9
    exact vx_out (fun x hx9 => (hnt x hx9).elim) hlocks hce9 hcv9 hcl9 (fun t8 ht8 hW8 => ⟨u9, (by
                show CI T u9 ∧ SZ μ u9
                exact CZ_thr hI hpx9), ⟨(show ∀ z ∈ (["java/util/NoSuchElementException"] : List String), z ∈ (["java/util/NoSuchElementException", "java/lang/IllegalArgumentException"] : List String) by decide +kernel) E9 hE9, by rw [ht8, ← ht9]; exact hP9, va_K.moved hW8 hK, (by have hE8 := List.mem_singleton.mp hE9; rw [hE8]; exact ⟨fun _ => cd2_1 (by omega), fun h => absurd h (by decide +kernel)⟩)⟩, hS.F ht8⟩) hS.2.2 (Nat.le_of_ble_eq_true rfl) (Nat.le_of_ble_eq_true rfl)

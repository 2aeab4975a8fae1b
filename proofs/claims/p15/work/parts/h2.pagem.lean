
/-! what is told of a page and of its nodes: the reference -/
theorem of_all {μ : va_M} {t : Nat} {w : Rw} (h : TR μ t w) (hW : rWF w) : rkC 4 w = cK μ t 4 (μ 719 t).toNat ∧ mDp μ t (μ 719 t).toNat = mxD 0 w ∧ cS μ t 0 (μ 719 t).toNat = rL w ∧ μ 719 t = rN w := by
  have e : (μ 719 t).toNat = rN w := by have := h.1; omega
  have h1 := cK_row (s := 4) w 0 h.2
  have h2 := mDp_row w 0 0 h.2 hW (fun x hx => by
    have h9 := (dCn_row (q := 4) w 0 x h.2 hW hx).1
    rw [Nat.zero_add] at h9 ⊢
    exact h9)
  have h3 := cS_row w 0 h.2
  rw [Nat.zero_add] at h1 h2
  have h4 := mxD_0 w 0
  have h5 : cK μ t 4 0 = 0 := rfl
  have h6 : mDp μ t 0 = 0 := rfl
  rw [e]
  exact ⟨by omega, by omega, h3, h.1⟩
set_option maxHeartbeats 4000000 in
set_option maxRecDepth 100000 in
theorem LX10_ofSort_5b {p : Program} {l : Launch} {e : Env} {R : Room} {s : State} {m : MethodId} {args : Array Value} {below : List Frame} {meth : Method} {c : Code} {cells slots : Nat} {Q : State → Prop} {dC : Nat → ClassId} {dI : Nat → Nat → Nat} {h0 : Nat} {cI cZ cII cIII : ClassId} (hx : p.tables.exec = Jvm.exec) (hb : c.code = cX10_ofSort) (hml : c.maxLocals = 5) (hown : s.vm.findClass RX10 = some m.cls) (hts : ∀ w ∈ wsG, w.before args s = true) (hK : va_K (dC, dI) vwCl (mT cI cZ cII cIII) s) (hRf : 1 ≤ R.frames) (hRl : 14 ≤ R.locals) (hRc : cells ≤ R.cells) (hRs : slots ≤ R.slots) (μ0 : va_M) (t : Int) (q : Int) (ht : 0 ≤ t ∧ t < 70) (hT : tok μ0 t.toNat) (hq : inR q) (hexit43 : ∀ (n : Int) (i : Int) (μ : va_M) (H : Heap) (locs : List Loc) (ls : Array Slot), (μ = μ0) → (n = cK μ0 t.toNat q (μ0 719 t.toNat).toNat) → va_P (dC, dI) vwCl (fw (mE cI cZ cII cIII h0) h0 6325 μ) H → va_S (fA h0 6325 s.heap.size) s.heap H locs → lv_has ls 5 [(3, .int (iZ (n)))] → W p l e R s m args below meth c H locs cells slots Q (F0 m 43 ls [])) :
    ∀ (n9 : Nat) (n : Int) (i : Int) (μ : va_M) (H : Heap) (locs : List Loc) (ls : Array Slot), (μ = μ0) → (0 ≤ i ∧ i ≤ μ0 719 t.toNat) → (n = cK μ0 t.toNat q i.toNat) → (1000 - i).toNat < n9 → va_P (dC, dI) vwCl (fw (mE cI cZ cII cIII h0) h0 6325 μ) H → va_S (fA h0 6325 s.heap.size) s.heap H locs → lv_has ls 5 [(4, .int (iZ (i))), (3, .int (iZ (n))), (2, .int (iZ (q))), (1, .int (iZ (t))), (0, .ref h0)] → W p l e R s m args below meth c H locs cells slots Q (F0 m 5 ls []) := by
  intro n9
  induction n9 with
  | zero => intro n i μ H locs ls hm hk hn hm9 hP hS hl; exact absurd hm9 (Nat.not_lt_zero _)
  | succ n9 ih =>
    intro n i μ H locs ls hm hk hn hm9 hP hS hl
    subst hm
    obtain ⟨hT1, hT2, hT3⟩ := hT
    have hb9 := cK_b (μ := μ) (t := t.toNat) (s := q) i.toNat
    refine lv_iload hx hb dX10_ofSort_5 (lv_at hl 0 rfl) ?_
    refine lv_aload_n hx hb dX10_ofSort_7 rfl (lv_at hl 4 rfl) ?_
    refine fz_get (D := (dC, dI)) (ci := 10) (v := .ref (h0 + 719)) (C := RX10) (T := TX10) (N := 53) hx hb hts inG10 hown hK hP (k := 0) (by decide) (F := mF h0) mE_obj rfl 21 (by decide) (hts _ k1187) (fun _ h9 => h9) rfl dX10_ofSort_8 ?_
    refine lv_iload_n hx hb dX10_ofSort_11 rfl (lv_at hl 3 rfl) ?_
    refine fz_ld (k := 719) (n := 70) hx hb hK hP 0 (by decide) mE_nodes rfl ⟨by omega, by omega⟩ (by decide) dX10_ofSort_12 ?_
    refine fz_icmp_ge (tgt := 43) (by constructor <;> omega) (by constructor <;> omega) hx hb dX10_ofSort_13 (by decide) (fun c13_ => ?_) (fun c13_ => ?_)
    · exact hexit43 (n) (i) μ H locs ls (by rfl) (by rw [show (μ 719 t.toNat).toNat = i.toNat by omega]; exact hn) hP hS (lv_sub hl [1] rfl)
    · have hx9 := hT3 i.toNat (by omega)
      obtain ⟨hx1, hx2, hx3, hx4⟩ := hx9
      refine lv_iload_n hx hb dX10_ofSort_16 rfl (lv_at hl 1 rfl) ?_
      refine lv_aload_n hx hb dX10_ofSort_17 rfl (lv_at hl 4 rfl) ?_
      refine fz_get (D := (dC, dI)) (ci := 10) (v := .ref (h0 + 506)) (C := RX10) (T := TX10) (N := 53) hx hb hts inG10 hown hK hP (k := 0) (by decide) (F := mF h0) mE_obj rfl 18 (by decide) (hts _ k1184) (fun _ h9 => h9) rfl dX10_ofSort_18 ?_
      refine lv_iload_n hx hb dX10_ofSort_21 rfl (lv_at hl 3 rfl) ?_
      refine fz_ald (k := 506) (n := 70) (k2 := (507 + (t).toNat)) hx hb hK hP 2 rfl (by decide) mE_sort rfl ⟨by omega, by omega⟩ (by decide) (if_pos (by omega)) dX10_ofSort_22 ?_
      refine lv_iload hx hb dX10_ofSort_23 (lv_at hl 0 rfl) ?_
      refine fz_ld (k := (507 + (t).toNat)) (n := 900) hx hb hK hP 0 (by omega) (mE_sortR (by omega)) rfl ⟨by omega, by omega⟩ (by decide) dX10_ofSort_25 ?_
      refine lv_iload_n hx hb dX10_ofSort_26 rfl (lv_at hl 2 rfl) ?_
      refine fz_icmp_ne (tgt := 34) (by first | exact hq | (constructor <;> omega)) (by first | exact hq | (constructor <;> omega)) hx hb dX10_ofSort_27 (by decide) (fun c27_ => ?_) (fun c27_ => ?_)
      · refine lv_iconst (v := iZ 0) hx hb dX10_ofSort_34 rfl ?_
        refine lv_iadd hx hb dX10_ofSort_35 ?_
        refine lv_topi (fun x9 ex9 => ?_)
        obtain rfl : x9 = iZ (n + 0) := ex9.trans (iZ_add _ _)
        refine lv_istore_n (lv' := [(3, .int (iZ (n + 0))), (4, .int (iZ (i))), (2, .int (iZ (q))), (1, .int (iZ (t))), (0, .ref h0)]) hx hb dX10_ofSort_36 rfl hl (by decide) rfl (fun ls hl => ?_)
        refine lv_iinc (v := iZ (i + 1)) (lv' := [(4, .int (iZ (i + 1))), (3, .int (iZ (n + 0))), (2, .int (iZ (q))), (1, .int (iZ (t))), (0, .ref h0)]) hx hb dX10_ofSort_37 hl (k := 1) rfl (iZ_add _ _) (by decide) rfl (fun ls hl => ?_)
        refine lv_goto (tgt := 5) hx hb dX10_ofSort_40 (by decide) ?_
        exact ih (n + 0) (i + 1) μ H locs ls (by rfl) (by omega) (by rw [show (i + 1).toNat = i.toNat + 1 by omega, cK, ← hn, if_neg (by omega)]) (by omega) hP hS (lv_sub hl [0, 1, 2, 3, 4] rfl)
      · refine lv_iconst (v := iZ 1) hx hb dX10_ofSort_30 rfl ?_
        refine lv_goto (tgt := 35) hx hb dX10_ofSort_31 (by decide) ?_
        refine lv_iadd hx hb dX10_ofSort_35 ?_
        refine lv_topi (fun x9 ex9 => ?_)
        obtain rfl : x9 = iZ (n + 1) := ex9.trans (iZ_add _ _)
        refine lv_istore_n (lv' := [(3, .int (iZ (n + 1))), (4, .int (iZ (i))), (2, .int (iZ (q))), (1, .int (iZ (t))), (0, .ref h0)]) hx hb dX10_ofSort_36 rfl hl (by decide) rfl (fun ls hl => ?_)
        refine lv_iinc (v := iZ (i + 1)) (lv' := [(4, .int (iZ (i + 1))), (3, .int (iZ (n + 1))), (2, .int (iZ (q))), (1, .int (iZ (t))), (0, .ref h0)]) hx hb dX10_ofSort_37 hl (k := 1) rfl (iZ_add _ _) (by decide) rfl (fun ls hl => ?_)
        refine lv_goto (tgt := 5) hx hb dX10_ofSort_40 (by decide) ?_
        exact ih (n + 1) (i + 1) μ H locs ls (by rfl) (by omega) (by rw [show (i + 1).toNat = i.toNat + 1 by omega, cK, ← hn, if_pos (by omega)]) (by omega) hP hS (lv_sub hl [0, 1, 2, 3, 4] rfl)
set_option maxHeartbeats 4000000 in
set_option maxRecDepth 100000 in
theorem m_ofSort2 (l : Launch) (dC : Nat → ClassId) (dI : Nat → Nat → Nat) (cI cZ cII cIII : ClassId) (h0 sz : Nat) (μ : va_M) (t : Int) (q : Int) (ht : 0 ≤ t ∧ t < 70) (hT : tok μ t.toNat) (hq : inR q) : Met l yX10_ofSort (Cond.code yX10_ofSort cX10_ofSort 5 (some .int) :: wsG) ({ frames := 1, cells := 0, slots := 0, locals := 14 } : Room) (va_Pc [.ref h0, .int (iZ (t)), .int (iZ (q))] (fun U => U.heap.size = sz ∧ va_P (dC, dI) vwCl (fw (mE cI cZ cII cIII h0) h0 6325 μ) U.heap ∧ va_K (dC, dI) vwCl (mT cI cZ cII cIII) U)) (va_Qi (fun (r9 : Int32) (u : va_M × Int) => r9 = iZ u.2 ∧ (fun (u : va_M) (r : Int) => u = μ ∧ r = cK μ t.toNat q (μ 719 t.toNat).toNat) u.1 u.2) (fun u t => va_P (dC, dI) vwCl (fw (mE cI cZ cII cIII h0) h0 6325 u.1) t.heap ∧ va_K (dC, dI) vwCl (mT cI cZ cII cIII) t) (fA h0 6325 sz)) 0 0 (fA h0 6325 sz) := by
  refine Met.ofW (cc := cX10_ofSort) (maxL := 5) (ret := (some .int)) (by decide) rfl ?_
  intro p e s m args below meth c s₁ B hml hv
  obtain ⟨rfl, hsz, hP, hK⟩ := hv
  have hx := B.exec
  have hb := B.bytes
  have hr := B.returns
  have hts : ∀ w ∈ wsG, w.before _ s = true := hG_of (atoms_spec (ws := (Cond.code yX10_ofSort cX10_ofSort 5 (some .int) :: wsG)) B.pre)
  have hown : s.vm.findClass RX10 = some m.cls := findClass_of_methodNamed B.named
  have hlocks := B.notSynchronized
  subst hsz
  have hS : va_S (fA h0 6325 s.heap.size) s.heap s.heap [] := va_S.rf
  have hl := lv_entry ([.ref h0, .int (iZ (t)), .int (iZ (q))]) (n := 5) (Nat.le_of_ble_eq_true rfl)
  rw [lg_entry_eq]
  generalize (lg_sl ([.ref h0, .int (iZ (t)), .int (iZ (q))]) ++ List.replicate (5 - (lg_sl ([.ref h0, .int (iZ (t)), .int (iZ (q))])).length) Slot.unset).toArray = ls at hl ⊢
  have hl : lv_has ls 5 [(0, .ref h0), (1, .int (iZ (t))), (2, .int (iZ (q)))] := hl
  refine lv_iconst (v := iZ 0) hx hb dX10_ofSort_0 rfl ?_
  refine lv_istore_n (lv' := [(3, .int (iZ (0))), (0, .ref h0), (1, .int (iZ (t))), (2, .int (iZ (q)))]) hx hb dX10_ofSort_1 rfl hl (by decide) rfl (fun ls hl => ?_)
  refine lv_iconst (v := iZ 0) hx hb dX10_ofSort_2 rfl ?_
  refine lv_istore (lv' := [(4, .int (iZ (0))), (3, .int (iZ (0))), (0, .ref h0), (1, .int (iZ (t))), (2, .int (iZ (q)))]) hx hb dX10_ofSort_3 hl (by decide) rfl (fun ls hl => ?_)
  refine LX10_ofSort_5b hx hb hml hown hts hK (Nat.le_of_ble_eq_true rfl) (Nat.le_of_ble_eq_true rfl) (Nat.le_of_ble_eq_true rfl) (Nat.le_of_ble_eq_true rfl) (μ) (t) (q) (by assumption) (by assumption) (by assumption) ?_ _ (0) (0) μ s.heap [] ls (by rfl) (by have h9 := hT.1; omega) (by rfl) (Nat.lt_succ_self _) hP hS (lv_sub hl [0, 1, 4, 3, 2] rfl)
  · intro n_1 i_1 μ1_ H locs ls q1_1 q2_1 hP hS hl
    have hl : lv_has ls 5 [(3, .int (iZ (n_1)))] := hl
    refine lv_iload_n hx hb dX10_ofSort_43 rfl (lv_at hl 0 rfl) ?_
    exact W.iret (v := iZ (n_1)) hx hb hr (fun t9 ht9 hW9 => ⟨⟨iZ (n_1), (μ1_, n_1), rfl, ⟨rfl, (by
                dsimp only
                exact ⟨q1_1, q2_1⟩)⟩, by rw [ht9]; exact hP, va_K.moved hW9.alike hK⟩, hS.F ht9⟩) hS.2.2 dX10_ofSort_44
set_option maxHeartbeats 4000000 in
set_option maxRecDepth 100000 in
theorem LX10_parentOf_5b {p : Program} {l : Launch} {e : Env} {R : Room} {s : State} {m : MethodId} {args : Array Value} {below : List Frame} {meth : Method} {c : Code} {cells slots : Nat} {Q : State → Prop} {dC : Nat → ClassId} {dI : Nat → Nat → Nat} {h0 : Nat} {cI cZ cII cIII : ClassId} (hx : p.tables.exec = Jvm.exec) (hb : c.code = cX10_parentOf) (hml : c.maxLocals = 5) (hown : s.vm.findClass RX10 = some m.cls) (hts : ∀ w ∈ wsG, w.before args s = true) (hK : va_K (dC, dI) vwCl (mT cI cZ cII cIII) s) (hRf : 1 ≤ R.frames) (hRl : 14 ≤ R.locals) (hRc : cells ≤ R.cells) (hRs : slots ≤ R.slots) (μ0 : va_M) (t : Int) (i : Int) (ht : 0 ≤ t ∧ t < 70) (hT : tok μ0 t.toNat) (hi : 0 ≤ i ∧ i < μ0 719 t.toNat) (hexit36 : ∀ (f9 : Int) (k : Int) (μ : va_M) (H : Heap) (locs : List Loc) (ls : Array Slot), (μ = μ0) → (f9 = pC μ0 t.toNat i i.toNat) → va_P (dC, dI) vwCl (fw (mE cI cZ cII cIII h0) h0 6325 μ) H → va_S (fA h0 6325 s.heap.size) s.heap H locs → lv_has ls 5 [(3, .int (iZ (f9)))] → W p l e R s m args below meth c H locs cells slots Q (F0 m 36 ls [])) :
    ∀ (n9 : Nat) (f9 : Int) (k : Int) (μ : va_M) (H : Heap) (locs : List Loc) (ls : Array Slot), (μ = μ0) → (0 ≤ k ∧ k ≤ i) → (f9 = pC μ0 t.toNat i k.toNat) → (1000 - k).toNat < n9 → va_P (dC, dI) vwCl (fw (mE cI cZ cII cIII h0) h0 6325 μ) H → va_S (fA h0 6325 s.heap.size) s.heap H locs → lv_has ls 5 [(4, .int (iZ (k))), (3, .int (iZ (f9))), (2, .int (iZ (i))), (1, .int (iZ (t))), (0, .ref h0)] → W p l e R s m args below meth c H locs cells slots Q (F0 m 5 ls []) := by
  intro n9
  induction n9 with
  | zero => intro f9 k μ H locs ls hm hk hf hm9 hP hS hl; exact absurd hm9 (Nat.not_lt_zero _)
  | succ n9 ih =>
    intro f9 k μ H locs ls hm hk hf hm9 hP hS hl
    subst hm
    obtain ⟨hT1, hT2, hT3⟩ := hT
    have hb9 := pC_b (μ := μ) (t := t.toNat) (i := i) k.toNat
    refine lv_iload hx hb dX10_parentOf_5 (lv_at hl 0 rfl) ?_
    refine lv_iload_n hx hb dX10_parentOf_7 rfl (lv_at hl 2 rfl) ?_
    refine fz_icmp_ge (tgt := 36) (by constructor <;> omega) (by constructor <;> omega) hx hb dX10_parentOf_8 (by decide) (fun c8_ => ?_) (fun c8_ => ?_)
    · exact hexit36 (f9) (k) μ H locs ls (by rfl) (by rw [show i.toNat = k.toNat by omega]; exact hf) hP hS (lv_sub hl [1] rfl)
    · have hx9 := hT3 k.toNat (by omega)
      obtain ⟨hx1, hx2, hx3, hx4⟩ := hx9
      refine lv_iload_n hx hb dX10_parentOf_11 rfl (lv_at hl 2 rfl) ?_
      refine lv_iload hx hb dX10_parentOf_12 (lv_at hl 0 rfl) ?_
      refine lv_aload_n hx hb dX10_parentOf_14 rfl (lv_at hl 4 rfl) ?_
      refine fz_get (D := (dC, dI)) (ci := 10) (v := .ref (h0 + 648)) (C := RX10) (T := TX10) (N := 53) hx hb hts inG10 hown hK hP (k := 0) (by decide) (F := mF h0) mE_obj rfl 20 (by decide) (hts _ k1186) (fun _ h9 => h9) rfl dX10_parentOf_15 ?_
      refine lv_iload_n hx hb dX10_parentOf_18 rfl (lv_at hl 3 rfl) ?_
      refine fz_ald (k := 648) (n := 70) (k2 := (649 + (t).toNat)) hx hb hK hP 2 rfl (by decide) mE_span rfl ⟨by omega, by omega⟩ (by decide) (if_pos (by omega)) dX10_parentOf_19 ?_
      refine lv_iload hx hb dX10_parentOf_20 (lv_at hl 0 rfl) ?_
      refine fz_ld (k := (649 + (t).toNat)) (n := 900) hx hb hK hP 0 (by omega) (mE_spanR (by omega)) rfl ⟨by omega, by omega⟩ (by decide) dX10_parentOf_22 ?_
      refine lv_iadd hx hb dX10_parentOf_23 ?_
      refine lv_topi (fun x9 ex9 => ?_)
      obtain rfl : x9 = iZ (k + (μ (649 + (t).toNat) (k).toNat)) := ex9.trans (iZ_add _ _)
      refine fz_icmp_ge (tgt := 30) (by constructor <;> omega) (by constructor <;> omega) hx hb dX10_parentOf_24 (by decide) (fun c24_ => ?_) (fun c24_ => ?_)
      · refine lv_iinc (v := iZ (k + 1)) (lv' := [(4, .int (iZ (k + 1))), (3, .int (iZ (f9))), (2, .int (iZ (i))), (1, .int (iZ (t))), (0, .ref h0)]) hx hb dX10_parentOf_30 hl (k := 0) rfl (iZ_add _ _) (by decide) rfl (fun ls hl => ?_)
        refine lv_goto (tgt := 5) hx hb dX10_parentOf_33 (by decide) ?_
        exact ih (f9) (k + 1) μ H locs ls (by rfl) (by omega) (by rw [show (k + 1).toNat = k.toNat + 1 by omega, pC, if_neg (by omega)]; exact hf) (by omega) hP hS (lv_sub hl [0, 1, 2, 3, 4] rfl)
      · refine lv_iload hx hb dX10_parentOf_27 (lv_at hl 0 rfl) ?_
        refine lv_istore_n (lv' := [(3, .int (iZ (k))), (4, .int (iZ (k))), (2, .int (iZ (i))), (1, .int (iZ (t))), (0, .ref h0)]) hx hb dX10_parentOf_29 rfl hl (by decide) rfl (fun ls hl => ?_)
        refine lv_iinc (v := iZ (k + 1)) (lv' := [(4, .int (iZ (k + 1))), (3, .int (iZ (k))), (2, .int (iZ (i))), (1, .int (iZ (t))), (0, .ref h0)]) hx hb dX10_parentOf_30 hl (k := 1) rfl (iZ_add _ _) (by decide) rfl (fun ls hl => ?_)
        refine lv_goto (tgt := 5) hx hb dX10_parentOf_33 (by decide) ?_
        exact ih (k) (k + 1) μ H locs ls (by rfl) (by omega) (by rw [show (k + 1).toNat = k.toNat + 1 by omega, pC, if_pos (by omega)]; omega) (by omega) hP hS (lv_sub hl [0, 1, 2, 3, 4] rfl)
set_option maxHeartbeats 4000000 in
set_option maxRecDepth 100000 in
theorem m_parentOf2 (l : Launch) (dC : Nat → ClassId) (dI : Nat → Nat → Nat) (cI cZ cII cIII : ClassId) (h0 sz : Nat) (μ : va_M) (t : Int) (i : Int) (ht : 0 ≤ t ∧ t < 70) (hT : tok μ t.toNat) (hi : 0 ≤ i ∧ i < μ 719 t.toNat) : Met l yX10_parentOf (Cond.code yX10_parentOf cX10_parentOf 5 (some .int) :: wsG) ({ frames := 1, cells := 0, slots := 0, locals := 14 } : Room) (va_Pc [.ref h0, .int (iZ (t)), .int (iZ (i))] (fun U => U.heap.size = sz ∧ va_P (dC, dI) vwCl (fw (mE cI cZ cII cIII h0) h0 6325 μ) U.heap ∧ va_K (dC, dI) vwCl (mT cI cZ cII cIII) U)) (va_Qi (fun (r9 : Int32) (u : va_M × Int) => r9 = iZ u.2 ∧ (fun (u : va_M) (r : Int) => u = μ ∧ r = pC μ t.toNat i i.toNat) u.1 u.2) (fun u t => va_P (dC, dI) vwCl (fw (mE cI cZ cII cIII h0) h0 6325 u.1) t.heap ∧ va_K (dC, dI) vwCl (mT cI cZ cII cIII) t) (fA h0 6325 sz)) 0 0 (fA h0 6325 sz) := by
  refine Met.ofW (cc := cX10_parentOf) (maxL := 5) (ret := (some .int)) (by decide) rfl ?_
  intro p e s m args below meth c s₁ B hml hv
  obtain ⟨rfl, hsz, hP, hK⟩ := hv
  have hx := B.exec
  have hb := B.bytes
  have hr := B.returns
  have hts : ∀ w ∈ wsG, w.before _ s = true := hG_of (atoms_spec (ws := (Cond.code yX10_parentOf cX10_parentOf 5 (some .int) :: wsG)) B.pre)
  have hown : s.vm.findClass RX10 = some m.cls := findClass_of_methodNamed B.named
  have hlocks := B.notSynchronized
  subst hsz
  have hS : va_S (fA h0 6325 s.heap.size) s.heap s.heap [] := va_S.rf
  have hl := lv_entry ([.ref h0, .int (iZ (t)), .int (iZ (i))]) (n := 5) (Nat.le_of_ble_eq_true rfl)
  rw [lg_entry_eq]
  generalize (lg_sl ([.ref h0, .int (iZ (t)), .int (iZ (i))]) ++ List.replicate (5 - (lg_sl ([.ref h0, .int (iZ (t)), .int (iZ (i))])).length) Slot.unset).toArray = ls at hl ⊢
  have hl : lv_has ls 5 [(0, .ref h0), (1, .int (iZ (t))), (2, .int (iZ (i)))] := hl
  refine lv_iconst (v := iZ (-1)) hx hb dX10_parentOf_0 rfl ?_
  refine lv_istore_n (lv' := [(3, .int (iZ ((-1)))), (0, .ref h0), (1, .int (iZ (t))), (2, .int (iZ (i)))]) hx hb dX10_parentOf_1 rfl hl (by decide) rfl (fun ls hl => ?_)
  refine lv_iconst (v := iZ 0) hx hb dX10_parentOf_2 rfl ?_
  refine lv_istore (lv' := [(4, .int (iZ (0))), (3, .int (iZ ((-1)))), (0, .ref h0), (1, .int (iZ (t))), (2, .int (iZ (i)))]) hx hb dX10_parentOf_3 hl (by decide) rfl (fun ls hl => ?_)
  refine LX10_parentOf_5b hx hb hml hown hts hK (Nat.le_of_ble_eq_true rfl) (Nat.le_of_ble_eq_true rfl) (Nat.le_of_ble_eq_true rfl) (Nat.le_of_ble_eq_true rfl) (μ) (t) (i) (by assumption) (by assumption) (by assumption) ?_ _ ((-1)) (0) μ s.heap [] ls (by rfl) (by omega) (by rfl) (Nat.lt_succ_self _) hP hS (lv_sub hl [0, 1, 4, 3, 2] rfl)
  · intro f9_1 k_1 μ1_ H locs ls q1_1 q2_1 hP hS hl
    have hl : lv_has ls 5 [(3, .int (iZ (f9_1)))] := hl
    refine lv_iload_n hx hb dX10_parentOf_36 rfl (lv_at hl 0 rfl) ?_
    exact W.iret (v := iZ (f9_1)) hx hb hr (fun t9 ht9 hW9 => ⟨⟨iZ (f9_1), (μ1_, f9_1), rfl, ⟨rfl, (by
                dsimp only
                exact ⟨q1_1, q2_1⟩)⟩, by rw [ht9]; exact hP, va_K.moved hW9.alike hK⟩, hS.F ht9⟩) hS.2.2 dX10_parentOf_37
set_option maxHeartbeats 4000000 in
set_option maxRecDepth 100000 in
theorem LX10_depthOf_6b {p : Program} {l : Launch} {e : Env} {R : Room} {s : State} {m : MethodId} {args : Array Value} {below : List Frame} {meth : Method} {c : Code} {cells slots : Nat} {Q : State → Prop} {dC : Nat → ClassId} {dI : Nat → Nat → Nat} {h0 : Nat} {cI cZ cII cIII : ClassId} (hx : p.tables.exec = Jvm.exec) (hb : c.code = cX10_depthOf) (hml : c.maxLocals = 6) (hown : s.vm.findClass RX10 = some m.cls) (hts : ∀ w ∈ wsG, w.before args s = true) (hK : va_K (dC, dI) vwCl (mT cI cZ cII cIII) s) (hRf : 1 ≤ R.frames) (hRl : 14 ≤ R.locals) (hRc : cells ≤ R.cells) (hRs : slots ≤ R.slots) (μ0 : va_M) (t : Int) (i : Int) (q : Int) (ht : 0 ≤ t ∧ t < 70) (hT : tok μ0 t.toNat) (hi : 0 ≤ i ∧ i < μ0 719 t.toNat) (hq : inR q) (hexit62 : ∀ (n : Int) (k : Int) (μ : va_M) (H : Heap) (locs : List Loc) (ls : Array Slot), (μ = μ0) → (n = dCn μ0 t.toNat i q i.toNat) → va_P (dC, dI) vwCl (fw (mE cI cZ cII cIII h0) h0 6325 μ) H → va_S (fA h0 6325 s.heap.size) s.heap H locs → lv_has ls 6 [(4, .int (iZ (n)))] → W p l e R s m args below meth c H locs cells slots Q (F0 m 62 ls [])) :
    ∀ (n9 : Nat) (n : Int) (k : Int) (μ : va_M) (H : Heap) (locs : List Loc) (ls : Array Slot), (μ = μ0) → (0 ≤ k ∧ k ≤ i) → (n = dCn μ0 t.toNat i q k.toNat) → (1000 - k).toNat < n9 → va_P (dC, dI) vwCl (fw (mE cI cZ cII cIII h0) h0 6325 μ) H → va_S (fA h0 6325 s.heap.size) s.heap H locs → lv_has ls 6 [(5, .int (iZ (k))), (4, .int (iZ (n))), (3, .int (iZ (q))), (2, .int (iZ (i))), (1, .int (iZ (t))), (0, .ref h0)] → W p l e R s m args below meth c H locs cells slots Q (F0 m 6 ls []) := by
  intro n9
  induction n9 with
  | zero => intro n k μ H locs ls hm hk hn hm9 hP hS hl; exact absurd hm9 (Nat.not_lt_zero _)
  | succ n9 ih =>
    intro n k μ H locs ls hm hk hn hm9 hP hS hl
    subst hm
    obtain ⟨hT1, hT2, hT3⟩ := hT
    have hb9 := dCn_b (μ := μ) (t := t.toNat) (i := i) (q := q) k.toNat
    refine lv_iload hx hb dX10_depthOf_6 (lv_at hl 0 rfl) ?_
    refine lv_iload_n hx hb dX10_depthOf_8 rfl (lv_at hl 3 rfl) ?_
    refine fz_icmp_ge (tgt := 62) (by constructor <;> omega) (by constructor <;> omega) hx hb dX10_depthOf_9 (by decide) (fun c9_ => ?_) (fun c9_ => ?_)
    · exact hexit62 (n) (k) μ H locs ls (by rfl) (by rw [show i.toNat = k.toNat by omega]; exact hn) hP hS (lv_sub hl [1] rfl)
    · have hx9 := hT3 k.toNat (by omega)
      obtain ⟨hx1, hx2, hx3, hx4⟩ := hx9
      refine lv_iload hx hb dX10_depthOf_12 (lv_at hl 1 rfl) ?_
      refine lv_iload_n hx hb dX10_depthOf_14 rfl (lv_at hl 3 rfl) ?_
      refine lv_iload hx hb dX10_depthOf_15 (lv_at hl 0 rfl) ?_
      refine lv_aload_n hx hb dX10_depthOf_17 rfl (lv_at hl 5 rfl) ?_
      refine fz_get (D := (dC, dI)) (ci := 10) (v := .ref (h0 + 648)) (C := RX10) (T := TX10) (N := 53) hx hb hts inG10 hown hK hP (k := 0) (by decide) (F := mF h0) mE_obj rfl 20 (by decide) (hts _ k1186) (fun _ h9 => h9) rfl dX10_depthOf_18 ?_
      refine lv_iload_n hx hb dX10_depthOf_21 rfl (lv_at hl 4 rfl) ?_
      refine fz_ald (k := 648) (n := 70) (k2 := (649 + (t).toNat)) hx hb hK hP 2 rfl (by decide) mE_span rfl ⟨by omega, by omega⟩ (by decide) (if_pos (by omega)) dX10_depthOf_22 ?_
      refine lv_iload hx hb dX10_depthOf_23 (lv_at hl 0 rfl) ?_
      refine fz_ld (k := (649 + (t).toNat)) (n := 900) hx hb hK hP 0 (by omega) (mE_spanR (by omega)) rfl ⟨by omega, by omega⟩ (by decide) dX10_depthOf_25 ?_
      refine lv_iadd hx hb dX10_depthOf_26 ?_
      refine lv_topi (fun x9 ex9 => ?_)
      obtain rfl : x9 = iZ (k + (μ (649 + (t).toNat) (k).toNat)) := ex9.trans (iZ_add _ _)
      refine fz_icmp_ge (tgt := 52) (by constructor <;> omega) (by constructor <;> omega) hx hb dX10_depthOf_27 (by decide) (fun c27_ => ?_) (fun c27_ => ?_)
      · refine lv_iconst (v := iZ 0) hx hb dX10_depthOf_52 rfl ?_
        refine lv_iadd hx hb dX10_depthOf_53 ?_
        refine lv_topi (fun x9 ex9 => ?_)
        obtain rfl : x9 = iZ (n + 0) := ex9.trans (iZ_add _ _)
        refine lv_istore (lv' := [(4, .int (iZ (n + 0))), (5, .int (iZ (k))), (3, .int (iZ (q))), (2, .int (iZ (i))), (1, .int (iZ (t))), (0, .ref h0)]) hx hb dX10_depthOf_54 hl (by decide) rfl (fun ls hl => ?_)
        refine lv_iinc (v := iZ (k + 1)) (lv' := [(5, .int (iZ (k + 1))), (4, .int (iZ (n + 0))), (3, .int (iZ (q))), (2, .int (iZ (i))), (1, .int (iZ (t))), (0, .ref h0)]) hx hb dX10_depthOf_56 hl (k := 1) rfl (iZ_add _ _) (by decide) rfl (fun ls hl => ?_)
        refine lv_goto (tgt := 6) hx hb dX10_depthOf_59 (by decide) ?_
        exact ih (n + 0) (k + 1) μ H locs ls (by rfl) (by omega) (by rw [show (k + 1).toNat = k.toNat + 1 by omega, dCn, ← hn, if_neg (by omega)]) (by omega) hP hS (lv_sub hl [0, 1, 2, 3, 4, 5] rfl)
      · refine lv_iload_n hx hb dX10_depthOf_30 rfl (lv_at hl 2 rfl) ?_
        refine lv_iconst (v := iZ (-1)) hx hb dX10_depthOf_31 rfl ?_
        refine fz_icmp_eq (tgt := 48) (by first | exact hq | (constructor <;> omega)) (by decide) hx hb dX10_depthOf_32 (by decide) (fun c32_ => ?_) (fun c32_ => ?_)
        · refine lv_iconst (v := iZ 1) hx hb dX10_depthOf_48 rfl ?_
          refine lv_goto (tgt := 53) hx hb dX10_depthOf_49 (by decide) ?_
          refine lv_iadd hx hb dX10_depthOf_53 ?_
          refine lv_topi (fun x9 ex9 => ?_)
          obtain rfl : x9 = iZ (n + 1) := ex9.trans (iZ_add _ _)
          refine lv_istore (lv' := [(4, .int (iZ (n + 1))), (5, .int (iZ (k))), (3, .int (iZ (q))), (2, .int (iZ (i))), (1, .int (iZ (t))), (0, .ref h0)]) hx hb dX10_depthOf_54 hl (by decide) rfl (fun ls hl => ?_)
          refine lv_iinc (v := iZ (k + 1)) (lv' := [(5, .int (iZ (k + 1))), (4, .int (iZ (n + 1))), (3, .int (iZ (q))), (2, .int (iZ (i))), (1, .int (iZ (t))), (0, .ref h0)]) hx hb dX10_depthOf_56 hl (k := 1) rfl (iZ_add _ _) (by decide) rfl (fun ls hl => ?_)
          refine lv_goto (tgt := 6) hx hb dX10_depthOf_59 (by decide) ?_
          exact ih (n + 1) (k + 1) μ H locs ls (by rfl) (by omega) (by rw [show (k + 1).toNat = k.toNat + 1 by omega, dCn, ← hn, if_pos ⟨by omega, by omega⟩]) (by omega) hP hS (lv_sub hl [0, 1, 2, 3, 4, 5] rfl)
        · refine lv_aload_n hx hb dX10_depthOf_35 rfl (lv_at hl 5 rfl) ?_
          refine fz_get (D := (dC, dI)) (ci := 10) (v := .ref (h0 + 506)) (C := RX10) (T := TX10) (N := 53) hx hb hts inG10 hown hK hP (k := 0) (by decide) (F := mF h0) mE_obj rfl 18 (by decide) (hts _ k1184) (fun _ h9 => h9) rfl dX10_depthOf_36 ?_
          refine lv_iload_n hx hb dX10_depthOf_39 rfl (lv_at hl 4 rfl) ?_
          refine fz_ald (k := 506) (n := 70) (k2 := (507 + (t).toNat)) hx hb hK hP 2 rfl (by decide) mE_sort rfl ⟨by omega, by omega⟩ (by decide) (if_pos (by omega)) dX10_depthOf_40 ?_
          refine lv_iload hx hb dX10_depthOf_41 (lv_at hl 0 rfl) ?_
          refine fz_ld (k := (507 + (t).toNat)) (n := 900) hx hb hK hP 0 (by omega) (mE_sortR (by omega)) rfl ⟨by omega, by omega⟩ (by decide) dX10_depthOf_43 ?_
          refine lv_iload_n hx hb dX10_depthOf_44 rfl (lv_at hl 2 rfl) ?_
          refine fz_icmp_ne (tgt := 52) (by first | exact hq | (constructor <;> omega)) (by first | exact hq | (constructor <;> omega)) hx hb dX10_depthOf_45 (by decide) (fun c45_ => ?_) (fun c45_ => ?_)
          · refine lv_iconst (v := iZ 0) hx hb dX10_depthOf_52 rfl ?_
            refine lv_iadd hx hb dX10_depthOf_53 ?_
            refine lv_topi (fun x9 ex9 => ?_)
            obtain rfl : x9 = iZ (n + 0) := ex9.trans (iZ_add _ _)
            refine lv_istore (lv' := [(4, .int (iZ (n + 0))), (5, .int (iZ (k))), (3, .int (iZ (q))), (2, .int (iZ (i))), (1, .int (iZ (t))), (0, .ref h0)]) hx hb dX10_depthOf_54 hl (by decide) rfl (fun ls hl => ?_)
            refine lv_iinc (v := iZ (k + 1)) (lv' := [(5, .int (iZ (k + 1))), (4, .int (iZ (n + 0))), (3, .int (iZ (q))), (2, .int (iZ (i))), (1, .int (iZ (t))), (0, .ref h0)]) hx hb dX10_depthOf_56 hl (k := 1) rfl (iZ_add _ _) (by decide) rfl (fun ls hl => ?_)
            refine lv_goto (tgt := 6) hx hb dX10_depthOf_59 (by decide) ?_
            exact ih (n + 0) (k + 1) μ H locs ls (by rfl) (by omega) (by rw [show (k + 1).toNat = k.toNat + 1 by omega, dCn, ← hn, if_neg (by omega)]) (by omega) hP hS (lv_sub hl [0, 1, 2, 3, 4, 5] rfl)
          · refine lv_iconst (v := iZ 1) hx hb dX10_depthOf_48 rfl ?_
            refine lv_goto (tgt := 53) hx hb dX10_depthOf_49 (by decide) ?_
            refine lv_iadd hx hb dX10_depthOf_53 ?_
            refine lv_topi (fun x9 ex9 => ?_)
            obtain rfl : x9 = iZ (n + 1) := ex9.trans (iZ_add _ _)
            refine lv_istore (lv' := [(4, .int (iZ (n + 1))), (5, .int (iZ (k))), (3, .int (iZ (q))), (2, .int (iZ (i))), (1, .int (iZ (t))), (0, .ref h0)]) hx hb dX10_depthOf_54 hl (by decide) rfl (fun ls hl => ?_)
            refine lv_iinc (v := iZ (k + 1)) (lv' := [(5, .int (iZ (k + 1))), (4, .int (iZ (n + 1))), (3, .int (iZ (q))), (2, .int (iZ (i))), (1, .int (iZ (t))), (0, .ref h0)]) hx hb dX10_depthOf_56 hl (k := 1) rfl (iZ_add _ _) (by decide) rfl (fun ls hl => ?_)
            refine lv_goto (tgt := 6) hx hb dX10_depthOf_59 (by decide) ?_
            exact ih (n + 1) (k + 1) μ H locs ls (by rfl) (by omega) (by rw [show (k + 1).toNat = k.toNat + 1 by omega, dCn, ← hn, if_pos ⟨by omega, by omega⟩]) (by omega) hP hS (lv_sub hl [0, 1, 2, 3, 4, 5] rfl)
set_option maxHeartbeats 4000000 in
set_option maxRecDepth 100000 in
theorem m_depthOf2 (l : Launch) (dC : Nat → ClassId) (dI : Nat → Nat → Nat) (cI cZ cII cIII : ClassId) (h0 sz : Nat) (μ : va_M) (t : Int) (i : Int) (q : Int) (ht : 0 ≤ t ∧ t < 70) (hT : tok μ t.toNat) (hi : 0 ≤ i ∧ i < μ 719 t.toNat) (hq : inR q) : Met l yX10_depthOf (Cond.code yX10_depthOf cX10_depthOf 6 (some .int) :: wsG) ({ frames := 1, cells := 0, slots := 0, locals := 14 } : Room) (va_Pc [.ref h0, .int (iZ (t)), .int (iZ (i)), .int (iZ (q))] (fun U => U.heap.size = sz ∧ va_P (dC, dI) vwCl (fw (mE cI cZ cII cIII h0) h0 6325 μ) U.heap ∧ va_K (dC, dI) vwCl (mT cI cZ cII cIII) U)) (va_Qi (fun (r9 : Int32) (u : va_M × Int) => r9 = iZ u.2 ∧ (fun (u : va_M) (r : Int) => u = μ ∧ r = dCn μ t.toNat i q i.toNat) u.1 u.2) (fun u t => va_P (dC, dI) vwCl (fw (mE cI cZ cII cIII h0) h0 6325 u.1) t.heap ∧ va_K (dC, dI) vwCl (mT cI cZ cII cIII) t) (fA h0 6325 sz)) 0 0 (fA h0 6325 sz) := by
  refine Met.ofW (cc := cX10_depthOf) (maxL := 6) (ret := (some .int)) (by decide) rfl ?_
  intro p e s m args below meth c s₁ B hml hv
  obtain ⟨rfl, hsz, hP, hK⟩ := hv
  have hx := B.exec
  have hb := B.bytes
  have hr := B.returns
  have hts : ∀ w ∈ wsG, w.before _ s = true := hG_of (atoms_spec (ws := (Cond.code yX10_depthOf cX10_depthOf 6 (some .int) :: wsG)) B.pre)
  have hown : s.vm.findClass RX10 = some m.cls := findClass_of_methodNamed B.named
  have hlocks := B.notSynchronized
  subst hsz
  have hS : va_S (fA h0 6325 s.heap.size) s.heap s.heap [] := va_S.rf
  have hl := lv_entry ([.ref h0, .int (iZ (t)), .int (iZ (i)), .int (iZ (q))]) (n := 6) (Nat.le_of_ble_eq_true rfl)
  rw [lg_entry_eq]
  generalize (lg_sl ([.ref h0, .int (iZ (t)), .int (iZ (i)), .int (iZ (q))]) ++ List.replicate (6 - (lg_sl ([.ref h0, .int (iZ (t)), .int (iZ (i)), .int (iZ (q))])).length) Slot.unset).toArray = ls at hl ⊢
  have hl : lv_has ls 6 [(0, .ref h0), (1, .int (iZ (t))), (2, .int (iZ (i))), (3, .int (iZ (q)))] := hl
  refine lv_iconst (v := iZ 0) hx hb dX10_depthOf_0 rfl ?_
  refine lv_istore (lv' := [(4, .int (iZ (0))), (0, .ref h0), (1, .int (iZ (t))), (2, .int (iZ (i))), (3, .int (iZ (q)))]) hx hb dX10_depthOf_1 hl (by decide) rfl (fun ls hl => ?_)
  refine lv_iconst (v := iZ 0) hx hb dX10_depthOf_3 rfl ?_
  refine lv_istore (lv' := [(5, .int (iZ (0))), (4, .int (iZ (0))), (0, .ref h0), (1, .int (iZ (t))), (2, .int (iZ (i))), (3, .int (iZ (q)))]) hx hb dX10_depthOf_4 hl (by decide) rfl (fun ls hl => ?_)
  refine LX10_depthOf_6b hx hb hml hown hts hK (Nat.le_of_ble_eq_true rfl) (Nat.le_of_ble_eq_true rfl) (Nat.le_of_ble_eq_true rfl) (Nat.le_of_ble_eq_true rfl) (μ) (t) (i) (q) (by assumption) (by assumption) (by assumption) (by assumption) ?_ _ (0) (0) μ s.heap [] ls (by rfl) (by omega) (by rfl) (Nat.lt_succ_self _) hP hS (lv_sub hl [0, 1, 5, 4, 3, 2] rfl)
  · intro n_1 k_1 μ1_ H locs ls q1_1 q2_1 hP hS hl
    have hl : lv_has ls 6 [(4, .int (iZ (n_1)))] := hl
    refine lv_iload hx hb dX10_depthOf_62 (lv_at hl 0 rfl) ?_
    exact W.iret (v := iZ (n_1)) hx hb hr (fun t9 ht9 hW9 => ⟨⟨iZ (n_1), (μ1_, n_1), rfl, ⟨rfl, (by
                dsimp only
                exact ⟨q1_1, q2_1⟩)⟩, by rw [ht9]; exact hP, va_K.moved hW9.alike hK⟩, hS.F ht9⟩) hS.2.2 dX10_depthOf_64
set_option maxHeartbeats 4000000 in
set_option maxRecDepth 100000 in
theorem LX10_deepest_4b {p : Program} {l : Launch} {e : Env} {R : Room} {s : State} {m : MethodId} {args : Array Value} {below : List Frame} {meth : Method} {c : Code} {cells slots : Nat} {Q : State → Prop} {dC : Nat → ClassId} {dI : Nat → Nat → Nat} {h0 : Nat} {cI cZ cII cIII : ClassId} (hx : p.tables.exec = Jvm.exec) (hb : c.code = cX10_deepest) (hml : c.maxLocals = 4) (hown : s.vm.findClass RX10 = some m.cls) (hts : ∀ w ∈ wsG, w.before args s = true) (hK : va_K (dC, dI) vwCl (mT cI cZ cII cIII) s) (hRf : 2 ≤ R.frames) (hRl : 39 ≤ R.locals) (hRc : cells ≤ R.cells) (hRs : slots ≤ R.slots) (μ0 : va_M) (t : Int) (ht : 0 ≤ t ∧ t < 70) (hT : tok μ0 t.toNat) (hexit46 : ∀ (n : Int) (i : Int) (μ : va_M) (H : Heap) (locs : List Loc) (ls : Array Slot), (μ = μ0) → (n = mDp μ0 t.toNat (μ0 719 t.toNat).toNat) → va_P (dC, dI) vwCl (fw (mE cI cZ cII cIII h0) h0 6325 μ) H → va_S (fA h0 6325 s.heap.size) s.heap H locs → lv_has ls 4 [(2, .int (iZ (n)))] → W p l e R s m args below meth c H locs cells slots Q (F0 m 46 ls [])) :
    ∀ (n9 : Nat) (n : Int) (i : Int) (μ : va_M) (H : Heap) (locs : List Loc) (ls : Array Slot), (μ = μ0) → (0 ≤ i ∧ i ≤ μ0 719 t.toNat) → (n = mDp μ0 t.toNat i.toNat) → (1000 - i).toNat < n9 → va_P (dC, dI) vwCl (fw (mE cI cZ cII cIII h0) h0 6325 μ) H → va_S (fA h0 6325 s.heap.size) s.heap H locs → lv_has ls 4 [(3, .int (iZ (i))), (2, .int (iZ (n))), (1, .int (iZ (t))), (0, .ref h0)] → W p l e R s m args below meth c H locs cells slots Q (F0 m 4 ls []) := by
  intro n9
  induction n9 with
  | zero => intro n i μ H locs ls hm hk hn hm9 hP hS hl; exact absurd hm9 (Nat.not_lt_zero _)
  | succ n9 ih =>
    intro n i μ H locs ls hm hk hn hm9 hP hS hl
    subst hm
    have hT0 := hT
    obtain ⟨hT1, hT2, hT3⟩ := hT
    have hb9 := mDp_b (μ := μ) (t := t.toNat) i.toNat
    have hc9 := dCn_b (μ := μ) (t := t.toNat) (i := i) (q := 4) i.toNat
    refine lv_iload_n hx hb dX10_deepest_4 rfl (lv_at hl 0 rfl) ?_
    refine lv_aload_n hx hb dX10_deepest_5 rfl (lv_at hl 3 rfl) ?_
    refine fz_get (D := (dC, dI)) (ci := 10) (v := .ref (h0 + 719)) (C := RX10) (T := TX10) (N := 53) hx hb hts inG10 hown hK hP (k := 0) (by decide) (F := mF h0) mE_obj rfl 21 (by decide) (hts _ k1187) (fun _ h9 => h9) rfl dX10_deepest_6 ?_
    refine lv_iload_n hx hb dX10_deepest_9 rfl (lv_at hl 2 rfl) ?_
    refine fz_ld (k := 719) (n := 70) hx hb hK hP 0 (by decide) mE_nodes rfl ⟨by omega, by omega⟩ (by decide) dX10_deepest_10 ?_
    refine fz_icmp_ge (tgt := 46) (by constructor <;> omega) (by constructor <;> omega) hx hb dX10_deepest_11 (by decide) (fun c11_ => ?_) (fun c11_ => ?_)
    · exact hexit46 (n) (i) μ H locs ls (by rfl) (by rw [show (μ 719 t.toNat).toNat = i.toNat by omega]; exact hn) hP hS (lv_sub hl [1] rfl)
    · have hx9 := hT3 i.toNat (by omega)
      obtain ⟨hx1, hx2, hx3, hx4⟩ := hx9
      refine lv_aload_n hx hb dX10_deepest_14 rfl (lv_at hl 3 rfl) ?_
      refine fz_get (D := (dC, dI)) (ci := 10) (v := .ref (h0 + 506)) (C := RX10) (T := TX10) (N := 53) hx hb hts inG10 hown hK hP (k := 0) (by decide) (F := mF h0) mE_obj rfl 18 (by decide) (hts _ k1184) (fun _ h9 => h9) rfl dX10_deepest_15 ?_
      refine lv_iload_n hx hb dX10_deepest_18 rfl (lv_at hl 2 rfl) ?_
      refine fz_ald (k := 506) (n := 70) (k2 := (507 + (t).toNat)) hx hb hK hP 2 rfl (by decide) mE_sort rfl ⟨by omega, by omega⟩ (by decide) (if_pos (by omega)) dX10_deepest_19 ?_
      refine lv_iload_n hx hb dX10_deepest_20 rfl (lv_at hl 0 rfl) ?_
      refine fz_ld (k := (507 + (t).toNat)) (n := 900) hx hb hK hP 0 (by omega) (mE_sortR (by omega)) rfl ⟨by omega, by omega⟩ (by decide) dX10_deepest_21 ?_
      refine lv_iconst (v := iZ 4) hx hb dX10_deepest_22 rfl ?_
      refine fz_icmp_ne (tgt := 40) (by constructor <;> omega) (by decide) hx hb dX10_deepest_23 (by decide) (fun c23_ => ?_) (fun c23_ => ?_)
      · refine lv_iinc (v := iZ (i + 1)) (lv' := [(3, .int (iZ (i + 1))), (2, .int (iZ (n))), (1, .int (iZ (t))), (0, .ref h0)]) hx hb dX10_deepest_40 hl (k := 0) rfl (iZ_add _ _) (by decide) rfl (fun ls hl => ?_)
        refine lv_goto (tgt := 4) hx hb dX10_deepest_43 (by decide) ?_
        exact ih (n) (i + 1) μ H locs ls (by rfl) (by omega) (by rw [show (i + 1).toNat = i.toNat + 1 by omega, mDp, if_neg (by omega)]; exact hn) (by omega) hP hS (lv_sub hl [0, 1, 2, 3] rfl)
      · refine lv_iload_n hx hb dX10_deepest_26 rfl (lv_at hl 1 rfl) ?_
        refine lv_iconst (v := iZ 1) hx hb dX10_deepest_27 rfl ?_
        refine lv_aload_n hx hb dX10_deepest_28 rfl (lv_at hl 3 rfl) ?_
        refine lv_iload_n hx hb dX10_deepest_29 rfl (lv_at hl 2 rfl) ?_
        refine lv_iload_n hx hb dX10_deepest_30 rfl (lv_at hl 0 rfl) ?_
        refine lv_iconst (v := iZ 4) hx hb dX10_deepest_31 rfl ?_
        refine va_calli (va_runV (As := [.int (iZ (t)), .int (iZ (i)), .int (iZ (4))]) (rest := [.int (iZ (1)), .int (iZ (n))]) ⟨hx, hb, hml, hown, hts⟩ (m_depthOf2 l dC dI cI cZ cII cIII h0 H.size μ (t) (i) (4) (by first | assumption | omega | exact ⟨by omega, by omega⟩) (by exact hT0) (by first | assumption | omega | exact ⟨by omega, by omega⟩) (by constructor <;> decide)) (cwV 3 hts (gV_G k1596 k1598 ks_yX10_depthOf k13 k1599) rfl rfl rfl (by decide +kernel) ⟨by show 1 + 1 ≤ _; omega, by show 8 + (6 + 11) + (14) ≤ _; omega⟩) ⟨fun a U g mk q => by obtain ⟨q0, q1, qP, qK⟩ := q; exact ⟨q0, q1, qP, va_K.moved (u := U) (U := U.calling g mk a) (Vm.Alike.refl U.vm) qK⟩, va_recv hK hP (ci := 10) (q0 := 0) rfl ((fw_get (by decide)).trans (by rw [mE_obj]; rfl)), fun U hU hW => ⟨rfl, by rw [hU], by rw [hU]; exact hP, va_K.moved hW.alike hK⟩⟩ rfl rfl hl.1 rfl (lv_room (Nat.le_of_ble_eq_true rfl)) dX10_deepest_32 ⟨hRc, hRs⟩) hS (fun q _ h => fA_le hS.1 q h) (fA_le hS.1) (fun r9 u9 t9 H1 locs ht9 hvm9 hw9 hB9 hz9 hk9 hS => ?_)
        obtain ⟨μ1, rd⟩ := u9
        obtain ⟨hP, -⟩ := hB9
        rw [ht9] at hP
        generalize H1 = H at hP hS ⊢
        obtain ⟨e9, hw9⟩ := hw9
        have e9 : r9 = iZ rd := e9
        subst e9
        simp only at hP hw9
        have hμ1 := hw9; clear hw9
        rw [hμ1.1] at hP; have hμ1 := hμ1.2
        have hdd := hμ1
        refine lv_iadd hx hb dX10_deepest_35 ?_
        refine lv_topi (fun x9 ex9 => ?_)
        obtain rfl : x9 = iZ (1 + rd) := ex9.trans (iZ_add _ _)
        refine va_calli (va_runS (As := [.int (iZ (n)), .int (iZ (1 + rd))]) (rest := []) ⟨hx, hb, hml, hown, hts⟩ (m_more l dC dI cI cZ cII cIII h0 H.size μ (n) (1 + rd) (by constructor <;> omega) (by constructor <;> omega)) (cwS 2 hts (gS_G k1600 k1601 k13 k1602) rfl rfl rfl (by decide +kernel) ⟨by show 1 + 1 ≤ _; omega, by show 8 + (2 + 11) + (14) ≤ _; omega⟩) ⟨fun a U g mk q => by obtain ⟨q0, q1, qP, qK⟩ := q; exact ⟨q0, q1, qP, va_K.moved (u := U) (U := U.calling g mk a) (Vm.Alike.refl U.vm) qK⟩, fun U hU hW => ⟨rfl, by rw [hU], by rw [hU]; exact hP, va_K.moved hW.alike hK⟩⟩ rfl rfl hl.1 rfl (lv_room (Nat.le_of_ble_eq_true rfl)) dX10_deepest_36 ⟨hRc, hRs⟩) hS (fun q _ h => fA_le hS.1 q h) (fA_le hS.1) (fun r9 u9 t9 H1 locs ht9 hvm9 hw9 hB9 hz9 hk9 hS => ?_)
        obtain ⟨μ2, r3⟩ := u9
        obtain ⟨hP, -⟩ := hB9
        rw [ht9] at hP
        generalize H1 = H at hP hS ⊢
        obtain ⟨e9, hw9⟩ := hw9
        have e9 : r9 = iZ r3 := e9
        subst e9
        simp only at hP hw9
        have hμ2 := hw9; clear hw9
        rw [hμ2.1] at hP; have hμ2 := hμ2.2
        refine lv_istore_n (lv' := [(2, .int (iZ (r3))), (3, .int (iZ (i))), (1, .int (iZ (t))), (0, .ref h0)]) hx hb dX10_deepest_39 rfl hl (by decide) rfl (fun ls hl => ?_)
        refine lv_iinc (v := iZ (i + 1)) (lv' := [(3, .int (iZ (i + 1))), (2, .int (iZ (r3))), (1, .int (iZ (t))), (0, .ref h0)]) hx hb dX10_deepest_40 hl (k := 1) rfl (iZ_add _ _) (by decide) rfl (fun ls hl => ?_)
        refine lv_goto (tgt := 4) hx hb dX10_deepest_43 (by decide) ?_
        exact ih (r3) (i + 1) μ H locs ls (by rfl) (by omega) (by rw [show (i + 1).toNat = i.toNat + 1 by omega, mDp, if_pos (by omega), ← hn, show ((i.toNat : Nat) : Int) = i by omega, ← hdd]; exact hμ2) (by omega) hP hS (lv_sub hl [0, 1, 2, 3] rfl)
set_option maxHeartbeats 4000000 in
set_option maxRecDepth 100000 in
theorem m_deepest2 (l : Launch) (dC : Nat → ClassId) (dI : Nat → Nat → Nat) (cI cZ cII cIII : ClassId) (h0 sz : Nat) (μ : va_M) (t : Int) (ht : 0 ≤ t ∧ t < 70) (hT : tok μ t.toNat) : Met l yX10_deepest (Cond.code yX10_deepest cX10_deepest 4 (some .int) :: wsG) ({ frames := 2, cells := 0, slots := 0, locals := 39 } : Room) (va_Pc [.ref h0, .int (iZ (t))] (fun U => U.heap.size = sz ∧ va_P (dC, dI) vwCl (fw (mE cI cZ cII cIII h0) h0 6325 μ) U.heap ∧ va_K (dC, dI) vwCl (mT cI cZ cII cIII) U)) (va_Qi (fun (r9 : Int32) (u : va_M × Int) => r9 = iZ u.2 ∧ (fun (u : va_M) (r : Int) => u = μ ∧ r = mDp μ t.toNat (μ 719 t.toNat).toNat) u.1 u.2) (fun u t => va_P (dC, dI) vwCl (fw (mE cI cZ cII cIII h0) h0 6325 u.1) t.heap ∧ va_K (dC, dI) vwCl (mT cI cZ cII cIII) t) (fA h0 6325 sz)) 0 0 (fA h0 6325 sz) := by
  refine Met.ofW (cc := cX10_deepest) (maxL := 4) (ret := (some .int)) (by decide) rfl ?_
  intro p e s m args below meth c s₁ B hml hv
  obtain ⟨rfl, hsz, hP, hK⟩ := hv
  have hx := B.exec
  have hb := B.bytes
  have hr := B.returns
  have hts : ∀ w ∈ wsG, w.before _ s = true := hG_of (atoms_spec (ws := (Cond.code yX10_deepest cX10_deepest 4 (some .int) :: wsG)) B.pre)
  have hown : s.vm.findClass RX10 = some m.cls := findClass_of_methodNamed B.named
  have hlocks := B.notSynchronized
  subst hsz
  have hS : va_S (fA h0 6325 s.heap.size) s.heap s.heap [] := va_S.rf
  have hl := lv_entry ([.ref h0, .int (iZ (t))]) (n := 4) (Nat.le_of_ble_eq_true rfl)
  rw [lg_entry_eq]
  generalize (lg_sl ([.ref h0, .int (iZ (t))]) ++ List.replicate (4 - (lg_sl ([.ref h0, .int (iZ (t))])).length) Slot.unset).toArray = ls at hl ⊢
  have hl : lv_has ls 4 [(0, .ref h0), (1, .int (iZ (t)))] := hl
  refine lv_iconst (v := iZ 0) hx hb dX10_deepest_0 rfl ?_
  refine lv_istore_n (lv' := [(2, .int (iZ (0))), (0, .ref h0), (1, .int (iZ (t)))]) hx hb dX10_deepest_1 rfl hl (by decide) rfl (fun ls hl => ?_)
  refine lv_iconst (v := iZ 0) hx hb dX10_deepest_2 rfl ?_
  refine lv_istore_n (lv' := [(3, .int (iZ (0))), (2, .int (iZ (0))), (0, .ref h0), (1, .int (iZ (t)))]) hx hb dX10_deepest_3 rfl hl (by decide) rfl (fun ls hl => ?_)
  refine LX10_deepest_4b hx hb hml hown hts hK (Nat.le_of_ble_eq_true rfl) (Nat.le_of_ble_eq_true rfl) (Nat.le_of_ble_eq_true rfl) (Nat.le_of_ble_eq_true rfl) (μ) (t) (by assumption) (by assumption) ?_ _ (0) (0) μ s.heap [] ls (by rfl) (by have h9 := hT.1; omega) (by rfl) (Nat.lt_succ_self _) hP hS (lv_sub hl [0, 1, 3, 2] rfl)
  · intro n_4 i_4 μ4_ H locs ls q1_4 q2_4 hP hS hl
    have hl : lv_has ls 4 [(2, .int (iZ (n_4)))] := hl
    refine lv_iload_n hx hb dX10_deepest_46 rfl (lv_at hl 0 rfl) ?_
    exact W.iret (v := iZ (n_4)) hx hb hr (fun t9 ht9 hW9 => ⟨⟨iZ (n_4), (μ4_, n_4), rfl, ⟨rfl, (by
                dsimp only
                exact ⟨q1_4, q2_4⟩)⟩, by rw [ht9]; exact hP, va_K.moved hW9.alike hK⟩, hS.F ht9⟩) hS.2.2 dX10_deepest_47
set_option maxHeartbeats 4000000 in
set_option maxRecDepth 100000 in
theorem m_of2 (l : Launch) (dC : Nat → ClassId) (dI : Nat → Nat → Nat) (cI cZ cII cIII : ClassId) (h0 sz : Nat) (μ : va_M) (t : Int) (i : Int) (w : Int) (w9 : Rw) (ht : 0 ≤ t ∧ t < 70) (hi9 : 0 ≤ i ∧ i < μ 719 t.toNat) (hx9 : TR μ t.toNat w9 ∧ rWF w9 ∧ rN w9 ≤ 900) (hw9 : 0 ≤ w ∧ w ≤ 5) : Met l yX10_of (Cond.code yX10_of cX10_of 4 (some .int) :: wsG) ({ frames := 2, cells := 0, slots := 0, locals := 39 } : Room) (va_Pc [.ref h0, .int (iZ (t)), .int (iZ (i)), .int (iZ (w))] (fun U => U.heap.size = sz ∧ va_P (dC, dI) vwCl (fw (mE cI cZ cII cIII h0) h0 6325 μ) U.heap ∧ va_K (dC, dI) vwCl (mT cI cZ cII cIII) U)) (va_Qi (fun (r9 : Int32) (u : va_M × Int) => r9 = iZ u.2 ∧ (fun (u : va_M) (r : Int) => u = μ ∧ r = ofV w9 i.toNat w) u.1 u.2) (fun u t => va_P (dC, dI) vwCl (fw (mE cI cZ cII cIII h0) h0 6325 u.1) t.heap ∧ va_K (dC, dI) vwCl (mT cI cZ cII cIII) t) (fA h0 6325 sz)) 0 0 (fA h0 6325 sz) := by
  refine Met.ofW (cc := cX10_of) (maxL := 4) (ret := (some .int)) (by decide) rfl ?_
  intro p e s m args below meth c s₁ B hml hv
  obtain ⟨rfl, hsz, hP, hK⟩ := hv
  have hx := B.exec
  have hb := B.bytes
  have hr := B.returns
  have hts : ∀ w ∈ wsG, w.before _ s = true := hG_of (atoms_spec (ws := (Cond.code yX10_of cX10_of 4 (some .int) :: wsG)) B.pre)
  have hown : s.vm.findClass RX10 = some m.cls := findClass_of_methodNamed B.named
  have hlocks := B.notSynchronized
  subst hsz
  have hS : va_S (fA h0 6325 s.heap.size) s.heap s.heap [] := va_S.rf
  have hl := lv_entry ([.ref h0, .int (iZ (t)), .int (iZ (i)), .int (iZ (w))]) (n := 4) (Nat.le_of_ble_eq_true rfl)
  rw [lg_entry_eq]
  generalize (lg_sl ([.ref h0, .int (iZ (t)), .int (iZ (i)), .int (iZ (w))]) ++ List.replicate (4 - (lg_sl ([.ref h0, .int (iZ (t)), .int (iZ (i)), .int (iZ (w))])).length) Slot.unset).toArray = ls at hl ⊢
  have hl : lv_has ls 4 [(0, .ref h0), (1, .int (iZ (t))), (2, .int (iZ (i))), (3, .int (iZ (w)))] := hl
  have hT := hx9.1
  have hW := hx9.2.1
  have hN := hx9.2.2
  have htk := TR_tok hT hW hN
  have hn0 := hT.1
  obtain ⟨kx, vx, wx, hnd, hA, hF⟩ := RA_nd w9 0 i.toNat hT.2 hW (by omega)
  rw [Nat.zero_add] at hA
  have hdp := dCn_row (q := -1) w9 0 i.toNat hT.2 hW (by omega)
  rw [Nat.zero_add, show ((i.toNat : Nat) : Int) = i by omega, show dCn μ t.toNat i (-1) 0 = 0 from rfl, show pC μ t.toNat i 0 = -1 from rfl, Int.zero_add] at hdp
  have hc := htk.2.2 i.toNat (by omega)
  obtain ⟨hc1, hc2, hc3, hc4⟩ := hc
  have hA1 := hA.1
  have hA3 := hA.2.2.1
  refine lv_iload_n hx hb dX10_of_0 rfl (lv_at hl 3 rfl) ?_
  by_cases hc1_0 : w = 0
  · refine lv_tableIn (tgt := 36) (off := 35) hx hb dX10_of_1 (by rw [iZ_toInt (by constructor <;> omega), hc1_0]; decide +kernel) (by rw [iZ_toInt (by constructor <;> omega), hc1_0]; decide +kernel) (by rw [iZ_toInt (by constructor <;> omega), hc1_0]; decide +kernel) (by decide) ?_
    refine lv_aload_n hx hb dX10_of_36 rfl (lv_at hl 0 rfl) ?_
    refine fz_get (D := (dC, dI)) (ci := 10) (v := .ref (h0 + 506)) (C := RX10) (T := TX10) (N := 53) hx hb hts inG10 hown hK hP (k := 0) (by decide) (F := mF h0) mE_obj rfl 18 (by decide) (hts _ k1184) (fun _ h9 => h9) rfl dX10_of_37 ?_
    refine lv_iload_n hx hb dX10_of_40 rfl (lv_at hl 1 rfl) ?_
    refine fz_ald (k := 506) (n := 70) (k2 := (507 + (t).toNat)) hx hb hK hP 2 rfl (by decide) mE_sort rfl ⟨by omega, by omega⟩ (by decide) (if_pos (by omega)) dX10_of_41 ?_
    refine lv_iload_n hx hb dX10_of_42 rfl (lv_at hl 2 rfl) ?_
    refine fz_ld (k := (507 + (t).toNat)) (n := 900) hx hb hK hP 0 (by omega) (mE_sortR (by omega)) rfl ⟨by omega, by omega⟩ (by decide) dX10_of_43 ?_
    exact W.iret (v := iZ (μ (507 + (t).toNat) (i).toNat)) hx hb hr (fun t9 ht9 hW9 => ⟨⟨iZ (μ (507 + (t).toNat) (i).toNat), (μ, μ (507 + (t).toNat) (i).toNat), rfl, ⟨rfl, (by
                dsimp only
                refine ⟨rfl, ?_⟩
                rw [ofV, if_pos (by omega), hnd]
                exact hA.1)⟩, by rw [ht9]; exact hP, va_K.moved hW9.alike hK⟩, hS.F ht9⟩) hS.2.2 dX10_of_44
  · skip
    by_cases hc1_1 : w = 1
    · refine lv_tableIn (tgt := 45) (off := 44) hx hb dX10_of_1 (by rw [iZ_toInt (by constructor <;> omega), hc1_1]; decide +kernel) (by rw [iZ_toInt (by constructor <;> omega), hc1_1]; decide +kernel) (by rw [iZ_toInt (by constructor <;> omega), hc1_1]; decide +kernel) (by decide) ?_
      refine lv_aload_n hx hb dX10_of_45 rfl (lv_at hl 0 rfl) ?_
      refine fz_get (D := (dC, dI)) (ci := 10) (v := .ref (h0 + 506)) (C := RX10) (T := TX10) (N := 53) hx hb hts inG10 hown hK hP (k := 0) (by decide) (F := mF h0) mE_obj rfl 18 (by decide) (hts _ k1184) (fun _ h9 => h9) rfl dX10_of_46 ?_
      refine lv_iload_n hx hb dX10_of_49 rfl (lv_at hl 1 rfl) ?_
      refine fz_ald (k := 506) (n := 70) (k2 := (507 + (t).toNat)) hx hb hK hP 2 rfl (by decide) mE_sort rfl ⟨by omega, by omega⟩ (by decide) (if_pos (by omega)) dX10_of_50 ?_
      refine lv_iload_n hx hb dX10_of_51 rfl (lv_at hl 2 rfl) ?_
      refine fz_ld (k := (507 + (t).toNat)) (n := 900) hx hb hK hP 0 (by omega) (mE_sortR (by omega)) rfl ⟨by omega, by omega⟩ (by decide) dX10_of_52 ?_
      refine lv_iconst (v := iZ 2) hx hb dX10_of_53 rfl ?_
      refine fz_icmp_ge (tgt := 68) (by constructor <;> omega) (by decide) hx hb dX10_of_54 (by decide) (fun c54_ => ?_) (fun c54_ => ?_)
      · refine lv_iconst (v := iZ (-1)) hx hb dX10_of_68 rfl ?_
        exact W.iret (v := iZ ((-1))) hx hb hr (fun t9 ht9 hW9 => ⟨⟨iZ ((-1)), (μ, (-1)), rfl, ⟨rfl, (by
                        dsimp only
                        refine ⟨rfl, ?_⟩
                        rw [ofV, if_neg (by omega), if_pos (by omega), hnd, show rk (.inner 0 kx vx wx .leaf : Rw) = kx from rfl, if_neg (by omega)])⟩, by rw [ht9]; exact hP, va_K.moved hW9.alike hK⟩, hS.F ht9⟩) hS.2.2 dX10_of_69
      · refine lv_aload_n hx hb dX10_of_57 rfl (lv_at hl 0 rfl) ?_
        refine fz_get (D := (dC, dI)) (ci := 10) (v := .ref (h0 + 577)) (C := RX10) (T := TX10) (N := 53) hx hb hts inG10 hown hK hP (k := 0) (by decide) (F := mF h0) mE_obj rfl 19 (by decide) (hts _ k1185) (fun _ h9 => h9) rfl dX10_of_58 ?_
        refine lv_iload_n hx hb dX10_of_61 rfl (lv_at hl 1 rfl) ?_
        refine fz_ald (k := 577) (n := 70) (k2 := (578 + (t).toNat)) hx hb hK hP 2 rfl (by decide) mE_token rfl ⟨by omega, by omega⟩ (by decide) (if_pos (by omega)) dX10_of_62 ?_
        refine lv_iload_n hx hb dX10_of_63 rfl (lv_at hl 2 rfl) ?_
        refine fz_ld (k := (578 + (t).toNat)) (n := 900) hx hb hK hP 0 (by omega) (mE_tokenR (by omega)) rfl ⟨by omega, by omega⟩ (by decide) dX10_of_64 ?_
        refine lv_goto (tgt := 69) hx hb dX10_of_65 (by decide) ?_
        exact W.iret (v := iZ (μ (578 + (t).toNat) (i).toNat)) hx hb hr (fun t9 ht9 hW9 => ⟨⟨iZ (μ (578 + (t).toNat) (i).toNat), (μ, μ (578 + (t).toNat) (i).toNat), rfl, ⟨rfl, (by
                        dsimp only
                        refine ⟨rfl, ?_⟩
                        rw [ofV, if_neg (by omega), if_pos (by omega), hnd, show rk (.inner 0 kx vx wx .leaf : Rw) = kx from rfl, if_pos (by omega)]
                        exact hA.2.1)⟩, by rw [ht9]; exact hP, va_K.moved hW9.alike hK⟩, hS.F ht9⟩) hS.2.2 dX10_of_69
    · skip
      by_cases hc1_2 : w = 2
      · refine lv_tableIn (tgt := 70) (off := 69) hx hb dX10_of_1 (by rw [iZ_toInt (by constructor <;> omega), hc1_2]; decide +kernel) (by rw [iZ_toInt (by constructor <;> omega), hc1_2]; decide +kernel) (by rw [iZ_toInt (by constructor <;> omega), hc1_2]; decide +kernel) (by decide) ?_
        refine lv_aload_n hx hb dX10_of_70 rfl (lv_at hl 0 rfl) ?_
        refine lv_iload_n hx hb dX10_of_71 rfl (lv_at hl 1 rfl) ?_
        refine lv_iload_n hx hb dX10_of_72 rfl (lv_at hl 2 rfl) ?_
        refine lv_iconst (v := iZ (-1)) hx hb dX10_of_73 rfl ?_
        refine va_calli (va_runV (As := [.int (iZ (t)), .int (iZ (i)), .int (iZ ((-1)))]) (rest := []) ⟨hx, hb, hml, hown, hts⟩ (m_depthOf2 l dC dI cI cZ cII cIII h0 s.heap.size μ (t) (i) ((-1)) (by first | assumption | omega | exact ⟨by omega, by omega⟩) (by exact htk) (by first | assumption | omega | exact ⟨by omega, by omega⟩) (by constructor <;> decide)) (cwV 3 hts (gV_G k1596 k1598 ks_yX10_depthOf k13 k1599) rfl rfl rfl (by decide +kernel) ⟨Nat.le_of_ble_eq_true rfl, Nat.le_of_ble_eq_true rfl⟩) ⟨fun a U g mk q => by obtain ⟨q0, q1, qP, qK⟩ := q; exact ⟨q0, q1, qP, va_K.moved (u := U) (U := U.calling g mk a) (Vm.Alike.refl U.vm) qK⟩, va_recv hK hP (ci := 10) (q0 := 0) rfl ((fw_get (by decide)).trans (by rw [mE_obj]; rfl)), fun U hU hW => ⟨rfl, by rw [hU], by rw [hU]; exact hP, va_K.moved hW.alike hK⟩⟩ rfl rfl hl.1 rfl (lv_room (Nat.le_of_ble_eq_true rfl)) dX10_of_74 ⟨Nat.le_of_ble_eq_true rfl, Nat.le_of_ble_eq_true rfl⟩) hS (fun q _ h => fA_le hS.1 q h) (fA_le hS.1) (fun r9 u9 t9 H1 locs ht9 hvm9 hw9 hB9 hz9 hk9 hS => ?_)
        obtain ⟨μ1, r2⟩ := u9
        obtain ⟨hP, -⟩ := hB9
        rw [ht9] at hP
        generalize H1 = H at hP hS ⊢
        obtain ⟨e9, hw9⟩ := hw9
        have e9 : r9 = iZ r2 := e9
        subst e9
        simp only at hP hw9
        have hμ1 := hw9; clear hw9
        rw [hμ1.1] at hP; have hμ1 := hμ1.2
        exact W.iret (v := iZ (r2)) hx hb hr (fun t9 ht9 hW9 => ⟨⟨iZ (r2), (μ, r2), rfl, ⟨rfl, (by
                        dsimp only
                        refine ⟨rfl, ?_⟩
                        rw [ofV, if_neg (by omega), if_neg (by omega), if_pos (by omega)]
                        exact (hμ1).trans hdp.1)⟩, by rw [ht9]; exact hP, va_K.moved hW9.alike hK⟩, hS.F ht9⟩) hS.2.2 dX10_of_77
      · skip
        by_cases hc1_3 : w = 3
        · refine lv_tableIn (tgt := 78) (off := 77) hx hb dX10_of_1 (by rw [iZ_toInt (by constructor <;> omega), hc1_3]; decide +kernel) (by rw [iZ_toInt (by constructor <;> omega), hc1_3]; decide +kernel) (by rw [iZ_toInt (by constructor <;> omega), hc1_3]; decide +kernel) (by decide) ?_
          refine lv_aload_n hx hb dX10_of_78 rfl (lv_at hl 0 rfl) ?_
          refine lv_iload_n hx hb dX10_of_79 rfl (lv_at hl 1 rfl) ?_
          refine lv_iload_n hx hb dX10_of_80 rfl (lv_at hl 2 rfl) ?_
          refine va_calli (va_runV (As := [.int (iZ (t)), .int (iZ (i))]) (rest := []) ⟨hx, hb, hml, hown, hts⟩ (m_parentOf2 l dC dI cI cZ cII cIII h0 s.heap.size μ (t) (i) (by first | assumption | omega | exact ⟨by omega, by omega⟩) (by exact htk) (by first | assumption | omega | exact ⟨by omega, by omega⟩)) (cwV 2 hts (gV_G k1631 k1633 ks_yX10_parentOf k13 k1634) rfl rfl rfl (by decide +kernel) ⟨Nat.le_of_ble_eq_true rfl, Nat.le_of_ble_eq_true rfl⟩) ⟨fun a U g mk q => by obtain ⟨q0, q1, qP, qK⟩ := q; exact ⟨q0, q1, qP, va_K.moved (u := U) (U := U.calling g mk a) (Vm.Alike.refl U.vm) qK⟩, va_recv hK hP (ci := 10) (q0 := 0) rfl ((fw_get (by decide)).trans (by rw [mE_obj]; rfl)), fun U hU hW => ⟨rfl, by rw [hU], by rw [hU]; exact hP, va_K.moved hW.alike hK⟩⟩ rfl rfl hl.1 rfl (lv_room (Nat.le_of_ble_eq_true rfl)) dX10_of_81 ⟨Nat.le_of_ble_eq_true rfl, Nat.le_of_ble_eq_true rfl⟩) hS (fun q _ h => fA_le hS.1 q h) (fA_le hS.1) (fun r9 u9 t9 H1 locs ht9 hvm9 hw9 hB9 hz9 hk9 hS => ?_)
          obtain ⟨μ3, r4⟩ := u9
          obtain ⟨hP, -⟩ := hB9
          rw [ht9] at hP
          generalize H1 = H at hP hS ⊢
          obtain ⟨e9, hw9⟩ := hw9
          have e9 : r9 = iZ r4 := e9
          subst e9
          simp only at hP hw9
          have hμ3 := hw9; clear hw9
          rw [hμ3.1] at hP; have hμ3 := hμ3.2
          exact W.iret (v := iZ (r4)) hx hb hr (fun t9 ht9 hW9 => ⟨⟨iZ (r4), (μ, r4), rfl, ⟨rfl, (by
                            dsimp only
                            refine ⟨rfl, ?_⟩
                            rw [ofV, if_neg (by omega), if_neg (by omega), if_neg (by omega), if_pos (by omega)]
                            exact (hμ3).trans hdp.2)⟩, by rw [ht9]; exact hP, va_K.moved hW9.alike hK⟩, hS.F ht9⟩) hS.2.2 dX10_of_84
        · skip
          by_cases hc1_4 : w = 4
          · refine lv_tableIn (tgt := 85) (off := 84) hx hb dX10_of_1 (by rw [iZ_toInt (by constructor <;> omega), hc1_4]; decide +kernel) (by rw [iZ_toInt (by constructor <;> omega), hc1_4]; decide +kernel) (by rw [iZ_toInt (by constructor <;> omega), hc1_4]; decide +kernel) (by decide) ?_
            refine lv_aload_n hx hb dX10_of_85 rfl (lv_at hl 0 rfl) ?_
            refine lv_iload_n hx hb dX10_of_86 rfl (lv_at hl 1 rfl) ?_
            refine lv_iload_n hx hb dX10_of_87 rfl (lv_at hl 2 rfl) ?_
            refine lv_iload_n hx hb dX10_of_88 rfl (lv_at hl 2 rfl) ?_
            refine lv_aload_n hx hb dX10_of_89 rfl (lv_at hl 0 rfl) ?_
            refine fz_get (D := (dC, dI)) (ci := 10) (v := .ref (h0 + 648)) (C := RX10) (T := TX10) (N := 53) hx hb hts inG10 hown hK hP (k := 0) (by decide) (F := mF h0) mE_obj rfl 20 (by decide) (hts _ k1186) (fun _ h9 => h9) rfl dX10_of_90 ?_
            refine lv_iload_n hx hb dX10_of_93 rfl (lv_at hl 1 rfl) ?_
            refine fz_ald (k := 648) (n := 70) (k2 := (649 + (t).toNat)) hx hb hK hP 2 rfl (by decide) mE_span rfl ⟨by omega, by omega⟩ (by decide) (if_pos (by omega)) dX10_of_94 ?_
            refine lv_iload_n hx hb dX10_of_95 rfl (lv_at hl 2 rfl) ?_
            refine fz_ld (k := (649 + (t).toNat)) (n := 900) hx hb hK hP 0 (by omega) (mE_spanR (by omega)) rfl ⟨by omega, by omega⟩ (by decide) dX10_of_96 ?_
            refine lv_iadd hx hb dX10_of_97 ?_
            refine lv_topi (fun x9 ex9 => ?_)
            obtain rfl : x9 = iZ (i + (μ (649 + (t).toNat) (i).toNat)) := ex9.trans (iZ_add _ _)
            refine va_calli (va_runV (As := [.int (iZ (t)), .int (iZ (i)), .int (iZ (i + (μ (649 + (t).toNat) (i).toNat)))]) (rest := []) ⟨hx, hb, hml, hown, hts⟩ (m_sizeOf2 l dC dI cI cZ cII cIII h0 s.heap.size μ (t) (i) (i + (μ (649 + (t).toNat) (i).toNat)) (by first | assumption | omega | exact ⟨by omega, by omega⟩) (by omega) (by omega) (by intro x _ hx; have h9 := (htk.2.2 x (by omega)).1; constructor <;> omega)) (cwV 3 hts (gV_G k1492 k1494 ks_yX10_sizeOf k13 k1495) rfl rfl rfl (by decide +kernel) ⟨Nat.le_of_ble_eq_true rfl, Nat.le_of_ble_eq_true rfl⟩) ⟨fun a U g mk q => by obtain ⟨q0, q1, qP, qK⟩ := q; exact ⟨q0, q1, qP, va_K.moved (u := U) (U := U.calling g mk a) (Vm.Alike.refl U.vm) qK⟩, va_recv hK hP (ci := 10) (q0 := 0) rfl ((fw_get (by decide)).trans (by rw [mE_obj]; rfl)), fun U hU hW => ⟨rfl, by rw [hU], by rw [hU]; exact hP, va_K.moved hW.alike hK⟩⟩ rfl rfl hl.1 rfl (lv_room (Nat.le_of_ble_eq_true rfl)) dX10_of_98 ⟨Nat.le_of_ble_eq_true rfl, Nat.le_of_ble_eq_true rfl⟩) hS (fun q _ h => fA_le hS.1 q h) (fA_le hS.1) (fun r9 u9 t9 H1 locs ht9 hvm9 hw9 hB9 hz9 hk9 hS => ?_)
            obtain ⟨μ5, r6⟩ := u9
            obtain ⟨hP, -⟩ := hB9
            rw [ht9] at hP
            generalize H1 = H at hP hS ⊢
            obtain ⟨e9, hw9⟩ := hw9
            have e9 : r9 = iZ r6 := e9
            subst e9
            simp only at hP hw9
            have hμ5 := hw9; clear hw9
            rw [hμ5.1] at hP; have hμ5 := hμ5.2
            exact W.iret (v := iZ (r6)) hx hb hr (fun t9 ht9 hW9 => ⟨⟨iZ (r6), (μ, r6), rfl, ⟨rfl, (by
                                dsimp only
                                refine ⟨rfl, ?_⟩
                                rw [ofV, if_neg (by omega), if_neg (by omega), if_neg (by omega), if_neg (by omega), if_pos (by omega), hnd]
                                have h9 := hμ5
                                rw [show (i + μ (649 + t.toNat) i.toNat - i).toNat = 1 + rN wx by omega] at h9
                                exact h9.trans (cS_it hA))⟩, by rw [ht9]; exact hP, va_K.moved hW9.alike hK⟩, hS.F ht9⟩) hS.2.2 dX10_of_101
          · skip
            refine lv_tableOut (tgt := 102) hx hb dX10_of_1 (by rw [iZ_toInt (by constructor <;> omega)]; omega) (by decide) ?_
            refine lv_aload_n hx hb dX10_of_102 rfl (lv_at hl 0 rfl) ?_
            refine lv_iload_n hx hb dX10_of_103 rfl (lv_at hl 1 rfl) ?_
            refine lv_iload_n hx hb dX10_of_104 rfl (lv_at hl 2 rfl) ?_
            refine va_calli (va_runV (As := [.int (iZ (t)), .int (iZ (i))]) (rest := []) ⟨hx, hb, hml, hown, hts⟩ (m_itemsIn l dC dI cI cZ cII cIII h0 s.heap.size μ (t) (i) (wx) (by first | assumption | omega | exact ⟨by omega, by omega⟩) (by omega) (by exact hA.2.2.1) (by exact hA.2.2.2)) (cwV 2 hts (gV_G k1404 k1406 ks_yX10_itemsIn k13 k1407) rfl rfl rfl (by decide +kernel) ⟨Nat.le_of_ble_eq_true rfl, Nat.le_of_ble_eq_true rfl⟩) ⟨fun a U g mk q => by obtain ⟨q0, q1, qP, qK⟩ := q; exact ⟨q0, q1, qP, va_K.moved (u := U) (U := U.calling g mk a) (Vm.Alike.refl U.vm) qK⟩, va_recv hK hP (ci := 10) (q0 := 0) rfl ((fw_get (by decide)).trans (by rw [mE_obj]; rfl)), fun U hU hW => ⟨rfl, by rw [hU], by rw [hU]; exact hP, va_K.moved hW.alike hK⟩⟩ rfl rfl hl.1 rfl (lv_room (Nat.le_of_ble_eq_true rfl)) dX10_of_105 ⟨Nat.le_of_ble_eq_true rfl, Nat.le_of_ble_eq_true rfl⟩) hS (fun q _ h => fA_le hS.1 q h) (fA_le hS.1) (fun r9 u9 t9 H1 locs ht9 hvm9 hw9 hB9 hz9 hk9 hS => ?_)
            obtain ⟨μ7, r8⟩ := u9
            obtain ⟨hP, -⟩ := hB9
            rw [ht9] at hP
            generalize H1 = H at hP hS ⊢
            obtain ⟨e9, hw9⟩ := hw9
            have e9 : r9 = iZ r8 := e9
            subst e9
            simp only at hP hw9
            have hμ7 := hw9; clear hw9
            rw [hμ7.1] at hP; have hμ7 := hμ7.2
            exact W.iret (v := iZ (r8)) hx hb hr (fun t9 ht9 hW9 => ⟨⟨iZ (r8), (μ, r8), rfl, ⟨rfl, (by
                                dsimp only
                                refine ⟨rfl, ?_⟩
                                rw [ofV, if_neg (by omega), if_neg (by omega), if_neg (by omega), if_neg (by omega), if_neg (by omega), hnd]
                                exact hμ7)⟩, by rw [ht9]; exact hP, va_K.moved hW9.alike hK⟩, hS.F ht9⟩) hS.2.2 dX10_of_108
set_option maxHeartbeats 4000000 in
set_option maxRecDepth 100000 in
theorem f_pageOf (l : Launch) (dC : Nat → ClassId) (dI : Nat → Nat → Nat) (cI cZ cII cIII : ClassId) (h0 sz : Nat) (μ : va_M) (pp : Int) (w : Int) (wp : Rw) (hQ : RQ μ) (hp : inR pp) (hw9 : inR w) (hwp : 0 ≤ pp ∧ pp < μ 0 10 → TR μ (17 + pp.toNat) wp ∧ rPage wp) : Met l yX10_pageOf (Cond.code yX10_pageOf cX10_pageOf 4 (some .int) :: wsG) ({ frames := 3, cells := 0, slots := 0, locals := 62 } : Room) (va_Pc [.ref h0, .int (iZ (pp)), .int (iZ (w))] (fun U => U.heap.size = sz ∧ va_P (dC, dI) vwCl (fw (mE cI cZ cII cIII h0) h0 6325 μ) U.heap ∧ va_K (dC, dI) vwCl (mT cI cZ cII cIII) U)) (va_Qi (fun (r9 : Int32) (u : va_M × Int) => r9 = iZ u.2 ∧ (fun (u : va_M) (r : Int) => (fr PS μ u ∧ (u 0 0 = 0 ∨ u 0 0 = 1 ∨ u 0 0 = 2)) ∧ u 0 0 = cd2 (0 ≤ pp ∧ pp < μ 0 10) (0 ≤ w ∧ w ≤ 4) ∧ (cd2 (0 ≤ pp ∧ pp < μ 0 10) (0 ≤ w ∧ w ≤ 4) = 0 → r = pgV (μ 15 pp.toNat) wp w)) u.1 u.2) (fun u t => va_P (dC, dI) vwCl (fw (mE cI cZ cII cIII h0) h0 6325 u.1) t.heap ∧ va_K (dC, dI) vwCl (mT cI cZ cII cIII) t) (fA h0 6325 sz)) 0 0 (fA h0 6325 sz) := by
  refine Met.ofW (cc := cX10_pageOf) (maxL := 4) (ret := (some .int)) (by decide) rfl ?_
  intro p e s m args below meth c s₁ B hml hv
  obtain ⟨rfl, hsz, hP, hK⟩ := hv
  have hx := B.exec
  have hb := B.bytes
  have hr := B.returns
  have hts : ∀ w ∈ wsG, w.before _ s = true := hG_of (atoms_spec (ws := (Cond.code yX10_pageOf cX10_pageOf 4 (some .int) :: wsG)) B.pre)
  have hown : s.vm.findClass RX10 = some m.cls := findClass_of_methodNamed B.named
  have hlocks := B.notSynchronized
  subst hsz
  have hS : va_S (fA h0 6325 s.heap.size) s.heap s.heap [] := va_S.rf
  have hl := lv_entry ([.ref h0, .int (iZ (pp)), .int (iZ (w))]) (n := 4) (Nat.le_of_ble_eq_true rfl)
  rw [lg_entry_eq]
  generalize (lg_sl ([.ref h0, .int (iZ (pp)), .int (iZ (w))]) ++ List.replicate (4 - (lg_sl ([.ref h0, .int (iZ (pp)), .int (iZ (w))])).length) Slot.unset).toArray = ls at hl ⊢
  have hl : lv_has ls 4 [(0, .ref h0), (1, .int (iZ (pp))), (2, .int (iZ (w)))] := hl
  refine lv_aload_n hx hb dX10_pageOf_0 rfl (lv_at hl 0 rfl) ?_
  refine lv_iconst (v := iZ 0) hx hb dX10_pageOf_1 rfl ?_
  refine fz_put (D := (dC, dI)) (ci := 10) (ty := .int) (z := 0) (C := RX10) (T := TX10) (N := 53) hx hb hts inG10 tyX10 tyX10_ok nmX10 hown hK hP fA_in hS (k := 0) (by decide) (F := mF h0) mE_obj rfl 0 (by decide) (hts _ k1166) (fun _ h9 => h9) rfl (by decide +kernel) rfl rfl (fun _ => Nat.le_of_ble_eq_true rfl) (fun _ _ => rfl) dX10_pageOf_2 (fun H locs hP hS => ?_)
  obtain ⟨μ1, eμ1⟩ : ∃ x : va_M, x = uz μ 0 0 (0) := ⟨_, rfl⟩
  rw [← eμ1] at hP
  have hfr : fr PS μ μ1 := by rw [eμ1]; exact fr_uz fr_rfl (by unfold PS; omega)
  have ht0 : μ1 0 0 = 0 := by rw [eμ1, uz_s]
  have e10 := hfr 0 10 (PS_n (by omega))
  have e9 := hfr 0 9 (PS_n (by omega))
  have e71 := hfr 719 0 (PS_n (by omega))
  have hQ1 := RQ_fr hQ hfr
  have hQc := hQ
  obtain ⟨f10, ⟨fT, fTb, fTw⟩, fS3, fPg, fw9, fwB, fwT⟩ := hQc
  obtain ⟨g10, ⟨gT, gTb, gTw⟩, gS3, gPg, gw, gwB, gwT⟩ := hQ1
  have gtk := TR_tok gwT gwB.1 gwB.2.1
  have gt1 := gtk.1
  have gt2 := gtk.2.1
  refine lv_aload_n hx hb dX10_pageOf_5 rfl (lv_at hl 0 rfl) ?_
  refine lv_aload_n hx hb dX10_pageOf_6 rfl (lv_at hl 0 rfl) ?_
  refine lv_iload_n hx hb dX10_pageOf_7 rfl (lv_at hl 1 rfl) ?_
  refine va_calli (va_runV (As := [.int (iZ (pp))]) (rest := [.ref h0]) ⟨hx, hb, hml, hown, hts⟩ (m_isPage l dC dI cI cZ cII cIII h0 H.size μ1 (pp) (by first | assumption | omega | exact ⟨by omega, by omega⟩) (by first | assumption | omega | exact ⟨by omega, by omega⟩)) (cwV 1 hts (gV_G k1588 k1590 ks_yX10_isPage k13 k1591) rfl rfl rfl (by decide +kernel) ⟨Nat.le_of_ble_eq_true rfl, Nat.le_of_ble_eq_true rfl⟩) ⟨fun a U g mk q => by obtain ⟨q0, q1, qP, qK⟩ := q; exact ⟨q0, q1, qP, va_K.moved (u := U) (U := U.calling g mk a) (Vm.Alike.refl U.vm) qK⟩, va_recv hK hP (ci := 10) (q0 := 0) rfl ((fw_get (by decide)).trans (by rw [mE_obj]; rfl)), fun U hU hW => ⟨rfl, by rw [hU], by rw [hU]; exact hP, va_K.moved hW.alike hK⟩⟩ rfl rfl hl.1 rfl (lv_room (Nat.le_of_ble_eq_true rfl)) dX10_pageOf_8 ⟨Nat.le_of_ble_eq_true rfl, Nat.le_of_ble_eq_true rfl⟩) hS (fun q _ h => fA_le hS.1 q h) (fA_le hS.1) (fun r9 u9 t9 H1 locs ht9 hvm9 hw9 hB9 hz9 hk9 hS => ?_)
  obtain ⟨μ2, r3⟩ := u9
  obtain ⟨hP, -⟩ := hB9
  rw [ht9] at hP
  generalize H1 = H at hP hS ⊢
  obtain ⟨e9, hw9⟩ := hw9
  have e9 : r9 = iZ r3 := e9
  subst e9
  simp only at hP hw9
  have hμ2 := hw9; clear hw9
  rw [hμ2.1] at hP; have hμ2 := hμ2.2
  have hip := hμ2
  have hip2 := if_01 hμ2
  refine fz_if_ne (tgt := 18) (by constructor <;> omega) hx hb dX10_pageOf_11 (by decide) (fun c11_ => ?_) (fun c11_ => ?_)
  · have hpp := if_get hip (by omega)
    refine lv_iconst (v := iZ 0) hx hb dX10_pageOf_18 rfl ?_
    refine lv_iconst (v := iZ 1) hx hb dX10_pageOf_19 rfl ?_
    refine lv_iconst (v := iZ 0) hx hb dX10_pageOf_20 rfl ?_
    refine va_calli (va_runV (As := [.int (iZ (0)), .int (iZ (1)), .int (iZ (0))]) (rest := []) ⟨hx, hb, hml, hown, hts⟩ (m_bad2 l dC dI cI cZ cII cIII h0 H.size μ1 (0) (1) (0) (by first | assumption | omega | exact ⟨by omega, by omega⟩) (by first | assumption | omega | exact ⟨by omega, by omega⟩) (by first | assumption | omega | exact ⟨by omega, by omega⟩) (by first | assumption | omega | exact ⟨by omega, by omega⟩)) (cwV 3 hts (gV_G k1342 k1344 ks_yX10_bad k13 k1345) rfl rfl rfl (by decide +kernel) ⟨Nat.le_of_ble_eq_true rfl, Nat.le_of_ble_eq_true rfl⟩) ⟨fun a U g mk q => by obtain ⟨q0, q1, qP, qK⟩ := q; exact ⟨q0, q1, qP, va_K.moved (u := U) (U := U.calling g mk a) (Vm.Alike.refl U.vm) qK⟩, va_recv hK hP (ci := 10) (q0 := 0) rfl ((fw_get (by decide)).trans (by rw [mE_obj]; rfl)), fun U hU hW => ⟨rfl, by rw [hU], by rw [hU]; exact hP, va_K.moved hW.alike hK⟩⟩ rfl rfl hl.1 rfl (lv_room (Nat.le_of_ble_eq_true rfl)) dX10_pageOf_21 ⟨Nat.le_of_ble_eq_true rfl, Nat.le_of_ble_eq_true rfl⟩) hS (fun q _ h => fA_le hS.1 q h) (fA_le hS.1) (fun r9 u9 t9 H1 locs ht9 hvm9 hw9 hB9 hz9 hk9 hS => ?_)
    obtain ⟨μ4, r5⟩ := u9
    obtain ⟨hP, -⟩ := hB9
    rw [ht9] at hP
    generalize H1 = H at hP hS ⊢
    obtain ⟨e9, hw9⟩ := hw9
    have e9 : r9 = iZ r5 := e9
    subst e9
    simp only at hP hw9
    have hμ4 := hw9; clear hw9
    have hfr := fr_trans hfr (badP_fr hμ4)
    have hrb := badP_r hμ4
    obtain rfl : r5 = 0 := by omega
    refine fz_if_ne (tgt := 50) (by decide) hx hb dX10_pageOf_24 (by decide) (fun h9 => absurd h9 (by decide)) (fun c24_ => ?_)
    refine lv_aload_n hx hb dX10_pageOf_27 rfl (lv_at hl 0 rfl) ?_
    refine lv_iload_n hx hb dX10_pageOf_28 rfl (lv_at hl 2 rfl) ?_
    refine lv_iconst (v := iZ 0) hx hb dX10_pageOf_29 rfl ?_
    refine lv_iconst (v := iZ 4) hx hb dX10_pageOf_30 rfl ?_
    refine va_calli (va_runS (As := [.int (iZ (w)), .int (iZ (0)), .int (iZ (4))]) (rest := [.ref h0]) ⟨hx, hb, hml, hown, hts⟩ (m_in l dC dI cI cZ cII cIII h0 H.size μ4 (w) (0) (4) (by first | assumption | omega | exact ⟨by omega, by omega⟩) (by first | assumption | omega | exact ⟨by omega, by omega⟩) (by first | assumption | omega | exact ⟨by omega, by omega⟩)) (cwS 3 hts (gS_G k1339 k1340 k13 k1341) rfl rfl rfl (by decide +kernel) ⟨Nat.le_of_ble_eq_true rfl, Nat.le_of_ble_eq_true rfl⟩) ⟨fun a U g mk q => by obtain ⟨q0, q1, qP, qK⟩ := q; exact ⟨q0, q1, qP, va_K.moved (u := U) (U := U.calling g mk a) (Vm.Alike.refl U.vm) qK⟩, fun U hU hW => ⟨rfl, by rw [hU], by rw [hU]; exact hP, va_K.moved hW.alike hK⟩⟩ rfl rfl hl.1 rfl (lv_room (Nat.le_of_ble_eq_true rfl)) dX10_pageOf_31 ⟨Nat.le_of_ble_eq_true rfl, Nat.le_of_ble_eq_true rfl⟩) hS (fun q _ h => fA_le hS.1 q h) (fA_le hS.1) (fun r9 u9 t9 H1 locs ht9 hvm9 hw9 hB9 hz9 hk9 hS => ?_)
    obtain ⟨μ6, r7⟩ := u9
    obtain ⟨hP, -⟩ := hB9
    rw [ht9] at hP
    generalize H1 = H at hP hS ⊢
    obtain ⟨e9, hw9⟩ := hw9
    have e9 : r9 = iZ r7 := e9
    subst e9
    simp only at hP hw9
    have hμ6 := hw9; clear hw9
    rw [hμ6.1] at hP; have hμ6 := hμ6.2
    have hin := hμ6
    have hin2 := if_01 hμ6
    refine fz_if_ne (tgt := 41) (by constructor <;> omega) hx hb dX10_pageOf_34 (by decide) (fun c34_ => ?_) (fun c34_ => ?_)
    · have hww := if_get hin (by omega)
      refine lv_iconst (v := iZ 0) hx hb dX10_pageOf_41 rfl ?_
      refine lv_iconst (v := iZ 2) hx hb dX10_pageOf_42 rfl ?_
      refine lv_iconst (v := iZ 1) hx hb dX10_pageOf_43 rfl ?_
      refine va_calli (va_runV (As := [.int (iZ (0)), .int (iZ (2)), .int (iZ (1))]) (rest := []) ⟨hx, hb, hml, hown, hts⟩ (m_bad2 l dC dI cI cZ cII cIII h0 H.size μ4 (0) (2) (1) (by first | assumption | omega | exact ⟨by omega, by omega⟩) (by first | assumption | omega | exact ⟨by omega, by omega⟩) (by first | assumption | omega | exact ⟨by omega, by omega⟩) (by first | assumption | omega | exact ⟨by omega, by omega⟩)) (cwV 3 hts (gV_G k1342 k1344 ks_yX10_bad k13 k1345) rfl rfl rfl (by decide +kernel) ⟨Nat.le_of_ble_eq_true rfl, Nat.le_of_ble_eq_true rfl⟩) ⟨fun a U g mk q => by obtain ⟨q0, q1, qP, qK⟩ := q; exact ⟨q0, q1, qP, va_K.moved (u := U) (U := U.calling g mk a) (Vm.Alike.refl U.vm) qK⟩, va_recv hK hP (ci := 10) (q0 := 0) rfl ((fw_get (by decide)).trans (by rw [mE_obj]; rfl)), fun U hU hW => ⟨rfl, by rw [hU], by rw [hU]; exact hP, va_K.moved hW.alike hK⟩⟩ rfl rfl hl.1 rfl (lv_room (Nat.le_of_ble_eq_true rfl)) dX10_pageOf_44 ⟨Nat.le_of_ble_eq_true rfl, Nat.le_of_ble_eq_true rfl⟩) hS (fun q _ h => fA_le hS.1 q h) (fA_le hS.1) (fun r9 u9 t9 H1 locs ht9 hvm9 hw9 hB9 hz9 hk9 hS => ?_)
      obtain ⟨μ8, r10⟩ := u9
      obtain ⟨hP, -⟩ := hB9
      rw [ht9] at hP
      generalize H1 = H at hP hS ⊢
      obtain ⟨e9, hw9⟩ := hw9
      have e9 : r9 = iZ r10 := e9
      subst e9
      simp only at hP hw9
      have hμ8 := hw9; clear hw9
      have hfr := fr_trans hfr (badP_fr hμ8)
      have hrb := badP_r hμ8
      obtain rfl : r10 = 0 := by omega
      refine fz_if_eq (tgt := 52) (by decide) hx hb dX10_pageOf_47 (by decide) (fun c47_ => ?_) (fun h9 => absurd h9 (by decide))
      have hQ2 := RQ_fr hQ hfr
      obtain ⟨k10, ⟨kT, kTb, kTw⟩, kS3, kPg, kw, kwB, kwT⟩ := hQ2
      have e10k := hfr 0 10 (PS_n (by omega))
      have e9k := hfr 0 9 (PS_n (by omega))
      have e71k := hfr 719 0 (PS_n (by omega))
      have ktk := TR_tok kwT kwB.1 kwB.2.1
      have kt1 := ktk.1
      have kt2 := ktk.2.1
      obtain ⟨p3, pw1⟩ := hwp (by omega)
      have pT := TR_PS p3 hfr (by omega)
      have pwb := rPage_b pw1
      have pTR : TR μ8 (17 + pp).toNat wp := by rw [show (17 + pp).toNat = 17 + pp.toNat by omega]; exact pT
      have ptk := TR_tok pTR pw1.1 (by omega)
      have pt1 := ptk.1
      have pt2 := ptk.2.1
      have pt9 := pTR.1
      obtain ⟨o1, o2, o3, o4⟩ := of_all pTR pw1.1
      have e15 := hfr 15 pp.toNat (PS_n (by omega))
      have cd9 : cd2 (0 ≤ pp ∧ pp < μ 0 10) (0 ≤ w ∧ w ≤ 4) = 0 := cd2_0 (by omega) (by omega)
      refine lv_bipush (v := iZ 17) hx hb dX10_pageOf_52 rfl ?_
      refine lv_iload_n hx hb dX10_pageOf_54 rfl (lv_at hl 1 rfl) ?_
      refine lv_iadd hx hb dX10_pageOf_55 ?_
      refine lv_topi (fun x9 ex9 => ?_)
      obtain rfl : x9 = iZ (17 + pp) := ex9.trans (iZ_add _ _)
      refine lv_istore_n (lv' := [(3, .int (iZ (17 + pp))), (0, .ref h0), (1, .int (iZ (pp))), (2, .int (iZ (w)))]) hx hb dX10_pageOf_56 rfl hl (by decide) rfl (fun ls hl => ?_)
      refine lv_iload_n hx hb dX10_pageOf_57 rfl (lv_at hl 3 rfl) ?_
      refine fz_if_ne (tgt := 70) (by constructor <;> omega) hx hb dX10_pageOf_58 (by decide) (fun c58_ => ?_) (fun c58_ => ?_)
      · refine lv_iload_n hx hb dX10_pageOf_70 rfl (lv_at hl 3 rfl) ?_
        refine lv_iconst (v := iZ 1) hx hb dX10_pageOf_71 rfl ?_
        refine fz_icmp_ne (tgt := 84) (by constructor <;> omega) (by decide) hx hb dX10_pageOf_72 (by decide) (fun c72_ => ?_) (fun c72_ => ?_)
        · refine lv_iload_n hx hb dX10_pageOf_84 rfl (lv_at hl 3 rfl) ?_
          refine lv_iconst (v := iZ 2) hx hb dX10_pageOf_85 rfl ?_
          refine fz_icmp_ne (tgt := 97) (by constructor <;> omega) (by decide) hx hb dX10_pageOf_86 (by decide) (fun c86_ => ?_) (fun c86_ => ?_)
          · refine lv_iload_n hx hb dX10_pageOf_97 rfl (lv_at hl 3 rfl) ?_
            refine lv_iconst (v := iZ 3) hx hb dX10_pageOf_98 rfl ?_
            refine fz_icmp_ne (tgt := 111) (by constructor <;> omega) (by decide) hx hb dX10_pageOf_99 (by decide) (fun c99_ => ?_) (fun c99_ => ?_)
            · refine lv_aload_n hx hb dX10_pageOf_111 rfl (lv_at hl 1 rfl) ?_
              refine lv_iload_n hx hb dX10_pageOf_112 rfl (lv_at hl 0 rfl) ?_
              refine va_calli (va_runV (As := [.int (iZ (17 + pp))]) (rest := []) ⟨hx, hb, hml, hown, hts⟩ (m_deepest2 l dC dI cI cZ cII cIII h0 H.size μ8 (17 + pp) (by first | assumption | omega | exact ⟨by omega, by omega⟩) (by first | assumption | omega | exact ⟨by omega, by omega⟩)) (cwV 1 hts (gV_G k1592 k1594 ks_yX10_deepest k13 k1595) rfl rfl rfl (by decide +kernel) ⟨Nat.le_of_ble_eq_true rfl, Nat.le_of_ble_eq_true rfl⟩) ⟨fun a U g mk q => by obtain ⟨q0, q1, qP, qK⟩ := q; exact ⟨q0, q1, qP, va_K.moved (u := U) (U := U.calling g mk a) (Vm.Alike.refl U.vm) qK⟩, va_recv hK hP (ci := 10) (q0 := 0) rfl ((fw_get (by decide)).trans (by rw [mE_obj]; rfl)), fun U hU hW => ⟨rfl, by rw [hU], by rw [hU]; exact hP, va_K.moved hW.alike hK⟩⟩ rfl rfl hl.1 rfl (lv_room (Nat.le_of_ble_eq_true rfl)) dX10_pageOf_113 ⟨Nat.le_of_ble_eq_true rfl, Nat.le_of_ble_eq_true rfl⟩) hS (fun q _ h => fA_le hS.1 q h) (fA_le hS.1) (fun r9 u9 t9 H1 locs ht9 hvm9 hw9 hB9 hz9 hk9 hS => ?_)
              obtain ⟨μ11, r12⟩ := u9
              obtain ⟨hP, -⟩ := hB9
              rw [ht9] at hP
              generalize H1 = H at hP hS ⊢
              obtain ⟨e9, hw9⟩ := hw9
              have e9 : r9 = iZ r12 := e9
              subst e9
              simp only at hP hw9
              have hμ11 := hw9; clear hw9
              rw [hμ11.1] at hP; have hμ11 := hμ11.2
              exact W.iret (v := iZ (r12)) hx hb hr (fun t9 ht9 hW9 => ⟨⟨iZ (r12), (μ8, r12), rfl, ⟨rfl, (by
                                    dsimp only
                                    refine ⟨⟨hfr, by omega⟩, by omega, fun _ => ?_⟩
                                    rw [pgV, if_neg (by omega), if_neg (by omega), if_neg (by omega), if_neg (by omega)]
                                    exact (hμ11).trans o2)⟩, by rw [ht9]; exact hP, va_K.moved hW9.alike hK⟩, hS.F ht9⟩) hS.2.2 dX10_pageOf_116
            · refine lv_aload_n hx hb dX10_pageOf_102 rfl (lv_at hl 1 rfl) ?_
              refine lv_iload_n hx hb dX10_pageOf_103 rfl (lv_at hl 0 rfl) ?_
              refine lv_iconst (v := iZ 4) hx hb dX10_pageOf_104 rfl ?_
              refine va_calli (va_runV (As := [.int (iZ (17 + pp)), .int (iZ (4))]) (rest := []) ⟨hx, hb, hml, hown, hts⟩ (m_ofSort2 l dC dI cI cZ cII cIII h0 H.size μ8 (17 + pp) (4) (by first | assumption | omega | exact ⟨by omega, by omega⟩) (by first | assumption | omega | exact ⟨by omega, by omega⟩) (by constructor <;> decide)) (cwV 2 hts (gV_G k1580 k1582 ks_yX10_ofSort k13 k1583) rfl rfl rfl (by decide +kernel) ⟨Nat.le_of_ble_eq_true rfl, Nat.le_of_ble_eq_true rfl⟩) ⟨fun a U g mk q => by obtain ⟨q0, q1, qP, qK⟩ := q; exact ⟨q0, q1, qP, va_K.moved (u := U) (U := U.calling g mk a) (Vm.Alike.refl U.vm) qK⟩, va_recv hK hP (ci := 10) (q0 := 0) rfl ((fw_get (by decide)).trans (by rw [mE_obj]; rfl)), fun U hU hW => ⟨rfl, by rw [hU], by rw [hU]; exact hP, va_K.moved hW.alike hK⟩⟩ rfl rfl hl.1 rfl (lv_room (Nat.le_of_ble_eq_true rfl)) dX10_pageOf_105 ⟨Nat.le_of_ble_eq_true rfl, Nat.le_of_ble_eq_true rfl⟩) hS (fun q _ h => fA_le hS.1 q h) (fA_le hS.1) (fun r9 u9 t9 H1 locs ht9 hvm9 hw9 hB9 hz9 hk9 hS => ?_)
              obtain ⟨μ13, r14⟩ := u9
              obtain ⟨hP, -⟩ := hB9
              rw [ht9] at hP
              generalize H1 = H at hP hS ⊢
              obtain ⟨e9, hw9⟩ := hw9
              have e9 : r9 = iZ r14 := e9
              subst e9
              simp only at hP hw9
              have hμ13 := hw9; clear hw9
              rw [hμ13.1] at hP; have hμ13 := hμ13.2
              refine lv_goto (tgt := 116) hx hb dX10_pageOf_108 (by decide) ?_
              exact W.iret (v := iZ (r14)) hx hb hr (fun t9 ht9 hW9 => ⟨⟨iZ (r14), (μ8, r14), rfl, ⟨rfl, (by
                                    dsimp only
                                    refine ⟨⟨hfr, by omega⟩, by omega, fun _ => ?_⟩
                                    rw [pgV, if_neg (by omega), if_neg (by omega), if_neg (by omega), if_pos (by omega)]
                                    exact (hμ13).trans o1.symm)⟩, by rw [ht9]; exact hP, va_K.moved hW9.alike hK⟩, hS.F ht9⟩) hS.2.2 dX10_pageOf_116
          · refine lv_aload_n hx hb dX10_pageOf_89 rfl (lv_at hl 1 rfl) ?_
            refine lv_iload_n hx hb dX10_pageOf_90 rfl (lv_at hl 0 rfl) ?_
            refine va_calli (va_runV (As := [.int (iZ (17 + pp))]) (rest := []) ⟨hx, hb, hml, hown, hts⟩ (m_sizeOfAll2 l dC dI cI cZ cII cIII h0 H.size μ8 (17 + pp) (by first | assumption | omega | exact ⟨by omega, by omega⟩) (by first | assumption | omega | exact ⟨by omega, by omega⟩)) (cwV 1 hts (gV_G k1488 k1490 ks_yX10_sizeOfAll k13 k1491) rfl rfl rfl (by decide +kernel) ⟨Nat.le_of_ble_eq_true rfl, Nat.le_of_ble_eq_true rfl⟩) ⟨fun a U g mk q => by obtain ⟨q0, q1, qP, qK⟩ := q; exact ⟨q0, q1, qP, va_K.moved (u := U) (U := U.calling g mk a) (Vm.Alike.refl U.vm) qK⟩, va_recv hK hP (ci := 10) (q0 := 0) rfl ((fw_get (by decide)).trans (by rw [mE_obj]; rfl)), fun U hU hW => ⟨rfl, by rw [hU], by rw [hU]; exact hP, va_K.moved hW.alike hK⟩⟩ rfl rfl hl.1 rfl (lv_room (Nat.le_of_ble_eq_true rfl)) dX10_pageOf_91 ⟨Nat.le_of_ble_eq_true rfl, Nat.le_of_ble_eq_true rfl⟩) hS (fun q _ h => fA_le hS.1 q h) (fA_le hS.1) (fun r9 u9 t9 H1 locs ht9 hvm9 hw9 hB9 hz9 hk9 hS => ?_)
            obtain ⟨μ15, r16⟩ := u9
            obtain ⟨hP, -⟩ := hB9
            rw [ht9] at hP
            generalize H1 = H at hP hS ⊢
            obtain ⟨e9, hw9⟩ := hw9
            have e9 : r9 = iZ r16 := e9
            subst e9
            simp only at hP hw9
            have hμ15 := hw9; clear hw9
            rw [hμ15.1] at hP; have hμ15 := hμ15.2
            refine lv_goto (tgt := 116) hx hb dX10_pageOf_94 (by decide) ?_
            exact W.iret (v := iZ (r16)) hx hb hr (fun t9 ht9 hW9 => ⟨⟨iZ (r16), (μ8, r16), rfl, ⟨rfl, (by
                                dsimp only
                                refine ⟨⟨hfr, by omega⟩, by omega, fun _ => ?_⟩
                                rw [pgV, if_neg (by omega), if_neg (by omega), if_pos (by omega)]
                                exact (hμ15).trans o3)⟩, by rw [ht9]; exact hP, va_K.moved hW9.alike hK⟩, hS.F ht9⟩) hS.2.2 dX10_pageOf_116
        · refine lv_aload_n hx hb dX10_pageOf_75 rfl (lv_at hl 1 rfl) ?_
          refine fz_get (D := (dC, dI)) (ci := 10) (v := .ref (h0 + 719)) (C := RX10) (T := TX10) (N := 53) hx hb hts inG10 hown hK hP (k := 0) (by decide) (F := mF h0) mE_obj rfl 21 (by decide) (hts _ k1187) (fun _ h9 => h9) rfl dX10_pageOf_76 ?_
          refine lv_iload_n hx hb dX10_pageOf_79 rfl (lv_at hl 0 rfl) ?_
          refine fz_ld (k := 719) (n := 70) hx hb hK hP 0 (by decide) mE_nodes rfl ⟨by omega, by omega⟩ (by decide) dX10_pageOf_80 ?_
          refine lv_goto (tgt := 116) hx hb dX10_pageOf_81 (by decide) ?_
          exact W.iret (v := iZ (μ8 719 (17 + pp).toNat)) hx hb hr (fun t9 ht9 hW9 => ⟨⟨iZ (μ8 719 (17 + pp).toNat), (μ8, μ8 719 (17 + pp).toNat), rfl, ⟨rfl, (by
                            dsimp only
                            refine ⟨⟨hfr, by omega⟩, by omega, fun _ => ?_⟩
                            rw [pgV, if_neg (by omega), if_pos (by omega)]
                            exact o4)⟩, by rw [ht9]; exact hP, va_K.moved hW9.alike hK⟩, hS.F ht9⟩) hS.2.2 dX10_pageOf_116
      · refine lv_aload_n hx hb dX10_pageOf_61 rfl (lv_at hl 1 rfl) ?_
        refine fz_get (D := (dC, dI)) (ci := 10) (v := .ref (h0 + 15)) (C := RX10) (T := TX10) (N := 53) hx hb hts inG10 hown hK hP (k := 0) (by decide) (F := mF h0) mE_obj rfl 15 (by decide) (hts _ k1181) (fun _ h9 => h9) rfl dX10_pageOf_62 ?_
        refine lv_iload_n hx hb dX10_pageOf_65 rfl (lv_at hl 2 rfl) ?_
        refine fz_ld (k := 15) (n := 8) hx hb hK hP 0 (by decide) mE_pageLong rfl ⟨by omega, by omega⟩ (by decide) dX10_pageOf_66 ?_
        refine lv_goto (tgt := 116) hx hb dX10_pageOf_67 (by decide) ?_
        exact W.iret (v := iZ (μ8 15 (pp).toNat)) hx hb hr (fun t9 ht9 hW9 => ⟨⟨iZ (μ8 15 (pp).toNat), (μ8, μ8 15 (pp).toNat), rfl, ⟨rfl, (by
                        dsimp only
                        refine ⟨⟨hfr, by omega⟩, by omega, fun _ => ?_⟩
                        rw [pgV, if_pos (by omega)]
                        exact e15)⟩, by rw [ht9]; exact hP, va_K.moved hW9.alike hK⟩, hS.F ht9⟩) hS.2.2 dX10_pageOf_116
    · have hwn := if_not hin (by omega)
      refine lv_iconst (v := iZ 1) hx hb dX10_pageOf_37 rfl ?_
      refine lv_goto (tgt := 42) hx hb dX10_pageOf_38 (by decide) ?_
      refine lv_iconst (v := iZ 2) hx hb dX10_pageOf_42 rfl ?_
      refine lv_iconst (v := iZ 1) hx hb dX10_pageOf_43 rfl ?_
      refine va_calli (va_runV (As := [.int (iZ (1)), .int (iZ (2)), .int (iZ (1))]) (rest := []) ⟨hx, hb, hml, hown, hts⟩ (m_bad2 l dC dI cI cZ cII cIII h0 H.size μ4 (1) (2) (1) (by first | assumption | omega | exact ⟨by omega, by omega⟩) (by first | assumption | omega | exact ⟨by omega, by omega⟩) (by first | assumption | omega | exact ⟨by omega, by omega⟩) (by first | assumption | omega | exact ⟨by omega, by omega⟩)) (cwV 3 hts (gV_G k1342 k1344 ks_yX10_bad k13 k1345) rfl rfl rfl (by decide +kernel) ⟨Nat.le_of_ble_eq_true rfl, Nat.le_of_ble_eq_true rfl⟩) ⟨fun a U g mk q => by obtain ⟨q0, q1, qP, qK⟩ := q; exact ⟨q0, q1, qP, va_K.moved (u := U) (U := U.calling g mk a) (Vm.Alike.refl U.vm) qK⟩, va_recv hK hP (ci := 10) (q0 := 0) rfl ((fw_get (by decide)).trans (by rw [mE_obj]; rfl)), fun U hU hW => ⟨rfl, by rw [hU], by rw [hU]; exact hP, va_K.moved hW.alike hK⟩⟩ rfl rfl hl.1 rfl (lv_room (Nat.le_of_ble_eq_true rfl)) dX10_pageOf_44 ⟨Nat.le_of_ble_eq_true rfl, Nat.le_of_ble_eq_true rfl⟩) hS (fun q _ h => fA_le hS.1 q h) (fA_le hS.1) (fun r9 u9 t9 H1 locs ht9 hvm9 hw9 hB9 hz9 hk9 hS => ?_)
      obtain ⟨μ17, r18⟩ := u9
      obtain ⟨hP, -⟩ := hB9
      rw [ht9] at hP
      generalize H1 = H at hP hS ⊢
      obtain ⟨e9, hw9⟩ := hw9
      have e9 : r9 = iZ r18 := e9
      subst e9
      simp only at hP hw9
      have hμ17 := hw9; clear hw9
      have hfr := fr_trans hfr (badP_fr hμ17)
      have hrb := badP_r hμ17
      obtain rfl : r18 = 1 := by omega
      refine fz_if_eq (tgt := 52) (by decide) hx hb dX10_pageOf_47 (by decide) (fun h9 => absurd h9 (by decide)) (fun c47_ => ?_)
      refine lv_iconst (v := iZ 0) hx hb dX10_pageOf_50 rfl ?_
      exact W.iret (v := iZ (0)) hx hb hr (fun t9 ht9 hW9 => ⟨⟨iZ (0), (μ17, 0), rfl, ⟨rfl, (by
                    dsimp only
                    have cd9 : cd2 (0 ≤ pp ∧ pp < μ 0 10) (0 ≤ w ∧ w ≤ 4) = 2 := cd2_2 (by omega) (by omega)
                    exact ⟨⟨hfr, by omega⟩, by omega, fun hc => absurd (cd9.symm.trans hc) (by decide)⟩)⟩, by rw [ht9]; exact hP, va_K.moved hW9.alike hK⟩, hS.F ht9⟩) hS.2.2 dX10_pageOf_51
  · have hpn := if_not hip (by omega)
    refine lv_iconst (v := iZ 1) hx hb dX10_pageOf_14 rfl ?_
    refine lv_goto (tgt := 19) hx hb dX10_pageOf_15 (by decide) ?_
    refine lv_iconst (v := iZ 1) hx hb dX10_pageOf_19 rfl ?_
    refine lv_iconst (v := iZ 0) hx hb dX10_pageOf_20 rfl ?_
    refine va_calli (va_runV (As := [.int (iZ (1)), .int (iZ (1)), .int (iZ (0))]) (rest := []) ⟨hx, hb, hml, hown, hts⟩ (m_bad2 l dC dI cI cZ cII cIII h0 H.size μ1 (1) (1) (0) (by first | assumption | omega | exact ⟨by omega, by omega⟩) (by first | assumption | omega | exact ⟨by omega, by omega⟩) (by first | assumption | omega | exact ⟨by omega, by omega⟩) (by first | assumption | omega | exact ⟨by omega, by omega⟩)) (cwV 3 hts (gV_G k1342 k1344 ks_yX10_bad k13 k1345) rfl rfl rfl (by decide +kernel) ⟨Nat.le_of_ble_eq_true rfl, Nat.le_of_ble_eq_true rfl⟩) ⟨fun a U g mk q => by obtain ⟨q0, q1, qP, qK⟩ := q; exact ⟨q0, q1, qP, va_K.moved (u := U) (U := U.calling g mk a) (Vm.Alike.refl U.vm) qK⟩, va_recv hK hP (ci := 10) (q0 := 0) rfl ((fw_get (by decide)).trans (by rw [mE_obj]; rfl)), fun U hU hW => ⟨rfl, by rw [hU], by rw [hU]; exact hP, va_K.moved hW.alike hK⟩⟩ rfl rfl hl.1 rfl (lv_room (Nat.le_of_ble_eq_true rfl)) dX10_pageOf_21 ⟨Nat.le_of_ble_eq_true rfl, Nat.le_of_ble_eq_true rfl⟩) hS (fun q _ h => fA_le hS.1 q h) (fA_le hS.1) (fun r9 u9 t9 H1 locs ht9 hvm9 hw9 hB9 hz9 hk9 hS => ?_)
    obtain ⟨μ19, r20⟩ := u9
    obtain ⟨hP, -⟩ := hB9
    rw [ht9] at hP
    generalize H1 = H at hP hS ⊢
    obtain ⟨e9, hw9⟩ := hw9
    have e9 : r9 = iZ r20 := e9
    subst e9
    simp only at hP hw9
    have hμ19 := hw9; clear hw9
    have hfr := fr_trans hfr (badP_fr hμ19)
    have hrb := badP_r hμ19
    obtain rfl : r20 = 1 := by omega
    refine fz_if_ne (tgt := 50) (by decide) hx hb dX10_pageOf_24 (by decide) (fun c24_ => ?_) (fun h9 => absurd h9 (by decide))
    refine lv_iconst (v := iZ 0) hx hb dX10_pageOf_50 rfl ?_
    exact W.iret (v := iZ (0)) hx hb hr (fun t9 ht9 hW9 => ⟨⟨iZ (0), (μ19, 0), rfl, ⟨rfl, (by
                dsimp only
                have cd9 : cd2 (0 ≤ pp ∧ pp < μ 0 10) (0 ≤ w ∧ w ≤ 4) = 1 := cd2_1 (by omega)
                exact ⟨⟨hfr, by omega⟩, by omega, fun hc => absurd (cd9.symm.trans hc) (by decide)⟩)⟩, by rw [ht9]; exact hP, va_K.moved hW9.alike hK⟩, hS.F ht9⟩) hS.2.2 dX10_pageOf_51

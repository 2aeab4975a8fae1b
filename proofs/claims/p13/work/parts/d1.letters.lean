
/-! the letters of a token's name, told -/
/-- the i-th letter of a token's name, from 0 on; -1 behind its end -/
def ltA (te : Tk) (i : Nat) : Int := if i < te.2.2 then d27 te.2.1 (te.2.2 - 1 - i) % 27 - 1 else -1
/-- what is told of a token; c: how many pages have it -/
def tkA (te : Tk) (wh c : Int) : Int := if wh = 0 then te.1 else if wh = 1 then (te.2.2 : Int) else if wh = 8 then c else ltA te (wh - 2).toNat
set_option maxHeartbeats 4000000 in
set_option maxRecDepth 100000 in
theorem LX5_lettersOf_11b {p : Program} {l : Launch} {e : Env} {R : Room} {s : State} {m : MethodId} {args : Array Value} {below : List Frame} {meth : Method} {c : Code} {cells slots : Nat} {Q : State → Prop} {dC : Nat → ClassId} {dI : Nat → Nat → Nat} {h0 : Nat} {cI cZ cII cIII : ClassId} (hx : p.tables.exec = Jvm.exec) (hb : c.code = cX5_lettersOf) (hml : c.maxLocals = 4) (hown : s.vm.findClass RX5 = some m.cls) (hts : ∀ w ∈ wsG, w.before args s = true) (hK : va_K (dC, dI) vwCl (sT cI cZ cII cIII) s) (hM : xM s) (hRf : 1 ≤ R.frames) (hRl : 14 ≤ R.locals) (hRc : cells ≤ R.cells) (hRs : slots ≤ R.slots) (μ0 : va_M) (te : Tk) (hte : tkV9 te) (hv9 : 0 ≤ te.2.1 ∧ te.2.1 < 387420489) (hexit32 : ∀ (le : Int) (nm : Int) (μ : va_M) (H : Heap) (locs : List Loc) (ls : Array Slot), (μ = μ0) → (le = te.2.2) → va_P (dC, dI) vwCl (fw (sE cI cZ cII cIII h0) h0 233 μ) H → va_S (fA h0 233 s.heap.size) s.heap H locs → lv_has ls 4 [(2, .int (iZ (le)))] → W p l e R s m args below meth c H locs cells slots Q (F0 m 32 ls [])) :
    ∀ (n9 : Nat) (le : Int) (nm : Int) (μ : va_M) (H : Heap) (locs : List Loc) (ls : Array Slot), (μ = μ0) → (0 ≤ le ∧ le ≤ 6 ∧ le ≤ te.2.2 ∧ 0 ≤ nm ∧ nm ≤ 2000000000) → (nm = d27 te.2.1 le.toNat) → (7 - le).toNat < n9 → va_P (dC, dI) vwCl (fw (sE cI cZ cII cIII h0) h0 233 μ) H → va_S (fA h0 233 s.heap.size) s.heap H locs → lv_has ls 4 [(2, .int (iZ (le))), (3, .int (iZ (nm)))] → W p l e R s m args below meth c H locs cells slots Q (F0 m 11 ls []) := by
  intro n9
  induction n9 with
  | zero => intro le nm μ H locs ls hm9_ hi hd9 hm9 hP hS hl; exact absurd hm9 (Nat.not_lt_zero _)
  | succ n9 ih =>
    intro le nm μ H locs ls hm9_ hi hd9 hm9 hP hS hl
    subst hm9_
    have hdk := d27_tk hte le.toNat
    obtain ⟨hd1, hd2⟩ := d27_0 hv9.1 (le.toNat + 1)
    have hd3 : d27 te.2.1 (le.toNat + 1) = d27 te.2.1 le.toNat / 27 := rfl
    have h60 := hte.2.1
    refine lv_iload_n hx hb dX5_lettersOf_11 rfl (lv_at hl 0 rfl) ?_
    refine lv_bipush (v := iZ 6) hx hb dX5_lettersOf_12 rfl ?_
    refine fz_icmp_ge (tgt := 32) (by constructor <;> omega) (by decide) hx hb dX5_lettersOf_14 (by decide) (fun c14_ => ?_) (fun c14_ => ?_)
    · exact hexit32 (le) (nm) μ H locs ls (by rfl) (by
                    obtain ⟨k1, k2⟩ := hdk
                    exact Int.le_antisymm (by omega) (Int.not_lt.mp (fun hq => by have := k1 (by omega); omega))) hP hS (lv_sub hl [0] rfl)
    · refine lv_iload_n hx hb dX5_lettersOf_17 rfl (lv_at hl 1 rfl) ?_
      refine fz_if_le (tgt := 32) (by constructor <;> omega) hx hb dX5_lettersOf_18 (by decide) (fun c18_ => ?_) (fun c18_ => ?_)
      · exact hexit32 (le) (nm) μ H locs ls (by rfl) (by
                        obtain ⟨k1, k2⟩ := hdk
                        exact Int.le_antisymm (by omega) (Int.not_lt.mp (fun hq => by have := k1 (by omega); omega))) hP hS (lv_sub hl [0] rfl)
      · refine lv_iload_n hx hb dX5_lettersOf_21 rfl (lv_at hl 1 rfl) ?_
        refine lv_bipush (v := iZ 27) hx hb dX5_lettersOf_22 rfl ?_
        refine lv_idiv hx hb dX5_lettersOf_24 (by decide +kernel) ?_
        refine lv_topi (fun x9 ex9 => ?_)
        obtain rfl : x9 = iZ (nm / 27) := ex9.trans (iZ_divP (by constructor <;> omega) (by decide) (by omega) (by omega))
        refine lv_istore_n (lv' := [(3, .int (iZ (nm / 27))), (2, .int (iZ (le)))]) hx hb dX5_lettersOf_25 rfl hl (by decide) rfl (fun ls hl => ?_)
        refine lv_iinc (v := iZ (le + 1)) (lv' := [(2, .int (iZ (le + 1))), (3, .int (iZ (nm / 27)))]) hx hb dX5_lettersOf_26 hl (k := 1) rfl (iZ_add _ _) (by decide) rfl (fun ls hl => ?_)
        refine lv_goto (tgt := 11) hx hb dX5_lettersOf_29 (by decide) ?_
        exact ih (le + 1) (nm / 27) μ H locs ls (by rfl) (by
                        obtain ⟨k1, k2⟩ := hdk
                        refine ⟨by omega, by omega, ?_, by omega, by omega⟩
                        exact Int.not_lt.mp (fun hq => by have := k2 (by omega); omega)) (by rw [show (le + 1).toNat = le.toNat + 1 by omega, hd3]; omega) (by omega) hP hS (lv_sub hl [0, 1] rfl)
set_option maxHeartbeats 4000000 in
set_option maxRecDepth 100000 in
theorem s_lettersOf2 (l : Launch) (dC : Nat → ClassId) (dI : Nat → Nat → Nat) (cI cZ cII cIII : ClassId) (h0 sz : Nat) (μ : va_M) (tk : Int) (te : Tk) (h_t : 0 ≤ tk ∧ tk < 200) (hte : tkV9 te) (hs9 : 0 ≤ te.1 ∧ te.1 ≤ 2) (hv9 : 0 ≤ te.2.1 ∧ te.2.1 < 387420489) (hk3 : μ 3 tk.toNat = te.2.1 * 3 + te.1) : Met l yX5_lettersOf (Cond.code yX5_lettersOf cX5_lettersOf 4 (some .int) :: wsG) ({ frames := 1, cells := 0, slots := 0, locals := 14 } : Room) (va_Pc [.ref (h0 + 1), .int (iZ (tk))] (fun U => U.heap.size = sz ∧ va_P (dC, dI) vwCl (fw (sE cI cZ cII cIII h0) h0 233 μ) U.heap ∧ va_K (dC, dI) vwCl (sT cI cZ cII cIII) U ∧ xM U)) (va_Qi (fun (r9 : Int32) (u : va_M × Int) => r9 = iZ u.2 ∧ (fun (u : va_M) (r : Int) => u = μ ∧ r = te.2.2) u.1 u.2) (fun u t => va_P (dC, dI) vwCl (fw (sE cI cZ cII cIII h0) h0 233 u.1) t.heap ∧ va_K (dC, dI) vwCl (sT cI cZ cII cIII) t) (fA h0 233 sz)) 0 0 (fA h0 233 sz) := by
  refine Met.ofW (cc := cX5_lettersOf) (maxL := 4) (ret := (some .int)) (by decide) rfl ?_
  intro p e s m args below meth c s₁ B hml hv
  obtain ⟨rfl, hsz, hP, hK, hM⟩ := hv
  have hx := B.exec
  have hb := B.bytes
  have hr := B.returns
  have hts : ∀ w ∈ wsG, w.before _ s = true := hG_of (atoms_spec (ws := (Cond.code yX5_lettersOf cX5_lettersOf 4 (some .int) :: wsG)) B.pre)
  have hown : s.vm.findClass RX5 = some m.cls := findClass_of_methodNamed B.named
  have hlocks := B.notSynchronized
  subst hsz
  have hS : va_S (fA h0 233 s.heap.size) s.heap s.heap [] := va_S.rf
  have hl := lv_entry ([.ref (h0 + 1), .int (iZ (tk))]) (n := 4) (Nat.le_of_ble_eq_true rfl)
  rw [lg_entry_eq]
  generalize (lg_sl ([.ref (h0 + 1), .int (iZ (tk))]) ++ List.replicate (4 - (lg_sl ([.ref (h0 + 1), .int (iZ (tk))])).length) Slot.unset).toArray = ls at hl ⊢
  have hl : lv_has ls 4 [(0, .ref (h0 + 1)), (1, .int (iZ (tk)))] := hl
  refine lv_iconst (v := iZ 0) hx hb dX5_lettersOf_0 rfl ?_
  refine lv_istore_n (lv' := [(2, .int (iZ (0))), (0, .ref (h0 + 1)), (1, .int (iZ (tk)))]) hx hb dX5_lettersOf_1 rfl hl (by decide) rfl (fun ls hl => ?_)
  refine lv_aload_n hx hb dX5_lettersOf_2 rfl (lv_at hl 1 rfl) ?_
  refine fz_get (D := (dC, dI)) (ci := 5) (v := .ref (h0 + 3)) (C := RX5) (T := TX5) (N := 8) hx hb hts inG5 hown hK hP (k := 1) (by decide) (F := (sF1 h0)) sE_1 rfl 2 (by decide) (hts _ k38) (fun _ h9 => h9) rfl dX5_lettersOf_3 ?_
  refine lv_iload_n hx hb dX5_lettersOf_6 rfl (lv_at hl 2 rfl) ?_
  refine fz_ld (k := 3) (n := 200) hx hb hK hP 0 (by decide) sE_3 rfl ⟨by omega, by omega⟩ (by decide) dX5_lettersOf_7 ?_
  refine lv_iconst (v := iZ 3) hx hb dX5_lettersOf_8 rfl ?_
  refine lv_idiv hx hb dX5_lettersOf_9 (by decide +kernel) ?_
  refine lv_topi (fun x9 ex9 => ?_)
  obtain rfl : x9 = iZ ((μ 3 (tk).toNat) / 3) := ex9.trans (iZ_divP (by constructor <;> omega) (by decide) (by omega) (by omega))
  refine lv_istore_n (lv' := [(3, .int (iZ ((μ 3 (tk).toNat) / 3))), (2, .int (iZ (0))), (0, .ref (h0 + 1)), (1, .int (iZ (tk)))]) hx hb dX5_lettersOf_10 rfl hl (by decide) rfl (fun ls hl => ?_)
  refine LX5_lettersOf_11b hx hb hml hown hts hK hM (Nat.le_of_ble_eq_true rfl) (Nat.le_of_ble_eq_true rfl) (Nat.le_of_ble_eq_true rfl) (Nat.le_of_ble_eq_true rfl) (μ) (te) (by exact hte) (by exact hv9) ?_ _ (0) ((μ 3 (tk).toNat) / 3) μ s.heap [] ls (by rfl) (by have := hte.1; omega) (by show _ = te.2.1; omega) (Nat.lt_succ_self _) hP hS (lv_sub hl [1, 0] rfl)
  · intro le_1 nm_1 μ1_ H locs ls q1_1 q2_1 hP hS hl
    have hl : lv_has ls 4 [(2, .int (iZ (le_1)))] := hl
    have hPn32 := hP
    have hln32 := hl
    obtain rfl := q1_1
    have hP := hPn32
    have hl := hln32
    refine lv_iload_n hx hb dX5_lettersOf_32 rfl (lv_at hl 0 rfl) ?_
    exact W.iret (v := iZ (le_1)) hx hb hr (fun t9 ht9 hW9 => ⟨⟨iZ (le_1), (μ1_, le_1), rfl, ⟨rfl, (by
                dsimp only
                exact ⟨rfl, q2_1⟩)⟩, by rw [ht9]; exact hP, va_K.moved hW9.alike hK⟩, hS.F ht9⟩) hS.2.2 dX5_lettersOf_33
set_option maxHeartbeats 4000000 in
set_option maxRecDepth 100000 in
theorem LX5_letterOf_23b {p : Program} {l : Launch} {e : Env} {R : Room} {s : State} {m : MethodId} {args : Array Value} {below : List Frame} {meth : Method} {c : Code} {cells slots : Nat} {Q : State → Prop} {dC : Nat → ClassId} {dI : Nat → Nat → Nat} {h0 : Nat} {cI cZ cII cIII : ClassId} (hx : p.tables.exec = Jvm.exec) (hb : c.code = cX5_letterOf) (hml : c.maxLocals = 6) (hown : s.vm.findClass RX5 = some m.cls) (hts : ∀ w ∈ wsG, w.before args s = true) (hK : va_K (dC, dI) vwCl (sT cI cZ cII cIII) s) (hM : xM s) (hRf : 2 ≤ R.frames) (hRl : 37 ≤ R.locals) (hRc : cells ≤ R.cells) (hRs : slots ≤ R.slots) (μ0 : va_M) (bh : Int) (vv : Int) (hbh : -6 ≤ bh ∧ bh ≤ 5) (hv9 : 0 ≤ vv ∧ vv < 387420489) (hexit41 : ∀ (i : Int) (nm : Int) (μ : va_M) (H : Heap) (locs : List Loc) (ls : Array Slot), (μ = μ0) → ((0 ≤ nm ∧ nm ≤ 2000000000) ∧ nm = d27 vv bh.toNat) → va_P (dC, dI) vwCl (fw (sE cI cZ cII cIII h0) h0 233 μ) H → va_S (fA h0 233 s.heap.size) s.heap H locs → lv_has ls 6 [(3, .int (iZ (nm))), (4, .int (iZ (bh)))] → W p l e R s m args below meth c H locs cells slots Q (F0 m 41 ls [])) :
    ∀ (n9 : Nat) (i : Int) (nm : Int) (μ : va_M) (H : Heap) (locs : List Loc) (ls : Array Slot), (μ = μ0) → (0 ≤ i ∧ i ≤ 6 ∧ 0 ≤ nm ∧ nm ≤ 2000000000 ∧ (i = 0 ∨ i ≤ bh)) → (nm = d27 vv i.toNat) → (7 - i).toNat < n9 → va_P (dC, dI) vwCl (fw (sE cI cZ cII cIII h0) h0 233 μ) H → va_S (fA h0 233 s.heap.size) s.heap H locs → lv_has ls 6 [(5, .int (iZ (i))), (3, .int (iZ (nm))), (4, .int (iZ (bh)))] → W p l e R s m args below meth c H locs cells slots Q (F0 m 23 ls []) := by
  intro n9
  induction n9 with
  | zero => intro i nm μ H locs ls hm9_ hi hd9 hm9 hP hS hl; exact absurd hm9 (Nat.not_lt_zero _)
  | succ n9 ih =>
    intro i nm μ H locs ls hm9_ hi hd9 hm9 hP hS hl
    subst hm9_
    obtain ⟨hd1, hd2⟩ := d27_0 hv9.1 (i.toNat + 1)
    have hd3 : d27 vv (i.toNat + 1) = d27 vv i.toNat / 27 := rfl
    refine lv_iload hx hb dX5_letterOf_23 (lv_at hl 0 rfl) ?_
    refine lv_iload hx hb dX5_letterOf_25 (lv_at hl 2 rfl) ?_
    refine fz_icmp_ge (tgt := 41) (by constructor <;> omega) (by constructor <;> omega) hx hb dX5_letterOf_27 (by decide) (fun c27_ => ?_) (fun c27_ => ?_)
    · exact hexit41 (i) (nm) μ H locs ls (by rfl) (by
                    refine ⟨by omega, ?_⟩
                    rw [hd9, show i.toNat = bh.toNat by omega]) hP hS (lv_sub hl [1, 2] rfl)
    · refine lv_iload_n hx hb dX5_letterOf_30 rfl (lv_at hl 1 rfl) ?_
      refine lv_bipush (v := iZ 27) hx hb dX5_letterOf_31 rfl ?_
      refine lv_idiv hx hb dX5_letterOf_33 (by decide +kernel) ?_
      refine lv_topi (fun x9 ex9 => ?_)
      obtain rfl : x9 = iZ (nm / 27) := ex9.trans (iZ_divP (by constructor <;> omega) (by decide) (by omega) (by omega))
      refine lv_istore_n (lv' := [(3, .int (iZ (nm / 27))), (5, .int (iZ (i))), (4, .int (iZ (bh)))]) hx hb dX5_letterOf_34 rfl hl (by decide) rfl (fun ls hl => ?_)
      refine lv_iinc (v := iZ (i + 1)) (lv' := [(5, .int (iZ (i + 1))), (3, .int (iZ (nm / 27))), (4, .int (iZ (bh)))]) hx hb dX5_letterOf_35 hl (k := 1) rfl (iZ_add _ _) (by decide) rfl (fun ls hl => ?_)
      refine lv_goto (tgt := 23) hx hb dX5_letterOf_38 (by decide) ?_
      exact ih (i + 1) (nm / 27) μ H locs ls (by rfl) (by omega) (by rw [show (i + 1).toNat = i.toNat + 1 by omega, hd3, ← hd9]) (by omega) hP hS (lv_sub hl [0, 1, 2] rfl)
set_option maxHeartbeats 4000000 in
set_option maxRecDepth 100000 in
theorem s_letterOf2 (l : Launch) (dC : Nat → ClassId) (dI : Nat → Nat → Nat) (cI cZ cII cIII : ClassId) (h0 sz : Nat) (μ : va_M) (tk : Int) (kk : Int) (te : Tk) (h_t : 0 ≤ tk ∧ tk < 200) (hte : tkV9 te) (hs9 : 0 ≤ te.1 ∧ te.1 ≤ 2) (hv9 : 0 ≤ te.2.1 ∧ te.2.1 < 387420489) (hk3 : μ 3 tk.toNat = te.2.1 * 3 + te.1) (hkk : 0 ≤ kk ∧ kk ≤ 5) : Met l yX5_letterOf (Cond.code yX5_letterOf cX5_letterOf 6 (some .int) :: wsG) ({ frames := 2, cells := 0, slots := 0, locals := 37 } : Room) (va_Pc [.ref (h0 + 1), .int (iZ (tk)), .int (iZ (kk))] (fun U => U.heap.size = sz ∧ va_P (dC, dI) vwCl (fw (sE cI cZ cII cIII h0) h0 233 μ) U.heap ∧ va_K (dC, dI) vwCl (sT cI cZ cII cIII) U ∧ xM U)) (va_Qi (fun (r9 : Int32) (u : va_M × Int) => r9 = iZ u.2 ∧ (fun (u : va_M) (r : Int) => u = μ ∧ r = ltA te kk.toNat) u.1 u.2) (fun u t => va_P (dC, dI) vwCl (fw (sE cI cZ cII cIII h0) h0 233 u.1) t.heap ∧ va_K (dC, dI) vwCl (sT cI cZ cII cIII) t) (fA h0 233 sz)) 0 0 (fA h0 233 sz) := by
  refine Met.ofW (cc := cX5_letterOf) (maxL := 6) (ret := (some .int)) (by decide) rfl ?_
  intro p e s m args below meth c s₁ B hml hv
  obtain ⟨rfl, hsz, hP, hK, hM⟩ := hv
  have hx := B.exec
  have hb := B.bytes
  have hr := B.returns
  have hts : ∀ w ∈ wsG, w.before _ s = true := hG_of (atoms_spec (ws := (Cond.code yX5_letterOf cX5_letterOf 6 (some .int) :: wsG)) B.pre)
  have hown : s.vm.findClass RX5 = some m.cls := findClass_of_methodNamed B.named
  have hlocks := B.notSynchronized
  subst hsz
  have hS : va_S (fA h0 233 s.heap.size) s.heap s.heap [] := va_S.rf
  have hl := lv_entry ([.ref (h0 + 1), .int (iZ (tk)), .int (iZ (kk))]) (n := 6) (Nat.le_of_ble_eq_true rfl)
  rw [lg_entry_eq]
  generalize (lg_sl ([.ref (h0 + 1), .int (iZ (tk)), .int (iZ (kk))]) ++ List.replicate (6 - (lg_sl ([.ref (h0 + 1), .int (iZ (tk)), .int (iZ (kk))])).length) Slot.unset).toArray = ls at hl ⊢
  have hl : lv_has ls 6 [(0, .ref (h0 + 1)), (1, .int (iZ (tk))), (2, .int (iZ (kk)))] := hl
  refine lv_aload_n hx hb dX5_letterOf_0 rfl (lv_at hl 0 rfl) ?_
  refine fz_get (D := (dC, dI)) (ci := 5) (v := .ref (h0 + 3)) (C := RX5) (T := TX5) (N := 8) hx hb hts inG5 hown hK hP (k := 1) (by decide) (F := (sF1 h0)) sE_1 rfl 2 (by decide) (hts _ k38) (fun _ h9 => h9) rfl dX5_letterOf_1 ?_
  refine lv_iload_n hx hb dX5_letterOf_4 rfl (lv_at hl 1 rfl) ?_
  refine fz_ld (k := 3) (n := 200) hx hb hK hP 0 (by decide) sE_3 rfl ⟨by omega, by omega⟩ (by decide) dX5_letterOf_5 ?_
  refine lv_iconst (v := iZ 3) hx hb dX5_letterOf_6 rfl ?_
  refine lv_idiv hx hb dX5_letterOf_7 (by decide +kernel) ?_
  refine lv_topi (fun x9 ex9 => ?_)
  obtain rfl : x9 = iZ ((μ 3 (tk).toNat) / 3) := ex9.trans (iZ_divP (by constructor <;> omega) (by decide) (by omega) (by omega))
  refine lv_istore_n (lv' := [(3, .int (iZ ((μ 3 (tk).toNat) / 3))), (0, .ref (h0 + 1)), (1, .int (iZ (tk))), (2, .int (iZ (kk)))]) hx hb dX5_letterOf_8 rfl hl (by decide) rfl (fun ls hl => ?_)
  refine lv_aload_n hx hb dX5_letterOf_9 rfl (lv_at hl 1 rfl) ?_
  refine lv_iload_n hx hb dX5_letterOf_10 rfl (lv_at hl 2 rfl) ?_
  refine va_calli (va_runV (As := [.int (iZ (tk))]) (rest := []) ⟨hx, hb, hml, hown, hts⟩ (s_lettersOf2 l dC dI cI cZ cII cIII h0 s.heap.size μ (tk) (te) (by first | assumption | omega | exact ⟨by omega, by omega⟩) (by first | assumption | omega | exact ⟨by omega, by omega⟩) (by first | assumption | omega | exact ⟨by omega, by omega⟩) (by first | assumption | omega | exact ⟨by omega, by omega⟩) (by first | assumption | omega | exact ⟨by omega, by omega⟩)) (cwV 1 hts (gV_G k906 k891 k892 k2 k893) rfl rfl rfl (by decide +kernel) ⟨Nat.le_of_ble_eq_true rfl, Nat.le_of_ble_eq_true rfl⟩) ⟨fun a U g mk q => by obtain ⟨q0, q1, qP, qK, qM⟩ := q; exact ⟨q0, q1, qP, va_K.moved (u := U) (U := U.calling g mk a) (Vm.Alike.refl U.vm) qK, qM⟩, va_recv hK hP (ci := 5) (q0 := 1) rfl ((fw_get (by decide)).trans (by rw [sE_1])), fun U hU hW => ⟨rfl, by rw [hU], by rw [hU]; exact hP, va_K.moved hW.alike hK, xM_warm hW hM⟩⟩ rfl rfl hl.1 rfl (lv_room (Nat.le_of_ble_eq_true rfl)) dX5_letterOf_11 ⟨Nat.le_of_ble_eq_true rfl, Nat.le_of_ble_eq_true rfl⟩) hS (fun q _ h => fA_le hS.1 q h) (fA_le hS.1) (fun r9 u9 t9 H1 locs ht9 hvm9 hw9 hB9 hz9 hk9 hS => ?_)
  obtain ⟨μl, rl⟩ := u9
  obtain ⟨hP, -⟩ := hB9
  rw [ht9] at hP
  generalize H1 = H at hP hS ⊢
  obtain ⟨e9, hw9⟩ := hw9
  have e9 : r9 = iZ rl := e9
  subst e9
  simp only at hP hw9
  have hμl := hw9; clear hw9
  rw [hμl.1] at hP; have hμl := hμl.2
  have hrl := hμl
  have h60 := hte.2.1
  have h61 := hte.1
  refine lv_iconst (v := iZ 1) hx hb dX5_letterOf_14 rfl ?_
  refine lv_isub hx hb dX5_letterOf_15 ?_
  refine lv_topi (fun x9 ex9 => ?_)
  obtain rfl : x9 = iZ (rl - 1) := ex9.trans (iZ_sub _ _)
  refine lv_iload_n hx hb dX5_letterOf_16 rfl (lv_at hl 3 rfl) ?_
  refine lv_isub hx hb dX5_letterOf_17 ?_
  refine lv_topi (fun x9 ex9 => ?_)
  obtain rfl : x9 = iZ ((rl - 1) - kk) := ex9.trans (iZ_sub _ _)
  refine lv_istore (lv' := [(4, .int (iZ ((rl - 1) - kk))), (3, .int (iZ ((μ 3 (tk).toNat) / 3))), (0, .ref (h0 + 1)), (1, .int (iZ (tk))), (2, .int (iZ (kk)))]) hx hb dX5_letterOf_18 hl (by decide) rfl (fun ls hl => ?_)
  refine lv_iconst (v := iZ 0) hx hb dX5_letterOf_20 rfl ?_
  refine lv_istore (lv' := [(5, .int (iZ (0))), (4, .int (iZ ((rl - 1) - kk))), (3, .int (iZ ((μ 3 (tk).toNat) / 3))), (0, .ref (h0 + 1)), (1, .int (iZ (tk))), (2, .int (iZ (kk)))]) hx hb dX5_letterOf_21 hl (by decide) rfl (fun ls hl => ?_)
  refine LX5_letterOf_23b hx hb hml hown hts hK hM (Nat.le_of_ble_eq_true rfl) (Nat.le_of_ble_eq_true rfl) (Nat.le_of_ble_eq_true rfl) (Nat.le_of_ble_eq_true rfl) (μ) (rl - 1 - kk) (te.2.1) (by omega) (by exact hv9) ?_ _ (0) ((μ 3 (tk).toNat) / 3) μ H locs ls (by rfl) (by omega) (by show _ = te.2.1; omega) (Nat.lt_succ_self _) hP hS (lv_sub hl [0, 2, 1] rfl)
  · intro i_1 nm_1 μ1_ H locs ls q1_1 q2_1 hP hS hl
    have hl : lv_has ls 6 [(3, .int (iZ (nm_1))), (4, .int (iZ ((rl - 1 - kk))))] := hl
    have hPn41 := hP
    have hln41 := hl
    obtain rfl := q1_1
    have hP := hPn41
    have hl := hln41
    have Q2 := q2_1
    refine lv_iload hx hb dX5_letterOf_41 (lv_at hl 1 rfl) ?_
    refine fz_if_ge (tgt := 50) (by constructor <;> omega) hx hb dX5_letterOf_43 (by decide) (fun c43_ => ?_) (fun c43_ => ?_)
    · refine lv_iload_n hx hb dX5_letterOf_50 rfl (lv_at hl 0 rfl) ?_
      refine lv_bipush (v := iZ 27) hx hb dX5_letterOf_51 rfl ?_
      refine lv_irem hx hb dX5_letterOf_53 (by decide +kernel) ?_
      refine lv_topi (fun x9 ex9 => ?_)
      obtain rfl : x9 = iZ (nm_1 % 27) := ex9.trans (iZ_remP (by constructor <;> omega) (by decide) (by omega) (by omega))
      refine lv_iconst (v := iZ 1) hx hb dX5_letterOf_54 rfl ?_
      refine lv_isub hx hb dX5_letterOf_55 ?_
      refine lv_topi (fun x9 ex9 => ?_)
      obtain rfl : x9 = iZ ((nm_1 % 27) - 1) := ex9.trans (iZ_sub _ _)
      exact W.iret (v := iZ ((nm_1 % 27) - 1)) hx hb hr (fun t9 ht9 hW9 => ⟨⟨iZ ((nm_1 % 27) - 1), (μ1_, (nm_1 % 27) - 1), rfl, ⟨rfl, (by
                    dsimp only
                    refine ⟨rfl, ?_⟩
                    rw [ltA, if_pos (by omega), Q2.2, show (te.2.2 - 1 - kk.toNat : Nat) = (rl - 1 - kk).toNat by omega])⟩, by rw [ht9]; exact hP, va_K.moved hW9.alike hK⟩, hS.F ht9⟩) hS.2.2 dX5_letterOf_56
    · refine lv_iconst (v := iZ (-1)) hx hb dX5_letterOf_46 rfl ?_
      refine lv_goto (tgt := 56) hx hb dX5_letterOf_47 (by decide) ?_
      exact W.iret (v := iZ ((-1))) hx hb hr (fun t9 ht9 hW9 => ⟨⟨iZ ((-1)), (μ1_, (-1)), rfl, ⟨rfl, (by
                    dsimp only
                    refine ⟨rfl, ?_⟩
                    rw [ltA, if_neg (by omega)])⟩, by rw [ht9]; exact hP, va_K.moved hW9.alike hK⟩, hS.F ht9⟩) hS.2.2 dX5_letterOf_56

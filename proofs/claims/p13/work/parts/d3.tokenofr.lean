
/-! tokenOf of the reference, told whole -/
def pwM (μ : va_M) (tk : Int) (n : Nat) : Int := pw9 (fun p => μ (7 + p)) (fun p => μ 15 p) tk n
theorem pwM_s {μ : va_M} {tk : Int} {n : Nat} : pwM μ tk (n + 1) = pwM μ tk n + hz9 (μ (7 + n)) tk (μ 15 n).toNat := rfl
theorem hz9_or {f : Nat → Int} {tk z : Int} {k : Nat} (h : (z = 0 ∧ hz9 f tk k = 0 ∧ ¬ f k = tk) ∨ (z = 1 ∧ (hz9 f tk k = 1 ∨ f k = tk))) : z = hz9 f tk (k + 1) := by
  rw [hz9]
  rcases h with ⟨h1, h2, h3⟩ | ⟨h1, h2⟩
  · rw [if_neg h3, h1, h2]
  · by_cases e : f k = tk
    · rw [if_pos e, h1]
    · rw [if_neg e, h1]
      rcases h2 with h2 | h2
      · exact h2.symm
      · exact absurd h2 e
theorem pwM_fr {μ u : va_M} {tk : Int} (h : fr PS μ u) (h8 : μ 0 10 ≤ 8) : pwM u tk (u 0 10).toNat = pwM μ tk (μ 0 10).toNat := by
  rw [h 0 10 (PS_n (by omega))]
  refine pw9_eq _ (fun p hp => ?_)
  have e := h 15 p (PS_n (by omega))
  exact ⟨e, fun k _ => h (7 + p) k (PS_n (by omega))⟩
set_option maxHeartbeats 4000000 in
set_option maxRecDepth 100000 in
theorem LX10_letter_29b {p : Program} {l : Launch} {e : Env} {R : Room} {s : State} {m : MethodId} {args : Array Value} {below : List Frame} {meth : Method} {c : Code} {cells slots : Nat} {Q : State → Prop} {dC : Nat → ClassId} {dI : Nat → Nat → Nat} {h0 : Nat} {cI cZ cII cIII : ClassId} (hx : p.tables.exec = Jvm.exec) (hb : c.code = cX10_letter) (hml : c.maxLocals = 5) (hown : s.vm.findClass RX10 = some m.cls) (hts : ∀ w ∈ wsG, w.before args s = true) (hK : va_K (dC, dI) vwCl (mT cI cZ cII cIII) s) (hRf : 1 ≤ R.frames) (hRl : 14 ≤ R.locals) (hRc : cells ≤ R.cells) (hRs : slots ≤ R.slots) (μ0 : va_M) (k : Int) (i : Int) (te : Tk) (hi : 0 ≤ i ∧ i ≤ 6) (hte : tkV9 te) (hv9 : 0 ≤ te.2.1 ∧ te.2.1 < 387420489) (hexit46 : ∀ (v9 : Int) (n : Int) (μ : va_M) (H : Heap) (locs : List Loc) (ls : Array Slot), (μ = μ0) → (0 ≤ v9 ∧ v9 < 387420489) → (v9 = d27 te.2.1 (te.2.2 - 1 - i).toNat) → va_P (dC, dI) vwCl (fw (mE cI cZ cII cIII h0) h0 6325 μ) H → va_S (fA h0 6325 s.heap.size) s.heap H locs → lv_has ls 5 [(3, .int (iZ (v9)))] → W p l e R s m args below meth c H locs cells slots Q (F0 m 46 ls [])) :
    ∀ (n9 : Nat) (v9 : Int) (n : Int) (μ : va_M) (H : Heap) (locs : List Loc) (ls : Array Slot), (μ = μ0) → (i ≤ n ∧ n ≤ 6 ∧ n ≤ te.2.2 - 1) → (0 ≤ v9 ∧ v9 < 387420489) → (v9 = d27 te.2.1 (te.2.2 - 1 - n).toNat) → (n + 2).toNat < n9 → va_P (dC, dI) vwCl (fw (mE cI cZ cII cIII h0) h0 6325 μ) H → va_S (fA h0 6325 s.heap.size) s.heap H locs → lv_has ls 5 [(4, .int (iZ (n))), (3, .int (iZ (v9))), (2, .int (iZ (i))), (1, .int (iZ (k))), (0, .ref h0)] → W p l e R s m args below meth c H locs cells slots Q (F0 m 29 ls []) := by
  intro n9
  induction n9 with
  | zero => intro v9 n μ H locs ls hm hn hv hd hm9 hP hS hl; exact absurd hm9 (Nat.not_lt_zero _)
  | succ n9 ih =>
    intro v9 n μ H locs ls hm hn hv hd hm9 hP hS hl
    subst hm
    have h60 := hte.2.1
    obtain ⟨hd1, hd2⟩ := d27_0 hv9.1 ((te.2.2 - 1 - n).toNat + 1)
    have hd3 : d27 te.2.1 ((te.2.2 - 1 - n).toNat + 1) = d27 te.2.1 (te.2.2 - 1 - n).toNat / 27 := rfl
    refine lv_iload hx hb dX10_letter_29 (lv_at hl 0 rfl) ?_
    refine lv_iload_n hx hb dX10_letter_31 rfl (lv_at hl 2 rfl) ?_
    refine fz_icmp_le (tgt := 46) (by constructor <;> omega) (by constructor <;> omega) hx hb dX10_letter_32 (by decide) (fun c32_ => ?_) (fun c32_ => ?_)
    · exact hexit46 (v9) (n) μ H locs ls (by rfl) (by exact hv) (by rw [hd, show n = i by omega]) hP hS (lv_sub hl [1] rfl)
    · refine lv_iload_n hx hb dX10_letter_35 rfl (lv_at hl 1 rfl) ?_
      refine lv_bipush (v := iZ 27) hx hb dX10_letter_36 rfl ?_
      refine lv_idiv hx hb dX10_letter_38 (by decide +kernel) ?_
      refine lv_topi (fun x9 ex9 => ?_)
      obtain rfl : x9 = iZ (v9 / 27) := ex9.trans (iZ_divP (by constructor <;> omega) (by decide) (by omega) (by omega))
      refine lv_istore_n (lv' := [(3, .int (iZ (v9 / 27))), (4, .int (iZ (n))), (2, .int (iZ (i))), (1, .int (iZ (k))), (0, .ref h0)]) hx hb dX10_letter_39 rfl hl (by decide) rfl (fun ls hl => ?_)
      refine lv_iinc (v := iZ (n - 1)) (lv' := [(4, .int (iZ (n - 1))), (3, .int (iZ (v9 / 27))), (2, .int (iZ (i))), (1, .int (iZ (k))), (0, .ref h0)]) hx hb dX10_letter_40 hl (k := 1) rfl (iZ_add _ (-1)) (by decide) rfl (fun ls hl => ?_)
      refine lv_goto (tgt := 29) hx hb dX10_letter_43 (by decide) ?_
      exact ih (v9 / 27) (n - 1) μ H locs ls (by rfl) (by omega) (by omega) (by rw [show (te.2.2 - 1 - (n - 1)).toNat = (te.2.2 - 1 - n).toNat + 1 by omega, hd3, ← hd]) (by omega) hP hS (lv_sub hl [0, 1, 2, 3, 4] rfl)
set_option maxHeartbeats 4000000 in
set_option maxRecDepth 100000 in
theorem m_letter2 (l : Launch) (dC : Nat → ClassId) (dI : Nat → Nat → Nat) (cI cZ cII cIII : ClassId) (h0 sz : Nat) (μ : va_M) (k : Int) (i : Int) (te : Tk) (hk : 0 ≤ k ∧ k < 200) (hi : 0 ≤ i ∧ i ≤ 6) (h4 : (0 ≤ te.2.1 ∧ te.2.1 < 387420489) ∧ μ 4 k.toNat = te.2.1) (h5 : μ 5 k.toNat = te.2.2) (hte : tkV9 te) : Met l yX10_letter (Cond.code yX10_letter cX10_letter 5 (some .int) :: wsG) ({ frames := 1, cells := 0, slots := 0, locals := 14 } : Room) (va_Pc [.ref h0, .int (iZ (k)), .int (iZ (i))] (fun U => U.heap.size = sz ∧ va_P (dC, dI) vwCl (fw (mE cI cZ cII cIII h0) h0 6325 μ) U.heap ∧ va_K (dC, dI) vwCl (mT cI cZ cII cIII) U)) (va_Qi (fun (r9 : Int32) (u : va_M × Int) => r9 = iZ u.2 ∧ (fun (u : va_M) (r : Int) => u = μ ∧ r = ltA te i.toNat) u.1 u.2) (fun u t => va_P (dC, dI) vwCl (fw (mE cI cZ cII cIII h0) h0 6325 u.1) t.heap ∧ va_K (dC, dI) vwCl (mT cI cZ cII cIII) t) (fA h0 6325 sz)) 0 0 (fA h0 6325 sz) := by
  refine Met.ofW (cc := cX10_letter) (maxL := 5) (ret := (some .int)) (by decide) rfl ?_
  intro p e s m args below meth c s₁ B hml hv
  obtain ⟨rfl, hsz, hP, hK⟩ := hv
  have hx := B.exec
  have hb := B.bytes
  have hr := B.returns
  have hts : ∀ w ∈ wsG, w.before _ s = true := hG_of (atoms_spec (ws := (Cond.code yX10_letter cX10_letter 5 (some .int) :: wsG)) B.pre)
  have hown : s.vm.findClass RX10 = some m.cls := findClass_of_methodNamed B.named
  have hlocks := B.notSynchronized
  subst hsz
  have hS : va_S (fA h0 6325 s.heap.size) s.heap s.heap [] := va_S.rf
  have hl := lv_entry ([.ref h0, .int (iZ (k)), .int (iZ (i))]) (n := 5) (Nat.le_of_ble_eq_true rfl)
  rw [lg_entry_eq]
  generalize (lg_sl ([.ref h0, .int (iZ (k)), .int (iZ (i))]) ++ List.replicate (5 - (lg_sl ([.ref h0, .int (iZ (k)), .int (iZ (i))])).length) Slot.unset).toArray = ls at hl ⊢
  have hl : lv_has ls 5 [(0, .ref h0), (1, .int (iZ (k))), (2, .int (iZ (i)))] := hl
  have h40 := h4.1
  have h41 := h4.2
  have h60 := hte.2.1
  have h61 := hte.1
  refine lv_iload_n hx hb dX10_letter_0 rfl (lv_at hl 2 rfl) ?_
  refine lv_aload_n hx hb dX10_letter_1 rfl (lv_at hl 0 rfl) ?_
  refine fz_get (D := (dC, dI)) (ci := 10) (v := .ref (h0 + 5)) (C := RX10) (T := TX10) (N := 53) hx hb hts inG10 hown hK hP (k := 0) (by decide) (F := mF h0) mE_obj rfl 13 (by decide) (hts _ k1179) (fun _ h9 => h9) rfl dX10_letter_2 ?_
  refine lv_iload_n hx hb dX10_letter_5 rfl (lv_at hl 1 rfl) ?_
  refine fz_ld (k := 5) (n := 201) hx hb hK hP 0 (by decide) mE_tokenLong rfl ⟨by omega, by omega⟩ (by decide) dX10_letter_6 ?_
  refine fz_icmp_lt (tgt := 12) (by constructor <;> omega) (by constructor <;> omega) hx hb dX10_letter_7 (by decide) (fun c7_ => ?_) (fun c7_ => ?_)
  · refine lv_aload_n hx hb dX10_letter_12 rfl (lv_at hl 0 rfl) ?_
    refine fz_get (D := (dC, dI)) (ci := 10) (v := .ref (h0 + 4)) (C := RX10) (T := TX10) (N := 53) hx hb hts inG10 hown hK hP (k := 0) (by decide) (F := mF h0) mE_obj rfl 12 (by decide) (hts _ k1178) (fun _ h9 => h9) rfl dX10_letter_13 ?_
    refine lv_iload_n hx hb dX10_letter_16 rfl (lv_at hl 1 rfl) ?_
    refine fz_ld (k := 4) (n := 201) hx hb hK hP 0 (by decide) mE_tokenLetters rfl ⟨by omega, by omega⟩ (by decide) dX10_letter_17 ?_
    refine lv_istore_n (lv' := [(3, .int (iZ (μ 4 (k).toNat))), (0, .ref h0), (1, .int (iZ (k))), (2, .int (iZ (i)))]) hx hb dX10_letter_18 rfl hl (by decide) rfl (fun ls hl => ?_)
    refine lv_aload_n hx hb dX10_letter_19 rfl (lv_at hl 1 rfl) ?_
    refine fz_get (D := (dC, dI)) (ci := 10) (v := .ref (h0 + 5)) (C := RX10) (T := TX10) (N := 53) hx hb hts inG10 hown hK hP (k := 0) (by decide) (F := mF h0) mE_obj rfl 13 (by decide) (hts _ k1179) (fun _ h9 => h9) rfl dX10_letter_20 ?_
    refine lv_iload_n hx hb dX10_letter_23 rfl (lv_at hl 2 rfl) ?_
    refine fz_ld (k := 5) (n := 201) hx hb hK hP 0 (by decide) mE_tokenLong rfl ⟨by omega, by omega⟩ (by decide) dX10_letter_24 ?_
    refine lv_iconst (v := iZ 1) hx hb dX10_letter_25 rfl ?_
    refine lv_isub hx hb dX10_letter_26 ?_
    refine lv_topi (fun x9 ex9 => ?_)
    obtain rfl : x9 = iZ ((μ 5 (k).toNat) - 1) := ex9.trans (iZ_sub _ _)
    refine lv_istore (lv' := [(4, .int (iZ ((μ 5 (k).toNat) - 1))), (3, .int (iZ (μ 4 (k).toNat))), (0, .ref h0), (1, .int (iZ (k))), (2, .int (iZ (i)))]) hx hb dX10_letter_27 hl (by decide) rfl (fun ls hl => ?_)
    refine LX10_letter_29b hx hb hml hown hts hK (Nat.le_of_ble_eq_true rfl) (Nat.le_of_ble_eq_true rfl) (Nat.le_of_ble_eq_true rfl) (Nat.le_of_ble_eq_true rfl) (μ) (k) (i) (te) (by assumption) (by exact hte) (by omega) ?_ _ (μ 4 (k).toNat) ((μ 5 (k).toNat) - 1) μ s.heap [] ls (by rfl) (by have := hte.1; have := hte.2.1; omega) (by omega) (by rw [show ((te.2.2 : Int) - 1 - (μ 5 k.toNat - 1)).toNat = 0 by omega]; exact h4.2) (Nat.lt_succ_self _) hP hS (lv_sub hl [0, 1, 4, 3, 2] rfl)
    · intro v9_1 n_1 μ1_ H locs ls q1_1 q2_1 q3_1 hP hS hl
      have hl : lv_has ls 5 [(3, .int (iZ (v9_1)))] := hl
      refine lv_iload_n hx hb dX10_letter_46 rfl (lv_at hl 0 rfl) ?_
      refine lv_bipush (v := iZ 27) hx hb dX10_letter_47 rfl ?_
      refine lv_irem hx hb dX10_letter_49 (by decide +kernel) ?_
      refine lv_topi (fun x9 ex9 => ?_)
      obtain rfl : x9 = iZ (v9_1 % 27) := ex9.trans (iZ_remP (by constructor <;> omega) (by decide) (by omega) (by omega))
      refine lv_iconst (v := iZ 1) hx hb dX10_letter_50 rfl ?_
      refine lv_isub hx hb dX10_letter_51 ?_
      refine lv_topi (fun x9 ex9 => ?_)
      obtain rfl : x9 = iZ ((v9_1 % 27) - 1) := ex9.trans (iZ_sub _ _)
      have h9 := Int.emod_nonneg v9_1 (show (27 : Int) ≠ 0 by decide)
      have h8 := Int.emod_lt_of_pos v9_1 (show (0 : Int) < 27 by decide)
      exact W.iret (v := iZ ((v9_1 % 27) - 1)) hx hb hr (fun t9 ht9 hW9 => ⟨⟨iZ ((v9_1 % 27) - 1), (μ1_, (v9_1 % 27) - 1), rfl, ⟨rfl, (by
                    dsimp only
                    refine ⟨q1_1, ?_⟩
                    rw [ltA, if_pos (by omega), q3_1, show (te.2.2 - 1 - i.toNat : Nat) = ((te.2.2 : Int) - 1 - i).toNat by omega])⟩, by rw [ht9]; exact hP, va_K.moved hW9.alike hK⟩, hS.F ht9⟩) hS.2.2 dX10_letter_52
  · refine lv_iconst (v := iZ (-1)) hx hb dX10_letter_10 rfl ?_
    exact W.iret (v := iZ ((-1))) hx hb hr (fun t9 ht9 hW9 => ⟨⟨iZ ((-1)), (μ, (-1)), rfl, ⟨rfl, (by
                dsimp only
                refine ⟨rfl, ?_⟩
                rw [ltA, if_neg (by omega)])⟩, by rw [ht9]; exact hP, va_K.moved hW9.alike hK⟩, hS.F ht9⟩) hS.2.2 dX10_letter_11
set_option maxHeartbeats 4000000 in
set_option maxRecDepth 100000 in
theorem LX10_pagesWith_18b {p : Program} {l : Launch} {e : Env} {R : Room} {s : State} {m : MethodId} {args : Array Value} {below : List Frame} {meth : Method} {c : Code} {cells slots : Nat} {Q : State → Prop} {dC : Nat → ClassId} {dI : Nat → Nat → Nat} {h0 : Nat} {cI cZ cII cIII : ClassId} (hx : p.tables.exec = Jvm.exec) (hb : c.code = cX10_pagesWith) (hml : c.maxLocals = 6) (hown : s.vm.findClass RX10 = some m.cls) (hts : ∀ w ∈ wsG, w.before args s = true) (hK : va_K (dC, dI) vwCl (mT cI cZ cII cIII) s) (hRf : 1 ≤ R.frames) (hRl : 14 ≤ R.locals) (hRc : cells ≤ R.cells) (hRs : slots ≤ R.slots) (μ0 : va_M) (pp : Int) (n : Int) (q : Int) (hpp : 0 ≤ pp ∧ pp < μ0 0 10) (hQ : RQ μ0) (hq : inR q) (hexit58 : ∀ (is9 : Int) (k : Int) (μ : va_M) (H : Heap) (locs : List Loc) (ls : Array Slot), (μ = μ0) → (is9 = hz9 (μ0 (7 + pp.toNat)) q (μ0 15 pp.toNat).toNat) → va_P (dC, dI) vwCl (fw (mE cI cZ cII cIII h0) h0 6325 μ) H → va_S (fA h0 6325 s.heap.size) s.heap H locs → lv_has ls 6 [(4, .int (iZ (is9))), (3, .int (iZ (pp))), (2, .int (iZ (n))), (1, .int (iZ (q))), (0, .ref h0)] → W p l e R s m args below meth c H locs cells slots Q (F0 m 58 ls [])) :
    ∀ (n9 : Nat) (is9 : Int) (k : Int) (μ : va_M) (H : Heap) (locs : List Loc) (ls : Array Slot), (μ = μ0) → (0 ≤ k ∧ k ≤ μ0 15 pp.toNat) → (is9 = hz9 (μ0 (7 + pp.toNat)) q k.toNat) → (100 - k).toNat < n9 → va_P (dC, dI) vwCl (fw (mE cI cZ cII cIII h0) h0 6325 μ) H → va_S (fA h0 6325 s.heap.size) s.heap H locs → lv_has ls 6 [(5, .int (iZ (k))), (4, .int (iZ (is9))), (3, .int (iZ (pp))), (2, .int (iZ (n))), (1, .int (iZ (q))), (0, .ref h0)] → W p l e R s m args below meth c H locs cells slots Q (F0 m 18 ls []) := by
  intro n9
  induction n9 with
  | zero => intro is9 k μ H locs ls hm hk hi hm9 hP hS hl; exact absurd hm9 (Nat.not_lt_zero _)
  | succ n9 ih =>
    intro is9 k μ H locs ls hm hk hi hm9 hP hS hl
    subst hm
    have h01 := hz9_01 (f := μ (7 + pp.toNat)) (tk := q) k.toNat
    rw [← hi] at h01
    obtain ⟨k10, ⟨kT, kTb, kTw⟩, kS3, kPg, kw, kwB, kwT⟩ := hQ
    obtain ⟨p1, p2, p3, pw, pw1, pw2, pw3⟩ := kPg pp.toNat (by omega)
    have hT9 := kTb.1
    have hT8 := kTb.2.1
    refine lv_iload hx hb dX10_pagesWith_18 (lv_at hl 0 rfl) ?_
    refine lv_aload_n hx hb dX10_pagesWith_20 rfl (lv_at hl 5 rfl) ?_
    refine fz_get (D := (dC, dI)) (ci := 10) (v := .ref (h0 + 15)) (C := RX10) (T := TX10) (N := 53) hx hb hts inG10 hown hK hP (k := 0) (by decide) (F := mF h0) mE_obj rfl 15 (by decide) (hts _ k1181) (fun _ h9 => h9) rfl dX10_pagesWith_21 ?_
    refine lv_iload_n hx hb dX10_pagesWith_24 rfl (lv_at hl 2 rfl) ?_
    refine fz_ld (k := 15) (n := 8) hx hb hK hP 0 (by decide) mE_pageLong rfl ⟨by omega, by omega⟩ (by decide) dX10_pagesWith_25 ?_
    refine fz_icmp_ge (tgt := 58) (by constructor <;> omega) (by constructor <;> omega) hx hb dX10_pagesWith_26 (by decide) (fun c26_ => ?_) (fun c26_ => ?_)
    · exact hexit58 (is9) (k) μ H locs ls (by rfl) (by rw [hi, show (μ 15 pp.toNat).toNat = k.toNat by omega]) hP hS (lv_sub hl [1, 2, 3, 4, 5] rfl)
    · have h9 := p3 k.toNat (by omega)
      refine lv_iload hx hb dX10_pagesWith_29 (lv_at hl 1 rfl) ?_
      refine lv_aload_n hx hb dX10_pagesWith_31 rfl (lv_at hl 5 rfl) ?_
      refine fz_get (D := (dC, dI)) (ci := 10) (v := .ref (h0 + 6)) (C := RX10) (T := TX10) (N := 53) hx hb hts inG10 hown hK hP (k := 0) (by decide) (F := mF h0) mE_obj rfl 14 (by decide) (hts _ k1180) (fun _ h9 => h9) rfl dX10_pagesWith_32 ?_
      refine lv_iload_n hx hb dX10_pagesWith_35 rfl (lv_at hl 2 rfl) ?_
      refine fz_ald (k := 6) (n := 8) (k2 := (7 + (pp).toNat)) hx hb hK hP 2 rfl (by decide) mE_page rfl ⟨by omega, by omega⟩ (by decide) (if_pos (by omega)) dX10_pagesWith_36 ?_
      refine lv_iload hx hb dX10_pagesWith_37 (lv_at hl 0 rfl) ?_
      refine fz_ld (k := (7 + (pp).toNat)) (n := 60) hx hb hK hP 0 (by omega) (mE_pageR (by omega)) rfl ⟨by omega, by omega⟩ (by decide) dX10_pagesWith_39 ?_
      refine lv_iload_n hx hb dX10_pagesWith_40 rfl (lv_at hl 4 rfl) ?_
      refine fz_icmp_ne (tgt := 48) (by first | exact hq | (constructor <;> omega)) (by first | exact hq | (constructor <;> omega)) hx hb dX10_pagesWith_41 (by decide) (fun c41_ => ?_) (fun c41_ => ?_)
      · refine lv_iconst (v := iZ 0) hx hb dX10_pagesWith_48 rfl ?_
        refine lv_ior hx hb dX10_pagesWith_49 ?_
        refine lv_topi (fun x9 ex9 => ?_)
        obtain ⟨z1, rfl, hz1⟩ := iZ_ex x9
        have ez1 := ex9; clear ex9
        have hz1 := ior_b hz1 ez1 h01 (by omega)
        refine lv_istore (lv' := [(4, .int (iZ (z1))), (5, .int (iZ (k))), (3, .int (iZ (pp))), (2, .int (iZ (n))), (1, .int (iZ (q))), (0, .ref h0)]) hx hb dX10_pagesWith_50 hl (by decide) rfl (fun ls hl => ?_)
        refine lv_iinc (v := iZ (k + 1)) (lv' := [(5, .int (iZ (k + 1))), (4, .int (iZ (z1))), (3, .int (iZ (pp))), (2, .int (iZ (n))), (1, .int (iZ (q))), (0, .ref h0)]) hx hb dX10_pagesWith_52 hl (k := 1) rfl (iZ_add _ _) (by decide) rfl (fun ls hl => ?_)
        refine lv_goto (tgt := 18) hx hb dX10_pagesWith_55 (by decide) ?_
        exact ih (z1) (k + 1) μ H locs ls (by rfl) (by omega) (by rw [show (k + 1).toNat = k.toNat + 1 by omega]; apply hz9_or; rw [← hi]; omega) (by omega) hP hS (lv_sub hl [0, 1, 2, 3, 4, 5] rfl)
      · refine lv_iconst (v := iZ 1) hx hb dX10_pagesWith_44 rfl ?_
        refine lv_goto (tgt := 49) hx hb dX10_pagesWith_45 (by decide) ?_
        refine lv_ior hx hb dX10_pagesWith_49 ?_
        refine lv_topi (fun x9 ex9 => ?_)
        obtain ⟨z2, rfl, hz2⟩ := iZ_ex x9
        have ez2 := ex9; clear ex9
        have hz1 := ior_b hz2 ez2 h01 (by omega)
        refine lv_istore (lv' := [(4, .int (iZ (z2))), (5, .int (iZ (k))), (3, .int (iZ (pp))), (2, .int (iZ (n))), (1, .int (iZ (q))), (0, .ref h0)]) hx hb dX10_pagesWith_50 hl (by decide) rfl (fun ls hl => ?_)
        refine lv_iinc (v := iZ (k + 1)) (lv' := [(5, .int (iZ (k + 1))), (4, .int (iZ (z2))), (3, .int (iZ (pp))), (2, .int (iZ (n))), (1, .int (iZ (q))), (0, .ref h0)]) hx hb dX10_pagesWith_52 hl (k := 1) rfl (iZ_add _ _) (by decide) rfl (fun ls hl => ?_)
        refine lv_goto (tgt := 18) hx hb dX10_pagesWith_55 (by decide) ?_
        exact ih (z2) (k + 1) μ H locs ls (by rfl) (by omega) (by rw [show (k + 1).toNat = k.toNat + 1 by omega]; apply hz9_or; rw [← hi]; omega) (by omega) hP hS (lv_sub hl [0, 1, 2, 3, 4, 5] rfl)
set_option maxHeartbeats 4000000 in
set_option maxRecDepth 100000 in
theorem LX10_pagesWith_4b {p : Program} {l : Launch} {e : Env} {R : Room} {s : State} {m : MethodId} {args : Array Value} {below : List Frame} {meth : Method} {c : Code} {cells slots : Nat} {Q : State → Prop} {dC : Nat → ClassId} {dI : Nat → Nat → Nat} {h0 : Nat} {cI cZ cII cIII : ClassId} (hx : p.tables.exec = Jvm.exec) (hb : c.code = cX10_pagesWith) (hml : c.maxLocals = 6) (hown : s.vm.findClass RX10 = some m.cls) (hts : ∀ w ∈ wsG, w.before args s = true) (hK : va_K (dC, dI) vwCl (mT cI cZ cII cIII) s) (hRf : 1 ≤ R.frames) (hRl : 14 ≤ R.locals) (hRc : cells ≤ R.cells) (hRs : slots ≤ R.slots) (μ0 : va_M) (q : Int) (hQ : RQ μ0) (hq : inR q) (hexit77 : ∀ (n : Int) (pp : Int) (μ : va_M) (H : Heap) (locs : List Loc) (ls : Array Slot), (μ = μ0) → (n = pwM μ0 q (μ0 0 10).toNat) → va_P (dC, dI) vwCl (fw (mE cI cZ cII cIII h0) h0 6325 μ) H → va_S (fA h0 6325 s.heap.size) s.heap H locs → lv_has ls 6 [(2, .int (iZ (n)))] → W p l e R s m args below meth c H locs cells slots Q (F0 m 77 ls [])) :
    ∀ (n9 : Nat) (n : Int) (pp : Int) (μ : va_M) (H : Heap) (locs : List Loc) (ls : Array Slot), (μ = μ0) → (0 ≤ pp ∧ pp ≤ μ0 0 10) → (n = pwM μ0 q pp.toNat) → (100 - pp).toNat < n9 → va_P (dC, dI) vwCl (fw (mE cI cZ cII cIII h0) h0 6325 μ) H → va_S (fA h0 6325 s.heap.size) s.heap H locs → lv_has ls 6 [(3, .int (iZ (pp))), (2, .int (iZ (n))), (1, .int (iZ (q))), (0, .ref h0)] → W p l e R s m args below meth c H locs cells slots Q (F0 m 4 ls []) := by
  intro n9
  induction n9 with
  | zero => intro n pp μ H locs ls hm hk hn hm9 hP hS hl; exact absurd hm9 (Nat.not_lt_zero _)
  | succ n9 ih =>
    intro n pp μ H locs ls hm hk hn hm9 hP hS hl
    subst hm
    have k10 := hQ.1
    have hpb := pw9_b (F := fun p => μ (7 + p)) (L := fun p => μ 15 p) (tk := q) pp.toNat
    refine lv_iload_n hx hb dX10_pagesWith_4 rfl (lv_at hl 0 rfl) ?_
    refine lv_aload_n hx hb dX10_pagesWith_5 rfl (lv_at hl 3 rfl) ?_
    refine fz_get (D := (dC, dI)) (ci := 10) (v := .int (iZ (μ 0 10))) (C := RX10) (T := TX10) (N := 53) hx hb hts inG10 hown hK hP (k := 0) (by decide) (F := mF h0) mE_obj rfl 10 (by decide) (hts _ k1176) (fun _ h9 => h9) rfl dX10_pagesWith_6 ?_
    refine fz_icmp_ge (tgt := 77) (by constructor <;> omega) (by constructor <;> omega) hx hb dX10_pagesWith_9 (by decide) (fun c9_ => ?_) (fun c9_ => ?_)
    · exact hexit77 (n) (pp) μ H locs ls (by rfl) (by rw [hn, show (μ 0 10).toNat = pp.toNat by omega]) hP hS (lv_sub hl [1] rfl)
    · refine lv_iconst (v := iZ 0) hx hb dX10_pagesWith_12 rfl ?_
      refine lv_istore (lv' := [(4, .int (iZ (0))), (3, .int (iZ (pp))), (2, .int (iZ (n))), (1, .int (iZ (q))), (0, .ref h0)]) hx hb dX10_pagesWith_13 hl (by decide) rfl (fun ls hl => ?_)
      refine lv_iconst (v := iZ 0) hx hb dX10_pagesWith_15 rfl ?_
      refine lv_istore (lv' := [(5, .int (iZ (0))), (4, .int (iZ (0))), (3, .int (iZ (pp))), (2, .int (iZ (n))), (1, .int (iZ (q))), (0, .ref h0)]) hx hb dX10_pagesWith_16 hl (by decide) rfl (fun ls hl => ?_)
      refine LX10_pagesWith_18b hx hb hml hown hts hK hRf hRl hRc hRs (μ) (pp) (n) (q) (by omega) (by assumption) (by assumption) ?_ _ (0) (0) μ H locs ls (by rfl) (by
                    obtain ⟨p1, _⟩ := hQ.2.2.2.1 pp.toNat (by omega)
                    omega) (by rfl) (Nat.lt_succ_self _) hP hS (lv_sub hl [0, 1, 2, 3, 4, 5] rfl)
      · intro is9_3 k_3 μ3_ H locs ls q1_3 q2_3 hP hS hl
        have hl : lv_has ls 6 [(4, .int (iZ (is9_3))), (3, .int (iZ (pp))), (2, .int (iZ (n))), (1, .int (iZ (q))), (0, .ref h0)] := hl
        have hPn := hP
        obtain rfl := q1_3
        have hP := hPn
        have Q2 := q2_3
        have h02 := hz9_01 (f := μ3_ (7 + pp.toNat)) (tk := q) (μ3_ 15 pp.toNat).toNat
        rw [← Q2] at h02
        refine lv_iload_n hx hb dX10_pagesWith_58 rfl (lv_at hl 2 rfl) ?_
        refine lv_iload hx hb dX10_pagesWith_59 (lv_at hl 0 rfl) ?_
        refine fz_if_eq (tgt := 68) (by constructor <;> omega) hx hb dX10_pagesWith_61 (by decide) (fun c61_ => ?_) (fun c61_ => ?_)
        · refine lv_iconst (v := iZ 0) hx hb dX10_pagesWith_68 rfl ?_
          refine lv_iadd hx hb dX10_pagesWith_69 ?_
          refine lv_topi (fun x9 ex9 => ?_)
          obtain rfl : x9 = iZ (n + 0) := ex9.trans (iZ_add _ _)
          refine lv_istore_n (lv' := [(2, .int (iZ (n + 0))), (4, .int (iZ (is9_3))), (3, .int (iZ (pp))), (1, .int (iZ (q))), (0, .ref h0)]) hx hb dX10_pagesWith_70 rfl hl (by decide) rfl (fun ls hl => ?_)
          refine lv_iinc (v := iZ (pp + 1)) (lv' := [(3, .int (iZ (pp + 1))), (2, .int (iZ (n + 0))), (4, .int (iZ (is9_3))), (1, .int (iZ (q))), (0, .ref h0)]) hx hb dX10_pagesWith_71 hl (k := 2) rfl (iZ_add _ _) (by decide) rfl (fun ls hl => ?_)
          refine lv_goto (tgt := 4) hx hb dX10_pagesWith_74 (by decide) ?_
          exact ih (n + 0) (pp + 1) μ3_ H locs ls (by rfl) (by omega) (by rw [show (pp + 1).toNat = pp.toNat + 1 by omega, pwM_s, ← hn, ← Q2]; omega) (by omega) hP hS (lv_sub hl [0, 1, 3, 4] rfl)
        · refine lv_iconst (v := iZ 1) hx hb dX10_pagesWith_64 rfl ?_
          refine lv_goto (tgt := 69) hx hb dX10_pagesWith_65 (by decide) ?_
          refine lv_iadd hx hb dX10_pagesWith_69 ?_
          refine lv_topi (fun x9 ex9 => ?_)
          obtain rfl : x9 = iZ (n + 1) := ex9.trans (iZ_add _ _)
          refine lv_istore_n (lv' := [(2, .int (iZ (n + 1))), (4, .int (iZ (is9_3))), (3, .int (iZ (pp))), (1, .int (iZ (q))), (0, .ref h0)]) hx hb dX10_pagesWith_70 rfl hl (by decide) rfl (fun ls hl => ?_)
          refine lv_iinc (v := iZ (pp + 1)) (lv' := [(3, .int (iZ (pp + 1))), (2, .int (iZ (n + 1))), (4, .int (iZ (is9_3))), (1, .int (iZ (q))), (0, .ref h0)]) hx hb dX10_pagesWith_71 hl (k := 2) rfl (iZ_add _ _) (by decide) rfl (fun ls hl => ?_)
          refine lv_goto (tgt := 4) hx hb dX10_pagesWith_74 (by decide) ?_
          exact ih (n + 1) (pp + 1) μ3_ H locs ls (by rfl) (by omega) (by rw [show (pp + 1).toNat = pp.toNat + 1 by omega, pwM_s, ← hn, ← Q2]; omega) (by omega) hP hS (lv_sub hl [0, 1, 3, 4] rfl)
set_option maxHeartbeats 4000000 in
set_option maxRecDepth 100000 in
theorem m_pagesWith2 (l : Launch) (dC : Nat → ClassId) (dI : Nat → Nat → Nat) (cI cZ cII cIII : ClassId) (h0 sz : Nat) (μ : va_M) (q : Int) (hQ : RQ μ) (hq : inR q) : Met l yX10_pagesWith (Cond.code yX10_pagesWith cX10_pagesWith 6 (some .int) :: wsG) ({ frames := 1, cells := 0, slots := 0, locals := 14 } : Room) (va_Pc [.ref h0, .int (iZ (q))] (fun U => U.heap.size = sz ∧ va_P (dC, dI) vwCl (fw (mE cI cZ cII cIII h0) h0 6325 μ) U.heap ∧ va_K (dC, dI) vwCl (mT cI cZ cII cIII) U)) (va_Qi (fun (r9 : Int32) (u : va_M × Int) => r9 = iZ u.2 ∧ (fun (u : va_M) (r : Int) => u = μ ∧ r = pwM μ q (μ 0 10).toNat) u.1 u.2) (fun u t => va_P (dC, dI) vwCl (fw (mE cI cZ cII cIII h0) h0 6325 u.1) t.heap ∧ va_K (dC, dI) vwCl (mT cI cZ cII cIII) t) (fA h0 6325 sz)) 0 0 (fA h0 6325 sz) := by
  refine Met.ofW (cc := cX10_pagesWith) (maxL := 6) (ret := (some .int)) (by decide) rfl ?_
  intro p e s m args below meth c s₁ B hml hv
  obtain ⟨rfl, hsz, hP, hK⟩ := hv
  have hx := B.exec
  have hb := B.bytes
  have hr := B.returns
  have hts : ∀ w ∈ wsG, w.before _ s = true := hG_of (atoms_spec (ws := (Cond.code yX10_pagesWith cX10_pagesWith 6 (some .int) :: wsG)) B.pre)
  have hown : s.vm.findClass RX10 = some m.cls := findClass_of_methodNamed B.named
  have hlocks := B.notSynchronized
  subst hsz
  have hS : va_S (fA h0 6325 s.heap.size) s.heap s.heap [] := va_S.rf
  have hl := lv_entry ([.ref h0, .int (iZ (q))]) (n := 6) (Nat.le_of_ble_eq_true rfl)
  rw [lg_entry_eq]
  generalize (lg_sl ([.ref h0, .int (iZ (q))]) ++ List.replicate (6 - (lg_sl ([.ref h0, .int (iZ (q))])).length) Slot.unset).toArray = ls at hl ⊢
  have hl : lv_has ls 6 [(0, .ref h0), (1, .int (iZ (q)))] := hl
  refine lv_iconst (v := iZ 0) hx hb dX10_pagesWith_0 rfl ?_
  refine lv_istore_n (lv' := [(2, .int (iZ (0))), (0, .ref h0), (1, .int (iZ (q)))]) hx hb dX10_pagesWith_1 rfl hl (by decide) rfl (fun ls hl => ?_)
  refine lv_iconst (v := iZ 0) hx hb dX10_pagesWith_2 rfl ?_
  refine lv_istore_n (lv' := [(3, .int (iZ (0))), (2, .int (iZ (0))), (0, .ref h0), (1, .int (iZ (q)))]) hx hb dX10_pagesWith_3 rfl hl (by decide) rfl (fun ls hl => ?_)
  refine LX10_pagesWith_4b hx hb hml hown hts hK (Nat.le_of_ble_eq_true rfl) (Nat.le_of_ble_eq_true rfl) (Nat.le_of_ble_eq_true rfl) (Nat.le_of_ble_eq_true rfl) (μ) (q) (by assumption) (by assumption) ?_ _ (0) (0) μ s.heap [] ls (by rfl) (by have := hQ.1; omega) (by rfl) (Nat.lt_succ_self _) hP hS (lv_sub hl [0, 1, 3, 2] rfl)
  · intro n_4 pp_4 μ4_ H locs ls q3_4 q4_4 hP hS hl
    have hl : lv_has ls 6 [(2, .int (iZ (n_4)))] := hl
    refine lv_iload_n hx hb dX10_pagesWith_77 rfl (lv_at hl 0 rfl) ?_
    exact W.iret (v := iZ (n_4)) hx hb hr (fun t9 ht9 hW9 => ⟨⟨iZ (n_4), (μ4_, n_4), rfl, ⟨rfl, (by
                dsimp only
                exact ⟨q3_4, q4_4⟩)⟩, by rw [ht9]; exact hP, va_K.moved hW9.alike hK⟩, hS.F ht9⟩) hS.2.2 dX10_pagesWith_78
set_option maxHeartbeats 4000000 in
set_option maxRecDepth 100000 in
theorem f_tokenOf (l : Launch) (dC : Nat → ClassId) (dI : Nat → Nat → Nat) (cI cZ cII cIII : ClassId) (h0 sz : Nat) (μ : va_M) (k : Int) (w : Int) (T : List Tk) (hQ : RQ μ) (hkR : inR k) (hw9 : inR w) (hT : tabR μ T) (hW : tabW T) (hTV : tabV T) : Met l yX10_tokenOf (Cond.code yX10_tokenOf cX10_tokenOf 3 (some .int) :: wsG) ({ frames := 2, cells := 0, slots := 0, locals := 39 } : Room) (va_Pc [.ref h0, .int (iZ (k)), .int (iZ (w))] (fun U => U.heap.size = sz ∧ va_P (dC, dI) vwCl (fw (mE cI cZ cII cIII h0) h0 6325 μ) U.heap ∧ va_K (dC, dI) vwCl (mT cI cZ cII cIII) U)) (va_Qi (fun (r9 : Int32) (u : va_M × Int) => r9 = iZ u.2 ∧ (fun (u : va_M) (r : Int) => (fr PS μ u ∧ (u 0 0 = 0 ∨ u 0 0 = 1 ∨ u 0 0 = 2)) ∧ u 0 0 = cd2 (0 ≤ k ∧ k < μ 0 9) (0 ≤ w ∧ w ≤ 8) ∧ (cd2 (0 ≤ k ∧ k < μ 0 9) (0 ≤ w ∧ w ≤ 8) = 0 → ∀ te : Tk, T[k.toNat]? = some te → r = tkA te w (pwM μ k (μ 0 10).toNat))) u.1 u.2) (fun u t => va_P (dC, dI) vwCl (fw (mE cI cZ cII cIII h0) h0 6325 u.1) t.heap ∧ va_K (dC, dI) vwCl (mT cI cZ cII cIII) t) (fA h0 6325 sz)) 0 0 (fA h0 6325 sz) := by
  refine Met.ofW (cc := cX10_tokenOf) (maxL := 3) (ret := (some .int)) (by decide) rfl ?_
  intro p e s m args below meth c s₁ B hml hv
  obtain ⟨rfl, hsz, hP, hK⟩ := hv
  have hx := B.exec
  have hb := B.bytes
  have hr := B.returns
  have hts : ∀ w ∈ wsG, w.before _ s = true := hG_of (atoms_spec (ws := (Cond.code yX10_tokenOf cX10_tokenOf 3 (some .int) :: wsG)) B.pre)
  have hown : s.vm.findClass RX10 = some m.cls := findClass_of_methodNamed B.named
  have hlocks := B.notSynchronized
  subst hsz
  have hS : va_S (fA h0 6325 s.heap.size) s.heap s.heap [] := va_S.rf
  have hl := lv_entry ([.ref h0, .int (iZ (k)), .int (iZ (w))]) (n := 3) (Nat.le_of_ble_eq_true rfl)
  rw [lg_entry_eq]
  generalize (lg_sl ([.ref h0, .int (iZ (k)), .int (iZ (w))]) ++ List.replicate (3 - (lg_sl ([.ref h0, .int (iZ (k)), .int (iZ (w))])).length) Slot.unset).toArray = ls at hl ⊢
  have hl : lv_has ls 3 [(0, .ref h0), (1, .int (iZ (k))), (2, .int (iZ (w)))] := hl
  have hTR := hT
  have hTW := hW
  refine lv_aload_n hx hb dX10_tokenOf_0 rfl (lv_at hl 0 rfl) ?_
  refine lv_iconst (v := iZ 0) hx hb dX10_tokenOf_1 rfl ?_
  refine fz_put (D := (dC, dI)) (ci := 10) (ty := .int) (z := 0) (C := RX10) (T := TX10) (N := 53) hx hb hts inG10 tyX10 tyX10_ok nmX10 hown hK hP fA_in hS (k := 0) (by decide) (F := mF h0) mE_obj rfl 0 (by decide) (hts _ k1166) (fun _ h9 => h9) rfl (by decide +kernel) rfl rfl (fun _ => Nat.le_of_ble_eq_true rfl) (fun _ _ => rfl) dX10_tokenOf_2 (fun H locs hP hS => ?_)
  obtain ⟨μ1, eμ1⟩ : ∃ x : va_M, x = uz μ 0 0 (0) := ⟨_, rfl⟩
  rw [← eμ1] at hP
  have hfr : fr PS μ μ1 := by rw [eμ1]; exact fr_uz fr_rfl (by unfold PS; omega)
  have ht0 : μ1 0 0 = 0 := by rw [eμ1, uz_s]
  have e10 := hfr 0 10 (PS_n (by omega))
  have e9 := hfr 0 9 (PS_n (by omega))
  have e71 := hfr 719 0 (PS_n (by omega))
  have hQ1 := RQ_fr hQ hfr
  have hQc := hQ
  obtain ⟨f10, ⟨fT, fTb, fTw⟩, fS3, fPg, fw9, fwB, fwT⟩ := hQc
  obtain ⟨g10, ⟨gT, gTb, gTw⟩, gS3, gPg, gw, gwB, gwT⟩ := hQ1
  have gtk := TR_tok gwT gwB.1 gwB.2.1
  have gt1 := gtk.1
  have gt2 := gtk.2.1
  have fT1 := fTb.1
  have fT2 := fTb.2.1
  refine lv_aload_n hx hb dX10_tokenOf_5 rfl (lv_at hl 0 rfl) ?_
  refine lv_iload_n hx hb dX10_tokenOf_6 rfl (lv_at hl 1 rfl) ?_
  refine lv_iconst (v := iZ 0) hx hb dX10_tokenOf_7 rfl ?_
  refine lv_aload_n hx hb dX10_tokenOf_8 rfl (lv_at hl 0 rfl) ?_
  refine fz_get (D := (dC, dI)) (ci := 10) (v := .int (iZ (μ1 0 9))) (C := RX10) (T := TX10) (N := 53) hx hb hts inG10 hown hK hP (k := 0) (by decide) (F := mF h0) mE_obj rfl 9 (by decide) (hts _ k1175) (fun _ h9 => h9) rfl dX10_tokenOf_9 ?_
  rw [show μ1 0 9 = μ 0 9 from by rw [eμ1, uz_n (by omega)]]
  refine lv_iconst (v := iZ 1) hx hb dX10_tokenOf_12 rfl ?_
  refine lv_isub hx hb dX10_tokenOf_13 ?_
  refine lv_topi (fun x9 ex9 => ?_)
  obtain rfl : x9 = iZ ((μ 0 9) - 1) := ex9.trans (iZ_sub _ _)
  refine va_calli (va_runS (As := [.int (iZ (k)), .int (iZ (0)), .int (iZ ((μ 0 9) - 1))]) (rest := [.ref h0]) ⟨hx, hb, hml, hown, hts⟩ (m_in l dC dI cI cZ cII cIII h0 H.size μ1 (k) (0) ((μ 0 9) - 1) (by first | assumption | omega | exact ⟨by omega, by omega⟩) (by first | assumption | omega | exact ⟨by omega, by omega⟩) (by first | assumption | omega | exact ⟨by omega, by omega⟩)) (cwS 3 hts (gS_G k1339 k1340 k13 k1341) rfl rfl rfl (by decide +kernel) ⟨Nat.le_of_ble_eq_true rfl, Nat.le_of_ble_eq_true rfl⟩) ⟨fun a U g mk q => by obtain ⟨q0, q1, qP, qK⟩ := q; exact ⟨q0, q1, qP, va_K.moved (u := U) (U := U.calling g mk a) (Vm.Alike.refl U.vm) qK⟩, fun U hU hW => ⟨rfl, by rw [hU], by rw [hU]; exact hP, va_K.moved hW.alike hK⟩⟩ rfl rfl hl.1 rfl (lv_room (Nat.le_of_ble_eq_true rfl)) dX10_tokenOf_14 ⟨Nat.le_of_ble_eq_true rfl, Nat.le_of_ble_eq_true rfl⟩) hS (fun q _ h => fA_le hS.1 q h) (fA_le hS.1) (fun r9 u9 t9 H1 locs ht9 hvm9 hw9 hB9 hz9 hk9 hS => ?_)
  obtain ⟨μ2, r3⟩ := u9
  obtain ⟨hP, -⟩ := hB9
  rw [ht9] at hP
  generalize H1 = H at hP hS ⊢
  obtain ⟨e9, hw9⟩ := hw9
  have e9 : r9 = iZ r3 := e9
  subst e9
  simp only at hP hw9
  have hμ2 := hw9; clear hw9
  rw [hμ2.1] at hP; have hμ2 := hμ2.2
  have hin := hμ2
  have hin2 := if_01 hμ2
  refine fz_if_ne (tgt := 24) (by constructor <;> omega) hx hb dX10_tokenOf_17 (by decide) (fun c17_ => ?_) (fun c17_ => ?_)
  · have hkk := if_get hin (by omega)
    refine lv_iconst (v := iZ 0) hx hb dX10_tokenOf_24 rfl ?_
    refine lv_iconst (v := iZ 1) hx hb dX10_tokenOf_25 rfl ?_
    refine lv_iconst (v := iZ 0) hx hb dX10_tokenOf_26 rfl ?_
    refine va_calli (va_runV (As := [.int (iZ (0)), .int (iZ (1)), .int (iZ (0))]) (rest := []) ⟨hx, hb, hml, hown, hts⟩ (m_bad2 l dC dI cI cZ cII cIII h0 H.size μ1 (0) (1) (0) (by first | assumption | omega | exact ⟨by omega, by omega⟩) (by first | assumption | omega | exact ⟨by omega, by omega⟩) (by first | assumption | omega | exact ⟨by omega, by omega⟩) (by first | assumption | omega | exact ⟨by omega, by omega⟩)) (cwV 3 hts (gV_G k1342 k1344 ks_yX10_bad k13 k1345) rfl rfl rfl (by decide +kernel) ⟨Nat.le_of_ble_eq_true rfl, Nat.le_of_ble_eq_true rfl⟩) ⟨fun a U g mk q => by obtain ⟨q0, q1, qP, qK⟩ := q; exact ⟨q0, q1, qP, va_K.moved (u := U) (U := U.calling g mk a) (Vm.Alike.refl U.vm) qK⟩, va_recv hK hP (ci := 10) (q0 := 0) rfl ((fw_get (by decide)).trans (by rw [mE_obj]; rfl)), fun U hU hW => ⟨rfl, by rw [hU], by rw [hU]; exact hP, va_K.moved hW.alike hK⟩⟩ rfl rfl hl.1 rfl (lv_room (Nat.le_of_ble_eq_true rfl)) dX10_tokenOf_27 ⟨Nat.le_of_ble_eq_true rfl, Nat.le_of_ble_eq_true rfl⟩) hS (fun q _ h => fA_le hS.1 q h) (fA_le hS.1) (fun r9 u9 t9 H1 locs ht9 hvm9 hw9 hB9 hz9 hk9 hS => ?_)
    obtain ⟨μ4, r5⟩ := u9
    obtain ⟨hP, -⟩ := hB9
    rw [ht9] at hP
    generalize H1 = H at hP hS ⊢
    obtain ⟨e9, hw9⟩ := hw9
    have e9 : r9 = iZ r5 := e9
    subst e9
    simp only at hP hw9
    have hμ4 := hw9; clear hw9
    have hfr := fr_trans hfr (badP_fr hμ4)
    have hrb := badP_r hμ4
    obtain rfl : r5 = 0 := by omega
    refine fz_if_ne (tgt := 57) (by decide) hx hb dX10_tokenOf_30 (by decide) (fun h9 => absurd h9 (by decide)) (fun c30_ => ?_)
    refine lv_aload_n hx hb dX10_tokenOf_33 rfl (lv_at hl 0 rfl) ?_
    refine lv_iload_n hx hb dX10_tokenOf_34 rfl (lv_at hl 2 rfl) ?_
    refine lv_iconst (v := iZ 0) hx hb dX10_tokenOf_35 rfl ?_
    refine lv_bipush (v := iZ 8) hx hb dX10_tokenOf_36 rfl ?_
    refine va_calli (va_runS (As := [.int (iZ (w)), .int (iZ (0)), .int (iZ (8))]) (rest := [.ref h0]) ⟨hx, hb, hml, hown, hts⟩ (m_in l dC dI cI cZ cII cIII h0 H.size μ4 (w) (0) (8) (by first | assumption | omega | exact ⟨by omega, by omega⟩) (by first | assumption | omega | exact ⟨by omega, by omega⟩) (by first | assumption | omega | exact ⟨by omega, by omega⟩)) (cwS 3 hts (gS_G k1339 k1340 k13 k1341) rfl rfl rfl (by decide +kernel) ⟨Nat.le_of_ble_eq_true rfl, Nat.le_of_ble_eq_true rfl⟩) ⟨fun a U g mk q => by obtain ⟨q0, q1, qP, qK⟩ := q; exact ⟨q0, q1, qP, va_K.moved (u := U) (U := U.calling g mk a) (Vm.Alike.refl U.vm) qK⟩, fun U hU hW => ⟨rfl, by rw [hU], by rw [hU]; exact hP, va_K.moved hW.alike hK⟩⟩ rfl rfl hl.1 rfl (lv_room (Nat.le_of_ble_eq_true rfl)) dX10_tokenOf_38 ⟨Nat.le_of_ble_eq_true rfl, Nat.le_of_ble_eq_true rfl⟩) hS (fun q _ h => fA_le hS.1 q h) (fA_le hS.1) (fun r9 u9 t9 H1 locs ht9 hvm9 hw9 hB9 hz9 hk9 hS => ?_)
    obtain ⟨μ6, r7⟩ := u9
    obtain ⟨hP, -⟩ := hB9
    rw [ht9] at hP
    generalize H1 = H at hP hS ⊢
    obtain ⟨e9, hw9⟩ := hw9
    have e9 : r9 = iZ r7 := e9
    subst e9
    simp only at hP hw9
    have hμ6 := hw9; clear hw9
    rw [hμ6.1] at hP; have hμ6 := hμ6.2
    have hin := hμ6
    have hin2 := if_01 hμ6
    refine fz_if_ne (tgt := 48) (by constructor <;> omega) hx hb dX10_tokenOf_41 (by decide) (fun c41_ => ?_) (fun c41_ => ?_)
    · have hw8 := if_get hin (by omega)
      refine lv_iconst (v := iZ 0) hx hb dX10_tokenOf_48 rfl ?_
      refine lv_iconst (v := iZ 2) hx hb dX10_tokenOf_49 rfl ?_
      refine lv_iconst (v := iZ 1) hx hb dX10_tokenOf_50 rfl ?_
      refine va_calli (va_runV (As := [.int (iZ (0)), .int (iZ (2)), .int (iZ (1))]) (rest := []) ⟨hx, hb, hml, hown, hts⟩ (m_bad2 l dC dI cI cZ cII cIII h0 H.size μ4 (0) (2) (1) (by first | assumption | omega | exact ⟨by omega, by omega⟩) (by first | assumption | omega | exact ⟨by omega, by omega⟩) (by first | assumption | omega | exact ⟨by omega, by omega⟩) (by first | assumption | omega | exact ⟨by omega, by omega⟩)) (cwV 3 hts (gV_G k1342 k1344 ks_yX10_bad k13 k1345) rfl rfl rfl (by decide +kernel) ⟨Nat.le_of_ble_eq_true rfl, Nat.le_of_ble_eq_true rfl⟩) ⟨fun a U g mk q => by obtain ⟨q0, q1, qP, qK⟩ := q; exact ⟨q0, q1, qP, va_K.moved (u := U) (U := U.calling g mk a) (Vm.Alike.refl U.vm) qK⟩, va_recv hK hP (ci := 10) (q0 := 0) rfl ((fw_get (by decide)).trans (by rw [mE_obj]; rfl)), fun U hU hW => ⟨rfl, by rw [hU], by rw [hU]; exact hP, va_K.moved hW.alike hK⟩⟩ rfl rfl hl.1 rfl (lv_room (Nat.le_of_ble_eq_true rfl)) dX10_tokenOf_51 ⟨Nat.le_of_ble_eq_true rfl, Nat.le_of_ble_eq_true rfl⟩) hS (fun q _ h => fA_le hS.1 q h) (fA_le hS.1) (fun r9 u9 t9 H1 locs ht9 hvm9 hw9 hB9 hz9 hk9 hS => ?_)
      obtain ⟨μ8, r10⟩ := u9
      obtain ⟨hP, -⟩ := hB9
      rw [ht9] at hP
      generalize H1 = H at hP hS ⊢
      obtain ⟨e9, hw9⟩ := hw9
      have e9 : r9 = iZ r10 := e9
      subst e9
      simp only at hP hw9
      have hμ8 := hw9; clear hw9
      have hfr := fr_trans hfr (badP_fr hμ8)
      have hrb := badP_r hμ8
      obtain rfl : r10 = 0 := by omega
      refine fz_if_eq (tgt := 59) (by decide) hx hb dX10_tokenOf_54 (by decide) (fun c54_ => ?_) (fun h9 => absurd h9 (by decide))
      have hQ2 := RQ_fr hQ hfr
      obtain ⟨k10, ⟨kT, kTb, kTw⟩, kS3, kPg, kw, kwB, kwT⟩ := hQ2
      have e10k := hfr 0 10 (PS_n (by omega))
      have e9k := hfr 0 9 (PS_n (by omega))
      have e71k := hfr 719 0 (PS_n (by omega))
      have ktk := TR_tok kwT kwB.1 kwB.2.1
      have kt1 := ktk.1
      have kt2 := ktk.2.1
      have e3 := hfr 3 k.toNat (PS_n (by omega))
      have e4 := hfr 4 k.toNat (PS_n (by omega))
      have e5 := hfr 5 k.toNat (PS_n (by omega))
      have kT1 := kTb.1
      have kT2 := kTb.2.1
      obtain ⟨te, hte⟩ : ∃ e, T[k.toNat]? = some e := tab_get (by have := hTR.1; omega)
      obtain ⟨c1, c2, c3⟩ := hTR.2.2 _ _ hte
      obtain ⟨d1, d2, d3, d4, d5⟩ := hTW _ _ hte
      have hte9 := hTV _ _ hte
      have h60 := hte9.2.1
      have cd9 : cd2 (0 ≤ k ∧ k < μ 0 9) (0 ≤ w ∧ w ≤ 8) = 0 := cd2_0 (by omega) (by omega)
      refine lv_iload_n hx hb dX10_tokenOf_59 rfl (lv_at hl 2 rfl) ?_
      refine fz_if_ne (tgt := 72) (by constructor <;> omega) hx hb dX10_tokenOf_60 (by decide) (fun c60_ => ?_) (fun c60_ => ?_)
      · refine lv_iload_n hx hb dX10_tokenOf_72 rfl (lv_at hl 2 rfl) ?_
        refine lv_iconst (v := iZ 1) hx hb dX10_tokenOf_73 rfl ?_
        refine fz_icmp_ne (tgt := 86) (by constructor <;> omega) (by decide) hx hb dX10_tokenOf_74 (by decide) (fun c74_ => ?_) (fun c74_ => ?_)
        · refine lv_iload_n hx hb dX10_tokenOf_86 rfl (lv_at hl 2 rfl) ?_
          refine lv_bipush (v := iZ 8) hx hb dX10_tokenOf_87 rfl ?_
          refine fz_icmp_ge (tgt := 103) (by constructor <;> omega) (by decide) hx hb dX10_tokenOf_89 (by decide) (fun c89_ => ?_) (fun c89_ => ?_)
          · refine lv_aload_n hx hb dX10_tokenOf_103 rfl (lv_at hl 0 rfl) ?_
            refine lv_iload_n hx hb dX10_tokenOf_104 rfl (lv_at hl 1 rfl) ?_
            refine va_calli (va_runV (As := [.int (iZ (k))]) (rest := []) ⟨hx, hb, hml, hown, hts⟩ (m_pagesWith2 l dC dI cI cZ cII cIII h0 H.size μ8 (k) (by exact RQ_fr hQ hfr) (by exact hkR)) (cwV 1 hts (gV_G k1615 k1617 ks_yX10_pagesWith k13 k1618) rfl rfl rfl (by decide +kernel) ⟨Nat.le_of_ble_eq_true rfl, Nat.le_of_ble_eq_true rfl⟩) ⟨fun a U g mk q => by obtain ⟨q0, q1, qP, qK⟩ := q; exact ⟨q0, q1, qP, va_K.moved (u := U) (U := U.calling g mk a) (Vm.Alike.refl U.vm) qK⟩, va_recv hK hP (ci := 10) (q0 := 0) rfl ((fw_get (by decide)).trans (by rw [mE_obj]; rfl)), fun U hU hW => ⟨rfl, by rw [hU], by rw [hU]; exact hP, va_K.moved hW.alike hK⟩⟩ rfl rfl hl.1 rfl (lv_room (Nat.le_of_ble_eq_true rfl)) dX10_tokenOf_105 ⟨Nat.le_of_ble_eq_true rfl, Nat.le_of_ble_eq_true rfl⟩) hS (fun q _ h => fA_le hS.1 q h) (fA_le hS.1) (fun r9 u9 t9 H1 locs ht9 hvm9 hw9 hB9 hz9 hk9 hS => ?_)
            obtain ⟨μ11, r12⟩ := u9
            obtain ⟨hP, -⟩ := hB9
            rw [ht9] at hP
            generalize H1 = H at hP hS ⊢
            obtain ⟨e9, hw9⟩ := hw9
            have e9 : r9 = iZ r12 := e9
            subst e9
            simp only at hP hw9
            have hμ11 := hw9; clear hw9
            rw [hμ11.1] at hP; have hμ11 := hμ11.2
            exact W.iret (v := iZ (r12)) hx hb hr (fun t9 ht9 hW9 => ⟨⟨iZ (r12), (μ8, r12), rfl, ⟨rfl, (by
                                dsimp only
                                refine ⟨⟨hfr, by omega⟩, by omega, fun _ t9 ht9 => ?_⟩
                                cases hte.symm.trans ht9
                                rw [tkA, if_neg (by omega), if_neg (by omega), if_pos (by omega)]; exact (hμ11).trans (pwM_fr hfr (by omega)))⟩, by rw [ht9]; exact hP, va_K.moved hW9.alike hK⟩, hS.F ht9⟩) hS.2.2 dX10_tokenOf_108
          · refine lv_aload_n hx hb dX10_tokenOf_92 rfl (lv_at hl 0 rfl) ?_
            refine lv_iload_n hx hb dX10_tokenOf_93 rfl (lv_at hl 1 rfl) ?_
            refine lv_iload_n hx hb dX10_tokenOf_94 rfl (lv_at hl 2 rfl) ?_
            refine lv_iconst (v := iZ 2) hx hb dX10_tokenOf_95 rfl ?_
            refine lv_isub hx hb dX10_tokenOf_96 ?_
            refine lv_topi (fun x9 ex9 => ?_)
            obtain rfl : x9 = iZ (w - 2) := ex9.trans (iZ_sub _ _)
            refine va_calli (va_runV (As := [.int (iZ (k)), .int (iZ (w - 2))]) (rest := []) ⟨hx, hb, hml, hown, hts⟩ (m_letter2 l dC dI cI cZ cII cIII h0 H.size μ8 (k) (w - 2) (te) (by first | assumption | omega | exact ⟨by omega, by omega⟩) (by first | assumption | omega | exact ⟨by omega, by omega⟩) (by exact ⟨⟨by omega, by omega⟩, by omega⟩) (by omega) (by exact hte9)) (cwV 2 hts (gV_G k1611 k1613 ks_yX10_letter k13 k1614) rfl rfl rfl (by decide +kernel) ⟨Nat.le_of_ble_eq_true rfl, Nat.le_of_ble_eq_true rfl⟩) ⟨fun a U g mk q => by obtain ⟨q0, q1, qP, qK⟩ := q; exact ⟨q0, q1, qP, va_K.moved (u := U) (U := U.calling g mk a) (Vm.Alike.refl U.vm) qK⟩, va_recv hK hP (ci := 10) (q0 := 0) rfl ((fw_get (by decide)).trans (by rw [mE_obj]; rfl)), fun U hU hW => ⟨rfl, by rw [hU], by rw [hU]; exact hP, va_K.moved hW.alike hK⟩⟩ rfl rfl hl.1 rfl (lv_room (Nat.le_of_ble_eq_true rfl)) dX10_tokenOf_97 ⟨Nat.le_of_ble_eq_true rfl, Nat.le_of_ble_eq_true rfl⟩) hS (fun q _ h => fA_le hS.1 q h) (fA_le hS.1) (fun r9 u9 t9 H1 locs ht9 hvm9 hw9 hB9 hz9 hk9 hS => ?_)
            obtain ⟨μ13, r14⟩ := u9
            obtain ⟨hP, -⟩ := hB9
            rw [ht9] at hP
            generalize H1 = H at hP hS ⊢
            obtain ⟨e9, hw9⟩ := hw9
            have e9 : r9 = iZ r14 := e9
            subst e9
            simp only at hP hw9
            have hμ13 := hw9; clear hw9
            rw [hμ13.1] at hP; have hμ13 := hμ13.2
            refine lv_goto (tgt := 108) hx hb dX10_tokenOf_100 (by decide) ?_
            exact W.iret (v := iZ (r14)) hx hb hr (fun t9 ht9 hW9 => ⟨⟨iZ (r14), (μ8, r14), rfl, ⟨rfl, (by
                                dsimp only
                                refine ⟨⟨hfr, by omega⟩, by omega, fun _ t9 ht9 => ?_⟩
                                cases hte.symm.trans ht9
                                rw [tkA, if_neg (by omega), if_neg (by omega), if_neg (by omega)]; exact hμ13)⟩, by rw [ht9]; exact hP, va_K.moved hW9.alike hK⟩, hS.F ht9⟩) hS.2.2 dX10_tokenOf_108
        · refine lv_aload_n hx hb dX10_tokenOf_77 rfl (lv_at hl 0 rfl) ?_
          refine fz_get (D := (dC, dI)) (ci := 10) (v := .ref (h0 + 5)) (C := RX10) (T := TX10) (N := 53) hx hb hts inG10 hown hK hP (k := 0) (by decide) (F := mF h0) mE_obj rfl 13 (by decide) (hts _ k1179) (fun _ h9 => h9) rfl dX10_tokenOf_78 ?_
          refine lv_iload_n hx hb dX10_tokenOf_81 rfl (lv_at hl 1 rfl) ?_
          refine fz_ld (k := 5) (n := 201) hx hb hK hP 0 (by decide) mE_tokenLong rfl ⟨by omega, by omega⟩ (by decide) dX10_tokenOf_82 ?_
          refine lv_goto (tgt := 108) hx hb dX10_tokenOf_83 (by decide) ?_
          exact W.iret (v := iZ (μ8 5 (k).toNat)) hx hb hr (fun t9 ht9 hW9 => ⟨⟨iZ (μ8 5 (k).toNat), (μ8, μ8 5 (k).toNat), rfl, ⟨rfl, (by
                            dsimp only
                            refine ⟨⟨hfr, by omega⟩, by omega, fun _ t9 ht9 => ?_⟩
                            cases hte.symm.trans ht9
                            rw [tkA, if_neg (by omega), if_pos (by omega)]; omega)⟩, by rw [ht9]; exact hP, va_K.moved hW9.alike hK⟩, hS.F ht9⟩) hS.2.2 dX10_tokenOf_108
      · refine lv_aload_n hx hb dX10_tokenOf_63 rfl (lv_at hl 0 rfl) ?_
        refine fz_get (D := (dC, dI)) (ci := 10) (v := .ref (h0 + 3)) (C := RX10) (T := TX10) (N := 53) hx hb hts inG10 hown hK hP (k := 0) (by decide) (F := mF h0) mE_obj rfl 11 (by decide) (hts _ k1177) (fun _ h9 => h9) rfl dX10_tokenOf_64 ?_
        refine lv_iload_n hx hb dX10_tokenOf_67 rfl (lv_at hl 1 rfl) ?_
        refine fz_ld (k := 3) (n := 201) hx hb hK hP 0 (by decide) mE_tokenSort rfl ⟨by omega, by omega⟩ (by decide) dX10_tokenOf_68 ?_
        refine lv_goto (tgt := 108) hx hb dX10_tokenOf_69 (by decide) ?_
        exact W.iret (v := iZ (μ8 3 (k).toNat)) hx hb hr (fun t9 ht9 hW9 => ⟨⟨iZ (μ8 3 (k).toNat), (μ8, μ8 3 (k).toNat), rfl, ⟨rfl, (by
                        dsimp only
                        refine ⟨⟨hfr, by omega⟩, by omega, fun _ t9 ht9 => ?_⟩
                        cases hte.symm.trans ht9
                        rw [tkA, if_pos (by omega)]; omega)⟩, by rw [ht9]; exact hP, va_K.moved hW9.alike hK⟩, hS.F ht9⟩) hS.2.2 dX10_tokenOf_108
    · have hwn := if_not hin (by omega)
      refine lv_iconst (v := iZ 1) hx hb dX10_tokenOf_44 rfl ?_
      refine lv_goto (tgt := 49) hx hb dX10_tokenOf_45 (by decide) ?_
      refine lv_iconst (v := iZ 2) hx hb dX10_tokenOf_49 rfl ?_
      refine lv_iconst (v := iZ 1) hx hb dX10_tokenOf_50 rfl ?_
      refine va_calli (va_runV (As := [.int (iZ (1)), .int (iZ (2)), .int (iZ (1))]) (rest := []) ⟨hx, hb, hml, hown, hts⟩ (m_bad2 l dC dI cI cZ cII cIII h0 H.size μ4 (1) (2) (1) (by first | assumption | omega | exact ⟨by omega, by omega⟩) (by first | assumption | omega | exact ⟨by omega, by omega⟩) (by first | assumption | omega | exact ⟨by omega, by omega⟩) (by first | assumption | omega | exact ⟨by omega, by omega⟩)) (cwV 3 hts (gV_G k1342 k1344 ks_yX10_bad k13 k1345) rfl rfl rfl (by decide +kernel) ⟨Nat.le_of_ble_eq_true rfl, Nat.le_of_ble_eq_true rfl⟩) ⟨fun a U g mk q => by obtain ⟨q0, q1, qP, qK⟩ := q; exact ⟨q0, q1, qP, va_K.moved (u := U) (U := U.calling g mk a) (Vm.Alike.refl U.vm) qK⟩, va_recv hK hP (ci := 10) (q0 := 0) rfl ((fw_get (by decide)).trans (by rw [mE_obj]; rfl)), fun U hU hW => ⟨rfl, by rw [hU], by rw [hU]; exact hP, va_K.moved hW.alike hK⟩⟩ rfl rfl hl.1 rfl (lv_room (Nat.le_of_ble_eq_true rfl)) dX10_tokenOf_51 ⟨Nat.le_of_ble_eq_true rfl, Nat.le_of_ble_eq_true rfl⟩) hS (fun q _ h => fA_le hS.1 q h) (fA_le hS.1) (fun r9 u9 t9 H1 locs ht9 hvm9 hw9 hB9 hz9 hk9 hS => ?_)
      obtain ⟨μ15, r16⟩ := u9
      obtain ⟨hP, -⟩ := hB9
      rw [ht9] at hP
      generalize H1 = H at hP hS ⊢
      obtain ⟨e9, hw9⟩ := hw9
      have e9 : r9 = iZ r16 := e9
      subst e9
      simp only at hP hw9
      have hμ15 := hw9; clear hw9
      have hfr := fr_trans hfr (badP_fr hμ15)
      have hrb := badP_r hμ15
      obtain rfl : r16 = 1 := by omega
      refine fz_if_eq (tgt := 59) (by decide) hx hb dX10_tokenOf_54 (by decide) (fun h9 => absurd h9 (by decide)) (fun c54_ => ?_)
      refine lv_iconst (v := iZ 0) hx hb dX10_tokenOf_57 rfl ?_
      exact W.iret (v := iZ (0)) hx hb hr (fun t9 ht9 hW9 => ⟨⟨iZ (0), (μ15, 0), rfl, ⟨rfl, (by
                    dsimp only
                    have cd9 : cd2 (0 ≤ k ∧ k < μ 0 9) (0 ≤ w ∧ w ≤ 8) = 2 := cd2_2 (by omega) (by omega)
                    exact ⟨⟨hfr, by omega⟩, by omega, fun hc => absurd (cd9.symm.trans hc) (by decide)⟩)⟩, by rw [ht9]; exact hP, va_K.moved hW9.alike hK⟩, hS.F ht9⟩) hS.2.2 dX10_tokenOf_58
  · have hkn := if_not hin (by omega)
    refine lv_iconst (v := iZ 1) hx hb dX10_tokenOf_20 rfl ?_
    refine lv_goto (tgt := 25) hx hb dX10_tokenOf_21 (by decide) ?_
    refine lv_iconst (v := iZ 1) hx hb dX10_tokenOf_25 rfl ?_
    refine lv_iconst (v := iZ 0) hx hb dX10_tokenOf_26 rfl ?_
    refine va_calli (va_runV (As := [.int (iZ (1)), .int (iZ (1)), .int (iZ (0))]) (rest := []) ⟨hx, hb, hml, hown, hts⟩ (m_bad2 l dC dI cI cZ cII cIII h0 H.size μ1 (1) (1) (0) (by first | assumption | omega | exact ⟨by omega, by omega⟩) (by first | assumption | omega | exact ⟨by omega, by omega⟩) (by first | assumption | omega | exact ⟨by omega, by omega⟩) (by first | assumption | omega | exact ⟨by omega, by omega⟩)) (cwV 3 hts (gV_G k1342 k1344 ks_yX10_bad k13 k1345) rfl rfl rfl (by decide +kernel) ⟨Nat.le_of_ble_eq_true rfl, Nat.le_of_ble_eq_true rfl⟩) ⟨fun a U g mk q => by obtain ⟨q0, q1, qP, qK⟩ := q; exact ⟨q0, q1, qP, va_K.moved (u := U) (U := U.calling g mk a) (Vm.Alike.refl U.vm) qK⟩, va_recv hK hP (ci := 10) (q0 := 0) rfl ((fw_get (by decide)).trans (by rw [mE_obj]; rfl)), fun U hU hW => ⟨rfl, by rw [hU], by rw [hU]; exact hP, va_K.moved hW.alike hK⟩⟩ rfl rfl hl.1 rfl (lv_room (Nat.le_of_ble_eq_true rfl)) dX10_tokenOf_27 ⟨Nat.le_of_ble_eq_true rfl, Nat.le_of_ble_eq_true rfl⟩) hS (fun q _ h => fA_le hS.1 q h) (fA_le hS.1) (fun r9 u9 t9 H1 locs ht9 hvm9 hw9 hB9 hz9 hk9 hS => ?_)
    obtain ⟨μ17, r18⟩ := u9
    obtain ⟨hP, -⟩ := hB9
    rw [ht9] at hP
    generalize H1 = H at hP hS ⊢
    obtain ⟨e9, hw9⟩ := hw9
    have e9 : r9 = iZ r18 := e9
    subst e9
    simp only at hP hw9
    have hμ17 := hw9; clear hw9
    have hfr := fr_trans hfr (badP_fr hμ17)
    have hrb := badP_r hμ17
    obtain rfl : r18 = 1 := by omega
    refine fz_if_ne (tgt := 57) (by decide) hx hb dX10_tokenOf_30 (by decide) (fun c30_ => ?_) (fun h9 => absurd h9 (by decide))
    refine lv_iconst (v := iZ 0) hx hb dX10_tokenOf_57 rfl ?_
    exact W.iret (v := iZ (0)) hx hb hr (fun t9 ht9 hW9 => ⟨⟨iZ (0), (μ17, 0), rfl, ⟨rfl, (by
                dsimp only
                have cd9 : cd2 (0 ≤ k ∧ k < μ 0 9) (0 ≤ w ∧ w ≤ 8) = 1 := cd2_1 (by omega)
                exact ⟨⟨hfr, by omega⟩, by omega, fun hc => absurd (cd9.symm.trans hc) (by decide)⟩)⟩, by rw [ht9]; exact hP, va_K.moved hW9.alike hK⟩, hS.F ht9⟩) hS.2.2 dX10_tokenOf_58

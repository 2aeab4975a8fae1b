theorem dX4_seal_0 : decode cX4_seal 0 = .ok (.aload_n 0, 1) := by decide +kernel
theorem dX4_seal_1 : decode cX4_seal 1 = .ok (.aload_n 0, 1) := by decide +kernel
theorem dX4_seal_2 : decode cX4_seal 2 = .ok (.getfield 18, 3) := by decide +kernel
theorem dX4_seal_5 : decode cX4_seal 5 = .ok (.ifCond .eq 7, 3) := by decide +kernel
theorem dX4_seal_8 : decode cX4_seal 8 = .ok (.iconst 0, 1) := by decide +kernel
theorem dX4_seal_9 : decode cX4_seal 9 = .ok (.goto 7, 3) := by decide +kernel
theorem dX4_seal_12 : decode cX4_seal 12 = .ok (.aload_n 0, 1) := by decide +kernel
theorem dX4_seal_13 : decode cX4_seal 13 = .ok (.getfield 9, 3) := by decide +kernel
theorem dX4_seal_16 : decode cX4_seal 16 = .ok (.putfield 9, 3) := by decide +kernel
theorem dX4_seal_19 : decode cX4_seal 19 = .ok (.aload_n 0, 1) := by decide +kernel
theorem dX4_seal_20 : decode cX4_seal 20 = .ok (.iconst 0, 1) := by decide +kernel
theorem dX4_seal_21 : decode cX4_seal 21 = .ok (.putfield 15, 3) := by decide +kernel
theorem dX4_seal_24 : decode cX4_seal 24 = .ok (.aload_n 0, 1) := by decide +kernel
theorem dX4_seal_25 : decode cX4_seal 25 = .ok (.getfield 35, 3) := by decide +kernel
theorem dX4_seal_28 : decode cX4_seal 28 = .ok (.iconst 0, 1) := by decide +kernel
theorem dX4_seal_29 : decode cX4_seal 29 = .ok (.iconst 0, 1) := by decide +kernel
theorem dX4_seal_30 : decode cX4_seal 30 = .ok (.iastore, 1) := by decide +kernel
theorem dX4_seal_31 : decode cX4_seal 31 = .ok (.iconst (-1), 1) := by decide +kernel
theorem dX4_seal_32 : decode cX4_seal 32 = .ok (.istore_n 1, 1) := by decide +kernel
theorem dX4_seal_33 : decode cX4_seal 33 = .ok (.iconst 0, 1) := by decide +kernel
theorem dX4_seal_34 : decode cX4_seal 34 = .ok (.istore_n 2, 1) := by decide +kernel
theorem dX4_seal_175 : decode cX4_seal 175 = .ok (.return_, 1) := by decide +kernel
/-! a row that is sealed -/
def rowS (μ : va_M) (q : Nat) (w : Rw) : Prop := (μ q 5 = sL w ∧ μ q 6 = rN w ∧ μ (q + 3) (sL w) = rL w) ∧ SA μ (q + 1) w 0 ∧ SS μ q w 0 0 0
def SEq (q x y : Nat) : Prop := (x = q ∧ (y = 5 ∨ y = 6)) ∨ (q + 2 ≤ x ∧ x ≤ q + 5)
/-- the same, but that no mate is written from place n on -/
def SEw (q n x y : Nat) : Prop := SEq q x y ∧ (x = q + 2 → y < n)
theorem SQ_SE {q p p2 n n2 x y : Nat} (h : SQ q p p2 n n2 x y) : SEw q p2 x y := by unfold SQ at h; unfold SEw SEq; omega
set_option maxHeartbeats 4000000 in
set_option maxRecDepth 100000 in
theorem LX4_seal_35 {p : Program} {l : Launch} {e : Env} {R : Room} {s : State} {m : MethodId} {args : Array Value} {below : List Frame} {meth : Method} {c : Code} {cells slots : Nat} {Q : State → Prop} {dC : Nat → ClassId} {dI : Nat → Nat → Nat} {h0 : Nat} {cI cZ cII cIII : ClassId} (hx : p.tables.exec = Jvm.exec) (hb : c.code = cX4_seal) (hml : c.maxLocals = 5) (hown : s.vm.findClass RX4 = some m.cls) (hts : ∀ w ∈ wsG, w.before args s = true) (hK : va_K (dC, dI) vwCl (sT cI cZ cII cIII) s) (hM : xM s) (hRf : 2 ≤ R.frames) (hRl : 34 ≤ R.locals) (hRc : cells ≤ R.cells) (hRs : slots ≤ R.slots) (μ0 : va_M) (q : Nat) (rm : Nat) (w : Rw) (hq : rowB q rm) (hlen : 0 ≤ μ0 q 5 ∧ μ0 q 5 ≤ rm) (hw : rW0 w) (hA : SA μ0 (q + 1) w 0) (hL : μ0 q 5 = sL w) (h3 : μ0 (q + 3) 0 = 0) (h6 : μ0 q 6 = 0) (hexit175 : ∀ (i : Int) (op : Int) (μ : va_M) (H : Heap) (locs : List Loc) (ls : Array Slot), (fr (SQ q 0 (sL w) 0 (rN w)) μ0 μ) → (SS μ q w 0 0 0) → (μ (q + 3) (sL w) = rL w) → (μ q 6 = rN w) → va_P (dC, dI) vwCl (fw (sE cI cZ cII cIII h0) h0 233 μ) H → va_S (fA h0 233 s.heap.size) s.heap H locs → lv_has ls 5 [(0, .ref (h0 + q))] → W p l e R s m args below meth c H locs cells slots Q (F0 m 175 ls [])) :
    ∀ (n9 : Nat) (i : Int) (op : Int) (μ : va_M) (H : Heap) (locs : List Loc) (ls : Array Slot), (μ = μ0) → (i = 0 ∧ op = -1) → 1 < n9 → va_P (dC, dI) vwCl (fw (sE cI cZ cII cIII h0) h0 233 μ) H → va_S (fA h0 233 s.heap.size) s.heap H locs → lv_has ls 5 [(2, .int (iZ (i))), (1, .int (iZ (op))), (0, .ref (h0 + q))] → W p l e R s m args below meth c H locs cells slots Q (F0 m 35 ls []) := by
  intro n9 i op μ H locs ls hm9_ hi hm9 hP hS hl
  subst hm9_
  obtain ⟨rfl, rfl⟩ := hi
  refine seal_walk hx hb hml hown hts hK hM hRf hRl hRc hRs q rm hq w 0 0 0 (-1) μ H locs ls hw hA (by omega) hlen (Nat.le_refl _) (Nat.le_refl _) h3 h6 (by omega) (fun h => absurd h (by decide)) hP hS hl (fun μ2 H locs ls g1 g2 g3 g4 hP hS hl => ?_)
  rw [Nat.zero_add, Nat.zero_add] at g1 g3
  rw [Nat.zero_add] at g4 hl
  have e5 := g1 q 5 no0
  exact TX4_seal_35b hx hb hml hown hts hK hM hRf hRl hRc hRs μ2 q rm hq (by omega) (fun i op μ3 H5 locs5 ls5 q1 hP5 hS5 hl5 => hexit175 i op μ3 H5 locs5 ls5 (by rw [q1]; exact g1) (by rw [q1]; exact g2) (by rw [q1]; exact g3) (by rw [q1]; exact g4) hP5 hS5 hl5) _ _ μ2 H locs ls rfl (by omega) hP hS hl
set_option maxHeartbeats 4000000 in
set_option maxRecDepth 100000 in
theorem s_Rseal (l : Launch) (dC : Nat → ClassId) (dI : Nat → Nat → Nat) (cI cZ cII cIII : ClassId) (h0 sz : Nat) (μ : va_M) (q : Nat) (rm : Nat) (w : Rw) (hq : rowB q rm) (hlen : 0 ≤ μ q 5 ∧ μ q 5 ≤ rm) (hw : rW0 w ∧ ((μ q 7 = 0 ∧ SA μ (q + 1) w 0 ∧ μ q 5 = sL w) ∨ (μ q 7 = 1 ∧ w = .leaf))) : Met l yX4_seal (Cond.code yX4_seal cX4_seal 5 none :: wsG) ({ frames := 2, cells := 0, slots := 0, locals := 34 } : Room) (va_Pc [.ref (h0 + q)] (fun U => U.heap.size = sz ∧ va_P (dC, dI) vwCl (fw (sE cI cZ cII cIII h0) h0 233 μ) U.heap ∧ va_K (dC, dI) vwCl (sT cI cZ cII cIII) U ∧ xM U)) (va_Qv (fun (u : va_M) => rowS u q w ∧ fr (SEw q (sL w)) μ u) (fun u t => va_P (dC, dI) vwCl (fw (sE cI cZ cII cIII h0) h0 233 u) t.heap ∧ va_K (dC, dI) vwCl (sT cI cZ cII cIII) t) (fA h0 233 sz)) 0 0 (fA h0 233 sz) := by
  refine Met.ofW (cc := cX4_seal) (maxL := 5) (ret := none) (by decide) rfl ?_
  intro p e s m args below meth c s₁ B hml hv
  obtain ⟨rfl, hsz, hP, hK, hM⟩ := hv
  have hx := B.exec
  have hb := B.bytes
  have hr := B.returns
  have hts : ∀ w ∈ wsG, w.before _ s = true := hG_of (atoms_spec (ws := (Cond.code yX4_seal cX4_seal 5 none :: wsG)) B.pre)
  have hown : s.vm.findClass RX4 = some m.cls := findClass_of_methodNamed B.named
  have hlocks := B.notSynchronized
  subst hsz
  have hS : va_S (fA h0 233 s.heap.size) s.heap s.heap [] := va_S.rf
  have hl := lv_entry ([.ref (h0 + q)]) (n := 5) (Nat.le_of_ble_eq_true rfl)
  rw [lg_entry_eq]
  generalize (lg_sl ([.ref (h0 + q)]) ++ List.replicate (5 - (lg_sl ([.ref (h0 + q)])).length) Slot.unset).toArray = ls at hl ⊢
  have hl : lv_has ls 5 [(0, .ref (h0 + q))] := hl
  have hqb := rowB_b hq
  obtain ⟨w1_, w2_⟩ := hw
  have h701 : μ q 7 = 0 ∨ μ q 7 = 1 := by rcases w2_ with ⟨h, _⟩ | ⟨h, _⟩ <;> omega
  refine lv_aload_n hx hb dX4_seal_0 rfl (lv_at hl 0 rfl) ?_
  refine lv_aload_n hx hb dX4_seal_1 rfl (lv_at hl 0 rfl) ?_
  refine fz_get (D := (dC, dI)) (ci := 4) (v := .int (iZ (μ q 7))) (C := RX4) (T := TX4) (N := 8) hx hb hts inG4 hown hK hP (k := q) (by omega) (F := (sRF h0 q)) (sE_rowO hq) rfl 7 (by decide) (hts _ k103) (fun _ h9 => h9) rfl dX4_seal_2 ?_
  refine fz_if_eq (tgt := 12) (by constructor <;> omega) hx hb dX4_seal_5 (by decide) (fun c5_ => ?_) (fun c5_ => ?_)
  · refine lv_aload_n hx hb dX4_seal_12 rfl (lv_at hl 0 rfl) ?_
    refine fz_get (D := (dC, dI)) (ci := 4) (v := .int (iZ (μ q 5))) (C := RX4) (T := TX4) (N := 8) hx hb hts inG4 hown hK hP (k := q) (by omega) (F := (sRF h0 q)) (sE_rowO hq) rfl 5 (by decide) (hts _ k92) (fun _ h9 => h9) rfl dX4_seal_13 ?_
    refine fz_put (D := (dC, dI)) (ci := 4) (ty := .int) (z := (μ q 5)) (C := RX4) (T := TX4) (N := 8) hx hb hts inG4 tyX4 tyX4_ok nmX4 hown hK hP fA_in hS (k := q) (by omega) (F := (sRF h0 q)) (sE_rowO hq) rfl 5 (by decide) (hts _ k92) (fun _ h9 => h9) rfl (by decide +kernel) rfl rfl (fun _ => Nat.le_of_ble_eq_true rfl) (fun _ _ => rfl) dX4_seal_16 (fun H locs hP hS => ?_)
    obtain ⟨μ1, eμ1⟩ : ∃ x : va_M, x = uz μ q 5 (μ q 5) := ⟨_, rfl⟩
    rw [← eμ1] at hP
    refine lv_aload_n hx hb dX4_seal_19 rfl (lv_at hl 0 rfl) ?_
    refine lv_iconst (v := iZ 0) hx hb dX4_seal_20 rfl ?_
    refine fz_put (D := (dC, dI)) (ci := 4) (ty := .int) (z := 0) (C := RX4) (T := TX4) (N := 8) hx hb hts inG4 tyX4 tyX4_ok nmX4 hown hK hP fA_in hS (k := q) (by omega) (F := (sRF h0 q)) (sE_rowO hq) rfl 6 (by decide) (hts _ k100) (fun _ h9 => h9) rfl (by decide +kernel) rfl rfl (fun _ => Nat.le_of_ble_eq_true rfl) (fun _ _ => rfl) dX4_seal_21 (fun H locs hP hS => ?_)
    obtain ⟨μ2, eμ2⟩ : ∃ x : va_M, x = uz μ1 q 6 (0) := ⟨_, rfl⟩
    rw [← eμ2] at hP
    refine lv_aload_n hx hb dX4_seal_24 rfl (lv_at hl 0 rfl) ?_
    refine fz_get (D := (dC, dI)) (ci := 4) (v := .ref (h0 + (q + 3))) (C := RX4) (T := TX4) (N := 8) hx hb hts inG4 hown hK hP (k := q) (by omega) (F := (sRF h0 q)) (sE_rowO hq) rfl 2 (by decide) (hts _ k87) (fun _ h9 => h9) rfl dX4_seal_25 ?_
    refine lv_iconst (v := iZ 0) hx hb dX4_seal_28 rfl ?_
    refine lv_iconst (v := iZ 0) hx hb dX4_seal_29 rfl ?_
    refine fz_st (k := (q + 3)) (n := (rm + 1)) (i := 0) (z := 0) hx hb hK hP fA_in hS 0 (by omega) (sE_row3 hq) rfl ⟨by omega, by omega⟩ (by omega) dX4_seal_30 (fun H locs hP hS => ?_)
    rw [show (0 : Int).toNat = 0 from rfl] at hP
    obtain ⟨μ3, eμ3⟩ : ∃ x : va_M, x = uz μ2 (q + 3) 0 (0) := ⟨_, rfl⟩
    rw [← eμ3] at hP
    have hf3 : fr (SEw q (sL w)) μ μ3 := by rw [eμ3, eμ2, eμ1]; exact fr_uz (fr_uz (fr_uz fr_rfl (by unfold SEw SEq; omega)) (by unfold SEw SEq; omega)) (by unfold SEw SEq; omega)
    have z3 : μ3 (q + 3) 0 = 0 := by rw [eμ3, eμ2, eμ1, uz_s]
    have z6 : μ3 q 6 = 0 := by rw [eμ3, eμ2, eμ1, uz_n (by omega), uz_s]
    have z1 : ∀ y, μ3 (q + 1) y = μ (q + 1) y := fun y => hf3 _ _ (by unfold SEw SEq; omega)
    have hL9 : μ3 q 5 = sL w := by
      rw [eμ3, eμ2, eμ1, uz_n (by omega), uz_n (by omega), uz_s]
      exact w2_.elim (fun h => h.2.2) (fun h => absurd h.1 (by omega))
    have hA9 : SA μ (q + 1) w 0 := w2_.elim (fun h => h.2.1) (fun h => absurd h.1 (by omega))
    refine lv_iconst (v := iZ (-1)) hx hb dX4_seal_31 rfl ?_
    refine lv_istore_n (lv' := [(1, .int (iZ ((-1)))), (0, .ref (h0 + q))]) hx hb dX4_seal_32 rfl hl (by decide) rfl (fun ls hl => ?_)
    refine lv_iconst (v := iZ 0) hx hb dX4_seal_33 rfl ?_
    refine lv_istore_n (lv' := [(2, .int (iZ (0))), (1, .int (iZ ((-1)))), (0, .ref (h0 + q))]) hx hb dX4_seal_34 rfl hl (by decide) rfl (fun ls hl => ?_)
    refine LX4_seal_35 hx hb hml hown hts hK hM (Nat.le_of_ble_eq_true rfl) (Nat.le_of_ble_eq_true rfl) (Nat.le_of_ble_eq_true rfl) (Nat.le_of_ble_eq_true rfl) (μ3) (q) (rm) (w) (by exact hq) (by
                rw [eμ3, eμ2, eμ1, uz_n (by omega), uz_n (by omega), uz_s]
                omega) (by exact w1_) (by exact SA_fr z1 w 0 hA9) (by exact hL9) (by exact z3) (by exact z6) ?_ _ (0) ((-1)) μ3 H locs ls (by rfl) (by exact ⟨rfl, rfl⟩) (Nat.lt_succ_self _) hP hS (lv_sub hl [0, 1, 2] rfl)
    · intro i_4 op_4 μ4_ H locs ls q1_4 q2_4 q3_4 q4_4 hP hS hl
      have hl : lv_has ls 5 [(0, .ref (h0 + q))] := hl
      exact W.vret hx hb hr (fun t9 ht9 hW9 => ⟨⟨μ4_, rfl, (by
                    try dsimp only
                    have e5 := q1_4 q 5 no0
                    have k1 := fr_trans hf3 (fr_mono q1_4 (fun x y h => SQ_SE h))
                    refine ⟨⟨⟨?_, q4_4, q3_4⟩, SA_fr (fun y => k1 _ _ (by unfold SEw SEq; omega)) w 0 ?_, q2_4⟩, k1⟩
                    · rw [e5]; exact hL9
                    · exact hA9), by rw [ht9]; exact hP, va_K.moved hW9.alike hK⟩, hS.F ht9⟩) hS.2.2 dX4_seal_175
  · refine lv_iconst (v := iZ 0) hx hb dX4_seal_8 rfl ?_
    refine lv_goto (tgt := 16) hx hb dX4_seal_9 (by decide) ?_
    refine fz_put (D := (dC, dI)) (ci := 4) (ty := .int) (z := 0) (C := RX4) (T := TX4) (N := 8) hx hb hts inG4 tyX4 tyX4_ok nmX4 hown hK hP fA_in hS (k := q) (by omega) (F := (sRF h0 q)) (sE_rowO hq) rfl 5 (by decide) (hts _ k92) (fun _ h9 => h9) rfl (by decide +kernel) rfl rfl (fun _ => Nat.le_of_ble_eq_true rfl) (fun _ _ => rfl) dX4_seal_16 (fun H locs hP hS => ?_)
    obtain ⟨μ5, eμ5⟩ : ∃ x : va_M, x = uz μ q 5 (0) := ⟨_, rfl⟩
    rw [← eμ5] at hP
    refine lv_aload_n hx hb dX4_seal_19 rfl (lv_at hl 0 rfl) ?_
    refine lv_iconst (v := iZ 0) hx hb dX4_seal_20 rfl ?_
    refine fz_put (D := (dC, dI)) (ci := 4) (ty := .int) (z := 0) (C := RX4) (T := TX4) (N := 8) hx hb hts inG4 tyX4 tyX4_ok nmX4 hown hK hP fA_in hS (k := q) (by omega) (F := (sRF h0 q)) (sE_rowO hq) rfl 6 (by decide) (hts _ k100) (fun _ h9 => h9) rfl (by decide +kernel) rfl rfl (fun _ => Nat.le_of_ble_eq_true rfl) (fun _ _ => rfl) dX4_seal_21 (fun H locs hP hS => ?_)
    obtain ⟨μ6, eμ6⟩ : ∃ x : va_M, x = uz μ5 q 6 (0) := ⟨_, rfl⟩
    rw [← eμ6] at hP
    refine lv_aload_n hx hb dX4_seal_24 rfl (lv_at hl 0 rfl) ?_
    refine fz_get (D := (dC, dI)) (ci := 4) (v := .ref (h0 + (q + 3))) (C := RX4) (T := TX4) (N := 8) hx hb hts inG4 hown hK hP (k := q) (by omega) (F := (sRF h0 q)) (sE_rowO hq) rfl 2 (by decide) (hts _ k87) (fun _ h9 => h9) rfl dX4_seal_25 ?_
    refine lv_iconst (v := iZ 0) hx hb dX4_seal_28 rfl ?_
    refine lv_iconst (v := iZ 0) hx hb dX4_seal_29 rfl ?_
    refine fz_st (k := (q + 3)) (n := (rm + 1)) (i := 0) (z := 0) hx hb hK hP fA_in hS 0 (by omega) (sE_row3 hq) rfl ⟨by omega, by omega⟩ (by omega) dX4_seal_30 (fun H locs hP hS => ?_)
    rw [show (0 : Int).toNat = 0 from rfl] at hP
    obtain ⟨μ7, eμ7⟩ : ∃ x : va_M, x = uz μ6 (q + 3) 0 (0) := ⟨_, rfl⟩
    rw [← eμ7] at hP
    have hf3 : fr (SEw q (sL w)) μ μ7 := by rw [eμ7, eμ6, eμ5]; exact fr_uz (fr_uz (fr_uz fr_rfl (by unfold SEw SEq; omega)) (by unfold SEw SEq; omega)) (by unfold SEw SEq; omega)
    have z3 : μ7 (q + 3) 0 = 0 := by rw [eμ7, eμ6, eμ5, uz_s]
    have z6 : μ7 q 6 = 0 := by rw [eμ7, eμ6, eμ5, uz_n (by omega), uz_s]
    have z1 : ∀ y, μ7 (q + 1) y = μ (q + 1) y := fun y => hf3 _ _ (by unfold SEw SEq; omega)
    have hL9 : μ7 q 5 = sL w := by
      rw [eμ7, eμ6, eμ5, uz_n (by omega), uz_n (by omega), uz_s]
      rcases w2_ with h | h
      · exact absurd h.1 (by omega)
      · rw [h.2]; rfl
    have hA9 : SA μ (q + 1) w 0 := by
      rcases w2_ with h | h
      · exact absurd h.1 (by omega)
      · rw [h.2]; trivial
    refine lv_iconst (v := iZ (-1)) hx hb dX4_seal_31 rfl ?_
    refine lv_istore_n (lv' := [(1, .int (iZ ((-1)))), (0, .ref (h0 + q))]) hx hb dX4_seal_32 rfl hl (by decide) rfl (fun ls hl => ?_)
    refine lv_iconst (v := iZ 0) hx hb dX4_seal_33 rfl ?_
    refine lv_istore_n (lv' := [(2, .int (iZ (0))), (1, .int (iZ ((-1)))), (0, .ref (h0 + q))]) hx hb dX4_seal_34 rfl hl (by decide) rfl (fun ls hl => ?_)
    refine LX4_seal_35 hx hb hml hown hts hK hM (Nat.le_of_ble_eq_true rfl) (Nat.le_of_ble_eq_true rfl) (Nat.le_of_ble_eq_true rfl) (Nat.le_of_ble_eq_true rfl) (μ7) (q) (rm) (w) (by exact hq) (by
                rw [eμ7, eμ6, eμ5, uz_n (by omega), uz_n (by omega), uz_s]
                omega) (by exact w1_) (by exact SA_fr z1 w 0 hA9) (by exact hL9) (by exact z3) (by exact z6) ?_ _ (0) ((-1)) μ7 H locs ls (by rfl) (by exact ⟨rfl, rfl⟩) (Nat.lt_succ_self _) hP hS (lv_sub hl [0, 1, 2] rfl)
    · intro i_8 op_8 μ8_ H locs ls q1_8 q2_8 q3_8 q4_8 hP hS hl
      have hl : lv_has ls 5 [(0, .ref (h0 + q))] := hl
      exact W.vret hx hb hr (fun t9 ht9 hW9 => ⟨⟨μ8_, rfl, (by
                    try dsimp only
                    have e5 := q1_8 q 5 no0
                    have k1 := fr_trans hf3 (fr_mono q1_8 (fun x y h => SQ_SE h))
                    refine ⟨⟨⟨?_, q4_8, q3_8⟩, SA_fr (fun y => k1 _ _ (by unfold SEw SEq; omega)) w 0 ?_, q2_8⟩, k1⟩
                    · rw [e5]; exact hL9
                    · exact hA9), by rw [ht9]; exact hP, va_K.moved hW9.alike hK⟩, hS.F ht9⟩) hS.2.2 dX4_seal_175

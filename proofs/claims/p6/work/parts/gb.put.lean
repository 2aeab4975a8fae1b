
/-! laying, told whole: what is put, sign by sign -/
set_option maxHeartbeats 4000000 in
set_option maxRecDepth 100000 in
theorem LX4_putRange_3t {p : Program} {l : Launch} {e : Env} {R : Room} {s : State} {m : MethodId} {args : Array Value} {below : List Frame} {meth : Method} {c : Code} {cells slots : Nat} {Q : State → Prop} {dC : Nat → ClassId} {dI : Nat → Nat → Nat} {h0 : Nat} {cI cZ cII cIII : ClassId} (hx : p.tables.exec = Jvm.exec) (hb : c.code = cX4_putRange) (hml : c.maxLocals = 5) (hown : s.vm.findClass RX4 = some m.cls) (hts : ∀ w ∈ wsG, w.before args s = true) (hK : va_K (dC, dI) vwCl (sT cI cZ cII cIII) s) (hM : xM s) (hRf : 2 ≤ R.frames) (hRl : 35 ≤ R.locals) (hRc : cells ≤ R.cells) (hRs : slots ≤ R.slots) (μ0 : va_M) (q : Nat) (rm : Nat) (q2 : Nat) (rm2 : Nat) (p1 : Int) (p2 : Int) (d9 : Int) (oL : List Int) (oA : List Int) (hq : rowB q rm) (hq2 : rowB q2 rm2) (hap : q + 6 ≤ q2 ∨ q2 + 6 ≤ q) (hG2 : rG μ0 q2 rm2) (hsg : seg (μ0 (q2 + 1)) p1.toNat p2.toNat) (hp : 0 ≤ p1 ∧ p1 ≤ p2 ∧ p2 ≤ μ0 q2 5) (h0d : 0 ≤ d9) (hA : oA.length = (p2 - p1).toNat ∧ ∀ t : Nat, t < oA.length → oA[t]? = some (μ0 (q2 + 1) (p1.toNat + t))) (hexit26 : ∀ (i : Int) (μ : va_M) (H : Heap) (locs : List Loc) (ls : Array Slot), (fr (fun x _ => x = q ∨ x = q + 1) μ0 μ) → (outS μ q rm d9) → (outT μ q rm (oL ++ oA)) → va_P (dC, dI) vwCl (fw (sE cI cZ cII cIII h0) h0 233 μ) H → va_S (fA h0 233 s.heap.size) s.heap H locs → lv_has ls 5 [] → W p l e R s m args below meth c H locs cells slots Q (F0 m 26 ls [])) :
    ∀ (n9 : Nat) (i : Int) (μ : va_M) (H : Heap) (locs : List Loc) (ls : Array Slot), (p1 ≤ i ∧ i ≤ p2) → (fr (fun x _ => x = q ∨ x = q + 1) μ0 μ) → (outS μ q rm (d9 + (Dp (μ0 (q2 + 1)) i.toNat - Dp (μ0 (q2 + 1)) p1.toNat))) → (outT μ q rm (oL ++ oA.take (i - p1).toNat)) → (p2 - i).toNat < n9 → va_P (dC, dI) vwCl (fw (sE cI cZ cII cIII h0) h0 233 μ) H → va_S (fA h0 233 s.heap.size) s.heap H locs → lv_has ls 5 [(4, .int (iZ (i))), (3, .int (iZ (p2))), (1, .ref (h0 + q2)), (0, .ref (h0 + q))] → W p l e R s m args below meth c H locs cells slots Q (F0 m 3 ls []) := by
  intro n9
  induction n9 with
  | zero => intro i μ H locs ls hi hf ho hoT hm9 hP hS hl; exact absurd hm9 (Nat.not_lt_zero _)
  | succ n9 ih =>
    intro i μ H locs ls hi hf ho hoT hm9 hP hS hl
    have hqb := rowB_b hq
    have hqb2 := rowB_b hq2
    have hrm2 := rG_rm hq2 hG2
    refine lv_iload hx hb dX4_putRange_3 (lv_at hl 0 rfl) ?_
    refine lv_iload_n hx hb dX4_putRange_5 rfl (lv_at hl 1 rfl) ?_
    refine fz_icmp_ge (tgt := 26) (by constructor <;> omega) (by constructor <;> omega) hx hb dX4_putRange_6 (by decide) (fun c6_ => ?_) (fun c6_ => ?_)
    · exact hexit26 (i) μ H locs ls (by exact hf) (by
                    have e : i = p2 := by omega
                    rw [e, hsg.2.1, Int.sub_self, Int.add_zero] at ho
                    exact ho) (by
                    have hal9 := hA.1
                    rw [tk_all (show oA.length = (i - p1).toNat by omega)] at hoT
                    exact hoT) hP hS (lv_sub hl [] rfl)
    · have ek : μ (q2 + 1) i.toNat = μ0 (q2 + 1) i.toNat := hf _ _ (by omega)
      have hvs := ((rG_bal hG2).2 i.toNat (by omega)).2 (by omega)
      have hdp := Dp_s (μ0 (q2 + 1)) i.toNat
      have hge := hsg.2.2 (i.toNat + 1) (by omega) (by omega)
      have hlen1 := ho.1
      have hal9 := hA.1
      have hat9 : oA[(i - p1).toNat]? = some (μ0 (q2 + 1) i.toNat) := by rw [hA.2 _ (by omega), show p1.toNat + (i - p1).toNat = i.toNat by omega]
      refine lv_aload_n hx hb dX4_putRange_9 rfl (lv_at hl 3 rfl) ?_
      refine lv_aload_n hx hb dX4_putRange_10 rfl (lv_at hl 2 rfl) ?_
      refine fz_get (D := (dC, dI)) (ci := 4) (v := .ref (h0 + (q2 + 1))) (C := RX4) (T := TX4) (N := 8) hx hb hts inG4 hown hK hP (k := q2) (by omega) (F := (sRF h0 q2)) (sE_rowO hq2) rfl 0 (by decide) (hts _ k77) (fun _ h9 => h9) rfl dX4_putRange_11 ?_
      refine lv_iload hx hb dX4_putRange_14 (lv_at hl 0 rfl) ?_
      refine fz_ld (k := (q2 + 1)) (n := rm2) hx hb hK hP 0 (by omega) (sE_rowA (r := 1) hq2 (by decide)) rfl ⟨by omega, by omega⟩ (by omega) dX4_putRange_16 ?_
      refine va_callv (va_runV (As := [.int (iZ (μ (q2 + 1) (i).toNat))]) (rest := []) ⟨hx, hb, hml, hown, hts⟩ (s_Rput l dC dI cI cZ cII cIII h0 H.size μ (q) (rm) (μ (q2 + 1) (i).toNat) (hq) (by exact hlen1)) (cwV 1 hts (gV_G k410 k411 k412 k3 k413) rfl rfl rfl (by decide +kernel) ⟨by show 1 + 1 ≤ _; omega, by show 8 + (2 + 11) + (14) ≤ _; omega⟩) ⟨fun a U g mk q => by obtain ⟨q0, q1, qP, qK, qM⟩ := q; exact ⟨q0, q1, qP, va_K.moved (u := U) (U := U.calling g mk a) (Vm.Alike.refl U.vm) qK, qM⟩, va_recv hK hP (ci := 4) (q0 := q) rfl ((fw_get (by omega)).trans (by rw [(sE_rowO hq)])), fun U hU hW => ⟨rfl, by rw [hU], by rw [hU]; exact hP, va_K.moved hW.alike hK, xM_warm hW hM⟩⟩ rfl rfl hl.1 rfl (lv_room (Nat.le_of_ble_eq_true rfl)) dX4_putRange_17 ⟨hRc, hRs⟩) hS (fun q _ h => fA_le hS.1 q h) (fA_le hS.1) (fun u9 t9 H1 locs ht9 hvm9 hw9 hB9 hz9 hk9 hS => ?_)
      obtain ⟨hP, -⟩ := hB9
      rw [ht9] at hP
      generalize H1 = H at hP hS ⊢
      obtain ⟨μp, eμp⟩ : ∃ x : va_M, x = u9 := ⟨_, rfl⟩
      rw [← eμp] at hP hw9
      have hμp := hw9; clear hw9
      obtain ⟨c1, c2⟩ := hμp
      rw [ek] at c1
      obtain ⟨o1, o2⟩ := outS_put ho hvs (by omega) c1 c2
      have e9 : d9 + (Dp (μ0 (q2 + 1)) i.toNat - Dp (μ0 (q2 + 1)) p1.toNat) + dl (μ0 (q2 + 1) i.toNat) = d9 + (Dp (μ0 (q2 + 1)) (i + 1).toNat - Dp (μ0 (q2 + 1)) p1.toNat) := by rw [show (i + 1).toNat = i.toNat + 1 by omega, hdp]; omega
      rw [e9] at o1
      have T1_ := outT_put hoT c1 c2
      refine lv_iinc (v := iZ (i + 1)) (lv' := [(4, .int (iZ (i + 1))), (3, .int (iZ (p2))), (1, .ref (h0 + q2)), (0, .ref (h0 + q))]) hx hb dX4_putRange_20 hl (k := 0) rfl (iZ_add _ _) (by decide) rfl (fun ls hl => ?_)
      refine lv_goto (tgt := 3) hx hb dX4_putRange_23 (by decide) ?_
      exact ih (i + 1) μp H locs ls (by omega) (by exact fr_trans hf o2) (by exact o1) (by rw [show (i + 1 - p1).toNat = (i - p1).toNat + 1 by omega, tk_s hat9, ← List.append_assoc]; exact T1_) (by omega) hP hS (lv_sub hl [0, 1, 2, 3] rfl)
set_option maxHeartbeats 4000000 in
set_option maxRecDepth 100000 in
theorem s_RputRangeT (l : Launch) (dC : Nat → ClassId) (dI : Nat → Nat → Nat) (cI cZ cII cIII : ClassId) (h0 sz : Nat) (μ : va_M) (q : Nat) (rm : Nat) (q2 : Nat) (rm2 : Nat) (p1 : Int) (p2 : Int) (d9 : Int) (oL : List Int) (oA : List Int) (hq : rowB q rm) (hq2 : rowB q2 rm2) (hap : q + 6 ≤ q2 ∨ q2 + 6 ≤ q) (hG2 : rG μ q2 rm2) (hsg : seg (μ (q2 + 1)) p1.toNat p2.toNat) (hp : 0 ≤ p1 ∧ p1 ≤ p2 ∧ p2 ≤ μ q2 5) (h0d : 0 ≤ d9) (ho : outS μ q rm d9) (hoT : outT μ q rm oL) (hA : oA.length = (p2 - p1).toNat ∧ ∀ t : Nat, t < oA.length → oA[t]? = some (μ (q2 + 1) (p1.toNat + t))) : Met l yX4_putRange (Cond.code yX4_putRange cX4_putRange 5 none :: wsG) ({ frames := 2, cells := 0, slots := 0, locals := 35 } : Room) (va_Pc [.ref (h0 + q), .ref (h0 + q2), .int (iZ (p1)), .int (iZ (p2))] (fun U => U.heap.size = sz ∧ va_P (dC, dI) vwCl (fw (sE cI cZ cII cIII h0) h0 233 μ) U.heap ∧ va_K (dC, dI) vwCl (sT cI cZ cII cIII) U ∧ xM U)) (va_Qv (fun (u : va_M) => outS u q rm d9 ∧ fr (fun x _ => x = q ∨ x = q + 1) μ u ∧ outT u q rm (oL ++ oA)) (fun u t => va_P (dC, dI) vwCl (fw (sE cI cZ cII cIII h0) h0 233 u) t.heap ∧ va_K (dC, dI) vwCl (sT cI cZ cII cIII) t) (fA h0 233 sz)) 0 0 (fA h0 233 sz) := by
  refine Met.ofW (cc := cX4_putRange) (maxL := 5) (ret := none) (by decide) rfl ?_
  intro p e s m args below meth c s₁ B hml hv
  obtain ⟨rfl, hsz, hP, hK, hM⟩ := hv
  have hx := B.exec
  have hb := B.bytes
  have hr := B.returns
  have hts : ∀ w ∈ wsG, w.before _ s = true := hG_of (atoms_spec (ws := (Cond.code yX4_putRange cX4_putRange 5 none :: wsG)) B.pre)
  have hown : s.vm.findClass RX4 = some m.cls := findClass_of_methodNamed B.named
  have hlocks := B.notSynchronized
  subst hsz
  have hS : va_S (fA h0 233 s.heap.size) s.heap s.heap [] := va_S.rf
  have hl := lv_entry ([.ref (h0 + q), .ref (h0 + q2), .int (iZ (p1)), .int (iZ (p2))]) (n := 5) (Nat.le_of_ble_eq_true rfl)
  rw [lg_entry_eq]
  generalize (lg_sl ([.ref (h0 + q), .ref (h0 + q2), .int (iZ (p1)), .int (iZ (p2))]) ++ List.replicate (5 - (lg_sl ([.ref (h0 + q), .ref (h0 + q2), .int (iZ (p1)), .int (iZ (p2))])).length) Slot.unset).toArray = ls at hl ⊢
  have hl : lv_has ls 5 [(0, .ref (h0 + q)), (1, .ref (h0 + q2)), (2, .int (iZ (p1))), (3, .int (iZ (p2)))] := hl
  have hqb := rowB_b hq
  have hqb2 := rowB_b hq2
  refine lv_iload_n hx hb dX4_putRange_0 rfl (lv_at hl 2 rfl) ?_
  refine lv_istore (lv' := [(4, .int (iZ (p1))), (0, .ref (h0 + q)), (1, .ref (h0 + q2)), (2, .int (iZ (p1))), (3, .int (iZ (p2)))]) hx hb dX4_putRange_1 hl (by decide) rfl (fun ls hl => ?_)
  refine LX4_putRange_3t hx hb hml hown hts hK hM (Nat.le_of_ble_eq_true rfl) (Nat.le_of_ble_eq_true rfl) (Nat.le_of_ble_eq_true rfl) (Nat.le_of_ble_eq_true rfl) (μ) (q) (rm) (q2) (rm2) (p1) (p2) (d9) (oL) (oA) (by assumption) (by assumption) (by assumption) (by exact hG2) (by exact hsg) (by assumption) (by assumption) (by exact hA) ?_ _ (p1) μ s.heap [] ls (by omega) (by exact fr_rfl) (by rw [Int.sub_self, Int.add_zero]; exact ho) (by rw [Int.sub_self, show (0 : Int).toNat = 0 from rfl, List.take_zero, List.append_nil]; exact hoT) (Nat.lt_succ_self _) hP hS (lv_sub hl [0, 4, 2, 1] rfl)
  · intro i_1 μ1_ H locs ls q1_1 q2_1 q3_1 hP hS hl
    have hl : lv_has ls 5 [] := hl
    exact W.vret hx hb hr (fun t9 ht9 hW9 => ⟨⟨μ1_, rfl, (by
                try dsimp only
                exact ⟨q2_1, q1_1, q3_1⟩), by rw [ht9]; exact hP, va_K.moved hW9.alike hK⟩, hS.F ht9⟩) hS.2.2 dX4_putRange_26
set_option maxHeartbeats 4000000 in
set_option maxRecDepth 100000 in
theorem LX0_putFused_10t {p : Program} {l : Launch} {e : Env} {R : Room} {s : State} {m : MethodId} {args : Array Value} {below : List Frame} {meth : Method} {c : Code} {cells slots : Nat} {Q : State → Prop} {dC : Nat → ClassId} {dI : Nat → Nat → Nat} {h0 : Nat} {cI cZ cII cIII : ClassId} (hx : p.tables.exec = Jvm.exec) (hb : c.code = cX0_putFused) (hml : c.maxLocals = 8) (hown : s.vm.findClass RX0 = some m.cls) (hts : ∀ w ∈ wsG, w.before args s = true) (hK : va_K (dC, dI) vwCl (sT cI cZ cII cIII) s) (hM : xM s) (hRf : 2 ≤ R.frames) (hRl : 35 ≤ R.locals) (hRc : cells ≤ R.cells) (hRs : slots ≤ R.slots) (μ0 : va_M) (q : Nat) (rm : Nat) (q2 : Nat) (rm2 : Nat) (q3 : Nat) (rm3 : Nat) (i : Int) (j : Int) (n : Int) (kk : Int) (d9 : Int) (oL : List Int) (oA : List Int) (hq : rowB q rm) (hq2 : rowB q2 rm2) (hq3 : rowB q3 rm3) (ha3 : q3 + 6 ≤ q ∨ q + 6 ≤ q3) (ha32 : q3 + 6 ≤ q2 ∨ q2 + 6 ≤ q3) (hG : rG μ0 q rm) (hG2 : rG μ0 q2 rm2) (h96 : rm2 = 96) (hbp : 0 ≤ i ∧ 0 ≤ n ∧ i + n ≤ μ0 q 5 ∧ 0 ≤ j ∧ j + n ≤ μ0 q2 5) (hal : ∀ t : Nat, (t : Int) < n → sAl (μ0 (q + 1) (i.toNat + t)) (μ0 (q2 + 1) (j.toNat + t))) (hsg : seg (μ0 (q + 1)) i.toNat (i + n).toNat) (hkk : kk = 513 ∨ kk = 514) (hd9 : 0 ≤ d9) (hA : oA.length = n.toNat ∧ ∀ t : Nat, t < oA.length → oA[t]? = some (sFu (μ0 (q + 1) (i.toNat + t)) (μ0 (q2 + 1) (j.toNat + t)))) (hexit49 : ∀ (k : Int) (μ : va_M) (H : Heap) (locs : List Loc) (ls : Array Slot), (fr (fun x _ => x = q3 ∨ x = q3 + 1) μ0 μ) → (outS μ q3 rm3 (d9 + 1)) → (outT μ q3 rm3 (oL ++ oA)) → va_P (dC, dI) vwCl (fw (sE cI cZ cII cIII h0) h0 233 μ) H → va_S (fA h0 233 s.heap.size) s.heap H locs → lv_has ls 8 [(6, .ref (h0 + q3))] → W p l e R s m args below meth c H locs cells slots Q (F0 m 49 ls [])) :
    ∀ (n9 : Nat) (k : Int) (μ : va_M) (H : Heap) (locs : List Loc) (ls : Array Slot), (0 ≤ k ∧ k ≤ n) → (fr (fun x _ => x = q3 ∨ x = q3 + 1) μ0 μ) → (outS μ q3 rm3 (d9 + 1 + (Dp (μ0 (q + 1)) (i + k).toNat - Dp (μ0 (q + 1)) i.toNat))) → (outT μ q3 rm3 (oL ++ oA.take k.toNat)) → (n - k).toNat < n9 → va_P (dC, dI) vwCl (fw (sE cI cZ cII cIII h0) h0 233 μ) H → va_S (fA h0 233 s.heap.size) s.heap H locs → lv_has ls 8 [(7, .int (iZ (k))), (6, .ref (h0 + q3)), (4, .int (iZ (n))), (3, .int (iZ (j))), (2, .ref (h0 + q2)), (1, .int (iZ (i))), (0, .ref (h0 + q))] → W p l e R s m args below meth c H locs cells slots Q (F0 m 10 ls []) := by
  intro n9
  induction n9 with
  | zero => intro k μ H locs ls hk hf ho hoT hm9 hP hS hl; exact absurd hm9 (Nat.not_lt_zero _)
  | succ n9 ih =>
    intro k μ H locs ls hk hf ho hoT hm9 hP hS hl
    have hrm := rG_rm hq hG
    have hrm2 := rG_rm hq2 hG2
    have hqb := rowB_b hq
    have hqb2 := rowB_b hq2
    have hqb3 := rowB_b hq3
    refine lv_iload hx hb dX0_putFused_10 (lv_at hl 0 rfl) ?_
    refine lv_iload hx hb dX0_putFused_12 (lv_at hl 2 rfl) ?_
    refine fz_icmp_ge (tgt := 49) (by constructor <;> omega) (by constructor <;> omega) hx hb dX0_putFused_14 (by decide) (fun c14_ => ?_) (fun c14_ => ?_)
    · exact hexit49 (k) μ H locs ls (by exact hf) (by
                    refine outS_at ho ?_
                    have h9 := hsg.2.1
                    rw [show i + k = i + n by omega]
                    omega) (by
                    have hal9 := hA.1
                    rw [tk_all (show oA.length = k.toNat by omega)] at hoT
                    exact hoT) hP hS (lv_sub hl [1] rfl)
    · have w1 : μ (q + 1) (i + k).toNat = μ0 (q + 1) (i.toNat + k.toNat) := by rw [hf _ _ (by omega), show (i + k).toNat = i.toNat + k.toNat by omega]
      have w2 : μ (q2 + 1) (j + k).toNat = μ0 (q2 + 1) (j.toNat + k.toNat) := by rw [hf _ _ (by omega), show (j + k).toNat = j.toNat + k.toNat by omega]
      have hs1 := hG.1 (i.toNat + k.toNat)
      have hs2 := hG2.1 (j.toNat + k.toNat)
      have ha := hal k.toNat (by omega)
      have hv := ((rG_bal hG).2 (i.toNat + k.toNat) (by omega)).2 (by omega)
      have hD := Dp_s (μ0 (q + 1)) (i.toNat + k.toNat)
      have hge := hsg.2.2 (i.toNat + k.toNat + 1) (by omega) (by omega)
      have ho1 := ho.1
      have hal9 := hA.1
      refine lv_aload hx hb dX0_putFused_17 (lv_at hl 1 rfl) ?_
      refine lv_aload_n hx hb dX0_putFused_19 rfl (lv_at hl 6 rfl) ?_
      refine fz_get (D := (dC, dI)) (ci := 4) (v := .ref (h0 + (q + 1))) (C := RX4) (T := TX4) (N := 8) hx hb hts inG4 hown hK hP (k := q) (by omega) (F := (sRF h0 q)) (sE_rowO hq) rfl 0 (by decide) (hts _ k80) (fun _ h9 => h9) rfl dX0_putFused_20 ?_
      refine lv_iload_n hx hb dX0_putFused_23 rfl (lv_at hl 5 rfl) ?_
      refine lv_iload hx hb dX0_putFused_24 (lv_at hl 0 rfl) ?_
      refine lv_iadd hx hb dX0_putFused_26 ?_
      refine lv_topi (fun x9 ex9 => ?_)
      obtain rfl : x9 = iZ (i + k) := ex9.trans (iZ_add _ _)
      refine fz_ld (k := (q + 1)) (n := rm) hx hb hK hP 0 (by omega) (sE_rowA (r := 1) hq (by decide)) rfl ⟨by omega, by omega⟩ (by omega) dX0_putFused_27 ?_
      refine lv_aload_n hx hb dX0_putFused_28 rfl (lv_at hl 4 rfl) ?_
      refine fz_get (D := (dC, dI)) (ci := 4) (v := .ref (h0 + (q2 + 1))) (C := RX4) (T := TX4) (N := 8) hx hb hts inG4 hown hK hP (k := q2) (by omega) (F := (sRF h0 q2)) (sE_rowO hq2) rfl 0 (by decide) (hts _ k80) (fun _ h9 => h9) rfl dX0_putFused_29 ?_
      refine lv_iload_n hx hb dX0_putFused_32 rfl (lv_at hl 3 rfl) ?_
      refine lv_iload hx hb dX0_putFused_33 (lv_at hl 0 rfl) ?_
      refine lv_iadd hx hb dX0_putFused_35 ?_
      refine lv_topi (fun x9 ex9 => ?_)
      obtain rfl : x9 = iZ (j + k) := ex9.trans (iZ_add _ _)
      refine fz_ld (k := (q2 + 1)) (n := rm2) hx hb hK hP 0 (by omega) (sE_rowA (r := 1) hq2 (by decide)) rfl ⟨by omega, by omega⟩ (by omega) dX0_putFused_36 ?_
      refine va_calli (va_runSN (As := [.int (iZ (μ (q + 1) (i + k).toNat)), .int (iZ (μ (q2 + 1) (j + k).toNat))]) (rest := [.ref (h0 + q3)]) ⟨hx, hb, hml, hown, hts⟩ (s_fused l dC dI cI cZ cII cIII h0 H.size μ (μ (q + 1) (i + k).toNat) (μ (q2 + 1) (j + k).toNat) (by constructor <;> omega) (by constructor <;> omega)) ⟨va_cnB (host := "PageSkeleton") 2 hts (gI_G k458) rfl rfl rfl (xM_nest hM 19 rfl) (hts _ k1) (by decide +kernel) ⟨by show 1 + 1 ≤ _; omega, by show 8 + (2 + 11) + (14) ≤ _; omega⟩, hts _ k457, trivial⟩ ⟨fun a U g mk q => by obtain ⟨q0, q1, qP, qK, qM⟩ := q; exact ⟨q0, q1, qP, va_K.moved (u := U) (U := U.calling g mk a) (Vm.Alike.refl U.vm) qK, qM⟩, fun U hU hW => ⟨rfl, by rw [hU], by rw [hU]; exact hP, va_K.moved hW.alike hK, xM_warm hW hM⟩⟩ rfl rfl hl.1 rfl (lv_room (Nat.le_of_ble_eq_true rfl)) dX0_putFused_37 ⟨hRc, hRs⟩) hS (fun q _ h => fA_le hS.1 q h) (fA_le hS.1) (fun r9 u9 t9 H1 locs ht9 hvm9 hw9 hB9 hz9 hk9 hS => ?_)
      obtain ⟨μq, rq⟩ := u9
      obtain ⟨hP, -⟩ := hB9
      rw [ht9] at hP
      generalize H1 = H at hP hS ⊢
      obtain ⟨e9, hw9⟩ := hw9
      have e9 : r9 = iZ rq := e9
      subst e9
      simp only at hP hw9
      have hμq := hw9; clear hw9
      rw [hμq.1] at hP; have hμq := hμq.2
      have hrq : rq = sFu (μ (q + 1) (i + k).toNat) (μ (q2 + 1) (j + k).toNat) := hμq
      rw [w1, w2] at hrq
      have hdq : dl rq = dl (μ0 (q + 1) (i.toNat + k.toNat)) := by rw [hrq]; exact sFu_dl ha
      have hvq : vS rq := by rw [hrq]; exact sFu_v hv
      refine va_callv (va_runV (As := [.int (iZ (rq))]) (rest := []) ⟨hx, hb, hml, hown, hts⟩ (s_Rput l dC dI cI cZ cII cIII h0 H.size μ (q3) (rm3) (rq) (hq3) (by exact ho1)) (cwV 1 hts (gV_G k819 k411 k412 k3 k413) rfl rfl rfl (by decide +kernel) ⟨by show 1 + 1 ≤ _; omega, by show 8 + (2 + 11) + (14) ≤ _; omega⟩) ⟨fun a U g mk q => by obtain ⟨q0, q1, qP, qK, qM⟩ := q; exact ⟨q0, q1, qP, va_K.moved (u := U) (U := U.calling g mk a) (Vm.Alike.refl U.vm) qK, qM⟩, va_recv hK hP (ci := 4) (q0 := q3) rfl ((fw_get (by omega)).trans (by rw [(sE_rowO hq3)])), fun U hU hW => ⟨rfl, by rw [hU], by rw [hU]; exact hP, va_K.moved hW.alike hK, xM_warm hW hM⟩⟩ rfl rfl hl.1 rfl (lv_room (Nat.le_of_ble_eq_true rfl)) dX0_putFused_40 ⟨hRc, hRs⟩) hS (fun q _ h => fA_le hS.1 q h) (fA_le hS.1) (fun u9 t9 H1 locs ht9 hvm9 hw9 hB9 hz9 hk9 hS => ?_)
      obtain ⟨hP, -⟩ := hB9
      rw [ht9] at hP
      generalize H1 = H at hP hS ⊢
      obtain ⟨μp, eμp⟩ : ∃ x : va_M, x = u9 := ⟨_, rfl⟩
      rw [← eμp] at hP hw9
      have hμp := hw9; clear hw9
      obtain ⟨c1, c2⟩ := hμp
      rw [show (i + k).toNat = i.toNat + k.toNat by omega] at ho
      obtain ⟨o1, o2⟩ := outS_put ho hvq (by omega) c1 c2
      have T1_ := outT_put hoT c1 c2
      have hat9 : oA[k.toNat]? = some rq := by rw [hA.2 _ (by omega), hrq]
      refine lv_iinc (v := iZ (k + 1)) (lv' := [(7, .int (iZ (k + 1))), (6, .ref (h0 + q3)), (4, .int (iZ (n))), (3, .int (iZ (j))), (2, .ref (h0 + q2)), (1, .int (iZ (i))), (0, .ref (h0 + q))]) hx hb dX0_putFused_43 hl (k := 0) rfl (iZ_add _ _) (by decide) rfl (fun ls hl => ?_)
      refine lv_goto (tgt := 10) hx hb dX0_putFused_46 (by decide) ?_
      exact ih (k + 1) μp H locs ls (by omega) (by exact fr_trans hf o2) (by
                    refine outS_at o1 ?_
                    rw [show (i + (k + 1)).toNat = i.toNat + k.toNat + 1 by omega]
                    omega) (by rw [show (k + 1).toNat = k.toNat + 1 by omega, tk_s hat9, ← List.append_assoc]; exact T1_) (by omega) hP hS (lv_sub hl [0, 1, 2, 3, 4, 5, 6] rfl)
set_option maxHeartbeats 4000000 in
set_option maxRecDepth 100000 in
theorem s_YputFusedT (l : Launch) (dC : Nat → ClassId) (dI : Nat → Nat → Nat) (cI cZ cII cIII : ClassId) (h0 sz : Nat) (μ : va_M) (q : Nat) (rm : Nat) (q2 : Nat) (rm2 : Nat) (q3 : Nat) (rm3 : Nat) (i : Int) (j : Int) (n : Int) (kk : Int) (d9 : Int) (oL : List Int) (oA : List Int) (hq : rowB q rm) (hq2 : rowB q2 rm2) (hq3 : rowB q3 rm3) (ha3 : q3 + 6 ≤ q ∨ q + 6 ≤ q3) (ha32 : q3 + 6 ≤ q2 ∨ q2 + 6 ≤ q3) (hG : rG μ q rm) (hG2 : rG μ q2 rm2) (h96 : rm2 = 96) (hbp : 0 ≤ i ∧ 0 ≤ n ∧ i + n ≤ μ q 5 ∧ 0 ≤ j ∧ j + n ≤ μ q2 5) (hal : ∀ t : Nat, (t : Int) < n → sAl (μ (q + 1) (i.toNat + t)) (μ (q2 + 1) (j.toNat + t))) (hsg : seg (μ (q + 1)) i.toNat (i + n).toNat) (hkk : kk = 513 ∨ kk = 514) (hd9 : 0 ≤ d9) (ho : outS μ q3 rm3 d9) (hoT : outT μ q3 rm3 oL) (hA : oA.length = n.toNat ∧ ∀ t : Nat, t < oA.length → oA[t]? = some (sFu (μ (q + 1) (i.toNat + t)) (μ (q2 + 1) (j.toNat + t)))) : Met l yX0_putFused (Cond.code yX0_putFused cX0_putFused 8 none :: wsG) ({ frames := 2, cells := 0, slots := 0, locals := 35 } : Room) (va_Pc [.ref (h0 + q), .int (iZ (i)), .ref (h0 + q2), .int (iZ (j)), .int (iZ (n)), .int (iZ (kk)), .ref (h0 + q3)] (fun U => U.heap.size = sz ∧ va_P (dC, dI) vwCl (fw (sE cI cZ cII cIII h0) h0 233 μ) U.heap ∧ va_K (dC, dI) vwCl (sT cI cZ cII cIII) U ∧ xM U)) (va_Qv (fun (u : va_M) => outS u q3 rm3 d9 ∧ fr (fun x _ => x = q3 ∨ x = q3 + 1) μ u ∧ outT u q3 rm3 (oL ++ [kk] ++ oA ++ [515])) (fun u t => va_P (dC, dI) vwCl (fw (sE cI cZ cII cIII h0) h0 233 u) t.heap ∧ va_K (dC, dI) vwCl (sT cI cZ cII cIII) t) (fA h0 233 sz)) 0 0 (fA h0 233 sz) := by
  refine Met.ofW (cc := cX0_putFused) (maxL := 8) (ret := none) (by decide) rfl ?_
  intro p e s m args below meth c s₁ B hml hv
  obtain ⟨rfl, hsz, hP, hK, hM⟩ := hv
  have hx := B.exec
  have hb := B.bytes
  have hr := B.returns
  have hts : ∀ w ∈ wsG, w.before _ s = true := hG_of (atoms_spec (ws := (Cond.code yX0_putFused cX0_putFused 8 none :: wsG)) B.pre)
  have hown : s.vm.findClass RX0 = some m.cls := findClass_of_methodNamed B.named
  have hlocks := B.notSynchronized
  subst hsz
  have hS : va_S (fA h0 233 s.heap.size) s.heap s.heap [] := va_S.rf
  have hl := lv_entry ([.ref (h0 + q), .int (iZ (i)), .ref (h0 + q2), .int (iZ (j)), .int (iZ (n)), .int (iZ (kk)), .ref (h0 + q3)]) (n := 8) (Nat.le_of_ble_eq_true rfl)
  rw [lg_entry_eq]
  generalize (lg_sl ([.ref (h0 + q), .int (iZ (i)), .ref (h0 + q2), .int (iZ (j)), .int (iZ (n)), .int (iZ (kk)), .ref (h0 + q3)]) ++ List.replicate (8 - (lg_sl ([.ref (h0 + q), .int (iZ (i)), .ref (h0 + q2), .int (iZ (j)), .int (iZ (n)), .int (iZ (kk)), .ref (h0 + q3)])).length) Slot.unset).toArray = ls at hl ⊢
  have hl : lv_has ls 8 [(0, .ref (h0 + q)), (1, .int (iZ (i))), (2, .ref (h0 + q2)), (3, .int (iZ (j))), (4, .int (iZ (n))), (5, .int (iZ (kk))), (6, .ref (h0 + q3))] := hl
  have hqb := rowB_b hq
  have hqb2 := rowB_b hq2
  have hqb3 := rowB_b hq3
  have hqf := rowB_f hq
  have hqf2 := rowB_f hq2
  have hqf3 := rowB_f hq3
  refine lv_aload hx hb dX0_putFused_0 (lv_at hl 6 rfl) ?_
  refine lv_iload hx hb dX0_putFused_2 (lv_at hl 5 rfl) ?_
  refine va_callv (va_runV (As := [.int (iZ (kk))]) (rest := []) ⟨hx, hb, hml, hown, hts⟩ (s_Rput l dC dI cI cZ cII cIII h0 s.heap.size μ (q3) (rm3) (kk) (hq3) (by exact ho.1)) (cwV 1 hts (gV_G k819 k411 k412 k3 k413) rfl rfl rfl (by decide +kernel) ⟨Nat.le_of_ble_eq_true rfl, Nat.le_of_ble_eq_true rfl⟩) ⟨fun a U g mk q => by obtain ⟨q0, q1, qP, qK, qM⟩ := q; exact ⟨q0, q1, qP, va_K.moved (u := U) (U := U.calling g mk a) (Vm.Alike.refl U.vm) qK, qM⟩, va_recv hK hP (ci := 4) (q0 := q3) rfl ((fw_get (by omega)).trans (by rw [(sE_rowO hq3)])), fun U hU hW => ⟨rfl, by rw [hU], by rw [hU]; exact hP, va_K.moved hW.alike hK, xM_warm hW hM⟩⟩ rfl rfl hl.1 rfl (lv_room (Nat.le_of_ble_eq_true rfl)) dX0_putFused_4 ⟨Nat.le_of_ble_eq_true rfl, Nat.le_of_ble_eq_true rfl⟩) hS (fun q _ h => fA_le hS.1 q h) (fA_le hS.1) (fun u9 t9 H1 locs ht9 hvm9 hw9 hB9 hz9 hk9 hS => ?_)
  obtain ⟨hP, -⟩ := hB9
  rw [ht9] at hP
  generalize H1 = H at hP hS ⊢
  obtain ⟨μ1, eμ1⟩ : ∃ x : va_M, x = u9 := ⟨_, rfl⟩
  rw [← eμ1] at hP hw9
  have hμ1 := hw9; clear hw9
  obtain ⟨c1, c2⟩ := hμ1
  obtain ⟨o1_, f1_⟩ := outS_put ho (s := kk) (by unfold vS; omega) (by rw [dl_1 hkk]; omega) c1 c2
  rw [dl_1 hkk] at o1_
  have G1 : rG μ1 q rm := rG_fr hG (fun x y h8 h9 => f1_ _ _ (by omega))
  have G2 : rG μ1 q2 rm2 := rG_fr hG2 (fun x y h8 h9 => f1_ _ _ (by omega))
  have E1 : ∀ y, μ1 (q + 1) y = μ (q + 1) y := fun y => f1_ _ _ (by omega)
  have E2 : ∀ y, μ1 (q2 + 1) y = μ (q2 + 1) y := fun y => f1_ _ _ (by omega)
  have E5 : μ1 q 5 = μ q 5 := f1_ _ _ (by omega)
  have E6 : μ1 q2 5 = μ q2 5 := f1_ _ _ (by omega)
  have T0_ := outT_put hoT c1 c2
  refine lv_iconst (v := iZ 0) hx hb dX0_putFused_7 rfl ?_
  refine lv_istore (lv' := [(7, .int (iZ (0))), (0, .ref (h0 + q)), (1, .int (iZ (i))), (2, .ref (h0 + q2)), (3, .int (iZ (j))), (4, .int (iZ (n))), (5, .int (iZ (kk))), (6, .ref (h0 + q3))]) hx hb dX0_putFused_8 hl (by decide) rfl (fun ls hl => ?_)
  refine LX0_putFused_10t hx hb hml hown hts hK hM (Nat.le_of_ble_eq_true rfl) (Nat.le_of_ble_eq_true rfl) (Nat.le_of_ble_eq_true rfl) (Nat.le_of_ble_eq_true rfl) (μ1) (q) (rm) (q2) (rm2) (q3) (rm3) (i) (j) (n) (kk) (d9) ((oL ++ [kk])) (oA) (by assumption) (by assumption) (by assumption) (by assumption) (by assumption) (by exact G1) (by exact G2) (by assumption) (by omega) (by intro t ht; rw [E1, E2]; exact hal t ht) (by rw [funext E1]; exact hsg) (by assumption) (by assumption) (by exact ⟨hA.1, fun t ht => by rw [E1, E2]; exact hA.2 t ht⟩) ?_ _ (0) μ1 H locs ls (by omega) (by exact fr_rfl) (by
            refine outS_at o1_ ?_
            rw [Int.add_zero]; omega) (by rw [show (0 : Int).toNat = 0 from rfl, List.take_zero, List.append_nil]; exact T0_) (Nat.lt_succ_self _) hP hS (lv_sub hl [0, 7, 5, 4, 3, 2, 1] rfl)
  · intro k_1 μ1_ H locs ls q1_1 q2_1 q3_1 hP hS hl
    have hl : lv_has ls 8 [(6, .ref (h0 + q3))] := hl
    have Q1 := q1_1
    have Q2 := q2_1
    have Q3 := q3_1
    refine lv_aload hx hb dX0_putFused_49 (lv_at hl 0 rfl) ?_
    refine lv_sipush (v := iZ 515) hx hb dX0_putFused_51 rfl ?_
    refine va_callv (va_runV (As := [.int (iZ (515))]) (rest := []) ⟨hx, hb, hml, hown, hts⟩ (s_Rput l dC dI cI cZ cII cIII h0 H.size μ1_ (q3) (rm3) (515) (hq3) (by exact Q2.1)) (cwV 1 hts (gV_G k819 k411 k412 k3 k413) rfl rfl rfl (by decide +kernel) ⟨Nat.le_of_ble_eq_true rfl, Nat.le_of_ble_eq_true rfl⟩) ⟨fun a U g mk q => by obtain ⟨q0, q1, qP, qK, qM⟩ := q; exact ⟨q0, q1, qP, va_K.moved (u := U) (U := U.calling g mk a) (Vm.Alike.refl U.vm) qK, qM⟩, va_recv hK hP (ci := 4) (q0 := q3) rfl ((fw_get (by omega)).trans (by rw [(sE_rowO hq3)])), fun U hU hW => ⟨rfl, by rw [hU], by rw [hU]; exact hP, va_K.moved hW.alike hK, xM_warm hW hM⟩⟩ rfl rfl hl.1 rfl (lv_room (Nat.le_of_ble_eq_true rfl)) dX0_putFused_54 ⟨Nat.le_of_ble_eq_true rfl, Nat.le_of_ble_eq_true rfl⟩) hS (fun q _ h => fA_le hS.1 q h) (fA_le hS.1) (fun u9 t9 H1 locs ht9 hvm9 hw9 hB9 hz9 hk9 hS => ?_)
    obtain ⟨hP, -⟩ := hB9
    rw [ht9] at hP
    generalize H1 = H at hP hS ⊢
    obtain ⟨μ3, eμ3⟩ : ∃ x : va_M, x = u9 := ⟨_, rfl⟩
    rw [← eμ3] at hP hw9
    have hμ3 := hw9; clear hw9
    obtain ⟨c1, c2⟩ := hμ3
    obtain ⟨o3_, f3_⟩ := outS_put Q2 (s := 515) (by unfold vS; omega) (by rw [dl_m]; omega) c1 c2
    rw [dl_m] at o3_
    have T3_ := outT_put Q3 c1 c2
    exact W.vret hx hb hr (fun t9 ht9 hW9 => ⟨⟨μ3, rfl, (by
                try dsimp only
                exact ⟨outS_at o3_ (by omega), fr_trans f1_ (fr_trans Q1 f3_), T3_⟩), by rw [ht9]; exact hP, va_K.moved hW9.alike hK⟩, hS.F ht9⟩) hS.2.2 dX0_putFused_57
set_option maxHeartbeats 4000000 in
set_option maxRecDepth 100000 in
theorem s_YleaveOutT (l : Launch) (dC : Nat → ClassId) (dI : Nat → Nat → Nat) (cI cZ cII cIII : ClassId) (h0 sz : Nat) (μ : va_M) (q : Nat) (rm : Nat) (q2 : Nat) (rm2 : Nat) (q3 : Nat) (rm3 : Nat) (wy : Int) (oL : List Int) (oA : List Int) (oP : List Int) (hq : rowB q rm) (hq2 : rowB q2 rm2) (hq3 : rowB q3 rm3) (ha3 : apart q3 q) (ha32 : apart q3 q2) (hG : rG μ q rm) (hG2 : rG μ q2 rm2) (h96 : rm2 = 96) (hbp : bS μ q q2 q3 rm3) (hw : (wy = 4 ∧ μ 41 4 < μ q 5 ∧ μ (q + 1) (μ 41 4).toNat ≠ 515) ∨ (wy = 5 ∧ μ 41 5 < μ q2 5 ∧ μ (q2 + 1) (μ 41 5).toNat ≠ 515)) (hoT : outT μ q3 rm3 oL) (hA4 : wy = 4 → oA.length = (μ (q + 2) (μ 41 4).toNat + 1 - μ 41 4).toNat ∧ (∀ t : Nat, t < oA.length → oA[t]? = some (μ (q + 1) ((μ 41 4).toNat + t))) ∧ oP = (if μ 41 6 = 0 ∧ μ (q + 1) (μ 41 4).toNat ≠ 513 then [513] else [])) (hA5 : wy = 5 → oA.length = (μ (q2 + 2) (μ 41 5).toNat + 1 - μ 41 5).toNat ∧ (∀ t : Nat, t < oA.length → oA[t]? = some (μ (q2 + 1) ((μ 41 5).toNat + t))) ∧ oP = (if μ 41 6 = 0 ∧ μ (q2 + 1) (μ 41 5).toNat ≠ 513 then [513] else [])) : Met l yX0_leaveOut (Cond.code yX0_leaveOut cX0_leaveOut 8 none :: wsG) ({ frames := 3, cells := 0, slots := 0, locals := 59 } : Room) (va_Pc [.ref (h0 + 41), .ref (h0 + q), .ref (h0 + q2), .int (iZ (wy)), .ref (h0 + q3)] (fun U => U.heap.size = sz ∧ va_P (dC, dI) vwCl (fw (sE cI cZ cII cIII h0) h0 233 μ) U.heap ∧ va_K (dC, dI) vwCl (sT cI cZ cII cIII) U ∧ xM U)) (va_Qv (fun (u : va_M) => fr (BQ q3) μ u ∧ bS u q q2 q3 rm3 ∧ μ 41 4 + μ 41 5 + 1 ≤ u 41 4 + u 41 5 ∧ outT u q3 rm3 (oL ++ (oP ++ oA)) ∧ (wy = 4 → u 41 4 = μ (q + 2) (μ 41 4).toNat + 1 ∧ u 41 5 = μ 41 5) ∧ (wy = 5 → u 41 5 = μ (q2 + 2) (μ 41 5).toNat + 1 ∧ u 41 4 = μ 41 4) ∧ (oP = [513] → u 41 6 = wy) ∧ (oP = [] → u 41 6 = μ 41 6)) (fun u t => va_P (dC, dI) vwCl (fw (sE cI cZ cII cIII h0) h0 233 u) t.heap ∧ va_K (dC, dI) vwCl (sT cI cZ cII cIII) t) (fA h0 233 sz)) 0 0 (fA h0 233 sz) := by
  refine Met.ofW (cc := cX0_leaveOut) (maxL := 8) (ret := none) (by decide) rfl ?_
  intro p e s m args below meth c s₁ B hml hv
  obtain ⟨rfl, hsz, hP, hK, hM⟩ := hv
  have hx := B.exec
  have hb := B.bytes
  have hr := B.returns
  have hts : ∀ w ∈ wsG, w.before _ s = true := hG_of (atoms_spec (ws := (Cond.code yX0_leaveOut cX0_leaveOut 8 none :: wsG)) B.pre)
  have hown : s.vm.findClass RX0 = some m.cls := findClass_of_methodNamed B.named
  have hlocks := B.notSynchronized
  subst hsz
  have hS : va_S (fA h0 233 s.heap.size) s.heap s.heap [] := va_S.rf
  have hl := lv_entry ([.ref (h0 + 41), .ref (h0 + q), .ref (h0 + q2), .int (iZ (wy)), .ref (h0 + q3)]) (n := 8) (Nat.le_of_ble_eq_true rfl)
  rw [lg_entry_eq]
  generalize (lg_sl ([.ref (h0 + 41), .ref (h0 + q), .ref (h0 + q2), .int (iZ (wy)), .ref (h0 + q3)]) ++ List.replicate (8 - (lg_sl ([.ref (h0 + 41), .ref (h0 + q), .ref (h0 + q2), .int (iZ (wy)), .ref (h0 + q3)])).length) Slot.unset).toArray = ls at hl ⊢
  have hl : lv_has ls 8 [(0, .ref (h0 + 41)), (1, .ref (h0 + q)), (2, .ref (h0 + q2)), (3, .int (iZ (wy))), (4, .ref (h0 + q3))] := hl
  have hqb := rowB_c hq
  have hqb2 := rowB_c hq2
  have hqb3 := rowB_c hq3
  obtain ⟨hv1, hg1, ho1⟩ := hbp
  have hrm := rG_rc hq hG
  have hrm2 := rG_rc hq2 hG2
  have hv0 := hv1.1
  have hgb := gI_b (μ 41 6)
  have hg2 : 0 ≤ μ 41 6 ∧ μ 41 6 ≤ 5 := by unfold gOK at hg1; omega
  have hDn := ((rG_bal hG).2 (μ 41 4).toNat (by omega)).1
  have ho2 := ho1.1
  refine lv_iload_n hx hb dX0_leaveOut_0 rfl (lv_at hl 3 rfl) ?_
  refine lv_iconst (v := iZ 4) hx hb dX0_leaveOut_1 rfl ?_
  refine fz_icmp_ne (tgt := 9) (by constructor <;> omega) (by decide) hx hb dX0_leaveOut_2 (by decide) (fun c2_ => ?_) (fun c2_ => ?_)
  · have hwc : wy = 5 ∧ μ 41 5 < μ q2 5 ∧ μ (q2 + 1) (μ 41 5).toNat ≠ 515 := by
      rcases hw with h | h
      · exact absurd h.1 (by omega)
      · exact h
    obtain ⟨hw5, hwa⟩ := hwc
    have hgw : gOK wy := by unfold gOK; omega
    clear hw
    obtain ⟨hA1, hA2, hA3⟩ := hA5 hw5
    refine lv_aload_n hx hb dX0_leaveOut_9 rfl (lv_at hl 2 rfl) ?_
    refine lv_astore (lv' := [(5, .ref (h0 + q2)), (0, .ref (h0 + 41)), (1, .ref (h0 + q)), (2, .ref (h0 + q2)), (3, .int (iZ (wy))), (4, .ref (h0 + q3))]) hx hb dX0_leaveOut_10 hl (by decide) rfl (fun ls hl => ?_)
    refine lv_iload_n hx hb dX0_leaveOut_12 rfl (lv_at hl 4 rfl) ?_
    refine lv_iconst (v := iZ 4) hx hb dX0_leaveOut_13 rfl ?_
    refine fz_icmp_ne (tgt := 24) (by constructor <;> omega) (by decide) hx hb dX0_leaveOut_14 (by decide) (fun c14_ => ?_) (fun h9 => (by omega))
    refine lv_aload_n hx hb dX0_leaveOut_24 rfl (lv_at hl 1 rfl) ?_
    refine fz_get (D := (dC, dI)) (ci := 0) (v := .int (iZ (μ 41 5))) (C := RX0) (T := TX0) (N := 7) hx hb hts inG0 hown hK hP (k := 41) (by decide) (F := (sF41 h0)) sE_41 rfl 5 (by decide) (hts _ k187) (fun _ h9 => h9) rfl dX0_leaveOut_25 ?_
    refine lv_istore (lv' := [(6, .int (iZ (μ 41 5))), (5, .ref (h0 + q2)), (0, .ref (h0 + 41)), (1, .ref (h0 + q)), (2, .ref (h0 + q2)), (3, .int (iZ (wy))), (4, .ref (h0 + q3))]) hx hb dX0_leaveOut_28 hl (by decide) rfl (fun ls hl => ?_)
    obtain ⟨n1_, n2_, n3_⟩ := vis_5 hG2 hv1 hwa.1 hwa.2
    have hsq := hG2.1 (μ 41 5).toNat
    have hsgm := it_sg hG2 (by omega) hwa.1 hwa.2
    refine lv_aload hx hb dX0_leaveOut_30 (lv_at hl 1 rfl) ?_
    refine lv_iload hx hb dX0_leaveOut_32 (lv_at hl 0 rfl) ?_
    refine va_calli (va_runV (As := [.int (iZ (μ 41 5))]) (rest := []) ⟨hx, hb, hml, hown, hts⟩ (s_Rafter l dC dI cI cZ cII cIII h0 s.heap.size μ (q2) (rm2) (μ 41 5) (hq2) (by omega) (by constructor <;> omega)) (cwV 1 hts (gV_G k791 k438 k439 k3 k440) rfl rfl rfl (by decide +kernel) ⟨Nat.le_of_ble_eq_true rfl, Nat.le_of_ble_eq_true rfl⟩) ⟨fun a U g mk q => by obtain ⟨q0, q1, qP, qK, qM⟩ := q; exact ⟨q0, q1, qP, va_K.moved (u := U) (U := U.calling g mk a) (Vm.Alike.refl U.vm) qK, qM⟩, va_recv hK hP (ci := 4) (q0 := q2) rfl ((fw_get (by omega)).trans (by rw [(sE_rowO hq2)])), fun U hU hW => ⟨rfl, by rw [hU], by rw [hU]; exact hP, va_K.moved hW.alike hK, xM_warm hW hM⟩⟩ rfl rfl hl.1 rfl (lv_room (Nat.le_of_ble_eq_true rfl)) dX0_leaveOut_34 ⟨Nat.le_of_ble_eq_true rfl, Nat.le_of_ble_eq_true rfl⟩) hS (fun q _ h => fA_le hS.1 q h) (fA_le hS.1) (fun r9 u9 t9 H1 locs ht9 hvm9 hw9 hB9 hz9 hk9 hS => ?_)
    obtain ⟨μa, ra⟩ := u9
    obtain ⟨hP, -⟩ := hB9
    rw [ht9] at hP
    generalize H1 = H at hP hS ⊢
    obtain ⟨e9, hw9⟩ := hw9
    have e9 : r9 = iZ ra := e9
    subst e9
    simp only at hP hw9
    have hμa := hw9; clear hw9
    rw [hμa.1] at hP; have hμa := hμa.2
    have hra := hμa
    rw [← hra] at n2_ n3_ hsgm
    refine lv_istore (lv' := [(7, .int (iZ (ra))), (6, .int (iZ (μ 41 5))), (5, .ref (h0 + q2)), (0, .ref (h0 + 41)), (1, .ref (h0 + q)), (2, .ref (h0 + q2)), (3, .int (iZ (wy))), (4, .ref (h0 + q3))]) hx hb dX0_leaveOut_37 hl (by decide) rfl (fun ls hl => ?_)
    refine lv_aload_n hx hb dX0_leaveOut_39 rfl (lv_at hl 3 rfl) ?_
    refine fz_get (D := (dC, dI)) (ci := 0) (v := .int (iZ (μ 41 6))) (C := RX0) (T := TX0) (N := 7) hx hb hts inG0 hown hK hP (k := 41) (by decide) (F := (sF41 h0)) sE_41 rfl 6 (by decide) (hts _ k188) (fun _ h9 => h9) rfl dX0_leaveOut_40 ?_
    refine fz_if_ne (tgt := 73) (by constructor <;> omega) hx hb dX0_leaveOut_43 (by decide) (fun c43_ => ?_) (fun c43_ => ?_)
    · have SO : outS μ q3 rm3 (Dp (μ (q + 1)) (μ 41 4).toNat + gI (μ 41 6)) ∧ fr (BQ q3) μ μ ∧ gOK (μ 41 6) ∧ μ 41 4 = μ 41 4 ∧ μ 41 5 = μ 41 5 := by
        exact ⟨ho1, fr_rfl, hg1, rfl, rfl⟩
      obtain ⟨SO1, SO2, SO3, SO4, SO5⟩ := SO
      have hgb2 := gI_b (μ 41 6)
      have XA : ag μ μ q := ag_BQ hq ha3 SO2
      have XA2 : ag μ μ q2 := ag_BQ hq2 ha32 SO2
      have TO : outT μ q3 rm3 (oL ++ oP) ∧ (oP = [513] → μ 41 6 = wy) ∧ (oP = [] → μ 41 6 = μ 41 6) := by
        have hp9 : oP = [] := by rw [hA3]; exact if_neg (by omega)
        rw [hp9, List.append_nil]
        exact ⟨hoT, (fun h => by cases h), fun _ => rfl⟩
      obtain ⟨TO1, TO2, TO3⟩ := TO
      refine lv_aload hx hb dX0_leaveOut_73 (lv_at hl 7 rfl) ?_
      refine lv_aload hx hb dX0_leaveOut_75 (lv_at hl 2 rfl) ?_
      refine lv_iload hx hb dX0_leaveOut_77 (lv_at hl 1 rfl) ?_
      refine lv_iload hx hb dX0_leaveOut_79 (lv_at hl 0 rfl) ?_
      refine va_callv (va_runV (As := [.ref (h0 + q2), .int (iZ (μ 41 5)), .int (iZ (ra))]) (rest := []) ⟨hx, hb, hml, hown, hts⟩ (s_RputRangeT l dC dI cI cZ cII cIII h0 H.size μ (q3) (rm3) (q2) (rm2) (μ 41 5) (ra) (Dp (μ (q + 1)) (μ 41 4).toNat + gI (μ 41 6)) ((oL ++ oP)) (oA) (hq3) (hq2) (by exact ha32) (by exact rG_fr hG2 XA2) (by rw [ag_E XA2]; exact hsgm) (by
                    have e5 := ag_5 XA2
                    omega) (by omega) (by exact SO1) (by exact TO1) (by exact ⟨by omega, fun t ht => by rw [ag_E XA2]; exact hA2 t ht⟩)) (cwV 3 hts (gV_G k824 k825 k826 k3 k827) rfl rfl rfl (by decide +kernel) ⟨Nat.le_of_ble_eq_true rfl, Nat.le_of_ble_eq_true rfl⟩) ⟨fun a U g mk q => by obtain ⟨q0, q1, qP, qK, qM⟩ := q; exact ⟨q0, q1, qP, va_K.moved (u := U) (U := U.calling g mk a) (Vm.Alike.refl U.vm) qK, qM⟩, va_recv hK hP (ci := 4) (q0 := q3) rfl ((fw_get (by omega)).trans (by rw [(sE_rowO hq3)])), fun U hU hW => ⟨rfl, by rw [hU], by rw [hU]; exact hP, va_K.moved hW.alike hK, xM_warm hW hM⟩⟩ rfl rfl hl.1 rfl (lv_room (Nat.le_of_ble_eq_true rfl)) dX0_leaveOut_81 ⟨Nat.le_of_ble_eq_true rfl, Nat.le_of_ble_eq_true rfl⟩) hS (fun q _ h => fA_le hS.1 q h) (fA_le hS.1) (fun u9 t9 H1 locs ht9 hvm9 hw9 hB9 hz9 hk9 hS => ?_)
      obtain ⟨hP, -⟩ := hB9
      rw [ht9] at hP
      generalize H1 = H at hP hS ⊢
      obtain ⟨μr, eμr⟩ : ∃ x : va_M, x = u9 := ⟨_, rfl⟩
      rw [← eμr] at hP hw9
      have hμr := hw9; clear hw9
      obtain ⟨o4_, f4_, T4_⟩ := hμr
      have F4 : fr (BQ q3) μ μr := fr_trans SO2 (fr_mono f4_ (fun x y h => Or.inl h))
      have r4 : μr 41 4 = μ 41 4 := (f4_ _ _ (n41 hq3)).trans SO4
      have r5 : μr 41 5 = μ 41 5 := (f4_ _ _ (n41 hq3)).trans SO5
      have r6 := f4_ 41 6 (n41 hq3)
      refine lv_iload_n hx hb dX0_leaveOut_84 rfl (lv_at hl 6 rfl) ?_
      refine lv_iconst (v := iZ 4) hx hb dX0_leaveOut_85 rfl ?_
      refine fz_icmp_ne (tgt := 98) (by constructor <;> omega) (by decide) hx hb dX0_leaveOut_86 (by decide) (fun c86_ => ?_) (fun h9 => (by omega))
      refine lv_aload_n hx hb dX0_leaveOut_98 rfl (lv_at hl 3 rfl) ?_
      refine lv_iload hx hb dX0_leaveOut_99 (lv_at hl 0 rfl) ?_
      refine fz_put (D := (dC, dI)) (ci := 0) (ty := .int) (z := ra) (C := RX0) (T := TX0) (N := 7) hx hb hts inG0 tyX0 tyX0_ok nmX0 hown hK hP fA_in hS (k := 41) (by decide) (F := (sF41 h0)) sE_41 rfl 5 (by decide) (hts _ k187) (fun _ h9 => h9) rfl (by decide +kernel) rfl rfl (fun _ => Nat.le_of_ble_eq_true rfl) (fun _ _ => rfl) dX0_leaveOut_101 (fun H locs hP hS => ?_)
      obtain ⟨μ1, eμ1⟩ : ∃ x : va_M, x = uz μr 41 5 (ra) := ⟨_, rfl⟩
      rw [← eμ1] at hP
      exact W.vret hx hb hr (fun t9 ht9 hW9 => ⟨⟨μ1, rfl, (by
                    try dsimp only
                    have F5 : fr (BQ q3) μ μ1 := by rw [eμ1]; exact fr_uz F4 (Or.inr ⟨rfl, by decide, by decide⟩)
                    have XB : ag μ μ1 q := ag_BQ hq ha3 F5
                    have XB2 : ag μ μ1 q2 := ag_BQ hq2 ha32 F5
                    have e6 := r6
                    rw [← show μ1 41 6 = μr 41 6 by rw [eμ1, uz_n (by decide)]] at e6
                    have A4 : μ1 41 4 = μ 41 4 := by rw [eμ1, uz_n (by decide)]; exact r4
                    have A5 : μ1 41 5 = ra := by rw [eμ1, uz_s]
                    have T5_ : outT μ1 q3 rm3 (oL ++ (oP ++ oA)) := by
                      rw [← List.append_assoc]
                      exact outT_fr T4_ (by rw [eμ1, uz_n (r41c hq3)]) (by rw [eμ1, uz_n (r41c hq3)]) (fun y => by rw [eμ1, uz_n (r41b hq3)])
                    refine ⟨F5, ⟨?_, by rw [e6]; exact SO3, ?_⟩, ?_, T5_, fun h9 => absurd h9 (by omega), fun _ => ⟨A5.trans hra, A4⟩, fun h9 => e6.trans (TO2 h9), fun h9 => e6.trans (TO3 h9)⟩
                    · rw [vis_eq XB XB2, A4, A5]
                      exact n3_
                    · rw [e6, ag_E XB, A4]
                      refine outS_at (of_w hq3 rfl o4_ (by rw [eμ1])) ?_
                      rfl
                    · rw [A4, A5]
                      omega), by rw [ht9]; exact hP, va_K.moved hW9.alike hK⟩, hS.F ht9⟩) hS.2.2 dX0_leaveOut_104
    · refine lv_aload hx hb dX0_leaveOut_46 (lv_at hl 2 rfl) ?_
      refine fz_get (D := (dC, dI)) (ci := 4) (v := .ref (h0 + (q2 + 1))) (C := RX4) (T := TX4) (N := 8) hx hb hts inG4 hown hK hP (k := q2) (by omega) (F := (sRF h0 q2)) (sE_rowO hq2) rfl 0 (by decide) (hts _ k80) (fun _ h9 => h9) rfl dX0_leaveOut_48 ?_
      refine lv_iload hx hb dX0_leaveOut_51 (lv_at hl 1 rfl) ?_
      refine fz_ld (k := (q2 + 1)) (n := rm2) hx hb hK hP 0 (by omega) (sE_rowA (r := 1) hq2 (by decide)) rfl ⟨by omega, by omega⟩ (by omega) dX0_leaveOut_53 ?_
      refine lv_sipush (v := iZ 513) hx hb dX0_leaveOut_54 rfl ?_
      refine fz_icmp_eq (tgt := 73) (by constructor <;> omega) (by decide) hx hb dX0_leaveOut_57 (by decide) (fun c57_ => ?_) (fun c57_ => ?_)
      · have SO : outS μ q3 rm3 (Dp (μ (q + 1)) (μ 41 4).toNat + gI (μ 41 6)) ∧ fr (BQ q3) μ μ ∧ gOK (μ 41 6) ∧ μ 41 4 = μ 41 4 ∧ μ 41 5 = μ 41 5 := by
          exact ⟨ho1, fr_rfl, hg1, rfl, rfl⟩
        obtain ⟨SO1, SO2, SO3, SO4, SO5⟩ := SO
        have hgb2 := gI_b (μ 41 6)
        have XA : ag μ μ q := ag_BQ hq ha3 SO2
        have XA2 : ag μ μ q2 := ag_BQ hq2 ha32 SO2
        have TO : outT μ q3 rm3 (oL ++ oP) ∧ (oP = [513] → μ 41 6 = wy) ∧ (oP = [] → μ 41 6 = μ 41 6) := by
          have hp9 : oP = [] := by rw [hA3]; exact if_neg (by omega)
          rw [hp9, List.append_nil]
          exact ⟨hoT, (fun h => by cases h), fun _ => rfl⟩
        obtain ⟨TO1, TO2, TO3⟩ := TO
        refine lv_aload hx hb dX0_leaveOut_73 (lv_at hl 7 rfl) ?_
        refine lv_aload hx hb dX0_leaveOut_75 (lv_at hl 2 rfl) ?_
        refine lv_iload hx hb dX0_leaveOut_77 (lv_at hl 1 rfl) ?_
        refine lv_iload hx hb dX0_leaveOut_79 (lv_at hl 0 rfl) ?_
        refine va_callv (va_runV (As := [.ref (h0 + q2), .int (iZ (μ 41 5)), .int (iZ (ra))]) (rest := []) ⟨hx, hb, hml, hown, hts⟩ (s_RputRangeT l dC dI cI cZ cII cIII h0 H.size μ (q3) (rm3) (q2) (rm2) (μ 41 5) (ra) (Dp (μ (q + 1)) (μ 41 4).toNat + gI (μ 41 6)) ((oL ++ oP)) (oA) (hq3) (hq2) (by exact ha32) (by exact rG_fr hG2 XA2) (by rw [ag_E XA2]; exact hsgm) (by
                        have e5 := ag_5 XA2
                        omega) (by omega) (by exact SO1) (by exact TO1) (by exact ⟨by omega, fun t ht => by rw [ag_E XA2]; exact hA2 t ht⟩)) (cwV 3 hts (gV_G k824 k825 k826 k3 k827) rfl rfl rfl (by decide +kernel) ⟨Nat.le_of_ble_eq_true rfl, Nat.le_of_ble_eq_true rfl⟩) ⟨fun a U g mk q => by obtain ⟨q0, q1, qP, qK, qM⟩ := q; exact ⟨q0, q1, qP, va_K.moved (u := U) (U := U.calling g mk a) (Vm.Alike.refl U.vm) qK, qM⟩, va_recv hK hP (ci := 4) (q0 := q3) rfl ((fw_get (by omega)).trans (by rw [(sE_rowO hq3)])), fun U hU hW => ⟨rfl, by rw [hU], by rw [hU]; exact hP, va_K.moved hW.alike hK, xM_warm hW hM⟩⟩ rfl rfl hl.1 rfl (lv_room (Nat.le_of_ble_eq_true rfl)) dX0_leaveOut_81 ⟨Nat.le_of_ble_eq_true rfl, Nat.le_of_ble_eq_true rfl⟩) hS (fun q _ h => fA_le hS.1 q h) (fA_le hS.1) (fun u9 t9 H1 locs ht9 hvm9 hw9 hB9 hz9 hk9 hS => ?_)
        obtain ⟨hP, -⟩ := hB9
        rw [ht9] at hP
        generalize H1 = H at hP hS ⊢
        obtain ⟨μr, eμr⟩ : ∃ x : va_M, x = u9 := ⟨_, rfl⟩
        rw [← eμr] at hP hw9
        have hμr := hw9; clear hw9
        obtain ⟨o4_, f4_, T4_⟩ := hμr
        have F4 : fr (BQ q3) μ μr := fr_trans SO2 (fr_mono f4_ (fun x y h => Or.inl h))
        have r4 : μr 41 4 = μ 41 4 := (f4_ _ _ (n41 hq3)).trans SO4
        have r5 : μr 41 5 = μ 41 5 := (f4_ _ _ (n41 hq3)).trans SO5
        have r6 := f4_ 41 6 (n41 hq3)
        refine lv_iload_n hx hb dX0_leaveOut_84 rfl (lv_at hl 6 rfl) ?_
        refine lv_iconst (v := iZ 4) hx hb dX0_leaveOut_85 rfl ?_
        refine fz_icmp_ne (tgt := 98) (by constructor <;> omega) (by decide) hx hb dX0_leaveOut_86 (by decide) (fun c86_ => ?_) (fun h9 => (by omega))
        refine lv_aload_n hx hb dX0_leaveOut_98 rfl (lv_at hl 3 rfl) ?_
        refine lv_iload hx hb dX0_leaveOut_99 (lv_at hl 0 rfl) ?_
        refine fz_put (D := (dC, dI)) (ci := 0) (ty := .int) (z := ra) (C := RX0) (T := TX0) (N := 7) hx hb hts inG0 tyX0 tyX0_ok nmX0 hown hK hP fA_in hS (k := 41) (by decide) (F := (sF41 h0)) sE_41 rfl 5 (by decide) (hts _ k187) (fun _ h9 => h9) rfl (by decide +kernel) rfl rfl (fun _ => Nat.le_of_ble_eq_true rfl) (fun _ _ => rfl) dX0_leaveOut_101 (fun H locs hP hS => ?_)
        obtain ⟨μ2, eμ2⟩ : ∃ x : va_M, x = uz μr 41 5 (ra) := ⟨_, rfl⟩
        rw [← eμ2] at hP
        exact W.vret hx hb hr (fun t9 ht9 hW9 => ⟨⟨μ2, rfl, (by
                        try dsimp only
                        have F5 : fr (BQ q3) μ μ2 := by rw [eμ2]; exact fr_uz F4 (Or.inr ⟨rfl, by decide, by decide⟩)
                        have XB : ag μ μ2 q := ag_BQ hq ha3 F5
                        have XB2 : ag μ μ2 q2 := ag_BQ hq2 ha32 F5
                        have e6 := r6
                        rw [← show μ2 41 6 = μr 41 6 by rw [eμ2, uz_n (by decide)]] at e6
                        have A4 : μ2 41 4 = μ 41 4 := by rw [eμ2, uz_n (by decide)]; exact r4
                        have A5 : μ2 41 5 = ra := by rw [eμ2, uz_s]
                        have T5_ : outT μ2 q3 rm3 (oL ++ (oP ++ oA)) := by
                          rw [← List.append_assoc]
                          exact outT_fr T4_ (by rw [eμ2, uz_n (r41c hq3)]) (by rw [eμ2, uz_n (r41c hq3)]) (fun y => by rw [eμ2, uz_n (r41b hq3)])
                        refine ⟨F5, ⟨?_, by rw [e6]; exact SO3, ?_⟩, ?_, T5_, fun h9 => absurd h9 (by omega), fun _ => ⟨A5.trans hra, A4⟩, fun h9 => e6.trans (TO2 h9), fun h9 => e6.trans (TO3 h9)⟩
                        · rw [vis_eq XB XB2, A4, A5]
                          exact n3_
                        · rw [e6, ag_E XB, A4]
                          refine outS_at (of_w hq3 rfl o4_ (by rw [eμ2])) ?_
                          rfl
                        · rw [A4, A5]
                          omega), by rw [ht9]; exact hP, va_K.moved hW9.alike hK⟩, hS.F ht9⟩) hS.2.2 dX0_leaveOut_104
      · refine lv_aload hx hb dX0_leaveOut_60 (lv_at hl 7 rfl) ?_
        refine lv_sipush (v := iZ 513) hx hb dX0_leaveOut_62 rfl ?_
        refine va_callv (va_runV (As := [.int (iZ (513))]) (rest := []) ⟨hx, hb, hml, hown, hts⟩ (s_Rput l dC dI cI cZ cII cIII h0 H.size μ (q3) (rm3) (513) (hq3) (by exact ho2)) (cwV 1 hts (gV_G k819 k411 k412 k3 k413) rfl rfl rfl (by decide +kernel) ⟨Nat.le_of_ble_eq_true rfl, Nat.le_of_ble_eq_true rfl⟩) ⟨fun a U g mk q => by obtain ⟨q0, q1, qP, qK, qM⟩ := q; exact ⟨q0, q1, qP, va_K.moved (u := U) (U := U.calling g mk a) (Vm.Alike.refl U.vm) qK, qM⟩, va_recv hK hP (ci := 4) (q0 := q3) rfl ((fw_get (by omega)).trans (by rw [(sE_rowO hq3)])), fun U hU hW => ⟨rfl, by rw [hU], by rw [hU]; exact hP, va_K.moved hW.alike hK, xM_warm hW hM⟩⟩ rfl rfl hl.1 rfl (lv_room (Nat.le_of_ble_eq_true rfl)) dX0_leaveOut_65 ⟨Nat.le_of_ble_eq_true rfl, Nat.le_of_ble_eq_true rfl⟩) hS (fun q _ h => fA_le hS.1 q h) (fA_le hS.1) (fun u9 t9 H1 locs ht9 hvm9 hw9 hB9 hz9 hk9 hS => ?_)
        obtain ⟨hP, -⟩ := hB9
        rw [ht9] at hP
        generalize H1 = H at hP hS ⊢
        obtain ⟨μo, eμo⟩ : ∃ x : va_M, x = u9 := ⟨_, rfl⟩
        rw [← eμo] at hP hw9
        have hμo := hw9; clear hw9
        obtain ⟨c1, c2⟩ := hμo
        rw [show μ 41 6 = 0 by omega, gI_0, Int.add_zero] at ho1
        obtain ⟨o1_, f1_⟩ := outS_put ho1 (s := 513) (by unfold vS; omega) (by rw [dl_1 (Or.inl rfl)]; omega) c1 c2
        rw [dl_1 (Or.inl rfl)] at o1_
        refine lv_aload_n hx hb dX0_leaveOut_68 rfl (lv_at hl 3 rfl) ?_
        refine lv_iload_n hx hb dX0_leaveOut_69 rfl (lv_at hl 6 rfl) ?_
        refine fz_put (D := (dC, dI)) (ci := 0) (ty := .int) (z := wy) (C := RX0) (T := TX0) (N := 7) hx hb hts inG0 tyX0 tyX0_ok nmX0 hown hK hP fA_in hS (k := 41) (by decide) (F := (sF41 h0)) sE_41 rfl 6 (by decide) (hts _ k188) (fun _ h9 => h9) rfl (by decide +kernel) rfl rfl (fun _ => Nat.le_of_ble_eq_true rfl) (fun _ _ => rfl) dX0_leaveOut_70 (fun H locs hP hS => ?_)
        obtain ⟨μ3, eμ3⟩ : ∃ x : va_M, x = uz μo 41 6 (wy) := ⟨_, rfl⟩
        rw [← eμ3] at hP
        have SO : outS μ3 q3 rm3 (Dp (μ (q + 1)) (μ 41 4).toNat + gI (μ3 41 6)) ∧ fr (BQ q3) μ μ3 ∧ gOK (μ3 41 6) ∧ μ3 41 4 = μ 41 4 ∧ μ3 41 5 = μ 41 5 := by
          have e6 : μ3 41 6 = wy := by rw [eμ3, uz_s]
          have e4 : μ3 41 4 = μ 41 4 := by rw [eμ3, uz_n (by decide)]; exact f1_ _ _ (n41 hq3)
          have e5 : μ3 41 5 = μ 41 5 := by rw [eμ3, uz_n (by decide)]; exact f1_ _ _ (n41 hq3)
          rw [e6, gI_n (by omega)]
          exact ⟨of_w hq3 rfl o1_ (by rw [eμ3]), by rw [eμ3]; exact fr_uz (fr_mono f1_ (fun x y h => Or.inl h)) (Or.inr ⟨rfl, by decide, by decide⟩), hgw, e4, e5⟩
        obtain ⟨SO1, SO2, SO3, SO4, SO5⟩ := SO
        have hgb2 := gI_b (μ3 41 6)
        have XA : ag μ μ3 q := ag_BQ hq ha3 SO2
        have XA2 : ag μ μ3 q2 := ag_BQ hq2 ha32 SO2
        have TO : outT μ3 q3 rm3 (oL ++ oP) ∧ (oP = [513] → μ3 41 6 = wy) ∧ (oP = [] → μ3 41 6 = μ 41 6) := by
          have hp9 : oP = [513] := by rw [hA3]; exact if_pos ⟨by omega, by omega⟩
          have T1_ := outT_put hoT c1 c2
          rw [hp9]
          refine ⟨outT_fr T1_ ?_ ?_ (fun y => ?_), (fun _ => by rw [eμ3, uz_s]), (fun h => by cases h)⟩
          · rw [eμ3, uz_n (r41c hq3)]
          · rw [eμ3, uz_n (r41c hq3)]
          · rw [eμ3, uz_n (r41b hq3)]
        obtain ⟨TO1, TO2, TO3⟩ := TO
        refine lv_aload hx hb dX0_leaveOut_73 (lv_at hl 7 rfl) ?_
        refine lv_aload hx hb dX0_leaveOut_75 (lv_at hl 2 rfl) ?_
        refine lv_iload hx hb dX0_leaveOut_77 (lv_at hl 1 rfl) ?_
        refine lv_iload hx hb dX0_leaveOut_79 (lv_at hl 0 rfl) ?_
        refine va_callv (va_runV (As := [.ref (h0 + q2), .int (iZ (μ 41 5)), .int (iZ (ra))]) (rest := []) ⟨hx, hb, hml, hown, hts⟩ (s_RputRangeT l dC dI cI cZ cII cIII h0 H.size μ3 (q3) (rm3) (q2) (rm2) (μ 41 5) (ra) (Dp (μ (q + 1)) (μ 41 4).toNat + gI (μ3 41 6)) ((oL ++ oP)) (oA) (hq3) (hq2) (by exact ha32) (by exact rG_fr hG2 XA2) (by rw [ag_E XA2]; exact hsgm) (by
                        have e5 := ag_5 XA2
                        omega) (by omega) (by exact SO1) (by exact TO1) (by exact ⟨by omega, fun t ht => by rw [ag_E XA2]; exact hA2 t ht⟩)) (cwV 3 hts (gV_G k824 k825 k826 k3 k827) rfl rfl rfl (by decide +kernel) ⟨Nat.le_of_ble_eq_true rfl, Nat.le_of_ble_eq_true rfl⟩) ⟨fun a U g mk q => by obtain ⟨q0, q1, qP, qK, qM⟩ := q; exact ⟨q0, q1, qP, va_K.moved (u := U) (U := U.calling g mk a) (Vm.Alike.refl U.vm) qK, qM⟩, va_recv hK hP (ci := 4) (q0 := q3) rfl ((fw_get (by omega)).trans (by rw [(sE_rowO hq3)])), fun U hU hW => ⟨rfl, by rw [hU], by rw [hU]; exact hP, va_K.moved hW.alike hK, xM_warm hW hM⟩⟩ rfl rfl hl.1 rfl (lv_room (Nat.le_of_ble_eq_true rfl)) dX0_leaveOut_81 ⟨Nat.le_of_ble_eq_true rfl, Nat.le_of_ble_eq_true rfl⟩) hS (fun q _ h => fA_le hS.1 q h) (fA_le hS.1) (fun u9 t9 H1 locs ht9 hvm9 hw9 hB9 hz9 hk9 hS => ?_)
        obtain ⟨hP, -⟩ := hB9
        rw [ht9] at hP
        generalize H1 = H at hP hS ⊢
        obtain ⟨μr, eμr⟩ : ∃ x : va_M, x = u9 := ⟨_, rfl⟩
        rw [← eμr] at hP hw9
        have hμr := hw9; clear hw9
        obtain ⟨o4_, f4_, T4_⟩ := hμr
        have F4 : fr (BQ q3) μ μr := fr_trans SO2 (fr_mono f4_ (fun x y h => Or.inl h))
        have r4 : μr 41 4 = μ 41 4 := (f4_ _ _ (n41 hq3)).trans SO4
        have r5 : μr 41 5 = μ 41 5 := (f4_ _ _ (n41 hq3)).trans SO5
        have r6 := f4_ 41 6 (n41 hq3)
        refine lv_iload_n hx hb dX0_leaveOut_84 rfl (lv_at hl 6 rfl) ?_
        refine lv_iconst (v := iZ 4) hx hb dX0_leaveOut_85 rfl ?_
        refine fz_icmp_ne (tgt := 98) (by constructor <;> omega) (by decide) hx hb dX0_leaveOut_86 (by decide) (fun c86_ => ?_) (fun h9 => (by omega))
        refine lv_aload_n hx hb dX0_leaveOut_98 rfl (lv_at hl 3 rfl) ?_
        refine lv_iload hx hb dX0_leaveOut_99 (lv_at hl 0 rfl) ?_
        refine fz_put (D := (dC, dI)) (ci := 0) (ty := .int) (z := ra) (C := RX0) (T := TX0) (N := 7) hx hb hts inG0 tyX0 tyX0_ok nmX0 hown hK hP fA_in hS (k := 41) (by decide) (F := (sF41 h0)) sE_41 rfl 5 (by decide) (hts _ k187) (fun _ h9 => h9) rfl (by decide +kernel) rfl rfl (fun _ => Nat.le_of_ble_eq_true rfl) (fun _ _ => rfl) dX0_leaveOut_101 (fun H locs hP hS => ?_)
        obtain ⟨μ4, eμ4⟩ : ∃ x : va_M, x = uz μr 41 5 (ra) := ⟨_, rfl⟩
        rw [← eμ4] at hP
        exact W.vret hx hb hr (fun t9 ht9 hW9 => ⟨⟨μ4, rfl, (by
                        try dsimp only
                        have F5 : fr (BQ q3) μ μ4 := by rw [eμ4]; exact fr_uz F4 (Or.inr ⟨rfl, by decide, by decide⟩)
                        have XB : ag μ μ4 q := ag_BQ hq ha3 F5
                        have XB2 : ag μ μ4 q2 := ag_BQ hq2 ha32 F5
                        have e6 := r6
                        rw [← show μ4 41 6 = μr 41 6 by rw [eμ4, uz_n (by decide)]] at e6
                        have A4 : μ4 41 4 = μ 41 4 := by rw [eμ4, uz_n (by decide)]; exact r4
                        have A5 : μ4 41 5 = ra := by rw [eμ4, uz_s]
                        have T5_ : outT μ4 q3 rm3 (oL ++ (oP ++ oA)) := by
                          rw [← List.append_assoc]
                          exact outT_fr T4_ (by rw [eμ4, uz_n (r41c hq3)]) (by rw [eμ4, uz_n (r41c hq3)]) (fun y => by rw [eμ4, uz_n (r41b hq3)])
                        refine ⟨F5, ⟨?_, by rw [e6]; exact SO3, ?_⟩, ?_, T5_, fun h9 => absurd h9 (by omega), fun _ => ⟨A5.trans hra, A4⟩, fun h9 => e6.trans (TO2 h9), fun h9 => e6.trans (TO3 h9)⟩
                        · rw [vis_eq XB XB2, A4, A5]
                          exact n3_
                        · rw [e6, ag_E XB, A4]
                          refine outS_at (of_w hq3 rfl o4_ (by rw [eμ4])) ?_
                          rfl
                        · rw [A4, A5]
                          omega), by rw [ht9]; exact hP, va_K.moved hW9.alike hK⟩, hS.F ht9⟩) hS.2.2 dX0_leaveOut_104
  · have hwa : μ 41 4 < μ q 5 ∧ μ (q + 1) (μ 41 4).toNat ≠ 515 := by
      rcases hw with h | h
      · exact h.2
      · exact absurd h.1 (by omega)
    have hgw : gOK wy := by unfold gOK; omega
    clear hw
    obtain ⟨hA1, hA2, hA3⟩ := hA4 (by omega)
    refine lv_aload_n hx hb dX0_leaveOut_5 rfl (lv_at hl 1 rfl) ?_
    refine lv_goto (tgt := 10) hx hb dX0_leaveOut_6 (by decide) ?_
    refine lv_astore (lv' := [(5, .ref (h0 + q)), (0, .ref (h0 + 41)), (1, .ref (h0 + q)), (2, .ref (h0 + q2)), (3, .int (iZ (wy))), (4, .ref (h0 + q3))]) hx hb dX0_leaveOut_10 hl (by decide) rfl (fun ls hl => ?_)
    refine lv_iload_n hx hb dX0_leaveOut_12 rfl (lv_at hl 4 rfl) ?_
    refine lv_iconst (v := iZ 4) hx hb dX0_leaveOut_13 rfl ?_
    refine fz_icmp_ne (tgt := 24) (by constructor <;> omega) (by decide) hx hb dX0_leaveOut_14 (by decide) (fun h9 => (by omega)) (fun c14_ => ?_)
    refine lv_aload_n hx hb dX0_leaveOut_17 rfl (lv_at hl 1 rfl) ?_
    refine fz_get (D := (dC, dI)) (ci := 0) (v := .int (iZ (μ 41 4))) (C := RX0) (T := TX0) (N := 7) hx hb hts inG0 hown hK hP (k := 41) (by decide) (F := (sF41 h0)) sE_41 rfl 4 (by decide) (hts _ k186) (fun _ h9 => h9) rfl dX0_leaveOut_18 ?_
    refine lv_goto (tgt := 28) hx hb dX0_leaveOut_21 (by decide) ?_
    refine lv_istore (lv' := [(6, .int (iZ (μ 41 4))), (5, .ref (h0 + q)), (0, .ref (h0 + 41)), (1, .ref (h0 + q)), (2, .ref (h0 + q2)), (3, .int (iZ (wy))), (4, .ref (h0 + q3))]) hx hb dX0_leaveOut_28 hl (by decide) rfl (fun ls hl => ?_)
    obtain ⟨n1_, n2_, n3_⟩ := vis_4 hG hv1 hwa.1 hwa.2
    have hsq := hG.1 (μ 41 4).toNat
    have hsgm := it_sg hG (by omega) hwa.1 hwa.2
    refine lv_aload hx hb dX0_leaveOut_30 (lv_at hl 1 rfl) ?_
    refine lv_iload hx hb dX0_leaveOut_32 (lv_at hl 0 rfl) ?_
    refine va_calli (va_runV (As := [.int (iZ (μ 41 4))]) (rest := []) ⟨hx, hb, hml, hown, hts⟩ (s_Rafter l dC dI cI cZ cII cIII h0 s.heap.size μ (q) (rm) (μ 41 4) (hq) (by omega) (by constructor <;> omega)) (cwV 1 hts (gV_G k791 k438 k439 k3 k440) rfl rfl rfl (by decide +kernel) ⟨Nat.le_of_ble_eq_true rfl, Nat.le_of_ble_eq_true rfl⟩) ⟨fun a U g mk q => by obtain ⟨q0, q1, qP, qK, qM⟩ := q; exact ⟨q0, q1, qP, va_K.moved (u := U) (U := U.calling g mk a) (Vm.Alike.refl U.vm) qK, qM⟩, va_recv hK hP (ci := 4) (q0 := q) rfl ((fw_get (by omega)).trans (by rw [(sE_rowO hq)])), fun U hU hW => ⟨rfl, by rw [hU], by rw [hU]; exact hP, va_K.moved hW.alike hK, xM_warm hW hM⟩⟩ rfl rfl hl.1 rfl (lv_room (Nat.le_of_ble_eq_true rfl)) dX0_leaveOut_34 ⟨Nat.le_of_ble_eq_true rfl, Nat.le_of_ble_eq_true rfl⟩) hS (fun q _ h => fA_le hS.1 q h) (fA_le hS.1) (fun r9 u9 t9 H1 locs ht9 hvm9 hw9 hB9 hz9 hk9 hS => ?_)
    obtain ⟨μa, ra⟩ := u9
    obtain ⟨hP, -⟩ := hB9
    rw [ht9] at hP
    generalize H1 = H at hP hS ⊢
    obtain ⟨e9, hw9⟩ := hw9
    have e9 : r9 = iZ ra := e9
    subst e9
    simp only at hP hw9
    have hμa := hw9; clear hw9
    rw [hμa.1] at hP; have hμa := hμa.2
    have hra := hμa
    rw [← hra] at n2_ n3_ hsgm
    refine lv_istore (lv' := [(7, .int (iZ (ra))), (6, .int (iZ (μ 41 4))), (5, .ref (h0 + q)), (0, .ref (h0 + 41)), (1, .ref (h0 + q)), (2, .ref (h0 + q2)), (3, .int (iZ (wy))), (4, .ref (h0 + q3))]) hx hb dX0_leaveOut_37 hl (by decide) rfl (fun ls hl => ?_)
    refine lv_aload_n hx hb dX0_leaveOut_39 rfl (lv_at hl 3 rfl) ?_
    refine fz_get (D := (dC, dI)) (ci := 0) (v := .int (iZ (μ 41 6))) (C := RX0) (T := TX0) (N := 7) hx hb hts inG0 hown hK hP (k := 41) (by decide) (F := (sF41 h0)) sE_41 rfl 6 (by decide) (hts _ k188) (fun _ h9 => h9) rfl dX0_leaveOut_40 ?_
    refine fz_if_ne (tgt := 73) (by constructor <;> omega) hx hb dX0_leaveOut_43 (by decide) (fun c43_ => ?_) (fun c43_ => ?_)
    · have SO : outS μ q3 rm3 (Dp (μ (q + 1)) (μ 41 4).toNat + gI (μ 41 6)) ∧ fr (BQ q3) μ μ ∧ gOK (μ 41 6) ∧ μ 41 4 = μ 41 4 ∧ μ 41 5 = μ 41 5 := by
        exact ⟨ho1, fr_rfl, hg1, rfl, rfl⟩
      obtain ⟨SO1, SO2, SO3, SO4, SO5⟩ := SO
      have hgb2 := gI_b (μ 41 6)
      have XA : ag μ μ q := ag_BQ hq ha3 SO2
      have XA2 : ag μ μ q2 := ag_BQ hq2 ha32 SO2
      have TO : outT μ q3 rm3 (oL ++ oP) ∧ (oP = [513] → μ 41 6 = wy) ∧ (oP = [] → μ 41 6 = μ 41 6) := by
        have hp9 : oP = [] := by rw [hA3]; exact if_neg (by omega)
        rw [hp9, List.append_nil]
        exact ⟨hoT, (fun h => by cases h), fun _ => rfl⟩
      obtain ⟨TO1, TO2, TO3⟩ := TO
      refine lv_aload hx hb dX0_leaveOut_73 (lv_at hl 7 rfl) ?_
      refine lv_aload hx hb dX0_leaveOut_75 (lv_at hl 2 rfl) ?_
      refine lv_iload hx hb dX0_leaveOut_77 (lv_at hl 1 rfl) ?_
      refine lv_iload hx hb dX0_leaveOut_79 (lv_at hl 0 rfl) ?_
      refine va_callv (va_runV (As := [.ref (h0 + q), .int (iZ (μ 41 4)), .int (iZ (ra))]) (rest := []) ⟨hx, hb, hml, hown, hts⟩ (s_RputRangeT l dC dI cI cZ cII cIII h0 H.size μ (q3) (rm3) (q) (rm) (μ 41 4) (ra) (Dp (μ (q + 1)) (μ 41 4).toNat + gI (μ 41 6)) ((oL ++ oP)) (oA) (hq3) (hq) (by exact ha3) (by exact rG_fr hG XA) (by rw [ag_E XA]; exact hsgm) (by
                    have e5 := ag_5 XA
                    omega) (by omega) (by exact SO1) (by exact TO1) (by exact ⟨by omega, fun t ht => by rw [ag_E XA]; exact hA2 t ht⟩)) (cwV 3 hts (gV_G k824 k825 k826 k3 k827) rfl rfl rfl (by decide +kernel) ⟨Nat.le_of_ble_eq_true rfl, Nat.le_of_ble_eq_true rfl⟩) ⟨fun a U g mk q => by obtain ⟨q0, q1, qP, qK, qM⟩ := q; exact ⟨q0, q1, qP, va_K.moved (u := U) (U := U.calling g mk a) (Vm.Alike.refl U.vm) qK, qM⟩, va_recv hK hP (ci := 4) (q0 := q3) rfl ((fw_get (by omega)).trans (by rw [(sE_rowO hq3)])), fun U hU hW => ⟨rfl, by rw [hU], by rw [hU]; exact hP, va_K.moved hW.alike hK, xM_warm hW hM⟩⟩ rfl rfl hl.1 rfl (lv_room (Nat.le_of_ble_eq_true rfl)) dX0_leaveOut_81 ⟨Nat.le_of_ble_eq_true rfl, Nat.le_of_ble_eq_true rfl⟩) hS (fun q _ h => fA_le hS.1 q h) (fA_le hS.1) (fun u9 t9 H1 locs ht9 hvm9 hw9 hB9 hz9 hk9 hS => ?_)
      obtain ⟨hP, -⟩ := hB9
      rw [ht9] at hP
      generalize H1 = H at hP hS ⊢
      obtain ⟨μr, eμr⟩ : ∃ x : va_M, x = u9 := ⟨_, rfl⟩
      rw [← eμr] at hP hw9
      have hμr := hw9; clear hw9
      obtain ⟨o4_, f4_, T4_⟩ := hμr
      have F4 : fr (BQ q3) μ μr := fr_trans SO2 (fr_mono f4_ (fun x y h => Or.inl h))
      have r4 : μr 41 4 = μ 41 4 := (f4_ _ _ (n41 hq3)).trans SO4
      have r5 : μr 41 5 = μ 41 5 := (f4_ _ _ (n41 hq3)).trans SO5
      have r6 := f4_ 41 6 (n41 hq3)
      refine lv_iload_n hx hb dX0_leaveOut_84 rfl (lv_at hl 6 rfl) ?_
      refine lv_iconst (v := iZ 4) hx hb dX0_leaveOut_85 rfl ?_
      refine fz_icmp_ne (tgt := 98) (by constructor <;> omega) (by decide) hx hb dX0_leaveOut_86 (by decide) (fun h9 => (by omega)) (fun c86_ => ?_)
      refine lv_aload_n hx hb dX0_leaveOut_89 rfl (lv_at hl 3 rfl) ?_
      refine lv_iload hx hb dX0_leaveOut_90 (lv_at hl 0 rfl) ?_
      refine fz_put (D := (dC, dI)) (ci := 0) (ty := .int) (z := ra) (C := RX0) (T := TX0) (N := 7) hx hb hts inG0 tyX0 tyX0_ok nmX0 hown hK hP fA_in hS (k := 41) (by decide) (F := (sF41 h0)) sE_41 rfl 4 (by decide) (hts _ k186) (fun _ h9 => h9) rfl (by decide +kernel) rfl rfl (fun _ => Nat.le_of_ble_eq_true rfl) (fun _ _ => rfl) dX0_leaveOut_92 (fun H locs hP hS => ?_)
      obtain ⟨μ5, eμ5⟩ : ∃ x : va_M, x = uz μr 41 4 (ra) := ⟨_, rfl⟩
      rw [← eμ5] at hP
      refine lv_goto (tgt := 104) hx hb dX0_leaveOut_95 (by decide) ?_
      exact W.vret hx hb hr (fun t9 ht9 hW9 => ⟨⟨μ5, rfl, (by
                    try dsimp only
                    have F5 : fr (BQ q3) μ μ5 := by rw [eμ5]; exact fr_uz F4 (Or.inr ⟨rfl, by decide, by decide⟩)
                    have XB : ag μ μ5 q := ag_BQ hq ha3 F5
                    have XB2 : ag μ μ5 q2 := ag_BQ hq2 ha32 F5
                    have e6 := r6
                    rw [← show μ5 41 6 = μr 41 6 by rw [eμ5, uz_n (by decide)]] at e6
                    have A4 : μ5 41 4 = ra := by rw [eμ5, uz_s]
                    have A5 : μ5 41 5 = μ 41 5 := by rw [eμ5, uz_n (by decide)]; exact r5
                    have T5_ : outT μ5 q3 rm3 (oL ++ (oP ++ oA)) := by
                      rw [← List.append_assoc]
                      exact outT_fr T4_ (by rw [eμ5, uz_n (r41c hq3)]) (by rw [eμ5, uz_n (r41c hq3)]) (fun y => by rw [eμ5, uz_n (r41b hq3)])
                    refine ⟨F5, ⟨?_, by rw [e6]; exact SO3, ?_⟩, ?_, T5_, fun _ => ⟨A4.trans hra, A5⟩, fun h9 => absurd h9 (by omega), fun h9 => e6.trans (TO2 h9), fun h9 => e6.trans (TO3 h9)⟩
                    · rw [vis_eq XB XB2, A4, A5]
                      exact n3_
                    · rw [e6, ag_E XB, A4]
                      refine outS_at (of_w hq3 rfl o4_ (by rw [eμ5])) ?_
                      have h9 := hsgm.2.1
                      omega
                    · rw [A4, A5]
                      omega), by rw [ht9]; exact hP, va_K.moved hW9.alike hK⟩, hS.F ht9⟩) hS.2.2 dX0_leaveOut_104
    · refine lv_aload hx hb dX0_leaveOut_46 (lv_at hl 2 rfl) ?_
      refine fz_get (D := (dC, dI)) (ci := 4) (v := .ref (h0 + (q + 1))) (C := RX4) (T := TX4) (N := 8) hx hb hts inG4 hown hK hP (k := q) (by omega) (F := (sRF h0 q)) (sE_rowO hq) rfl 0 (by decide) (hts _ k80) (fun _ h9 => h9) rfl dX0_leaveOut_48 ?_
      refine lv_iload hx hb dX0_leaveOut_51 (lv_at hl 1 rfl) ?_
      refine fz_ld (k := (q + 1)) (n := rm) hx hb hK hP 0 (by omega) (sE_rowA (r := 1) hq (by decide)) rfl ⟨by omega, by omega⟩ (by omega) dX0_leaveOut_53 ?_
      refine lv_sipush (v := iZ 513) hx hb dX0_leaveOut_54 rfl ?_
      refine fz_icmp_eq (tgt := 73) (by constructor <;> omega) (by decide) hx hb dX0_leaveOut_57 (by decide) (fun c57_ => ?_) (fun c57_ => ?_)
      · have SO : outS μ q3 rm3 (Dp (μ (q + 1)) (μ 41 4).toNat + gI (μ 41 6)) ∧ fr (BQ q3) μ μ ∧ gOK (μ 41 6) ∧ μ 41 4 = μ 41 4 ∧ μ 41 5 = μ 41 5 := by
          exact ⟨ho1, fr_rfl, hg1, rfl, rfl⟩
        obtain ⟨SO1, SO2, SO3, SO4, SO5⟩ := SO
        have hgb2 := gI_b (μ 41 6)
        have XA : ag μ μ q := ag_BQ hq ha3 SO2
        have XA2 : ag μ μ q2 := ag_BQ hq2 ha32 SO2
        have TO : outT μ q3 rm3 (oL ++ oP) ∧ (oP = [513] → μ 41 6 = wy) ∧ (oP = [] → μ 41 6 = μ 41 6) := by
          have hp9 : oP = [] := by rw [hA3]; exact if_neg (by omega)
          rw [hp9, List.append_nil]
          exact ⟨hoT, (fun h => by cases h), fun _ => rfl⟩
        obtain ⟨TO1, TO2, TO3⟩ := TO
        refine lv_aload hx hb dX0_leaveOut_73 (lv_at hl 7 rfl) ?_
        refine lv_aload hx hb dX0_leaveOut_75 (lv_at hl 2 rfl) ?_
        refine lv_iload hx hb dX0_leaveOut_77 (lv_at hl 1 rfl) ?_
        refine lv_iload hx hb dX0_leaveOut_79 (lv_at hl 0 rfl) ?_
        refine va_callv (va_runV (As := [.ref (h0 + q), .int (iZ (μ 41 4)), .int (iZ (ra))]) (rest := []) ⟨hx, hb, hml, hown, hts⟩ (s_RputRangeT l dC dI cI cZ cII cIII h0 H.size μ (q3) (rm3) (q) (rm) (μ 41 4) (ra) (Dp (μ (q + 1)) (μ 41 4).toNat + gI (μ 41 6)) ((oL ++ oP)) (oA) (hq3) (hq) (by exact ha3) (by exact rG_fr hG XA) (by rw [ag_E XA]; exact hsgm) (by
                        have e5 := ag_5 XA
                        omega) (by omega) (by exact SO1) (by exact TO1) (by exact ⟨by omega, fun t ht => by rw [ag_E XA]; exact hA2 t ht⟩)) (cwV 3 hts (gV_G k824 k825 k826 k3 k827) rfl rfl rfl (by decide +kernel) ⟨Nat.le_of_ble_eq_true rfl, Nat.le_of_ble_eq_true rfl⟩) ⟨fun a U g mk q => by obtain ⟨q0, q1, qP, qK, qM⟩ := q; exact ⟨q0, q1, qP, va_K.moved (u := U) (U := U.calling g mk a) (Vm.Alike.refl U.vm) qK, qM⟩, va_recv hK hP (ci := 4) (q0 := q3) rfl ((fw_get (by omega)).trans (by rw [(sE_rowO hq3)])), fun U hU hW => ⟨rfl, by rw [hU], by rw [hU]; exact hP, va_K.moved hW.alike hK, xM_warm hW hM⟩⟩ rfl rfl hl.1 rfl (lv_room (Nat.le_of_ble_eq_true rfl)) dX0_leaveOut_81 ⟨Nat.le_of_ble_eq_true rfl, Nat.le_of_ble_eq_true rfl⟩) hS (fun q _ h => fA_le hS.1 q h) (fA_le hS.1) (fun u9 t9 H1 locs ht9 hvm9 hw9 hB9 hz9 hk9 hS => ?_)
        obtain ⟨hP, -⟩ := hB9
        rw [ht9] at hP
        generalize H1 = H at hP hS ⊢
        obtain ⟨μr, eμr⟩ : ∃ x : va_M, x = u9 := ⟨_, rfl⟩
        rw [← eμr] at hP hw9
        have hμr := hw9; clear hw9
        obtain ⟨o4_, f4_, T4_⟩ := hμr
        have F4 : fr (BQ q3) μ μr := fr_trans SO2 (fr_mono f4_ (fun x y h => Or.inl h))
        have r4 : μr 41 4 = μ 41 4 := (f4_ _ _ (n41 hq3)).trans SO4
        have r5 : μr 41 5 = μ 41 5 := (f4_ _ _ (n41 hq3)).trans SO5
        have r6 := f4_ 41 6 (n41 hq3)
        refine lv_iload_n hx hb dX0_leaveOut_84 rfl (lv_at hl 6 rfl) ?_
        refine lv_iconst (v := iZ 4) hx hb dX0_leaveOut_85 rfl ?_
        refine fz_icmp_ne (tgt := 98) (by constructor <;> omega) (by decide) hx hb dX0_leaveOut_86 (by decide) (fun h9 => (by omega)) (fun c86_ => ?_)
        refine lv_aload_n hx hb dX0_leaveOut_89 rfl (lv_at hl 3 rfl) ?_
        refine lv_iload hx hb dX0_leaveOut_90 (lv_at hl 0 rfl) ?_
        refine fz_put (D := (dC, dI)) (ci := 0) (ty := .int) (z := ra) (C := RX0) (T := TX0) (N := 7) hx hb hts inG0 tyX0 tyX0_ok nmX0 hown hK hP fA_in hS (k := 41) (by decide) (F := (sF41 h0)) sE_41 rfl 4 (by decide) (hts _ k186) (fun _ h9 => h9) rfl (by decide +kernel) rfl rfl (fun _ => Nat.le_of_ble_eq_true rfl) (fun _ _ => rfl) dX0_leaveOut_92 (fun H locs hP hS => ?_)
        obtain ⟨μ6, eμ6⟩ : ∃ x : va_M, x = uz μr 41 4 (ra) := ⟨_, rfl⟩
        rw [← eμ6] at hP
        refine lv_goto (tgt := 104) hx hb dX0_leaveOut_95 (by decide) ?_
        exact W.vret hx hb hr (fun t9 ht9 hW9 => ⟨⟨μ6, rfl, (by
                        try dsimp only
                        have F5 : fr (BQ q3) μ μ6 := by rw [eμ6]; exact fr_uz F4 (Or.inr ⟨rfl, by decide, by decide⟩)
                        have XB : ag μ μ6 q := ag_BQ hq ha3 F5
                        have XB2 : ag μ μ6 q2 := ag_BQ hq2 ha32 F5
                        have e6 := r6
                        rw [← show μ6 41 6 = μr 41 6 by rw [eμ6, uz_n (by decide)]] at e6
                        have A4 : μ6 41 4 = ra := by rw [eμ6, uz_s]
                        have A5 : μ6 41 5 = μ 41 5 := by rw [eμ6, uz_n (by decide)]; exact r5
                        have T5_ : outT μ6 q3 rm3 (oL ++ (oP ++ oA)) := by
                          rw [← List.append_assoc]
                          exact outT_fr T4_ (by rw [eμ6, uz_n (r41c hq3)]) (by rw [eμ6, uz_n (r41c hq3)]) (fun y => by rw [eμ6, uz_n (r41b hq3)])
                        refine ⟨F5, ⟨?_, by rw [e6]; exact SO3, ?_⟩, ?_, T5_, fun _ => ⟨A4.trans hra, A5⟩, fun h9 => absurd h9 (by omega), fun h9 => e6.trans (TO2 h9), fun h9 => e6.trans (TO3 h9)⟩
                        · rw [vis_eq XB XB2, A4, A5]
                          exact n3_
                        · rw [e6, ag_E XB, A4]
                          refine outS_at (of_w hq3 rfl o4_ (by rw [eμ6])) ?_
                          have h9 := hsgm.2.1
                          omega
                        · rw [A4, A5]
                          omega), by rw [ht9]; exact hP, va_K.moved hW9.alike hK⟩, hS.F ht9⟩) hS.2.2 dX0_leaveOut_104
      · refine lv_aload hx hb dX0_leaveOut_60 (lv_at hl 7 rfl) ?_
        refine lv_sipush (v := iZ 513) hx hb dX0_leaveOut_62 rfl ?_
        refine va_callv (va_runV (As := [.int (iZ (513))]) (rest := []) ⟨hx, hb, hml, hown, hts⟩ (s_Rput l dC dI cI cZ cII cIII h0 H.size μ (q3) (rm3) (513) (hq3) (by exact ho2)) (cwV 1 hts (gV_G k819 k411 k412 k3 k413) rfl rfl rfl (by decide +kernel) ⟨Nat.le_of_ble_eq_true rfl, Nat.le_of_ble_eq_true rfl⟩) ⟨fun a U g mk q => by obtain ⟨q0, q1, qP, qK, qM⟩ := q; exact ⟨q0, q1, qP, va_K.moved (u := U) (U := U.calling g mk a) (Vm.Alike.refl U.vm) qK, qM⟩, va_recv hK hP (ci := 4) (q0 := q3) rfl ((fw_get (by omega)).trans (by rw [(sE_rowO hq3)])), fun U hU hW => ⟨rfl, by rw [hU], by rw [hU]; exact hP, va_K.moved hW.alike hK, xM_warm hW hM⟩⟩ rfl rfl hl.1 rfl (lv_room (Nat.le_of_ble_eq_true rfl)) dX0_leaveOut_65 ⟨Nat.le_of_ble_eq_true rfl, Nat.le_of_ble_eq_true rfl⟩) hS (fun q _ h => fA_le hS.1 q h) (fA_le hS.1) (fun u9 t9 H1 locs ht9 hvm9 hw9 hB9 hz9 hk9 hS => ?_)
        obtain ⟨hP, -⟩ := hB9
        rw [ht9] at hP
        generalize H1 = H at hP hS ⊢
        obtain ⟨μo, eμo⟩ : ∃ x : va_M, x = u9 := ⟨_, rfl⟩
        rw [← eμo] at hP hw9
        have hμo := hw9; clear hw9
        obtain ⟨c1, c2⟩ := hμo
        rw [show μ 41 6 = 0 by omega, gI_0, Int.add_zero] at ho1
        obtain ⟨o1_, f1_⟩ := outS_put ho1 (s := 513) (by unfold vS; omega) (by rw [dl_1 (Or.inl rfl)]; omega) c1 c2
        rw [dl_1 (Or.inl rfl)] at o1_
        refine lv_aload_n hx hb dX0_leaveOut_68 rfl (lv_at hl 3 rfl) ?_
        refine lv_iload_n hx hb dX0_leaveOut_69 rfl (lv_at hl 6 rfl) ?_
        refine fz_put (D := (dC, dI)) (ci := 0) (ty := .int) (z := wy) (C := RX0) (T := TX0) (N := 7) hx hb hts inG0 tyX0 tyX0_ok nmX0 hown hK hP fA_in hS (k := 41) (by decide) (F := (sF41 h0)) sE_41 rfl 6 (by decide) (hts _ k188) (fun _ h9 => h9) rfl (by decide +kernel) rfl rfl (fun _ => Nat.le_of_ble_eq_true rfl) (fun _ _ => rfl) dX0_leaveOut_70 (fun H locs hP hS => ?_)
        obtain ⟨μ7, eμ7⟩ : ∃ x : va_M, x = uz μo 41 6 (wy) := ⟨_, rfl⟩
        rw [← eμ7] at hP
        have SO : outS μ7 q3 rm3 (Dp (μ (q + 1)) (μ 41 4).toNat + gI (μ7 41 6)) ∧ fr (BQ q3) μ μ7 ∧ gOK (μ7 41 6) ∧ μ7 41 4 = μ 41 4 ∧ μ7 41 5 = μ 41 5 := by
          have e6 : μ7 41 6 = wy := by rw [eμ7, uz_s]
          have e4 : μ7 41 4 = μ 41 4 := by rw [eμ7, uz_n (by decide)]; exact f1_ _ _ (n41 hq3)
          have e5 : μ7 41 5 = μ 41 5 := by rw [eμ7, uz_n (by decide)]; exact f1_ _ _ (n41 hq3)
          rw [e6, gI_n (by omega)]
          exact ⟨of_w hq3 rfl o1_ (by rw [eμ7]), by rw [eμ7]; exact fr_uz (fr_mono f1_ (fun x y h => Or.inl h)) (Or.inr ⟨rfl, by decide, by decide⟩), hgw, e4, e5⟩
        obtain ⟨SO1, SO2, SO3, SO4, SO5⟩ := SO
        have hgb2 := gI_b (μ7 41 6)
        have XA : ag μ μ7 q := ag_BQ hq ha3 SO2
        have XA2 : ag μ μ7 q2 := ag_BQ hq2 ha32 SO2
        have TO : outT μ7 q3 rm3 (oL ++ oP) ∧ (oP = [513] → μ7 41 6 = wy) ∧ (oP = [] → μ7 41 6 = μ 41 6) := by
          have hp9 : oP = [513] := by rw [hA3]; exact if_pos ⟨by omega, by omega⟩
          have T1_ := outT_put hoT c1 c2
          rw [hp9]
          refine ⟨outT_fr T1_ ?_ ?_ (fun y => ?_), (fun _ => by rw [eμ7, uz_s]), (fun h => by cases h)⟩
          · rw [eμ7, uz_n (r41c hq3)]
          · rw [eμ7, uz_n (r41c hq3)]
          · rw [eμ7, uz_n (r41b hq3)]
        obtain ⟨TO1, TO2, TO3⟩ := TO
        refine lv_aload hx hb dX0_leaveOut_73 (lv_at hl 7 rfl) ?_
        refine lv_aload hx hb dX0_leaveOut_75 (lv_at hl 2 rfl) ?_
        refine lv_iload hx hb dX0_leaveOut_77 (lv_at hl 1 rfl) ?_
        refine lv_iload hx hb dX0_leaveOut_79 (lv_at hl 0 rfl) ?_
        refine va_callv (va_runV (As := [.ref (h0 + q), .int (iZ (μ 41 4)), .int (iZ (ra))]) (rest := []) ⟨hx, hb, hml, hown, hts⟩ (s_RputRangeT l dC dI cI cZ cII cIII h0 H.size μ7 (q3) (rm3) (q) (rm) (μ 41 4) (ra) (Dp (μ (q + 1)) (μ 41 4).toNat + gI (μ7 41 6)) ((oL ++ oP)) (oA) (hq3) (hq) (by exact ha3) (by exact rG_fr hG XA) (by rw [ag_E XA]; exact hsgm) (by
                        have e5 := ag_5 XA
                        omega) (by omega) (by exact SO1) (by exact TO1) (by exact ⟨by omega, fun t ht => by rw [ag_E XA]; exact hA2 t ht⟩)) (cwV 3 hts (gV_G k824 k825 k826 k3 k827) rfl rfl rfl (by decide +kernel) ⟨Nat.le_of_ble_eq_true rfl, Nat.le_of_ble_eq_true rfl⟩) ⟨fun a U g mk q => by obtain ⟨q0, q1, qP, qK, qM⟩ := q; exact ⟨q0, q1, qP, va_K.moved (u := U) (U := U.calling g mk a) (Vm.Alike.refl U.vm) qK, qM⟩, va_recv hK hP (ci := 4) (q0 := q3) rfl ((fw_get (by omega)).trans (by rw [(sE_rowO hq3)])), fun U hU hW => ⟨rfl, by rw [hU], by rw [hU]; exact hP, va_K.moved hW.alike hK, xM_warm hW hM⟩⟩ rfl rfl hl.1 rfl (lv_room (Nat.le_of_ble_eq_true rfl)) dX0_leaveOut_81 ⟨Nat.le_of_ble_eq_true rfl, Nat.le_of_ble_eq_true rfl⟩) hS (fun q _ h => fA_le hS.1 q h) (fA_le hS.1) (fun u9 t9 H1 locs ht9 hvm9 hw9 hB9 hz9 hk9 hS => ?_)
        obtain ⟨hP, -⟩ := hB9
        rw [ht9] at hP
        generalize H1 = H at hP hS ⊢
        obtain ⟨μr, eμr⟩ : ∃ x : va_M, x = u9 := ⟨_, rfl⟩
        rw [← eμr] at hP hw9
        have hμr := hw9; clear hw9
        obtain ⟨o4_, f4_, T4_⟩ := hμr
        have F4 : fr (BQ q3) μ μr := fr_trans SO2 (fr_mono f4_ (fun x y h => Or.inl h))
        have r4 : μr 41 4 = μ 41 4 := (f4_ _ _ (n41 hq3)).trans SO4
        have r5 : μr 41 5 = μ 41 5 := (f4_ _ _ (n41 hq3)).trans SO5
        have r6 := f4_ 41 6 (n41 hq3)
        refine lv_iload_n hx hb dX0_leaveOut_84 rfl (lv_at hl 6 rfl) ?_
        refine lv_iconst (v := iZ 4) hx hb dX0_leaveOut_85 rfl ?_
        refine fz_icmp_ne (tgt := 98) (by constructor <;> omega) (by decide) hx hb dX0_leaveOut_86 (by decide) (fun h9 => (by omega)) (fun c86_ => ?_)
        refine lv_aload_n hx hb dX0_leaveOut_89 rfl (lv_at hl 3 rfl) ?_
        refine lv_iload hx hb dX0_leaveOut_90 (lv_at hl 0 rfl) ?_
        refine fz_put (D := (dC, dI)) (ci := 0) (ty := .int) (z := ra) (C := RX0) (T := TX0) (N := 7) hx hb hts inG0 tyX0 tyX0_ok nmX0 hown hK hP fA_in hS (k := 41) (by decide) (F := (sF41 h0)) sE_41 rfl 4 (by decide) (hts _ k186) (fun _ h9 => h9) rfl (by decide +kernel) rfl rfl (fun _ => Nat.le_of_ble_eq_true rfl) (fun _ _ => rfl) dX0_leaveOut_92 (fun H locs hP hS => ?_)
        obtain ⟨μ8, eμ8⟩ : ∃ x : va_M, x = uz μr 41 4 (ra) := ⟨_, rfl⟩
        rw [← eμ8] at hP
        refine lv_goto (tgt := 104) hx hb dX0_leaveOut_95 (by decide) ?_
        exact W.vret hx hb hr (fun t9 ht9 hW9 => ⟨⟨μ8, rfl, (by
                        try dsimp only
                        have F5 : fr (BQ q3) μ μ8 := by rw [eμ8]; exact fr_uz F4 (Or.inr ⟨rfl, by decide, by decide⟩)
                        have XB : ag μ μ8 q := ag_BQ hq ha3 F5
                        have XB2 : ag μ μ8 q2 := ag_BQ hq2 ha32 F5
                        have e6 := r6
                        rw [← show μ8 41 6 = μr 41 6 by rw [eμ8, uz_n (by decide)]] at e6
                        have A4 : μ8 41 4 = ra := by rw [eμ8, uz_s]
                        have A5 : μ8 41 5 = μ 41 5 := by rw [eμ8, uz_n (by decide)]; exact r5
                        have T5_ : outT μ8 q3 rm3 (oL ++ (oP ++ oA)) := by
                          rw [← List.append_assoc]
                          exact outT_fr T4_ (by rw [eμ8, uz_n (r41c hq3)]) (by rw [eμ8, uz_n (r41c hq3)]) (fun y => by rw [eμ8, uz_n (r41b hq3)])
                        refine ⟨F5, ⟨?_, by rw [e6]; exact SO3, ?_⟩, ?_, T5_, fun _ => ⟨A4.trans hra, A5⟩, fun h9 => absurd h9 (by omega), fun h9 => e6.trans (TO2 h9), fun h9 => e6.trans (TO3 h9)⟩
                        · rw [vis_eq XB XB2, A4, A5]
                          exact n3_
                        · rw [e6, ag_E XB, A4]
                          refine outS_at (of_w hq3 rfl o4_ (by rw [eμ8])) ?_
                          have h9 := hsgm.2.1
                          omega
                        · rw [A4, A5]
                          omega), by rw [ht9]; exact hP, va_K.moved hW9.alike hK⟩, hS.F ht9⟩) hS.2.2 dX0_leaveOut_104
set_option maxHeartbeats 4000000 in
set_option maxRecDepth 100000 in
theorem s_YfuseNextT (l : Launch) (dC : Nat → ClassId) (dI : Nat → Nat → Nat) (cI cZ cII cIII : ClassId) (h0 sz : Nat) (μ : va_M) (q : Nat) (rm : Nat) (q2 : Nat) (rm2 : Nat) (q3 : Nat) (rm3 : Nat) (wy : Int) (oL : List Int) (oA : List Int) (hq : rowB q rm) (hq2 : rowB q2 rm2) (hq3 : rowB q3 rm3) (ha3 : apart q3 q) (ha32 : apart q3 q2) (hG : rG μ q rm) (hG2 : rG μ q2 rm2) (h96 : rm2 = 96) (hv : vis μ q q2 (μ 41 4) (μ 41 5)) (hw : wOK μ q q2 (μ 41 4) (μ 41 5) wy) (hw9 : wy ≠ 4 ∧ wy ≠ 5 ∧ 0 ≤ wy ∧ wy ≤ 7) (hne : μ 41 4 < μ q 5 ∨ μ 41 5 < μ q2 5) (ho : outS μ q3 rm3 (Dp (μ (q + 1)) (μ 41 4).toNat)) (hoT : outT μ q3 rm3 oL) (hA2 : wy = 2 → oA.length = (μ (q + 2) (μ 41 4).toNat - μ 41 4 - 1).toNat ∧ ∀ t : Nat, t < oA.length → oA[t]? = some (sFu (μ (q + 1) ((μ 41 4 + 1).toNat + t)) (μ (q2 + 1) ((μ 41 5).toNat + t)))) (hA3 : wy = 3 → oA.length = (μ (q2 + 2) (μ 41 5).toNat - μ 41 5 - 1).toNat ∧ ∀ t : Nat, t < oA.length → oA[t]? = some (sFu (μ (q + 1) ((μ 41 4).toNat + t)) (μ (q2 + 1) ((μ 41 5 + 1).toNat + t)))) : Met l yX0_fuseNext (Cond.code yX0_fuseNext cX0_fuseNext 6 none :: wsG) ({ frames := 3, cells := 0, slots := 0, locals := 62 } : Room) (va_Pc [.ref (h0 + 41), .ref (h0 + q), .ref (h0 + q2), .int (iZ (wy)), .ref (h0 + q3)] (fun U => U.heap.size = sz ∧ va_P (dC, dI) vwCl (fw (sE cI cZ cII cIII h0) h0 233 μ) U.heap ∧ va_K (dC, dI) vwCl (sT cI cZ cII cIII) U ∧ xM U)) (va_Qv (fun (u : va_M) => fr (BQ q3) μ u ∧ u 41 6 = μ 41 6 ∧ vis u q q2 (u 41 4) (u 41 5) ∧ outS u q3 rm3 (Dp (u (q + 1)) (u 41 4).toNat) ∧ μ 41 4 + μ 41 5 + 1 ≤ u 41 4 + u 41 5 ∧ (wy = 2 → outT u q3 rm3 (oL ++ [μ (q + 1) (μ 41 4).toNat] ++ oA ++ [515]) ∧ u 41 4 = μ (q + 2) (μ 41 4).toNat + 1 ∧ u 41 5 = μ 41 5 + (μ (q + 2) (μ 41 4).toNat - μ 41 4 - 1)) ∧ (wy = 3 → outT u q3 rm3 (oL ++ [514] ++ oA ++ [515]) ∧ u 41 4 = μ 41 4 + (μ (q2 + 2) (μ 41 5).toNat - μ 41 5 - 1) ∧ u 41 5 = μ (q2 + 2) (μ 41 5).toNat + 1) ∧ (wy ≠ 2 → wy ≠ 3 → outT u q3 rm3 (oL ++ [sFu (μ (q + 1) (μ 41 4).toNat) (μ (q2 + 1) (μ 41 5).toNat)]) ∧ u 41 4 = μ 41 4 + 1 ∧ u 41 5 = μ 41 5 + 1)) (fun u t => va_P (dC, dI) vwCl (fw (sE cI cZ cII cIII h0) h0 233 u) t.heap ∧ va_K (dC, dI) vwCl (sT cI cZ cII cIII) t) (fA h0 233 sz)) 0 0 (fA h0 233 sz) := by
  refine Met.ofW (cc := cX0_fuseNext) (maxL := 6) (ret := none) (by decide) rfl ?_
  intro p e s m args below meth c s₁ B hml hv
  obtain ⟨rfl, hsz, hP, hK, hM⟩ := hv
  have hx := B.exec
  have hb := B.bytes
  have hr := B.returns
  have hts : ∀ w ∈ wsG, w.before _ s = true := hG_of (atoms_spec (ws := (Cond.code yX0_fuseNext cX0_fuseNext 6 none :: wsG)) B.pre)
  have hown : s.vm.findClass RX0 = some m.cls := findClass_of_methodNamed B.named
  have hlocks := B.notSynchronized
  subst hsz
  have hS : va_S (fA h0 233 s.heap.size) s.heap s.heap [] := va_S.rf
  have hl := lv_entry ([.ref (h0 + 41), .ref (h0 + q), .ref (h0 + q2), .int (iZ (wy)), .ref (h0 + q3)]) (n := 6) (Nat.le_of_ble_eq_true rfl)
  rw [lg_entry_eq]
  generalize (lg_sl ([.ref (h0 + 41), .ref (h0 + q), .ref (h0 + q2), .int (iZ (wy)), .ref (h0 + q3)]) ++ List.replicate (6 - (lg_sl ([.ref (h0 + 41), .ref (h0 + q), .ref (h0 + q2), .int (iZ (wy)), .ref (h0 + q3)])).length) Slot.unset).toArray = ls at hl ⊢
  have hl : lv_has ls 6 [(0, .ref (h0 + 41)), (1, .ref (h0 + q)), (2, .ref (h0 + q2)), (3, .int (iZ (wy))), (4, .ref (h0 + q3))] := hl
  have hqb := rowB_c hq
  have hqb2 := rowB_c hq2
  have hqb3 := rowB_c hq3
  have hrm := rG_rc hq hG
  have hrm2 := rG_rc hq2 hG2
  have hv0 := hv.1
  have hDn := ((rG_bal hG).2 (μ 41 4).toNat (by omega)).1
  have ho2 := ho.1
  have hs1 := hG.1 (μ 41 4).toNat
  have hs2 := hG2.1 (μ 41 5).toNat
  refine lv_iload_n hx hb dX0_fuseNext_0 rfl (lv_at hl 3 rfl) ?_
  refine lv_iconst (v := iZ 2) hx hb dX0_fuseNext_1 rfl ?_
  refine fz_icmp_ne (tgt := 77) (by constructor <;> omega) (by decide) hx hb dX0_fuseNext_2 (by decide) (fun c2_ => ?_) (fun c2_ => ?_)
  · refine lv_iload_n hx hb dX0_fuseNext_77 rfl (lv_at hl 3 rfl) ?_
    refine lv_iconst (v := iZ 3) hx hb dX0_fuseNext_78 rfl ?_
    refine fz_icmp_ne (tgt := 148) (by constructor <;> omega) (by decide) hx hb dX0_fuseNext_79 (by decide) (fun c79_ => ?_) (fun c79_ => ?_)
    · have h1w : μ 41 4 < μ q 5 ∧ μ 41 5 < μ q2 5 ∧ vis μ q q2 (μ 41 4 + 1) (μ 41 5 + 1) ∧ vS (sFu (μ (q + 1) (μ 41 4).toNat) (μ (q2 + 1) (μ 41 5).toNat)) ∧ 0 ≤ Dp (μ (q + 1)) (μ 41 4).toNat + dl (sFu (μ (q + 1) (μ 41 4).toNat) (μ (q2 + 1) (μ 41 5).toNat)) ∧ dl (sFu (μ (q + 1) (μ 41 4).toNat) (μ (q2 + 1) (μ 41 5).toNat)) = dl (μ (q + 1) (μ 41 4).toNat) := by
        rcases hw with h | h | h | h | h | h
        · obtain ⟨e1, e2, e3, e4, e5, e6⟩ := vis_e hG hG2 hv h.2.1 h.2.2 hne
          rw [e3, e4]
          exact ⟨e1, e2, e6, by show vS 515; unfold vS; omega, by show 0 ≤ _ + (-1 : Int); omega, rfl⟩
        · have hal : sAl (μ (q + 1) (μ 41 4).toNat) (μ (q2 + 1) (μ 41 5).toNat) := by
            rcases h.2.2 with h3 | h3
            · exact h3.2
            · rw [h3.1, h3.2]; exact Or.inl rfl
          have hvv := ((rG_bal hG).2 (μ 41 4).toNat (by omega)).2 (by omega)
          have hnn := ((rG_bal hG).2 ((μ 41 4).toNat + 1) (by omega)).1
          have hds := Dp_s (μ (q + 1)) (μ 41 4).toNat
          exact ⟨h.2.1.1, h.2.1.2, vis_1 hv h.2.1.1 h.2.1.2 h.2.2, sFu_v hvv, by rw [sFu_dl hal]; omega, sFu_dl hal⟩
        · exact absurd h.1 (by omega)
        · exact absurd h.1 (by omega)
        · exact absurd h.1 (by omega)
        · exact absurd h.1 (by omega)
      obtain ⟨u1_, u2_, u3_, u4_, u5_, u6_⟩ := h1w
      refine lv_aload hx hb dX0_fuseNext_148 (lv_at hl 4 rfl) ?_
      refine lv_aload_n hx hb dX0_fuseNext_150 rfl (lv_at hl 1 rfl) ?_
      refine fz_get (D := (dC, dI)) (ci := 4) (v := .ref (h0 + (q + 1))) (C := RX4) (T := TX4) (N := 8) hx hb hts inG4 hown hK hP (k := q) (by omega) (F := (sRF h0 q)) (sE_rowO hq) rfl 0 (by decide) (hts _ k80) (fun _ h9 => h9) rfl dX0_fuseNext_151 ?_
      refine lv_aload_n hx hb dX0_fuseNext_154 rfl (lv_at hl 0 rfl) ?_
      refine fz_get (D := (dC, dI)) (ci := 0) (v := .int (iZ (μ 41 4))) (C := RX0) (T := TX0) (N := 7) hx hb hts inG0 hown hK hP (k := 41) (by decide) (F := (sF41 h0)) sE_41 rfl 4 (by decide) (hts _ k186) (fun _ h9 => h9) rfl dX0_fuseNext_155 ?_
      refine fz_ld (k := (q + 1)) (n := rm) hx hb hK hP 0 (by omega) (sE_rowA (r := 1) hq (by decide)) rfl ⟨by omega, by omega⟩ (by omega) dX0_fuseNext_158 ?_
      refine lv_aload_n hx hb dX0_fuseNext_159 rfl (lv_at hl 2 rfl) ?_
      refine fz_get (D := (dC, dI)) (ci := 4) (v := .ref (h0 + (q2 + 1))) (C := RX4) (T := TX4) (N := 8) hx hb hts inG4 hown hK hP (k := q2) (by omega) (F := (sRF h0 q2)) (sE_rowO hq2) rfl 0 (by decide) (hts _ k80) (fun _ h9 => h9) rfl dX0_fuseNext_160 ?_
      refine lv_aload_n hx hb dX0_fuseNext_163 rfl (lv_at hl 0 rfl) ?_
      refine fz_get (D := (dC, dI)) (ci := 0) (v := .int (iZ (μ 41 5))) (C := RX0) (T := TX0) (N := 7) hx hb hts inG0 hown hK hP (k := 41) (by decide) (F := (sF41 h0)) sE_41 rfl 5 (by decide) (hts _ k187) (fun _ h9 => h9) rfl dX0_fuseNext_164 ?_
      refine fz_ld (k := (q2 + 1)) (n := rm2) hx hb hK hP 0 (by omega) (sE_rowA (r := 1) hq2 (by decide)) rfl ⟨by omega, by omega⟩ (by omega) dX0_fuseNext_167 ?_
      refine va_calli (va_runSN (As := [.int (iZ (μ (q + 1) (μ 41 4).toNat)), .int (iZ (μ (q2 + 1) (μ 41 5).toNat))]) (rest := [.ref (h0 + q3)]) ⟨hx, hb, hml, hown, hts⟩ (s_fused l dC dI cI cZ cII cIII h0 s.heap.size μ (μ (q + 1) (μ 41 4).toNat) (μ (q2 + 1) (μ 41 5).toNat) (by constructor <;> omega) (by constructor <;> omega)) ⟨va_cnB (host := "PageSkeleton") 2 hts (gI_G k458) rfl rfl rfl (xM_nest hM 19 rfl) (hts _ k1) (by decide +kernel) ⟨Nat.le_of_ble_eq_true rfl, Nat.le_of_ble_eq_true rfl⟩, hts _ k457, trivial⟩ ⟨fun a U g mk q => by obtain ⟨q0, q1, qP, qK, qM⟩ := q; exact ⟨q0, q1, qP, va_K.moved (u := U) (U := U.calling g mk a) (Vm.Alike.refl U.vm) qK, qM⟩, fun U hU hW => ⟨rfl, by rw [hU], by rw [hU]; exact hP, va_K.moved hW.alike hK, xM_warm hW hM⟩⟩ rfl rfl hl.1 rfl (lv_room (Nat.le_of_ble_eq_true rfl)) dX0_fuseNext_168 ⟨Nat.le_of_ble_eq_true rfl, Nat.le_of_ble_eq_true rfl⟩) hS (fun q _ h => fA_le hS.1 q h) (fA_le hS.1) (fun r9 u9 t9 H1 locs ht9 hvm9 hw9 hB9 hz9 hk9 hS => ?_)
      obtain ⟨μq, rq⟩ := u9
      obtain ⟨hP, -⟩ := hB9
      rw [ht9] at hP
      generalize H1 = H at hP hS ⊢
      obtain ⟨e9, hw9⟩ := hw9
      have e9 : r9 = iZ rq := e9
      subst e9
      simp only at hP hw9
      have hμq := hw9; clear hw9
      rw [hμq.1] at hP; have hμq := hμq.2
      have hrq : rq = sFu (μ (q + 1) (μ 41 4).toNat) (μ (q2 + 1) (μ 41 5).toNat) := hμq
      rw [← hrq] at u4_ u5_ u6_
      refine va_callv (va_runV (As := [.int (iZ (rq))]) (rest := []) ⟨hx, hb, hml, hown, hts⟩ (s_Rput l dC dI cI cZ cII cIII h0 H.size μ (q3) (rm3) (rq) (hq3) (by exact ho2)) (cwV 1 hts (gV_G k819 k411 k412 k3 k413) rfl rfl rfl (by decide +kernel) ⟨Nat.le_of_ble_eq_true rfl, Nat.le_of_ble_eq_true rfl⟩) ⟨fun a U g mk q => by obtain ⟨q0, q1, qP, qK, qM⟩ := q; exact ⟨q0, q1, qP, va_K.moved (u := U) (U := U.calling g mk a) (Vm.Alike.refl U.vm) qK, qM⟩, va_recv hK hP (ci := 4) (q0 := q3) rfl ((fw_get (by omega)).trans (by rw [(sE_rowO hq3)])), fun U hU hW => ⟨rfl, by rw [hU], by rw [hU]; exact hP, va_K.moved hW.alike hK, xM_warm hW hM⟩⟩ rfl rfl hl.1 rfl (lv_room (Nat.le_of_ble_eq_true rfl)) dX0_fuseNext_171 ⟨Nat.le_of_ble_eq_true rfl, Nat.le_of_ble_eq_true rfl⟩) hS (fun q _ h => fA_le hS.1 q h) (fA_le hS.1) (fun u9 t9 H1 locs ht9 hvm9 hw9 hB9 hz9 hk9 hS => ?_)
      obtain ⟨hP, -⟩ := hB9
      rw [ht9] at hP
      generalize H1 = H at hP hS ⊢
      obtain ⟨μp, eμp⟩ : ∃ x : va_M, x = u9 := ⟨_, rfl⟩
      rw [← eμp] at hP hw9
      have hμp := hw9; clear hw9
      obtain ⟨c1, c2⟩ := hμp
      have T1_ := outT_put hoT c1 c2
      obtain ⟨o1_, f1_⟩ := outS_put ho u4_ u5_ c1 c2
      have w4 : μp 41 4 = μ 41 4 := f1_ _ _ (n41 hq3)
      have w5 : μp 41 5 = μ 41 5 := f1_ _ _ (n41 hq3)
      refine lv_aload_n hx hb dX0_fuseNext_174 rfl (lv_at hl 0 rfl) ?_
      refine lv_dup hx hb dX0_fuseNext_175 rfl ?_
      refine fz_get (D := (dC, dI)) (ci := 0) (v := .int (iZ (μp 41 4))) (C := RX0) (T := TX0) (N := 7) hx hb hts inG0 hown hK hP (k := 41) (by decide) (F := (sF41 h0)) sE_41 rfl 4 (by decide) (hts _ k186) (fun _ h9 => h9) rfl dX0_fuseNext_176 ?_
      refine lv_iconst (v := iZ 1) hx hb dX0_fuseNext_179 rfl ?_
      refine lv_iadd hx hb dX0_fuseNext_180 ?_
      refine lv_topi (fun x9 ex9 => ?_)
      obtain rfl : x9 = iZ ((μp 41 4) + 1) := ex9.trans (iZ_add _ _)
      refine fz_put (D := (dC, dI)) (ci := 0) (ty := .int) (z := ((μp 41 4) + 1)) (C := RX0) (T := TX0) (N := 7) hx hb hts inG0 tyX0 tyX0_ok nmX0 hown hK hP fA_in hS (k := 41) (by decide) (F := (sF41 h0)) sE_41 rfl 4 (by decide) (hts _ k186) (fun _ h9 => h9) rfl (by decide +kernel) rfl rfl (fun _ => Nat.le_of_ble_eq_true rfl) (fun _ _ => rfl) dX0_fuseNext_181 (fun H locs hP hS => ?_)
      obtain ⟨μ1, eμ1⟩ : ∃ x : va_M, x = uz μp 41 4 ((μp 41 4) + 1) := ⟨_, rfl⟩
      rw [← eμ1] at hP
      refine lv_aload_n hx hb dX0_fuseNext_184 rfl (lv_at hl 0 rfl) ?_
      refine lv_dup hx hb dX0_fuseNext_185 rfl ?_
      refine fz_get (D := (dC, dI)) (ci := 0) (v := .int (iZ (μ1 41 5))) (C := RX0) (T := TX0) (N := 7) hx hb hts inG0 hown hK hP (k := 41) (by decide) (F := (sF41 h0)) sE_41 rfl 5 (by decide) (hts _ k187) (fun _ h9 => h9) rfl dX0_fuseNext_186 ?_
      rw [show μ1 41 5 = μp 41 5 from by rw [eμ1, uz_n (by omega)]]
      refine lv_iconst (v := iZ 1) hx hb dX0_fuseNext_189 rfl ?_
      refine lv_iadd hx hb dX0_fuseNext_190 ?_
      refine lv_topi (fun x9 ex9 => ?_)
      obtain rfl : x9 = iZ ((μp 41 5) + 1) := ex9.trans (iZ_add _ _)
      refine fz_put (D := (dC, dI)) (ci := 0) (ty := .int) (z := ((μp 41 5) + 1)) (C := RX0) (T := TX0) (N := 7) hx hb hts inG0 tyX0 tyX0_ok nmX0 hown hK hP fA_in hS (k := 41) (by decide) (F := (sF41 h0)) sE_41 rfl 5 (by decide) (hts _ k187) (fun _ h9 => h9) rfl (by decide +kernel) rfl rfl (fun _ => Nat.le_of_ble_eq_true rfl) (fun _ _ => rfl) dX0_fuseNext_191 (fun H locs hP hS => ?_)
      obtain ⟨μ2, eμ2⟩ : ∃ x : va_M, x = uz μ1 41 5 ((μp 41 5) + 1) := ⟨_, rfl⟩
      rw [← eμ2] at hP
      exact W.vret hx hb hr (fun t9 ht9 hW9 => ⟨⟨μ2, rfl, (by
                    try dsimp only
                    have F5 : fr (BQ q3) μ μ2 := by rw [eμ2, eμ1]; exact fr_uz (fr_uz (fr_mono f1_ (fun x y h => Or.inl h)) (Or.inr ⟨rfl, by decide, by decide⟩)) (Or.inr ⟨rfl, by decide, by decide⟩)
                    have XB : ag μ μ2 q := ag_BQ hq ha3 F5
                    have XB2 : ag μ μ2 q2 := ag_BQ hq2 ha32 F5
                    have A4 : μ2 41 4 = μ 41 4 + 1 := by
                      rw [eμ2, eμ1, uz_n (by decide), uz_s]
                      omega
                    have A5 : μ2 41 5 = μ 41 5 + 1 := by
                      rw [eμ2, eμ1, uz_s]
                      omega
                    have T5_ : outT μ2 q3 rm3 (oL ++ [sFu (μ (q + 1) (μ 41 4).toNat) (μ (q2 + 1) (μ 41 5).toNat)]) := by
                      rw [← hrq]
                      exact outT_fr T1_ (by rw [eμ2, eμ1, uz_n (r41c hq3), uz_n (r41c hq3)]) (by rw [eμ2, eμ1, uz_n (r41c hq3), uz_n (r41c hq3)]) (fun y => by rw [eμ2, eμ1, uz_n (r41b hq3), uz_n (r41b hq3)])
                    refine ⟨F5, by rw [eμ2, eμ1, uz_n (by decide), uz_n (by decide)]; exact f1_ _ _ (n41 hq3), by rw [vis_eq XB XB2, A4, A5]; exact u3_, ?_, by omega, fun h9 => absurd h9 (by omega), fun h9 => absurd h9 (by omega), fun _ _ => ⟨T5_, A4, A5⟩⟩
                    rw [A4, ag_E XB]
                    refine outS_at (of_w hq3 rfl (of_w hq3 rfl o1_ rfl) (by rw [eμ2, eμ1])) ?_
                    · rw [show (μ 41 4 + 1).toNat = (μ 41 4).toNat + 1 by omega, Dp_s]; omega), by rw [ht9]; exact hP, va_K.moved hW9.alike hK⟩, hS.F ht9⟩) hS.2.2 dX0_fuseNext_194
    · have h3w : μ 41 5 < μ q2 5 ∧ μ (q2 + 1) (μ 41 5).toNat = 514 ∧ sMat μ (q + 1) (μ 41 4) (μ q 5) (q2 + 1) (μ 41 5 + 1) (μ q2 5) (μ (q2 + 2) (μ 41 5).toNat - μ 41 5 - 1) := by
        rcases hw with h | h | h | h | h | h
        · exact absurd h.1 (by omega)
        · exact absurd h.1 (by omega)
        · exact absurd h.1 (by omega)
        · exact h.2
        · exact absurd h.1 (by omega)
        · exact absurd h.1 (by omega)
      obtain ⟨u1_, u2_, u3_⟩ := h3w
      obtain ⟨y1_, y2_, y3_, y4_⟩ := vis_3 hG hG2 hv u1_ u2_ u3_
      have u4_ := u3_.1
      have y5_ := y3_.1
      refine lv_aload_n hx hb dX0_fuseNext_82 rfl (lv_at hl 2 rfl) ?_
      refine fz_get (D := (dC, dI)) (ci := 4) (v := .ref (h0 + (q2 + 2))) (C := RX4) (T := TX4) (N := 8) hx hb hts inG4 hown hK hP (k := q2) (by omega) (F := (sRF h0 q2)) (sE_rowO hq2) rfl 1 (by decide) (hts _ k85) (fun _ h9 => h9) rfl dX0_fuseNext_83 ?_
      refine lv_aload_n hx hb dX0_fuseNext_86 rfl (lv_at hl 0 rfl) ?_
      refine fz_get (D := (dC, dI)) (ci := 0) (v := .int (iZ (μ 41 5))) (C := RX0) (T := TX0) (N := 7) hx hb hts inG0 hown hK hP (k := 41) (by decide) (F := (sF41 h0)) sE_41 rfl 5 (by decide) (hts _ k187) (fun _ h9 => h9) rfl dX0_fuseNext_87 ?_
      refine fz_ld (k := (q2 + 2)) (n := rm2) hx hb hK hP 0 (by omega) (sE_rowA (r := 2) hq2 (by decide)) rfl ⟨by omega, by omega⟩ (by omega) dX0_fuseNext_90 ?_
      refine lv_aload_n hx hb dX0_fuseNext_91 rfl (lv_at hl 0 rfl) ?_
      refine fz_get (D := (dC, dI)) (ci := 0) (v := .int (iZ (μ 41 5))) (C := RX0) (T := TX0) (N := 7) hx hb hts inG0 hown hK hP (k := 41) (by decide) (F := (sF41 h0)) sE_41 rfl 5 (by decide) (hts _ k187) (fun _ h9 => h9) rfl dX0_fuseNext_92 ?_
      refine lv_isub hx hb dX0_fuseNext_95 ?_
      refine lv_topi (fun x9 ex9 => ?_)
      obtain rfl : x9 = iZ ((μ (q2 + 2) (μ 41 5).toNat) - (μ 41 5)) := ex9.trans (iZ_sub _ _)
      refine lv_iconst (v := iZ 1) hx hb dX0_fuseNext_96 rfl ?_
      refine lv_isub hx hb dX0_fuseNext_97 ?_
      refine lv_topi (fun x9 ex9 => ?_)
      obtain rfl : x9 = iZ (((μ (q2 + 2) (μ 41 5).toNat) - (μ 41 5)) - 1) := ex9.trans (iZ_sub _ _)
      refine lv_istore (lv' := [(5, .int (iZ (((μ (q2 + 2) (μ 41 5).toNat) - (μ 41 5)) - 1))), (0, .ref (h0 + 41)), (1, .ref (h0 + q)), (2, .ref (h0 + q2)), (3, .int (iZ (wy))), (4, .ref (h0 + q3))]) hx hb dX0_fuseNext_98 hl (by decide) rfl (fun ls hl => ?_)
      refine lv_aload_n hx hb dX0_fuseNext_100 rfl (lv_at hl 2 rfl) ?_
      refine lv_aload_n hx hb dX0_fuseNext_101 rfl (lv_at hl 1 rfl) ?_
      refine fz_get (D := (dC, dI)) (ci := 0) (v := .int (iZ (μ 41 4))) (C := RX0) (T := TX0) (N := 7) hx hb hts inG0 hown hK hP (k := 41) (by decide) (F := (sF41 h0)) sE_41 rfl 4 (by decide) (hts _ k186) (fun _ h9 => h9) rfl dX0_fuseNext_102 ?_
      refine lv_aload_n hx hb dX0_fuseNext_105 rfl (lv_at hl 3 rfl) ?_
      refine lv_aload_n hx hb dX0_fuseNext_106 rfl (lv_at hl 1 rfl) ?_
      refine fz_get (D := (dC, dI)) (ci := 0) (v := .int (iZ (μ 41 5))) (C := RX0) (T := TX0) (N := 7) hx hb hts inG0 hown hK hP (k := 41) (by decide) (F := (sF41 h0)) sE_41 rfl 5 (by decide) (hts _ k187) (fun _ h9 => h9) rfl dX0_fuseNext_107 ?_
      refine lv_iconst (v := iZ 1) hx hb dX0_fuseNext_110 rfl ?_
      refine lv_iadd hx hb dX0_fuseNext_111 ?_
      refine lv_topi (fun x9 ex9 => ?_)
      obtain rfl : x9 = iZ ((μ 41 5) + 1) := ex9.trans (iZ_add _ _)
      refine lv_iload hx hb dX0_fuseNext_112 (lv_at hl 0 rfl) ?_
      refine lv_sipush (v := iZ 514) hx hb dX0_fuseNext_114 rfl ?_
      refine lv_aload hx hb dX0_fuseNext_117 (lv_at hl 5 rfl) ?_
      refine va_callv (va_runS (As := [.ref (h0 + q), .int (iZ (μ 41 4)), .ref (h0 + q2), .int (iZ ((μ 41 5) + 1)), .int (iZ (((μ (q2 + 2) (μ 41 5).toNat) - (μ 41 5)) - 1)), .int (iZ (514)), .ref (h0 + q3)]) (rest := []) ⟨hx, hb, hml, hown, hts⟩ (s_YputFusedT l dC dI cI cZ cII cIII h0 s.heap.size μ (q) (rm) (q2) (rm2) (q3) (rm3) (μ 41 4) ((μ 41 5) + 1) (((μ (q2 + 2) (μ 41 5).toNat) - (μ 41 5)) - 1) (514) (Dp (μ (q + 1)) (μ 41 4).toNat) (oL) (oA) (hq) (hq2) (hq3) (by exact ha3) (by exact ha32) (by first | assumption | omega | exact ⟨by omega, by omega⟩) (by first | assumption | omega | exact ⟨by omega, by omega⟩) (by first | assumption | omega | exact ⟨by omega, by omega⟩) (by omega) (by intro t ht; exact u3_.2 t ht) (by exact y4_) (by exact Or.inr rfl) (by omega) (by exact ho) (by exact hoT) (by exact hA3 (by omega))) (cwS 7 hts (gS_G k832 k833 k7 k834) rfl rfl rfl (by decide +kernel) ⟨Nat.le_of_ble_eq_true rfl, Nat.le_of_ble_eq_true rfl⟩) ⟨fun a U g mk q => by obtain ⟨q0, q1, qP, qK, qM⟩ := q; exact ⟨q0, q1, qP, va_K.moved (u := U) (U := U.calling g mk a) (Vm.Alike.refl U.vm) qK, qM⟩, fun U hU hW => ⟨rfl, by rw [hU], by rw [hU]; exact hP, va_K.moved hW.alike hK, xM_warm hW hM⟩⟩ rfl rfl hl.1 rfl (lv_room (Nat.le_of_ble_eq_true rfl)) dX0_fuseNext_119 ⟨Nat.le_of_ble_eq_true rfl, Nat.le_of_ble_eq_true rfl⟩) hS (fun q _ h => fA_le hS.1 q h) (fA_le hS.1) (fun u9 t9 H1 locs ht9 hvm9 hw9 hB9 hz9 hk9 hS => ?_)
      obtain ⟨hP, -⟩ := hB9
      rw [ht9] at hP
      generalize H1 = H at hP hS ⊢
      obtain ⟨μp, eμp⟩ : ∃ x : va_M, x = u9 := ⟨_, rfl⟩
      rw [← eμp] at hP hw9
      have hμp := hw9; clear hw9
      obtain ⟨o1_, f1_, T1_⟩ := hμp
      have w4 : μp 41 4 = μ 41 4 := f1_ _ _ (n41 hq3)
      have w5 : μp 41 5 = μ 41 5 := f1_ _ _ (n41 hq3)
      have wm : μp (q2 + 2) (μ 41 5).toNat = μ (q2 + 2) (μ 41 5).toNat := ag_2 ha32 f1_ _ _ (by omega) (by omega)
      refine lv_aload_n hx hb dX0_fuseNext_122 rfl (lv_at hl 1 rfl) ?_
      refine lv_dup hx hb dX0_fuseNext_123 rfl ?_
      refine fz_get (D := (dC, dI)) (ci := 0) (v := .int (iZ (μp 41 4))) (C := RX0) (T := TX0) (N := 7) hx hb hts inG0 hown hK hP (k := 41) (by decide) (F := (sF41 h0)) sE_41 rfl 4 (by decide) (hts _ k186) (fun _ h9 => h9) rfl dX0_fuseNext_124 ?_
      refine lv_iload hx hb dX0_fuseNext_127 (lv_at hl 0 rfl) ?_
      refine lv_iadd hx hb dX0_fuseNext_129 ?_
      refine lv_topi (fun x9 ex9 => ?_)
      obtain rfl : x9 = iZ ((μp 41 4) + (((μ (q2 + 2) (μ 41 5).toNat) - (μ 41 5)) - 1)) := ex9.trans (iZ_add _ _)
      refine fz_put (D := (dC, dI)) (ci := 0) (ty := .int) (z := ((μp 41 4) + (((μ (q2 + 2) (μ 41 5).toNat) - (μ 41 5)) - 1))) (C := RX0) (T := TX0) (N := 7) hx hb hts inG0 tyX0 tyX0_ok nmX0 hown hK hP fA_in hS (k := 41) (by decide) (F := (sF41 h0)) sE_41 rfl 4 (by decide) (hts _ k186) (fun _ h9 => h9) rfl (by decide +kernel) rfl rfl (fun _ => Nat.le_of_ble_eq_true rfl) (fun _ _ => rfl) dX0_fuseNext_130 (fun H locs hP hS => ?_)
      obtain ⟨μ3, eμ3⟩ : ∃ x : va_M, x = uz μp 41 4 ((μp 41 4) + (((μ (q2 + 2) (μ 41 5).toNat) - (μ 41 5)) - 1)) := ⟨_, rfl⟩
      rw [← eμ3] at hP
      have w6 : μ3 41 5 = μ 41 5 := by rw [eμ3, uz_n (by decide)]; exact w5
      have wm3 : μ3 (q2 + 2) (μ3 41 5).toNat = μ (q2 + 2) (μ 41 5).toNat := by rw [w6, eμ3, uz_n (r41 hq2)]; exact wm
      have wm2 : μ3 (q2 + 2) (μp 41 5).toNat = μ (q2 + 2) (μ 41 5).toNat := by rw [w5, eμ3, uz_n (r41 hq2)]; exact wm
      refine lv_aload_n hx hb dX0_fuseNext_133 rfl (lv_at hl 1 rfl) ?_
      refine lv_aload_n hx hb dX0_fuseNext_134 rfl (lv_at hl 3 rfl) ?_
      refine lv_aload_n hx hb dX0_fuseNext_135 rfl (lv_at hl 1 rfl) ?_
      refine fz_get (D := (dC, dI)) (ci := 0) (v := .int (iZ (μ3 41 5))) (C := RX0) (T := TX0) (N := 7) hx hb hts inG0 hown hK hP (k := 41) (by decide) (F := (sF41 h0)) sE_41 rfl 5 (by decide) (hts _ k187) (fun _ h9 => h9) rfl dX0_fuseNext_136 ?_
      rw [show μ3 41 5 = μp 41 5 from by rw [eμ3, uz_n (by omega)]]
      refine va_calli (va_runV (As := [.int (iZ (μp 41 5))]) (rest := [.ref (h0 + 41)]) ⟨hx, hb, hml, hown, hts⟩ (s_Rafter l dC dI cI cZ cII cIII h0 H.size μ3 (q2) (rm2) (μp 41 5) (hq2) (by omega) (by constructor <;> omega)) (cwV 1 hts (gV_G k791 k438 k439 k3 k440) rfl rfl rfl (by decide +kernel) ⟨Nat.le_of_ble_eq_true rfl, Nat.le_of_ble_eq_true rfl⟩) ⟨fun a U g mk q => by obtain ⟨q0, q1, qP, qK, qM⟩ := q; exact ⟨q0, q1, qP, va_K.moved (u := U) (U := U.calling g mk a) (Vm.Alike.refl U.vm) qK, qM⟩, va_recv hK hP (ci := 4) (q0 := q2) rfl ((fw_get (by omega)).trans (by rw [(sE_rowO hq2)])), fun U hU hW => ⟨rfl, by rw [hU], by rw [hU]; exact hP, va_K.moved hW.alike hK, xM_warm hW hM⟩⟩ rfl rfl hl.1 rfl (lv_room (Nat.le_of_ble_eq_true rfl)) dX0_fuseNext_139 ⟨Nat.le_of_ble_eq_true rfl, Nat.le_of_ble_eq_true rfl⟩) hS (fun q _ h => fA_le hS.1 q h) (fA_le hS.1) (fun r9 u9 t9 H1 locs ht9 hvm9 hw9 hB9 hz9 hk9 hS => ?_)
      obtain ⟨μa, ra⟩ := u9
      obtain ⟨hP, -⟩ := hB9
      rw [ht9] at hP
      generalize H1 = H at hP hS ⊢
      obtain ⟨e9, hw9⟩ := hw9
      have e9 : r9 = iZ ra := e9
      subst e9
      simp only at hP hw9
      have hμa := hw9; clear hw9
      rw [hμa.1] at hP; have hμa := hμa.2
      have hra := hμa
      refine fz_put (D := (dC, dI)) (ci := 0) (ty := .int) (z := ra) (C := RX0) (T := TX0) (N := 7) hx hb hts inG0 tyX0 tyX0_ok nmX0 hown hK hP fA_in hS (k := 41) (by decide) (F := (sF41 h0)) sE_41 rfl 5 (by decide) (hts _ k187) (fun _ h9 => h9) rfl (by decide +kernel) rfl rfl (fun _ => Nat.le_of_ble_eq_true rfl) (fun _ _ => rfl) dX0_fuseNext_142 (fun H locs hP hS => ?_)
      obtain ⟨μ4, eμ4⟩ : ∃ x : va_M, x = uz μ3 41 5 (ra) := ⟨_, rfl⟩
      rw [← eμ4] at hP
      refine lv_goto (tgt := 194) hx hb dX0_fuseNext_145 (by decide) ?_
      exact W.vret hx hb hr (fun t9 ht9 hW9 => ⟨⟨μ4, rfl, (by
                    try dsimp only
                    have F5 : fr (BQ q3) μ μ4 := by rw [eμ4, eμ3]; exact fr_uz (fr_uz (fr_mono f1_ (fun x y h => Or.inl h)) (Or.inr ⟨rfl, by decide, by decide⟩)) (Or.inr ⟨rfl, by decide, by decide⟩)
                    have XB : ag μ μ4 q := ag_BQ hq ha3 F5
                    have XB2 : ag μ μ4 q2 := ag_BQ hq2 ha32 F5
                    have A4 : μ4 41 4 = μ 41 4 + (μ (q2 + 2) (μ 41 5).toNat - μ 41 5 - 1) := by
                      rw [eμ4, eμ3, uz_n (by decide), uz_s]
                      omega
                    have A5 : μ4 41 5 = μ (q2 + 2) (μ 41 5).toNat + 1 := by
                      rw [eμ4, eμ3, uz_s]
                      omega
                    have T5_ : outT μ4 q3 rm3 (oL ++ [514] ++ oA ++ [515]) := by
                      exact outT_fr T1_ (by rw [eμ4, eμ3, uz_n (r41c hq3), uz_n (r41c hq3)]) (by rw [eμ4, eμ3, uz_n (r41c hq3), uz_n (r41c hq3)]) (fun y => by rw [eμ4, eμ3, uz_n (r41b hq3), uz_n (r41b hq3)])
                    refine ⟨F5, by rw [eμ4, eμ3, uz_n (by decide), uz_n (by decide)]; exact f1_ _ _ (n41 hq3), by rw [vis_eq XB XB2, A4, A5]; exact y3_, ?_, by omega, fun h9 => absurd h9 (by omega), fun _ => ⟨T5_, A4, A5⟩, fun _ h9 => absurd (by omega) h9⟩
                    rw [A4, ag_E XB]
                    refine outS_at (of_w hq3 rfl (of_w hq3 rfl o1_ rfl) (by rw [eμ4, eμ3])) ?_
                    · have h9 := y4_.2.1
                      omega), by rw [ht9]; exact hP, va_K.moved hW9.alike hK⟩, hS.F ht9⟩) hS.2.2 dX0_fuseNext_194
  · have h2w : μ 41 4 < μ q 5 ∧ (μ (q + 1) (μ 41 4).toNat = 513 ∨ μ (q + 1) (μ 41 4).toNat = 514) ∧ sMat μ (q + 1) (μ 41 4 + 1) (μ q 5) (q2 + 1) (μ 41 5) (μ q2 5) (μ (q + 2) (μ 41 4).toNat - μ 41 4 - 1) := by
      rcases hw with h | h | h | h | h | h
      · exact absurd h.1 (by omega)
      · exact absurd h.1 (by omega)
      · exact h.2
      · exact absurd h.1 (by omega)
      · exact absurd h.1 (by omega)
      · exact absurd h.1 (by omega)
    obtain ⟨u1_, u2_, u3_⟩ := h2w
    obtain ⟨y1_, y2_, y3_, y4_⟩ := vis_2 hG hG2 hv u1_ u2_ u3_
    have u4_ := u3_.1
    have y5_ := y3_.1
    refine lv_aload_n hx hb dX0_fuseNext_5 rfl (lv_at hl 1 rfl) ?_
    refine fz_get (D := (dC, dI)) (ci := 4) (v := .ref (h0 + (q + 2))) (C := RX4) (T := TX4) (N := 8) hx hb hts inG4 hown hK hP (k := q) (by omega) (F := (sRF h0 q)) (sE_rowO hq) rfl 1 (by decide) (hts _ k85) (fun _ h9 => h9) rfl dX0_fuseNext_6 ?_
    refine lv_aload_n hx hb dX0_fuseNext_9 rfl (lv_at hl 0 rfl) ?_
    refine fz_get (D := (dC, dI)) (ci := 0) (v := .int (iZ (μ 41 4))) (C := RX0) (T := TX0) (N := 7) hx hb hts inG0 hown hK hP (k := 41) (by decide) (F := (sF41 h0)) sE_41 rfl 4 (by decide) (hts _ k186) (fun _ h9 => h9) rfl dX0_fuseNext_10 ?_
    refine fz_ld (k := (q + 2)) (n := rm) hx hb hK hP 0 (by omega) (sE_rowA (r := 2) hq (by decide)) rfl ⟨by omega, by omega⟩ (by omega) dX0_fuseNext_13 ?_
    refine lv_aload_n hx hb dX0_fuseNext_14 rfl (lv_at hl 0 rfl) ?_
    refine fz_get (D := (dC, dI)) (ci := 0) (v := .int (iZ (μ 41 4))) (C := RX0) (T := TX0) (N := 7) hx hb hts inG0 hown hK hP (k := 41) (by decide) (F := (sF41 h0)) sE_41 rfl 4 (by decide) (hts _ k186) (fun _ h9 => h9) rfl dX0_fuseNext_15 ?_
    refine lv_isub hx hb dX0_fuseNext_18 ?_
    refine lv_topi (fun x9 ex9 => ?_)
    obtain rfl : x9 = iZ ((μ (q + 2) (μ 41 4).toNat) - (μ 41 4)) := ex9.trans (iZ_sub _ _)
    refine lv_iconst (v := iZ 1) hx hb dX0_fuseNext_19 rfl ?_
    refine lv_isub hx hb dX0_fuseNext_20 ?_
    refine lv_topi (fun x9 ex9 => ?_)
    obtain rfl : x9 = iZ (((μ (q + 2) (μ 41 4).toNat) - (μ 41 4)) - 1) := ex9.trans (iZ_sub _ _)
    refine lv_istore (lv' := [(5, .int (iZ (((μ (q + 2) (μ 41 4).toNat) - (μ 41 4)) - 1))), (0, .ref (h0 + 41)), (1, .ref (h0 + q)), (2, .ref (h0 + q2)), (3, .int (iZ (wy))), (4, .ref (h0 + q3))]) hx hb dX0_fuseNext_21 hl (by decide) rfl (fun ls hl => ?_)
    refine lv_aload_n hx hb dX0_fuseNext_23 rfl (lv_at hl 2 rfl) ?_
    refine lv_aload_n hx hb dX0_fuseNext_24 rfl (lv_at hl 1 rfl) ?_
    refine fz_get (D := (dC, dI)) (ci := 0) (v := .int (iZ (μ 41 4))) (C := RX0) (T := TX0) (N := 7) hx hb hts inG0 hown hK hP (k := 41) (by decide) (F := (sF41 h0)) sE_41 rfl 4 (by decide) (hts _ k186) (fun _ h9 => h9) rfl dX0_fuseNext_25 ?_
    refine lv_iconst (v := iZ 1) hx hb dX0_fuseNext_28 rfl ?_
    refine lv_iadd hx hb dX0_fuseNext_29 ?_
    refine lv_topi (fun x9 ex9 => ?_)
    obtain rfl : x9 = iZ ((μ 41 4) + 1) := ex9.trans (iZ_add _ _)
    refine lv_aload_n hx hb dX0_fuseNext_30 rfl (lv_at hl 3 rfl) ?_
    refine lv_aload_n hx hb dX0_fuseNext_31 rfl (lv_at hl 1 rfl) ?_
    refine fz_get (D := (dC, dI)) (ci := 0) (v := .int (iZ (μ 41 5))) (C := RX0) (T := TX0) (N := 7) hx hb hts inG0 hown hK hP (k := 41) (by decide) (F := (sF41 h0)) sE_41 rfl 5 (by decide) (hts _ k187) (fun _ h9 => h9) rfl dX0_fuseNext_32 ?_
    refine lv_iload hx hb dX0_fuseNext_35 (lv_at hl 0 rfl) ?_
    refine lv_aload_n hx hb dX0_fuseNext_37 rfl (lv_at hl 2 rfl) ?_
    refine fz_get (D := (dC, dI)) (ci := 4) (v := .ref (h0 + (q + 1))) (C := RX4) (T := TX4) (N := 8) hx hb hts inG4 hown hK hP (k := q) (by omega) (F := (sRF h0 q)) (sE_rowO hq) rfl 0 (by decide) (hts _ k80) (fun _ h9 => h9) rfl dX0_fuseNext_38 ?_
    refine lv_aload_n hx hb dX0_fuseNext_41 rfl (lv_at hl 1 rfl) ?_
    refine fz_get (D := (dC, dI)) (ci := 0) (v := .int (iZ (μ 41 4))) (C := RX0) (T := TX0) (N := 7) hx hb hts inG0 hown hK hP (k := 41) (by decide) (F := (sF41 h0)) sE_41 rfl 4 (by decide) (hts _ k186) (fun _ h9 => h9) rfl dX0_fuseNext_42 ?_
    refine fz_ld (k := (q + 1)) (n := rm) hx hb hK hP 0 (by omega) (sE_rowA (r := 1) hq (by decide)) rfl ⟨by omega, by omega⟩ (by omega) dX0_fuseNext_45 ?_
    refine lv_aload hx hb dX0_fuseNext_46 (lv_at hl 5 rfl) ?_
    refine va_callv (va_runS (As := [.ref (h0 + q), .int (iZ ((μ 41 4) + 1)), .ref (h0 + q2), .int (iZ (μ 41 5)), .int (iZ (((μ (q + 2) (μ 41 4).toNat) - (μ 41 4)) - 1)), .int (iZ (μ (q + 1) (μ 41 4).toNat)), .ref (h0 + q3)]) (rest := []) ⟨hx, hb, hml, hown, hts⟩ (s_YputFusedT l dC dI cI cZ cII cIII h0 s.heap.size μ (q) (rm) (q2) (rm2) (q3) (rm3) ((μ 41 4) + 1) (μ 41 5) (((μ (q + 2) (μ 41 4).toNat) - (μ 41 4)) - 1) (μ (q + 1) (μ 41 4).toNat) (Dp (μ (q + 1)) (μ 41 4).toNat) (oL) (oA) (hq) (hq2) (hq3) (by exact ha3) (by exact ha32) (by first | assumption | omega | exact ⟨by omega, by omega⟩) (by first | assumption | omega | exact ⟨by omega, by omega⟩) (by first | assumption | omega | exact ⟨by omega, by omega⟩) (by omega) (by intro t ht; exact u3_.2 t ht) (by exact y4_) (by exact u2_) (by omega) (by exact ho) (by exact hoT) (by exact hA2 (by omega))) (cwS 7 hts (gS_G k832 k833 k7 k834) rfl rfl rfl (by decide +kernel) ⟨Nat.le_of_ble_eq_true rfl, Nat.le_of_ble_eq_true rfl⟩) ⟨fun a U g mk q => by obtain ⟨q0, q1, qP, qK, qM⟩ := q; exact ⟨q0, q1, qP, va_K.moved (u := U) (U := U.calling g mk a) (Vm.Alike.refl U.vm) qK, qM⟩, fun U hU hW => ⟨rfl, by rw [hU], by rw [hU]; exact hP, va_K.moved hW.alike hK, xM_warm hW hM⟩⟩ rfl rfl hl.1 rfl (lv_room (Nat.le_of_ble_eq_true rfl)) dX0_fuseNext_48 ⟨Nat.le_of_ble_eq_true rfl, Nat.le_of_ble_eq_true rfl⟩) hS (fun q _ h => fA_le hS.1 q h) (fA_le hS.1) (fun u9 t9 H1 locs ht9 hvm9 hw9 hB9 hz9 hk9 hS => ?_)
    obtain ⟨hP, -⟩ := hB9
    rw [ht9] at hP
    generalize H1 = H at hP hS ⊢
    obtain ⟨μp, eμp⟩ : ∃ x : va_M, x = u9 := ⟨_, rfl⟩
    rw [← eμp] at hP hw9
    have hμp := hw9; clear hw9
    obtain ⟨o1_, f1_, T1_⟩ := hμp
    have w4 : μp 41 4 = μ 41 4 := f1_ _ _ (n41 hq3)
    have w5 : μp 41 5 = μ 41 5 := f1_ _ _ (n41 hq3)
    have wm : μp (q + 2) (μ 41 4).toNat = μ (q + 2) (μ 41 4).toNat := ag_2 ha3 f1_ _ _ (by omega) (by omega)
    have wm2 : μp (q + 2) (μp 41 4).toNat = μ (q + 2) (μ 41 4).toNat := by rw [w4]; exact wm
    refine lv_aload_n hx hb dX0_fuseNext_51 rfl (lv_at hl 1 rfl) ?_
    refine lv_aload_n hx hb dX0_fuseNext_52 rfl (lv_at hl 2 rfl) ?_
    refine lv_aload_n hx hb dX0_fuseNext_53 rfl (lv_at hl 1 rfl) ?_
    refine fz_get (D := (dC, dI)) (ci := 0) (v := .int (iZ (μp 41 4))) (C := RX0) (T := TX0) (N := 7) hx hb hts inG0 hown hK hP (k := 41) (by decide) (F := (sF41 h0)) sE_41 rfl 4 (by decide) (hts _ k186) (fun _ h9 => h9) rfl dX0_fuseNext_54 ?_
    refine va_calli (va_runV (As := [.int (iZ (μp 41 4))]) (rest := [.ref (h0 + 41)]) ⟨hx, hb, hml, hown, hts⟩ (s_Rafter l dC dI cI cZ cII cIII h0 H.size μp (q) (rm) (μp 41 4) (hq) (by omega) (by constructor <;> omega)) (cwV 1 hts (gV_G k791 k438 k439 k3 k440) rfl rfl rfl (by decide +kernel) ⟨Nat.le_of_ble_eq_true rfl, Nat.le_of_ble_eq_true rfl⟩) ⟨fun a U g mk q => by obtain ⟨q0, q1, qP, qK, qM⟩ := q; exact ⟨q0, q1, qP, va_K.moved (u := U) (U := U.calling g mk a) (Vm.Alike.refl U.vm) qK, qM⟩, va_recv hK hP (ci := 4) (q0 := q) rfl ((fw_get (by omega)).trans (by rw [(sE_rowO hq)])), fun U hU hW => ⟨rfl, by rw [hU], by rw [hU]; exact hP, va_K.moved hW.alike hK, xM_warm hW hM⟩⟩ rfl rfl hl.1 rfl (lv_room (Nat.le_of_ble_eq_true rfl)) dX0_fuseNext_57 ⟨Nat.le_of_ble_eq_true rfl, Nat.le_of_ble_eq_true rfl⟩) hS (fun q _ h => fA_le hS.1 q h) (fA_le hS.1) (fun r9 u9 t9 H1 locs ht9 hvm9 hw9 hB9 hz9 hk9 hS => ?_)
    obtain ⟨μa, ra⟩ := u9
    obtain ⟨hP, -⟩ := hB9
    rw [ht9] at hP
    generalize H1 = H at hP hS ⊢
    obtain ⟨e9, hw9⟩ := hw9
    have e9 : r9 = iZ ra := e9
    subst e9
    simp only at hP hw9
    have hμa := hw9; clear hw9
    rw [hμa.1] at hP; have hμa := hμa.2
    have hra := hμa
    refine fz_put (D := (dC, dI)) (ci := 0) (ty := .int) (z := ra) (C := RX0) (T := TX0) (N := 7) hx hb hts inG0 tyX0 tyX0_ok nmX0 hown hK hP fA_in hS (k := 41) (by decide) (F := (sF41 h0)) sE_41 rfl 4 (by decide) (hts _ k186) (fun _ h9 => h9) rfl (by decide +kernel) rfl rfl (fun _ => Nat.le_of_ble_eq_true rfl) (fun _ _ => rfl) dX0_fuseNext_60 (fun H locs hP hS => ?_)
    obtain ⟨μ5, eμ5⟩ : ∃ x : va_M, x = uz μp 41 4 (ra) := ⟨_, rfl⟩
    rw [← eμ5] at hP
    refine lv_aload_n hx hb dX0_fuseNext_63 rfl (lv_at hl 1 rfl) ?_
    refine lv_dup hx hb dX0_fuseNext_64 rfl ?_
    refine fz_get (D := (dC, dI)) (ci := 0) (v := .int (iZ (μ5 41 5))) (C := RX0) (T := TX0) (N := 7) hx hb hts inG0 hown hK hP (k := 41) (by decide) (F := (sF41 h0)) sE_41 rfl 5 (by decide) (hts _ k187) (fun _ h9 => h9) rfl dX0_fuseNext_65 ?_
    rw [show μ5 41 5 = μp 41 5 from by rw [eμ5, uz_n (by omega)]]
    refine lv_iload hx hb dX0_fuseNext_68 (lv_at hl 0 rfl) ?_
    refine lv_iadd hx hb dX0_fuseNext_70 ?_
    refine lv_topi (fun x9 ex9 => ?_)
    obtain rfl : x9 = iZ ((μp 41 5) + (((μ (q + 2) (μ 41 4).toNat) - (μ 41 4)) - 1)) := ex9.trans (iZ_add _ _)
    refine fz_put (D := (dC, dI)) (ci := 0) (ty := .int) (z := ((μp 41 5) + (((μ (q + 2) (μ 41 4).toNat) - (μ 41 4)) - 1))) (C := RX0) (T := TX0) (N := 7) hx hb hts inG0 tyX0 tyX0_ok nmX0 hown hK hP fA_in hS (k := 41) (by decide) (F := (sF41 h0)) sE_41 rfl 5 (by decide) (hts _ k187) (fun _ h9 => h9) rfl (by decide +kernel) rfl rfl (fun _ => Nat.le_of_ble_eq_true rfl) (fun _ _ => rfl) dX0_fuseNext_71 (fun H locs hP hS => ?_)
    obtain ⟨μ6, eμ6⟩ : ∃ x : va_M, x = uz μ5 41 5 ((μp 41 5) + (((μ (q + 2) (μ 41 4).toNat) - (μ 41 4)) - 1)) := ⟨_, rfl⟩
    rw [← eμ6] at hP
    refine lv_goto (tgt := 194) hx hb dX0_fuseNext_74 (by decide) ?_
    exact W.vret hx hb hr (fun t9 ht9 hW9 => ⟨⟨μ6, rfl, (by
                try dsimp only
                have F5 : fr (BQ q3) μ μ6 := by rw [eμ6, eμ5]; exact fr_uz (fr_uz (fr_mono f1_ (fun x y h => Or.inl h)) (Or.inr ⟨rfl, by decide, by decide⟩)) (Or.inr ⟨rfl, by decide, by decide⟩)
                have XB : ag μ μ6 q := ag_BQ hq ha3 F5
                have XB2 : ag μ μ6 q2 := ag_BQ hq2 ha32 F5
                have A4 : μ6 41 4 = μ (q + 2) (μ 41 4).toNat + 1 := by
                  rw [eμ6, eμ5, uz_n (by decide), uz_s]
                  omega
                have A5 : μ6 41 5 = μ 41 5 + (μ (q + 2) (μ 41 4).toNat - μ 41 4 - 1) := by
                  rw [eμ6, eμ5, uz_s]
                  omega
                have T5_ : outT μ6 q3 rm3 (oL ++ [μ (q + 1) (μ 41 4).toNat] ++ oA ++ [515]) := by
                  exact outT_fr T1_ (by rw [eμ6, eμ5, uz_n (r41c hq3), uz_n (r41c hq3)]) (by rw [eμ6, eμ5, uz_n (r41c hq3), uz_n (r41c hq3)]) (fun y => by rw [eμ6, eμ5, uz_n (r41b hq3), uz_n (r41b hq3)])
                refine ⟨F5, by rw [eμ6, eμ5, uz_n (by decide), uz_n (by decide)]; exact f1_ _ _ (n41 hq3), by rw [vis_eq XB XB2, A4, A5]; exact y3_, ?_, by omega, fun _ => ⟨T5_, A4, A5⟩, fun h9 => absurd h9 (by omega), fun h9 => absurd (by omega) h9⟩
                rw [A4, ag_E XB]
                refine outS_at (of_w hq3 rfl (of_w hq3 rfl o1_ rfl) (by rw [eμ6, eμ5])) ?_
                · have hseg := vis_4 hG hv u1_ (by omega)
                  have h8 := hseg.2.2.2.2.2
                  have h7 := hv.2.2.2
                  omega), by rw [ht9]; exact hP, va_K.moved hW9.alike hK⟩, hS.F ht9⟩) hS.2.2 dX0_fuseNext_194


/-! what is told of a page's nodes: the class -/
def sK (s : Int) : Int := if s < 256 then 0 else if s < 512 then 1 else s - 510
theorem sK_is {k : Nat} {v : Int} {l : Rw} (h : iW0 k v l) : sK (sG k v) = k ∧ (sG k v < 256 ↔ k = 0) ∧ ((256 ≤ sG k v ∧ sG k v < 512) ↔ k = 1) ∧ (k = 0 → sG k v = v) ∧ (k = 1 → sG k v = 256 + v) := by
  obtain ⟨h1, h3, h4, h5, h6⟩ := h
  by_cases e0 : k = 0
  · subst e0
    have := h6 (by decide)
    have e : sG 0 v = v := rfl
    rw [e]
    refine ⟨by unfold sK; rw [if_pos (by omega)]; rfl, by omega, by omega, fun _ => rfl, fun h => absurd h (by decide)⟩
  · by_cases e1 : k = 1
    · subst e1
      have := h6 (by decide)
      have e : sG 1 v = 256 + v := rfl
      rw [e]
      refine ⟨by unfold sK; rw [if_neg (by omega), if_pos (by omega)]; rfl, by omega, by omega, fun h => absurd h (by decide), fun _ => rfl⟩
    · have e : sG k v = 510 + k := by unfold sG; rw [if_neg e0, if_neg e1]
      rw [e]
      refine ⟨by unfold sK; rw [if_neg (by omega), if_neg (by omega)]; omega, by omega, by omega, fun h => absurd h e0, fun h => absurd h e1⟩
theorem nd_WF : ∀ {w : Rw} {x : Nat} {k : Nat} {v : Int} {l : Rw}, rWF w → x < rN w → nd w x = .inner 0 k v l .leaf → rWF l
  | .leaf, _, _, _, _, _, h, _ => absurd h (Nat.not_lt_zero _)
  | .inner z k0 v0 l0 r0, 0, k, v, l, ⟨f1, f2, f3, f4, f5, f6, f7, f8⟩, _, h => by
    have h : (Std.DTreeMap.Internal.Impl.inner 0 k0 v0 l0 .leaf : Rw) = .inner 0 k v l .leaf := h
    cases h
    exact f7
  | .inner z k0 v0 l0 r0, x + 1, k, v, l, ⟨f1, f2, f3, f4, f5, f6, f7, f8⟩, hx, h => by
    rw [rN_in] at hx
    rw [nd] at h
    by_cases hy : x < rN l0
    · rw [if_pos hy] at h
      exact nd_WF f7 hy h
    · rw [if_neg hy] at h
      exact nd_WF f8 (by omega) h
set_option maxHeartbeats 4000000 in
set_option maxRecDepth 100000 in
theorem s_RsortAt2 (l : Launch) (dC : Nat → ClassId) (dI : Nat → Nat → Nat) (cI cZ cII cIII : ClassId) (h0 sz : Nat) (μ : va_M) (q : Nat) (rm : Nat) (p9 : Int) (hq : rowB q rm) (h_p : 0 ≤ p9 ∧ p9 < rm) (hsg : sgA μ (q + 1)) : Met l yX4_sortAt (Cond.code yX4_sortAt cX4_sortAt 2 (some .int) :: wsG) ({ frames := 2, cells := 0, slots := 0, locals := 34 } : Room) (va_Pc [.ref (h0 + q), .int (iZ (p9))] (fun U => U.heap.size = sz ∧ va_P (dC, dI) vwCl (fw (sE cI cZ cII cIII h0) h0 233 μ) U.heap ∧ va_K (dC, dI) vwCl (sT cI cZ cII cIII) U ∧ xM U)) (va_Qi (fun (r9 : Int32) (u : va_M × Int) => r9 = iZ u.2 ∧ (fun (u : va_M) (r : Int) => u = μ ∧ r = sK (μ (q + 1) p9.toNat)) u.1 u.2) (fun u t => va_P (dC, dI) vwCl (fw (sE cI cZ cII cIII h0) h0 233 u.1) t.heap ∧ va_K (dC, dI) vwCl (sT cI cZ cII cIII) t) (fA h0 233 sz)) 0 0 (fA h0 233 sz) := by
  refine Met.ofW (cc := cX4_sortAt) (maxL := 2) (ret := (some .int)) (by decide) rfl ?_
  intro p e s m args below meth c s₁ B hml hv
  obtain ⟨rfl, hsz, hP, hK, hM⟩ := hv
  have hx := B.exec
  have hb := B.bytes
  have hr := B.returns
  have hts : ∀ w ∈ wsG, w.before _ s = true := hG_of (atoms_spec (ws := (Cond.code yX4_sortAt cX4_sortAt 2 (some .int) :: wsG)) B.pre)
  have hown : s.vm.findClass RX4 = some m.cls := findClass_of_methodNamed B.named
  have hlocks := B.notSynchronized
  subst hsz
  have hS : va_S (fA h0 233 s.heap.size) s.heap s.heap [] := va_S.rf
  have hl := lv_entry ([.ref (h0 + q), .int (iZ (p9))]) (n := 2) (Nat.le_of_ble_eq_true rfl)
  rw [lg_entry_eq]
  generalize (lg_sl ([.ref (h0 + q), .int (iZ (p9))]) ++ List.replicate (2 - (lg_sl ([.ref (h0 + q), .int (iZ (p9))])).length) Slot.unset).toArray = ls at hl ⊢
  have hl : lv_has ls 2 [(0, .ref (h0 + q)), (1, .int (iZ (p9)))] := hl
  have hqb := rowB_b hq
  have hs1 := hsg p9.toNat
  refine lv_aload_n hx hb dX4_sortAt_0 rfl (lv_at hl 0 rfl) ?_
  refine fz_get (D := (dC, dI)) (ci := 4) (v := .ref (h0 + (q + 1))) (C := RX4) (T := TX4) (N := 8) hx hb hts inG4 hown hK hP (k := q) (by omega) (F := (sRF h0 q)) (sE_rowO hq) rfl 0 (by decide) (hts _ k77) (fun _ h9 => h9) rfl dX4_sortAt_1 ?_
  refine lv_iload_n hx hb dX4_sortAt_4 rfl (lv_at hl 1 rfl) ?_
  refine fz_ld (k := (q + 1)) (n := rm) hx hb hK hP 0 (by omega) (sE_rowA (r := 1) hq (by decide)) rfl ⟨by omega, by omega⟩ (by omega) dX4_sortAt_5 ?_
  refine va_calli (va_runSN (As := [.int (iZ (μ (q + 1) (p9).toNat))]) (rest := []) ⟨hx, hb, hml, hown, hts⟩ (s_isTag l dC dI cI cZ cII cIII h0 s.heap.size μ (μ (q + 1) (p9).toNat) (by first | assumption | omega | exact ⟨by omega, by omega⟩)) ⟨va_cnB (host := "PageSkeleton") 1 hts (gI_G k486) rfl rfl rfl (xM_nest hM 20 rfl) (hts _ k1) (by decide +kernel) ⟨Nat.le_of_ble_eq_true rfl, Nat.le_of_ble_eq_true rfl⟩, hts _ k485, trivial⟩ ⟨fun a U g mk q => by obtain ⟨q0, q1, qP, qK, qM⟩ := q; exact ⟨q0, q1, qP, va_K.moved (u := U) (U := U.calling g mk a) (Vm.Alike.refl U.vm) qK, qM⟩, fun U hU hW => ⟨rfl, by rw [hU], by rw [hU]; exact hP, va_K.moved hW.alike hK, xM_warm hW hM⟩⟩ rfl rfl hl.1 rfl (lv_room (Nat.le_of_ble_eq_true rfl)) dX4_sortAt_6 ⟨Nat.le_of_ble_eq_true rfl, Nat.le_of_ble_eq_true rfl⟩) hS (fun q _ h => fA_le hS.1 q h) (fA_le hS.1) (fun r9 u9 t9 H1 locs ht9 hvm9 hw9 hB9 hz9 hk9 hS => ?_)
  obtain ⟨μ1, r2⟩ := u9
  obtain ⟨hP, -⟩ := hB9
  rw [ht9] at hP
  generalize H1 = H at hP hS ⊢
  obtain ⟨e9, hw9⟩ := hw9
  have e9 : r9 = iZ r2 := e9
  subst e9
  simp only at hP hw9
  have hμ1 := hw9; clear hw9
  rw [hμ1.1] at hP; have hμ1 := hμ1.2
  have hlf := if_el hμ1
  have hlf0 := if_01 hμ1
  refine fz_if_eq (tgt := 14) (by constructor <;> omega) hx hb dX4_sortAt_9 (by decide) (fun c9_ => ?_) (fun c9_ => ?_)
  · refine lv_aload_n hx hb dX4_sortAt_14 rfl (lv_at hl 0 rfl) ?_
    refine fz_get (D := (dC, dI)) (ci := 4) (v := .ref (h0 + (q + 1))) (C := RX4) (T := TX4) (N := 8) hx hb hts inG4 hown hK hP (k := q) (by omega) (F := (sRF h0 q)) (sE_rowO hq) rfl 0 (by decide) (hts _ k77) (fun _ h9 => h9) rfl dX4_sortAt_15 ?_
    refine lv_iload_n hx hb dX4_sortAt_18 rfl (lv_at hl 1 rfl) ?_
    refine fz_ld (k := (q + 1)) (n := rm) hx hb hK hP 0 (by omega) (sE_rowA (r := 1) hq (by decide)) rfl ⟨by omega, by omega⟩ (by omega) dX4_sortAt_19 ?_
    refine va_calli (va_runSN (As := [.int (iZ (μ (q + 1) (p9).toNat))]) (rest := []) ⟨hx, hb, hml, hown, hts⟩ (s_isWord l dC dI cI cZ cII cIII h0 H.size μ (μ (q + 1) (p9).toNat) (by first | assumption | omega | exact ⟨by omega, by omega⟩)) ⟨va_cnB (host := "PageSkeleton") 1 hts (gI_G k569) rfl rfl rfl (xM_nest hM 21 rfl) (hts _ k1) (by decide +kernel) ⟨Nat.le_of_ble_eq_true rfl, Nat.le_of_ble_eq_true rfl⟩, hts _ k568, trivial⟩ ⟨fun a U g mk q => by obtain ⟨q0, q1, qP, qK, qM⟩ := q; exact ⟨q0, q1, qP, va_K.moved (u := U) (U := U.calling g mk a) (Vm.Alike.refl U.vm) qK, qM⟩, fun U hU hW => ⟨rfl, by rw [hU], by rw [hU]; exact hP, va_K.moved hW.alike hK, xM_warm hW hM⟩⟩ rfl rfl hl.1 rfl (lv_room (Nat.le_of_ble_eq_true rfl)) dX4_sortAt_20 ⟨Nat.le_of_ble_eq_true rfl, Nat.le_of_ble_eq_true rfl⟩) hS (fun q _ h => fA_le hS.1 q h) (fA_le hS.1) (fun r9 u9 t9 H1 locs ht9 hvm9 hw9 hB9 hz9 hk9 hS => ?_)
    obtain ⟨μ3, r4⟩ := u9
    obtain ⟨hP, -⟩ := hB9
    rw [ht9] at hP
    generalize H1 = H at hP hS ⊢
    obtain ⟨e9, hw9⟩ := hw9
    have e9 : r9 = iZ r4 := e9
    subst e9
    simp only at hP hw9
    have hμ3 := hw9; clear hw9
    rw [hμ3.1] at hP; have hμ3 := hμ3.2
    have hlf2 := if_el hμ3
    have hlf20 := if_01 hμ3
    refine fz_if_eq (tgt := 30) (by constructor <;> omega) hx hb dX4_sortAt_23 (by decide) (fun c23_ => ?_) (fun c23_ => ?_)
    · refine lv_aload_n hx hb dX4_sortAt_30 rfl (lv_at hl 0 rfl) ?_
      refine fz_get (D := (dC, dI)) (ci := 4) (v := .ref (h0 + (q + 1))) (C := RX4) (T := TX4) (N := 8) hx hb hts inG4 hown hK hP (k := q) (by omega) (F := (sRF h0 q)) (sE_rowO hq) rfl 0 (by decide) (hts _ k77) (fun _ h9 => h9) rfl dX4_sortAt_31 ?_
      refine lv_iload_n hx hb dX4_sortAt_34 rfl (lv_at hl 1 rfl) ?_
      refine fz_ld (k := (q + 1)) (n := rm) hx hb hK hP 0 (by omega) (sE_rowA (r := 1) hq (by decide)) rfl ⟨by omega, by omega⟩ (by omega) dX4_sortAt_35 ?_
      refine lv_sipush (v := iZ 512) hx hb dX4_sortAt_36 rfl ?_
      refine lv_isub hx hb dX4_sortAt_39 ?_
      refine lv_topi (fun x9 ex9 => ?_)
      obtain rfl : x9 = iZ ((μ (q + 1) (p9).toNat) - 512) := ex9.trans (iZ_sub _ _)
      refine lv_iconst (v := iZ 2) hx hb dX4_sortAt_40 rfl ?_
      refine lv_iadd hx hb dX4_sortAt_41 ?_
      refine lv_topi (fun x9 ex9 => ?_)
      obtain rfl : x9 = iZ (((μ (q + 1) (p9).toNat) - 512) + 2) := ex9.trans (iZ_add _ _)
      exact W.iret (v := iZ (((μ (q + 1) (p9).toNat) - 512) + 2)) hx hb hr (fun t9 ht9 hW9 => ⟨⟨iZ (((μ (q + 1) (p9).toNat) - 512) + 2), (μ, ((μ (q + 1) (p9).toNat) - 512) + 2), rfl, ⟨rfl, (by
                    dsimp only
                    refine ⟨rfl, ?_⟩
                    rw [sK, if_neg (by omega), if_neg (by omega)]; omega)⟩, by rw [ht9]; exact hP, va_K.moved hW9.alike hK⟩, hS.F ht9⟩) hS.2.2 dX4_sortAt_42
    · refine lv_iconst (v := iZ 1) hx hb dX4_sortAt_26 rfl ?_
      refine lv_goto (tgt := 42) hx hb dX4_sortAt_27 (by decide) ?_
      exact W.iret (v := iZ (1)) hx hb hr (fun t9 ht9 hW9 => ⟨⟨iZ (1), (μ, 1), rfl, ⟨rfl, (by
                    dsimp only
                    refine ⟨rfl, ?_⟩
                    rw [sK, if_neg (by omega), if_pos (by omega)])⟩, by rw [ht9]; exact hP, va_K.moved hW9.alike hK⟩, hS.F ht9⟩) hS.2.2 dX4_sortAt_42
  · refine lv_iconst (v := iZ 0) hx hb dX4_sortAt_12 rfl ?_
    exact W.iret (v := iZ (0)) hx hb hr (fun t9 ht9 hW9 => ⟨⟨iZ (0), (μ, 0), rfl, ⟨rfl, (by
                dsimp only
                refine ⟨rfl, ?_⟩
                rw [sK, if_pos (by omega)])⟩, by rw [ht9]; exact hP, va_K.moved hW9.alike hK⟩, hS.F ht9⟩) hS.2.2 dX4_sortAt_13
set_option maxHeartbeats 4000000 in
set_option maxRecDepth 100000 in
theorem LX4_depthOf_4b {p : Program} {l : Launch} {e : Env} {R : Room} {s : State} {m : MethodId} {args : Array Value} {below : List Frame} {meth : Method} {c : Code} {cells slots : Nat} {Q : State → Prop} {dC : Nat → ClassId} {dI : Nat → Nat → Nat} {h0 : Nat} {cI cZ cII cIII : ClassId} (hx : p.tables.exec = Jvm.exec) (hb : c.code = cX4_depthOf) (hml : c.maxLocals = 4) (hown : s.vm.findClass RX4 = some m.cls) (hts : ∀ w ∈ wsG, w.before args s = true) (hK : va_K (dC, dI) vwCl (sT cI cZ cII cIII) s) (hM : xM s) (hRf : 2 ≤ R.frames) (hRl : 34 ≤ R.locals) (hRc : cells ≤ R.cells) (hRs : slots ≤ R.slots) (μ0 : va_M) (q : Nat) (rm : Nat) (p9 : Int) (hq : rowB q rm) (hG : rG μ0 q rm) (h_p : 0 ≤ p9 ∧ p9 < rm) (hexit40 : ∀ (i : Int) (de : Int) (μ : va_M) (H : Heap) (locs : List Loc) (ls : Array Slot), (μ = μ0) → (de = dQ μ0 q p9 p9.toNat) → va_P (dC, dI) vwCl (fw (sE cI cZ cII cIII h0) h0 233 μ) H → va_S (fA h0 233 s.heap.size) s.heap H locs → lv_has ls 4 [(2, .int (iZ (de)))] → W p l e R s m args below meth c H locs cells slots Q (F0 m 40 ls [])) :
    ∀ (n9 : Nat) (i : Int) (de : Int) (μ : va_M) (H : Heap) (locs : List Loc) (ls : Array Slot), (μ = μ0) → (0 ≤ i ∧ i ≤ p9) → (de = dQ μ0 q p9 i.toNat) → (1101 - i).toNat < n9 → va_P (dC, dI) vwCl (fw (sE cI cZ cII cIII h0) h0 233 μ) H → va_S (fA h0 233 s.heap.size) s.heap H locs → lv_has ls 4 [(3, .int (iZ (i))), (2, .int (iZ (de))), (1, .int (iZ (p9))), (0, .ref (h0 + q))] → W p l e R s m args below meth c H locs cells slots Q (F0 m 4 ls []) := by
  intro n9
  induction n9 with
  | zero => intro i de μ H locs ls hm9_ hi hd hm9 hP hS hl; exact absurd hm9 (Nat.not_lt_zero _)
  | succ n9 ih =>
    intro i de μ H locs ls hm9_ hi hd hm9 hP hS hl
    subst hm9_
    have hrm := rG_rm hq hG
    have hqb := rowB_b hq
    have hb1 := dQ_b (μ := μ) (q := q) (a := p9) i.toNat
    refine lv_iload_n hx hb dX4_depthOf_4 rfl (lv_at hl 0 rfl) ?_
    refine lv_iload_n hx hb dX4_depthOf_5 rfl (lv_at hl 2 rfl) ?_
    refine fz_icmp_ge (tgt := 40) (by constructor <;> omega) (by constructor <;> omega) hx hb dX4_depthOf_6 (by decide) (fun c6_ => ?_) (fun c6_ => ?_)
    · exact hexit40 (i) (de) μ H locs ls (by rfl) (by rw [show p9.toNat = i.toNat by omega]; exact hd) hP hS (lv_sub hl [1] rfl)
    · have hmi := hG.2.1 (i).toNat
      have hs1 := hG.1 (i).toNat
      refine lv_aload_n hx hb dX4_depthOf_9 rfl (lv_at hl 3 rfl) ?_
      refine fz_get (D := (dC, dI)) (ci := 4) (v := .ref (h0 + (q + 1))) (C := RX4) (T := TX4) (N := 8) hx hb hts inG4 hown hK hP (k := q) (by omega) (F := (sRF h0 q)) (sE_rowO hq) rfl 0 (by decide) (hts _ k77) (fun _ h9 => h9) rfl dX4_depthOf_10 ?_
      refine lv_iload_n hx hb dX4_depthOf_13 rfl (lv_at hl 0 rfl) ?_
      refine fz_ld (k := (q + 1)) (n := rm) hx hb hK hP 0 (by omega) (sE_rowA (r := 1) hq (by decide)) rfl ⟨by omega, by omega⟩ (by omega) dX4_depthOf_14 ?_
      refine va_calli (va_runSN (As := [.int (iZ (μ (q + 1) (i).toNat))]) (rest := []) ⟨hx, hb, hml, hown, hts⟩ (s_isOpen l dC dI cI cZ cII cIII h0 H.size μ (μ (q + 1) (i).toNat) (by first | assumption | omega | exact ⟨by omega, by omega⟩)) ⟨va_cnB (host := "PageSkeleton") 1 hts (gI_G k423) rfl rfl rfl (xM_nest hM 8 rfl) (hts _ k1) (by decide +kernel) ⟨by show 1 + 1 ≤ _; omega, by show 8 + (1 + 11) + (14) ≤ _; omega⟩, hts _ k422, trivial⟩ ⟨fun a U g mk q => by obtain ⟨q0, q1, qP, qK, qM⟩ := q; exact ⟨q0, q1, qP, va_K.moved (u := U) (U := U.calling g mk a) (Vm.Alike.refl U.vm) qK, qM⟩, fun U hU hW => ⟨rfl, by rw [hU], by rw [hU]; exact hP, va_K.moved hW.alike hK, xM_warm hW hM⟩⟩ rfl rfl hl.1 rfl (lv_room (Nat.le_of_ble_eq_true rfl)) dX4_depthOf_15 ⟨hRc, hRs⟩) hS (fun q _ h => fA_le hS.1 q h) (fA_le hS.1) (fun r9 u9 t9 H1 locs ht9 hvm9 hw9 hB9 hz9 hk9 hS => ?_)
      obtain ⟨μ1, r2⟩ := u9
      obtain ⟨hP, -⟩ := hB9
      rw [ht9] at hP
      generalize H1 = H at hP hS ⊢
      obtain ⟨e9, hw9⟩ := hw9
      have e9 : r9 = iZ r2 := e9
      subst e9
      simp only at hP hw9
      have hμ1 := hw9; clear hw9
      rw [hμ1.1] at hP; have hμ1 := hμ1.2
      have hlf := if_el hμ1
      have hlf0 := if_01 hμ1
      refine fz_if_eq (tgt := 34) (by constructor <;> omega) hx hb dX4_depthOf_18 (by decide) (fun c18_ => ?_) (fun c18_ => ?_)
      · refine lv_iinc (v := iZ (i + 1)) (lv' := [(3, .int (iZ (i + 1))), (2, .int (iZ (de))), (1, .int (iZ (p9))), (0, .ref (h0 + q))]) hx hb dX4_depthOf_34 hl (k := 0) rfl (iZ_add _ _) (by decide) rfl (fun ls hl => ?_)
        refine lv_goto (tgt := 4) hx hb dX4_depthOf_37 (by decide) ?_
        exact ih (i + 1) (de) μ H locs ls (by rfl) (by omega) (by
                        rw [show (i + 1).toNat = i.toNat + 1 by omega, dQ, ← hd, if_neg (by omega)]
                        omega) (by omega) hP hS (lv_sub hl [0, 1, 2, 3] rfl)
      · refine lv_aload_n hx hb dX4_depthOf_21 rfl (lv_at hl 3 rfl) ?_
        refine fz_get (D := (dC, dI)) (ci := 4) (v := .ref (h0 + (q + 2))) (C := RX4) (T := TX4) (N := 8) hx hb hts inG4 hown hK hP (k := q) (by omega) (F := (sRF h0 q)) (sE_rowO hq) rfl 1 (by decide) (hts _ k83) (fun _ h9 => h9) rfl dX4_depthOf_22 ?_
        refine lv_iload_n hx hb dX4_depthOf_25 rfl (lv_at hl 0 rfl) ?_
        refine fz_ld (k := (q + 2)) (n := rm) hx hb hK hP 0 (by omega) (sE_rowA (r := 2) hq (by decide)) rfl ⟨by omega, by omega⟩ (by omega) dX4_depthOf_26 ?_
        refine lv_iload_n hx hb dX4_depthOf_27 rfl (lv_at hl 2 rfl) ?_
        refine fz_icmp_le (tgt := 34) (by constructor <;> omega) (by constructor <;> omega) hx hb dX4_depthOf_28 (by decide) (fun c28_ => ?_) (fun c28_ => ?_)
        · refine lv_iinc (v := iZ (i + 1)) (lv' := [(3, .int (iZ (i + 1))), (2, .int (iZ (de))), (1, .int (iZ (p9))), (0, .ref (h0 + q))]) hx hb dX4_depthOf_34 hl (k := 0) rfl (iZ_add _ _) (by decide) rfl (fun ls hl => ?_)
          refine lv_goto (tgt := 4) hx hb dX4_depthOf_37 (by decide) ?_
          exact ih (i + 1) (de) μ H locs ls (by rfl) (by omega) (by
                            rw [show (i + 1).toNat = i.toNat + 1 by omega, dQ, ← hd, if_neg (by omega)]
                            omega) (by omega) hP hS (lv_sub hl [0, 1, 2, 3] rfl)
        · refine lv_iinc (v := iZ (de + 1)) (lv' := [(2, .int (iZ (de + 1))), (3, .int (iZ (i))), (1, .int (iZ (p9))), (0, .ref (h0 + q))]) hx hb dX4_depthOf_31 hl (k := 1) rfl (iZ_add _ _) (by decide) rfl (fun ls hl => ?_)
          refine lv_iinc (v := iZ (i + 1)) (lv' := [(3, .int (iZ (i + 1))), (2, .int (iZ (de + 1))), (1, .int (iZ (p9))), (0, .ref (h0 + q))]) hx hb dX4_depthOf_34 hl (k := 1) rfl (iZ_add _ _) (by decide) rfl (fun ls hl => ?_)
          refine lv_goto (tgt := 4) hx hb dX4_depthOf_37 (by decide) ?_
          exact ih (i + 1) (de + 1) μ H locs ls (by rfl) (by omega) (by rw [show (i + 1).toNat = i.toNat + 1 by omega, dQ, ← hd, if_pos ⟨by omega, by omega⟩]) (by omega) hP hS (lv_sub hl [0, 1, 2, 3] rfl)
set_option maxHeartbeats 4000000 in
set_option maxRecDepth 100000 in
theorem s_RdepthOf2 (l : Launch) (dC : Nat → ClassId) (dI : Nat → Nat → Nat) (cI cZ cII cIII : ClassId) (h0 sz : Nat) (μ : va_M) (q : Nat) (rm : Nat) (p9 : Int) (hq : rowB q rm) (hG : rG μ q rm) (h_p : 0 ≤ p9 ∧ p9 < rm) : Met l yX4_depthOf (Cond.code yX4_depthOf cX4_depthOf 4 (some .int) :: wsG) ({ frames := 2, cells := 0, slots := 0, locals := 34 } : Room) (va_Pc [.ref (h0 + q), .int (iZ (p9))] (fun U => U.heap.size = sz ∧ va_P (dC, dI) vwCl (fw (sE cI cZ cII cIII h0) h0 233 μ) U.heap ∧ va_K (dC, dI) vwCl (sT cI cZ cII cIII) U ∧ xM U)) (va_Qi (fun (r9 : Int32) (u : va_M × Int) => r9 = iZ u.2 ∧ (fun (u : va_M) (r : Int) => u = μ ∧ r = dQ μ q p9 p9.toNat) u.1 u.2) (fun u t => va_P (dC, dI) vwCl (fw (sE cI cZ cII cIII h0) h0 233 u.1) t.heap ∧ va_K (dC, dI) vwCl (sT cI cZ cII cIII) t) (fA h0 233 sz)) 0 0 (fA h0 233 sz) := by
  refine Met.ofW (cc := cX4_depthOf) (maxL := 4) (ret := (some .int)) (by decide) rfl ?_
  intro p e s m args below meth c s₁ B hml hv
  obtain ⟨rfl, hsz, hP, hK, hM⟩ := hv
  have hx := B.exec
  have hb := B.bytes
  have hr := B.returns
  have hts : ∀ w ∈ wsG, w.before _ s = true := hG_of (atoms_spec (ws := (Cond.code yX4_depthOf cX4_depthOf 4 (some .int) :: wsG)) B.pre)
  have hown : s.vm.findClass RX4 = some m.cls := findClass_of_methodNamed B.named
  have hlocks := B.notSynchronized
  subst hsz
  have hS : va_S (fA h0 233 s.heap.size) s.heap s.heap [] := va_S.rf
  have hl := lv_entry ([.ref (h0 + q), .int (iZ (p9))]) (n := 4) (Nat.le_of_ble_eq_true rfl)
  rw [lg_entry_eq]
  generalize (lg_sl ([.ref (h0 + q), .int (iZ (p9))]) ++ List.replicate (4 - (lg_sl ([.ref (h0 + q), .int (iZ (p9))])).length) Slot.unset).toArray = ls at hl ⊢
  have hl : lv_has ls 4 [(0, .ref (h0 + q)), (1, .int (iZ (p9)))] := hl
  have hqb := rowB_b hq
  refine lv_iconst (v := iZ 0) hx hb dX4_depthOf_0 rfl ?_
  refine lv_istore_n (lv' := [(2, .int (iZ (0))), (0, .ref (h0 + q)), (1, .int (iZ (p9)))]) hx hb dX4_depthOf_1 rfl hl (by decide) rfl (fun ls hl => ?_)
  refine lv_iconst (v := iZ 0) hx hb dX4_depthOf_2 rfl ?_
  refine lv_istore_n (lv' := [(3, .int (iZ (0))), (2, .int (iZ (0))), (0, .ref (h0 + q)), (1, .int (iZ (p9)))]) hx hb dX4_depthOf_3 rfl hl (by decide) rfl (fun ls hl => ?_)
  refine LX4_depthOf_4b hx hb hml hown hts hK hM (Nat.le_of_ble_eq_true rfl) (Nat.le_of_ble_eq_true rfl) (Nat.le_of_ble_eq_true rfl) (Nat.le_of_ble_eq_true rfl) (μ) (q) (rm) (p9) (by assumption) (by assumption) (by assumption) ?_ _ (0) (0) μ s.heap [] ls (by rfl) (by omega) (by rfl) (Nat.lt_succ_self _) hP hS (lv_sub hl [0, 1, 3, 2] rfl)
  · intro i_3 de_3 μ3_ H locs ls q1_3 q2_3 hP hS hl
    have hl : lv_has ls 4 [(2, .int (iZ (de_3)))] := hl
    have hPn40 := hP
    obtain rfl := q1_3
    have hP := hPn40
    refine lv_iload_n hx hb dX4_depthOf_40 rfl (lv_at hl 0 rfl) ?_
    exact W.iret (v := iZ (de_3)) hx hb hr (fun t9 ht9 hW9 => ⟨⟨iZ (de_3), (μ3_, de_3), rfl, ⟨rfl, (by
                dsimp only
                exact ⟨rfl, q2_3⟩)⟩, by rw [ht9]; exact hP, va_K.moved hW9.alike hK⟩, hS.F ht9⟩) hS.2.2 dX4_depthOf_41
set_option maxHeartbeats 4000000 in
set_option maxRecDepth 100000 in
theorem LX4_parentOf_4b {p : Program} {l : Launch} {e : Env} {R : Room} {s : State} {m : MethodId} {args : Array Value} {below : List Frame} {meth : Method} {c : Code} {cells slots : Nat} {Q : State → Prop} {dC : Nat → ClassId} {dI : Nat → Nat → Nat} {h0 : Nat} {cI cZ cII cIII : ClassId} (hx : p.tables.exec = Jvm.exec) (hb : c.code = cX4_parentOf) (hml : c.maxLocals = 3) (hown : s.vm.findClass RX4 = some m.cls) (hts : ∀ w ∈ wsG, w.before args s = true) (hK : va_K (dC, dI) vwCl (sT cI cZ cII cIII) s) (hM : xM s) (hRf : 2 ≤ R.frames) (hRl : 34 ≤ R.locals) (hRc : cells ≤ R.cells) (hRs : slots ≤ R.slots) (μ0 : va_M) (q : Nat) (rm : Nat) (p9 : Int) (hq : rowB q rm) (hG : rG μ0 q rm) (h_p : 0 ≤ p9 ∧ p9 < rm) (hexit30 : ∀ (i : Int) (μ : va_M) (H : Heap) (locs : List Loc) (ls : Array Slot), (μ = μ0) → (0 ≤ i ∧ i < p9) → (pQ μ0 q p9 p9.toNat = μ0 (q + 4) i.toNat) → va_P (dC, dI) vwCl (fw (sE cI cZ cII cIII h0) h0 233 μ) H → va_S (fA h0 233 s.heap.size) s.heap H locs → lv_has ls 3 [(2, .int (iZ (i))), (0, .ref (h0 + q))] → W p l e R s m args below meth c H locs cells slots Q (F0 m 30 ls [])) (hexit43 : ∀ (i : Int) (μ : va_M) (H : Heap) (locs : List Loc) (ls : Array Slot), (μ = μ0) → (pQ μ0 q p9 p9.toNat = -1) → va_P (dC, dI) vwCl (fw (sE cI cZ cII cIII h0) h0 233 μ) H → va_S (fA h0 233 s.heap.size) s.heap H locs → lv_has ls 3 [] → W p l e R s m args below meth c H locs cells slots Q (F0 m 43 ls [])) :
    ∀ (n9 : Nat) (i : Int) (μ : va_M) (H : Heap) (locs : List Loc) (ls : Array Slot), (μ = μ0) → (-1 ≤ i ∧ i < p9) → (pQ μ0 q p9 p9.toNat = pQ μ0 q p9 (i + 1).toNat) → (i + 1).toNat < n9 → va_P (dC, dI) vwCl (fw (sE cI cZ cII cIII h0) h0 233 μ) H → va_S (fA h0 233 s.heap.size) s.heap H locs → lv_has ls 3 [(2, .int (iZ (i))), (1, .int (iZ (p9))), (0, .ref (h0 + q))] → W p l e R s m args below meth c H locs cells slots Q (F0 m 4 ls []) := by
  intro n9
  induction n9 with
  | zero => intro i μ H locs ls hm9_ hi hd hm9 hP hS hl; exact absurd hm9 (Nat.not_lt_zero _)
  | succ n9 ih =>
    intro i μ H locs ls hm9_ hi hd hm9 hP hS hl
    subst hm9_
    have hrm := rG_rm hq hG
    have hqb := rowB_b hq
    refine lv_iload_n hx hb dX4_parentOf_4 rfl (lv_at hl 0 rfl) ?_
    refine fz_if_lt (tgt := 43) (by constructor <;> omega) hx hb dX4_parentOf_5 (by decide) (fun c5_ => ?_) (fun c5_ => ?_)
    · exact hexit43 (i) μ H locs ls (by rfl) (by rw [hd, show (i + 1).toNat = 0 by omega]; rfl) hP hS (lv_sub hl [] rfl)
    · have hmi := hG.2.1 (i).toNat
      have hs1 := hG.1 (i).toNat
      have ei : (i + 1).toNat = i.toNat + 1 := by omega
      refine lv_aload_n hx hb dX4_parentOf_8 rfl (lv_at hl 2 rfl) ?_
      refine fz_get (D := (dC, dI)) (ci := 4) (v := .ref (h0 + (q + 1))) (C := RX4) (T := TX4) (N := 8) hx hb hts inG4 hown hK hP (k := q) (by omega) (F := (sRF h0 q)) (sE_rowO hq) rfl 0 (by decide) (hts _ k77) (fun _ h9 => h9) rfl dX4_parentOf_9 ?_
      refine lv_iload_n hx hb dX4_parentOf_12 rfl (lv_at hl 0 rfl) ?_
      refine fz_ld (k := (q + 1)) (n := rm) hx hb hK hP 0 (by omega) (sE_rowA (r := 1) hq (by decide)) rfl ⟨by omega, by omega⟩ (by omega) dX4_parentOf_13 ?_
      refine va_calli (va_runSN (As := [.int (iZ (μ (q + 1) (i).toNat))]) (rest := []) ⟨hx, hb, hml, hown, hts⟩ (s_isOpen l dC dI cI cZ cII cIII h0 H.size μ (μ (q + 1) (i).toNat) (by first | assumption | omega | exact ⟨by omega, by omega⟩)) ⟨va_cnB (host := "PageSkeleton") 1 hts (gI_G k423) rfl rfl rfl (xM_nest hM 8 rfl) (hts _ k1) (by decide +kernel) ⟨by show 1 + 1 ≤ _; omega, by show 8 + (1 + 11) + (14) ≤ _; omega⟩, hts _ k422, trivial⟩ ⟨fun a U g mk q => by obtain ⟨q0, q1, qP, qK, qM⟩ := q; exact ⟨q0, q1, qP, va_K.moved (u := U) (U := U.calling g mk a) (Vm.Alike.refl U.vm) qK, qM⟩, fun U hU hW => ⟨rfl, by rw [hU], by rw [hU]; exact hP, va_K.moved hW.alike hK, xM_warm hW hM⟩⟩ rfl rfl hl.1 rfl (lv_room (Nat.le_of_ble_eq_true rfl)) dX4_parentOf_14 ⟨hRc, hRs⟩) hS (fun q _ h => fA_le hS.1 q h) (fA_le hS.1) (fun r9 u9 t9 H1 locs ht9 hvm9 hw9 hB9 hz9 hk9 hS => ?_)
      obtain ⟨μ1, r2⟩ := u9
      obtain ⟨hP, -⟩ := hB9
      rw [ht9] at hP
      generalize H1 = H at hP hS ⊢
      obtain ⟨e9, hw9⟩ := hw9
      have e9 : r9 = iZ r2 := e9
      subst e9
      simp only at hP hw9
      have hμ1 := hw9; clear hw9
      rw [hμ1.1] at hP; have hμ1 := hμ1.2
      have hlf := if_el hμ1
      have hlf0 := if_01 hμ1
      refine fz_if_eq (tgt := 37) (by constructor <;> omega) hx hb dX4_parentOf_17 (by decide) (fun c17_ => ?_) (fun c17_ => ?_)
      · refine lv_iinc (v := iZ (i - 1)) (lv' := [(2, .int (iZ (i - 1))), (1, .int (iZ (p9))), (0, .ref (h0 + q))]) hx hb dX4_parentOf_37 hl (k := 0) rfl (iZ_add _ (-1)) (by decide) rfl (fun ls hl => ?_)
        refine lv_goto (tgt := 4) hx hb dX4_parentOf_40 (by decide) ?_
        exact ih (i - 1) μ H locs ls (by rfl) (by omega) (by rw [hd, ei, pQ, if_neg (by omega), show (i - 1 + 1).toNat = i.toNat by omega]) (by omega) hP hS (lv_sub hl [0, 1, 2] rfl)
      · refine lv_aload_n hx hb dX4_parentOf_20 rfl (lv_at hl 2 rfl) ?_
        refine fz_get (D := (dC, dI)) (ci := 4) (v := .ref (h0 + (q + 2))) (C := RX4) (T := TX4) (N := 8) hx hb hts inG4 hown hK hP (k := q) (by omega) (F := (sRF h0 q)) (sE_rowO hq) rfl 1 (by decide) (hts _ k83) (fun _ h9 => h9) rfl dX4_parentOf_21 ?_
        refine lv_iload_n hx hb dX4_parentOf_24 rfl (lv_at hl 0 rfl) ?_
        refine fz_ld (k := (q + 2)) (n := rm) hx hb hK hP 0 (by omega) (sE_rowA (r := 2) hq (by decide)) rfl ⟨by omega, by omega⟩ (by omega) dX4_parentOf_25 ?_
        refine lv_iload_n hx hb dX4_parentOf_26 rfl (lv_at hl 1 rfl) ?_
        refine fz_icmp_le (tgt := 37) (by constructor <;> omega) (by constructor <;> omega) hx hb dX4_parentOf_27 (by decide) (fun c27_ => ?_) (fun c27_ => ?_)
        · refine lv_iinc (v := iZ (i - 1)) (lv' := [(2, .int (iZ (i - 1))), (1, .int (iZ (p9))), (0, .ref (h0 + q))]) hx hb dX4_parentOf_37 hl (k := 0) rfl (iZ_add _ (-1)) (by decide) rfl (fun ls hl => ?_)
          refine lv_goto (tgt := 4) hx hb dX4_parentOf_40 (by decide) ?_
          exact ih (i - 1) μ H locs ls (by rfl) (by omega) (by rw [hd, ei, pQ, if_neg (by omega), show (i - 1 + 1).toNat = i.toNat by omega]) (by omega) hP hS (lv_sub hl [0, 1, 2] rfl)
        · exact hexit30 (i) μ H locs ls (by rfl) (by omega) (by rw [hd, ei, pQ, if_pos ⟨by omega, by omega⟩]) hP hS (lv_sub hl [0, 2] rfl)
set_option maxHeartbeats 4000000 in
set_option maxRecDepth 100000 in
theorem s_RparentOf2 (l : Launch) (dC : Nat → ClassId) (dI : Nat → Nat → Nat) (cI cZ cII cIII : ClassId) (h0 sz : Nat) (μ : va_M) (q : Nat) (rm : Nat) (p9 : Int) (hq : rowB q rm) (hG : rG μ q rm) (h_p : 0 ≤ p9 ∧ p9 < rm) : Met l yX4_parentOf (Cond.code yX4_parentOf cX4_parentOf 3 (some .int) :: wsG) ({ frames := 2, cells := 0, slots := 0, locals := 34 } : Room) (va_Pc [.ref (h0 + q), .int (iZ (p9))] (fun U => U.heap.size = sz ∧ va_P (dC, dI) vwCl (fw (sE cI cZ cII cIII h0) h0 233 μ) U.heap ∧ va_K (dC, dI) vwCl (sT cI cZ cII cIII) U ∧ xM U)) (va_Qi (fun (r9 : Int32) (u : va_M × Int) => r9 = iZ u.2 ∧ (fun (u : va_M) (r : Int) => u = μ ∧ r = pQ μ q p9 p9.toNat) u.1 u.2) (fun u t => va_P (dC, dI) vwCl (fw (sE cI cZ cII cIII h0) h0 233 u.1) t.heap ∧ va_K (dC, dI) vwCl (sT cI cZ cII cIII) t) (fA h0 233 sz)) 0 0 (fA h0 233 sz) := by
  refine Met.ofW (cc := cX4_parentOf) (maxL := 3) (ret := (some .int)) (by decide) rfl ?_
  intro p e s m args below meth c s₁ B hml hv
  obtain ⟨rfl, hsz, hP, hK, hM⟩ := hv
  have hx := B.exec
  have hb := B.bytes
  have hr := B.returns
  have hts : ∀ w ∈ wsG, w.before _ s = true := hG_of (atoms_spec (ws := (Cond.code yX4_parentOf cX4_parentOf 3 (some .int) :: wsG)) B.pre)
  have hown : s.vm.findClass RX4 = some m.cls := findClass_of_methodNamed B.named
  have hlocks := B.notSynchronized
  subst hsz
  have hS : va_S (fA h0 233 s.heap.size) s.heap s.heap [] := va_S.rf
  have hl := lv_entry ([.ref (h0 + q), .int (iZ (p9))]) (n := 3) (Nat.le_of_ble_eq_true rfl)
  rw [lg_entry_eq]
  generalize (lg_sl ([.ref (h0 + q), .int (iZ (p9))]) ++ List.replicate (3 - (lg_sl ([.ref (h0 + q), .int (iZ (p9))])).length) Slot.unset).toArray = ls at hl ⊢
  have hl : lv_has ls 3 [(0, .ref (h0 + q)), (1, .int (iZ (p9)))] := hl
  have hqb := rowB_b hq
  refine lv_iload_n hx hb dX4_parentOf_0 rfl (lv_at hl 1 rfl) ?_
  refine lv_iconst (v := iZ 1) hx hb dX4_parentOf_1 rfl ?_
  refine lv_isub hx hb dX4_parentOf_2 ?_
  refine lv_topi (fun x9 ex9 => ?_)
  obtain rfl : x9 = iZ (p9 - 1) := ex9.trans (iZ_sub _ _)
  refine lv_istore_n (lv' := [(2, .int (iZ (p9 - 1))), (0, .ref (h0 + q)), (1, .int (iZ (p9)))]) hx hb dX4_parentOf_3 rfl hl (by decide) rfl (fun ls hl => ?_)
  refine LX4_parentOf_4b hx hb hml hown hts hK hM (Nat.le_of_ble_eq_true rfl) (Nat.le_of_ble_eq_true rfl) (Nat.le_of_ble_eq_true rfl) (Nat.le_of_ble_eq_true rfl) (μ) (q) (rm) (p9) (by assumption) (by assumption) (by assumption) ?_ ?_ _ (p9 - 1) μ s.heap [] ls (by rfl) (by omega) (by rw [show (p9 - 1 + 1).toNat = p9.toNat by omega]) (Nat.lt_succ_self _) hP hS (lv_sub hl [0, 2, 1] rfl)
  · intro i_3 μ3_ H locs ls q1_3 q2_3 q4_3 hP hS hl
    have hl : lv_has ls 3 [(2, .int (iZ (i_3))), (0, .ref (h0 + q))] := hl
    have hPn30 := hP
    obtain rfl := q1_3
    have hP := hPn30
    have q22 := q2_3
    refine lv_aload_n hx hb dX4_parentOf_30 rfl (lv_at hl 1 rfl) ?_
    refine fz_get (D := (dC, dI)) (ci := 4) (v := .ref (h0 + (q + 4))) (C := RX4) (T := TX4) (N := 8) hx hb hts inG4 hown hK hP (k := q) (by omega) (F := (sRF h0 q)) (sE_rowO hq) rfl 3 (by decide) (hts _ k88) (fun _ h9 => h9) rfl dX4_parentOf_31 ?_
    refine lv_iload_n hx hb dX4_parentOf_34 rfl (lv_at hl 0 rfl) ?_
    refine fz_ld (k := (q + 4)) (n := rm) hx hb hK hP 0 (by omega) (sE_rowA (r := 4) hq (by decide)) rfl ⟨by omega, by omega⟩ (by omega) dX4_parentOf_35 ?_
    exact W.iret (v := iZ (μ3_ (q + 4) (i_3).toNat)) hx hb hr (fun t9 ht9 hW9 => ⟨⟨iZ (μ3_ (q + 4) (i_3).toNat), (μ3_, μ3_ (q + 4) (i_3).toNat), rfl, ⟨rfl, (by
                dsimp only
                exact ⟨rfl, q4_3.symm⟩)⟩, by rw [ht9]; exact hP, va_K.moved hW9.alike hK⟩, hS.F ht9⟩) hS.2.2 dX4_parentOf_36
  · intro i_4 μ4_ H locs ls q3_4 q5_4 hP hS hl
    have hl : lv_has ls 3 [] := hl
    have hPn43 := hP
    obtain rfl := q3_4
    have hP := hPn43
    refine lv_iconst (v := iZ (-1)) hx hb dX4_parentOf_43 rfl ?_
    exact W.iret (v := iZ ((-1))) hx hb hr (fun t9 ht9 hW9 => ⟨⟨iZ ((-1)), (μ4_, (-1)), rfl, ⟨rfl, (by
                dsimp only
                exact ⟨rfl, q5_4.symm⟩)⟩, by rw [ht9]; exact hP, va_K.moved hW9.alike hK⟩, hS.F ht9⟩) hS.2.2 dX4_parentOf_44
set_option maxHeartbeats 4000000 in
set_option maxRecDepth 100000 in
theorem LX4_itemsIn_18b {p : Program} {l : Launch} {e : Env} {R : Room} {s : State} {m : MethodId} {args : Array Value} {below : List Frame} {meth : Method} {c : Code} {cells slots : Nat} {Q : State → Prop} {dC : Nat → ClassId} {dI : Nat → Nat → Nat} {h0 : Nat} {cI cZ cII cIII : ClassId} (hx : p.tables.exec = Jvm.exec) (hb : c.code = cX4_itemsIn) (hml : c.maxLocals = 4) (hown : s.vm.findClass RX4 = some m.cls) (hts : ∀ w ∈ wsG, w.before args s = true) (hK : va_K (dC, dI) vwCl (sT cI cZ cII cIII) s) (hM : xM s) (hRf : 2 ≤ R.frames) (hRl : 35 ≤ R.locals) (hRc : cells ≤ R.cells) (hRs : slots ≤ R.slots) (μ0 : va_M) (q : Nat) (rm : Nat) (p9 : Int) (l9 : Rw) (hq : rowB q rm) (hG : rG μ0 q rm) (h_p : 0 ≤ p9 ∧ p9 < rm) (hl9 : (rWF l9 ∧ SA μ0 (q + 1) l9 (p9 + 1).toNat) ∧ μ0 (q + 2) p9.toNat = p9 + 1 + sL l9 ∧ p9 + 1 + sL l9 < μ0 q 5) (hexit46 : ∀ (i : Int) (it : Int) (μ : va_M) (H : Heap) (locs : List Loc) (ls : Array Slot), (μ = μ0) → (it = rI l9) → va_P (dC, dI) vwCl (fw (sE cI cZ cII cIII h0) h0 233 μ) H → va_S (fA h0 233 s.heap.size) s.heap H locs → lv_has ls 4 [(2, .int (iZ (it)))] → W p l e R s m args below meth c H locs cells slots Q (F0 m 46 ls [])) :
    ∀ (n9 : Nat) (i : Int) (it : Int) (μ : va_M) (H : Heap) (locs : List Loc) (ls : Array Slot), (μ = μ0) → (0 ≤ it ∧ it ≤ rI l9 ∧ i = p9 + 1 + sO l9 it.toNat) → (1101 - i).toNat < n9 → va_P (dC, dI) vwCl (fw (sE cI cZ cII cIII h0) h0 233 μ) H → va_S (fA h0 233 s.heap.size) s.heap H locs → lv_has ls 4 [(3, .int (iZ (i))), (2, .int (iZ (it))), (1, .int (iZ (p9))), (0, .ref (h0 + q))] → W p l e R s m args below meth c H locs cells slots Q (F0 m 18 ls []) := by
  intro n9
  induction n9 with
  | zero => intro i it μ H locs ls hm9_ hi hm9 hP hS hl; exact absurd hm9 (Nat.not_lt_zero _)
  | succ n9 ih =>
    intro i it μ H locs ls hm9_ hi hm9 hP hS hl
    subst hm9_
    have hrm := rG_rm hq hG
    have hqb := rowB_b hq
    have hmp := hG.2.1 p9.toNat
    obtain ⟨⟨hw9, hs9⟩, hm9, hl8⟩ := hl9
    have hrm5 := rG_len hG
    have hso := sO_le l9 it.toNat
    refine lv_iload_n hx hb dX4_itemsIn_18 rfl (lv_at hl 0 rfl) ?_
    refine lv_aload_n hx hb dX4_itemsIn_19 rfl (lv_at hl 3 rfl) ?_
    refine fz_get (D := (dC, dI)) (ci := 4) (v := .ref (h0 + (q + 2))) (C := RX4) (T := TX4) (N := 8) hx hb hts inG4 hown hK hP (k := q) (by omega) (F := (sRF h0 q)) (sE_rowO hq) rfl 1 (by decide) (hts _ k83) (fun _ h9 => h9) rfl dX4_itemsIn_20 ?_
    refine lv_iload_n hx hb dX4_itemsIn_23 rfl (lv_at hl 2 rfl) ?_
    refine fz_ld (k := (q + 2)) (n := rm) hx hb hK hP 0 (by omega) (sE_rowA (r := 2) hq (by decide)) rfl ⟨by omega, by omega⟩ (by omega) dX4_itemsIn_24 ?_
    refine fz_icmp_ge (tgt := 46) (by constructor <;> omega) (by constructor <;> omega) hx hb dX4_itemsIn_25 (by decide) (fun c25_ => ?_) (fun c25_ => ?_)
    · exact hexit46 (i) (it) μ H locs ls (by rfl) (by
                    rcases Int.lt_or_le it (rI l9) with h | h
                    · exfalso
                      have h7 := sO_lt l9 it.toNat (by omega)
                      have h8 := sO_le l9 (it.toNat + 1)
                      omega
                    · omega) hP hS (lv_sub hl [1] rfl)
    · have hmi := hG.2.1 i.toNat
      obtain ⟨d9, f1, f2, f3, f4, -⟩ := fi_step (i := i) (k := it.toNat) (p1 := p9 + 1) hG hw9 hs9 (by omega) (by omega) (by omega) (by omega)
      refine lv_iinc (v := iZ (it + 1)) (lv' := [(2, .int (iZ (it + 1))), (3, .int (iZ (i))), (1, .int (iZ (p9))), (0, .ref (h0 + q))]) hx hb dX4_itemsIn_28 hl (k := 1) rfl (iZ_add _ _) (by decide) rfl (fun ls hl => ?_)
      refine lv_iload_n hx hb dX4_itemsIn_31 rfl (lv_at hl 1 rfl) ?_
      refine lv_iconst (v := iZ 1) hx hb dX4_itemsIn_32 rfl ?_
      refine lv_iadd hx hb dX4_itemsIn_33 ?_
      refine lv_topi (fun x9 ex9 => ?_)
      obtain rfl : x9 = iZ (i + 1) := ex9.trans (iZ_add _ _)
      refine lv_aload_n hx hb dX4_itemsIn_34 rfl (lv_at hl 3 rfl) ?_
      refine lv_iload_n hx hb dX4_itemsIn_35 rfl (lv_at hl 1 rfl) ?_
      refine va_calli (va_runV (As := [.int (iZ (i))]) (rest := [.int (iZ (i + 1))]) ⟨hx, hb, hml, hown, hts⟩ (s_Rafter l dC dI cI cZ cII cIII h0 H.size μ (q) (rm) (i) (hq) (by first | assumption | omega | exact ⟨by omega, by omega⟩) (by constructor <;> omega)) (cwV 1 hts (gV_G k812 k438 k439 k3 k440) rfl rfl rfl (by decide +kernel) ⟨by show 1 + 1 ≤ _; omega, by show 8 + (2 + 11) + (14) ≤ _; omega⟩) ⟨fun a U g mk q => by obtain ⟨q0, q1, qP, qK, qM⟩ := q; exact ⟨q0, q1, qP, va_K.moved (u := U) (U := U.calling g mk a) (Vm.Alike.refl U.vm) qK, qM⟩, va_recv hK hP (ci := 4) (q0 := q) rfl ((fw_get (by omega)).trans (by rw [(sE_rowO hq)])), fun U hU hW => ⟨rfl, by rw [hU], by rw [hU]; exact hP, va_K.moved hW.alike hK, xM_warm hW hM⟩⟩ rfl rfl hl.1 rfl (lv_room (Nat.le_of_ble_eq_true rfl)) dX4_itemsIn_36 ⟨hRc, hRs⟩) hS (fun q _ h => fA_le hS.1 q h) (fA_le hS.1) (fun r9 u9 t9 H1 locs ht9 hvm9 hw9 hB9 hz9 hk9 hS => ?_)
      obtain ⟨μa, ra⟩ := u9
      obtain ⟨hP, -⟩ := hB9
      rw [ht9] at hP
      generalize H1 = H at hP hS ⊢
      obtain ⟨e9, hw9⟩ := hw9
      have e9 : r9 = iZ ra := e9
      subst e9
      simp only at hP hw9
      have hμa := hw9; clear hw9
      rw [hμa.1] at hP; have hμa := hμa.2
      have hra := hμa
      refine va_mmax hx hb (hml.trans hl.1.symm) hown (hts _ k74) (hts _ k75) (hts _ k4) (hts _ k76) (Nat.le_trans (Nat.le_of_ble_eq_true rfl) hRf) (Nat.le_trans (m := 35) (Nat.le_of_ble_eq_true rfl) hRl) hRc hRs dX4_itemsIn_39 ?_
      refine lv_topi (fun x9 ex9 => ?_)
      obtain rfl : x9 = iZ (max (i + 1) ra) := ex9.trans (iZ_mx (by constructor <;> omega) (by constructor <;> omega))
      refine lv_istore_n (lv' := [(3, .int (iZ (max (i + 1) ra))), (2, .int (iZ (it + 1))), (1, .int (iZ (p9))), (0, .ref (h0 + q))]) hx hb dX4_itemsIn_42 rfl hl (by decide) rfl (fun ls hl => ?_)
      refine lv_goto (tgt := 18) hx hb dX4_itemsIn_43 (by decide) ?_
      exact ih (max (i + 1) ra) (it + 1) μ H locs ls (by rfl) (by rw [show (it + 1).toNat = it.toNat + 1 by omega, f3]; omega) (by omega) hP hS (lv_sub hl [0, 1, 2, 3] rfl)
set_option maxHeartbeats 4000000 in
set_option maxRecDepth 100000 in
theorem s_RitemsIn2 (l : Launch) (dC : Nat → ClassId) (dI : Nat → Nat → Nat) (cI cZ cII cIII : ClassId) (h0 sz : Nat) (μ : va_M) (q : Nat) (rm : Nat) (p9 : Int) (k9 : Nat) (l9 : Rw) (hq : rowB q rm) (hG : rG μ q rm) (h_p : 0 ≤ p9 ∧ p9 < rm) (hkk9 : (k9 < 3 ∧ l9 = .leaf ∧ 0 ≤ μ (q + 1) p9.toNat ∧ μ (q + 1) p9.toNat ≤ 512) ∨ (3 ≤ k9 ∧ 513 ≤ μ (q + 1) p9.toNat ∧ μ (q + 1) p9.toNat ≤ 514 ∧ (rWF l9 ∧ SA μ (q + 1) l9 (p9 + 1).toNat) ∧ μ (q + 2) p9.toNat = p9 + 1 + sL l9 ∧ p9 + 1 + sL l9 < μ q 5)) : Met l yX4_itemsIn (Cond.code yX4_itemsIn cX4_itemsIn 4 (some .int) :: wsG) ({ frames := 2, cells := 0, slots := 0, locals := 35 } : Room) (va_Pc [.ref (h0 + q), .int (iZ (p9))] (fun U => U.heap.size = sz ∧ va_P (dC, dI) vwCl (fw (sE cI cZ cII cIII h0) h0 233 μ) U.heap ∧ va_K (dC, dI) vwCl (sT cI cZ cII cIII) U ∧ xM U)) (va_Qi (fun (r9 : Int32) (u : va_M × Int) => r9 = iZ u.2 ∧ (fun (u : va_M) (r : Int) => u = μ ∧ r = rI l9) u.1 u.2) (fun u t => va_P (dC, dI) vwCl (fw (sE cI cZ cII cIII h0) h0 233 u.1) t.heap ∧ va_K (dC, dI) vwCl (sT cI cZ cII cIII) t) (fA h0 233 sz)) 0 0 (fA h0 233 sz) := by
  refine Met.ofW (cc := cX4_itemsIn) (maxL := 4) (ret := (some .int)) (by decide) rfl ?_
  intro p e s m args below meth c s₁ B hml hv
  obtain ⟨rfl, hsz, hP, hK, hM⟩ := hv
  have hx := B.exec
  have hb := B.bytes
  have hr := B.returns
  have hts : ∀ w ∈ wsG, w.before _ s = true := hG_of (atoms_spec (ws := (Cond.code yX4_itemsIn cX4_itemsIn 4 (some .int) :: wsG)) B.pre)
  have hown : s.vm.findClass RX4 = some m.cls := findClass_of_methodNamed B.named
  have hlocks := B.notSynchronized
  subst hsz
  have hS : va_S (fA h0 233 s.heap.size) s.heap s.heap [] := va_S.rf
  have hl := lv_entry ([.ref (h0 + q), .int (iZ (p9))]) (n := 4) (Nat.le_of_ble_eq_true rfl)
  rw [lg_entry_eq]
  generalize (lg_sl ([.ref (h0 + q), .int (iZ (p9))]) ++ List.replicate (4 - (lg_sl ([.ref (h0 + q), .int (iZ (p9))])).length) Slot.unset).toArray = ls at hl ⊢
  have hl : lv_has ls 4 [(0, .ref (h0 + q)), (1, .int (iZ (p9)))] := hl
  have hqb := rowB_b hq
  have hs1 := hG.1 p9.toNat
  have hrm5 := rG_len hG
  refine lv_iconst (v := iZ 0) hx hb dX4_itemsIn_0 rfl ?_
  refine lv_istore_n (lv' := [(2, .int (iZ (0))), (0, .ref (h0 + q)), (1, .int (iZ (p9)))]) hx hb dX4_itemsIn_1 rfl hl (by decide) rfl (fun ls hl => ?_)
  refine lv_aload_n hx hb dX4_itemsIn_2 rfl (lv_at hl 1 rfl) ?_
  refine fz_get (D := (dC, dI)) (ci := 4) (v := .ref (h0 + (q + 1))) (C := RX4) (T := TX4) (N := 8) hx hb hts inG4 hown hK hP (k := q) (by omega) (F := (sRF h0 q)) (sE_rowO hq) rfl 0 (by decide) (hts _ k77) (fun _ h9 => h9) rfl dX4_itemsIn_3 ?_
  refine lv_iload_n hx hb dX4_itemsIn_6 rfl (lv_at hl 2 rfl) ?_
  refine fz_ld (k := (q + 1)) (n := rm) hx hb hK hP 0 (by omega) (sE_rowA (r := 1) hq (by decide)) rfl ⟨by omega, by omega⟩ (by omega) dX4_itemsIn_7 ?_
  refine va_calli (va_runSN (As := [.int (iZ (μ (q + 1) (p9).toNat))]) (rest := []) ⟨hx, hb, hml, hown, hts⟩ (s_isOpen l dC dI cI cZ cII cIII h0 s.heap.size μ (μ (q + 1) (p9).toNat) (by first | assumption | omega | exact ⟨by omega, by omega⟩)) ⟨va_cnB (host := "PageSkeleton") 1 hts (gI_G k423) rfl rfl rfl (xM_nest hM 8 rfl) (hts _ k1) (by decide +kernel) ⟨Nat.le_of_ble_eq_true rfl, Nat.le_of_ble_eq_true rfl⟩, hts _ k422, trivial⟩ ⟨fun a U g mk q => by obtain ⟨q0, q1, qP, qK, qM⟩ := q; exact ⟨q0, q1, qP, va_K.moved (u := U) (U := U.calling g mk a) (Vm.Alike.refl U.vm) qK, qM⟩, fun U hU hW => ⟨rfl, by rw [hU], by rw [hU]; exact hP, va_K.moved hW.alike hK, xM_warm hW hM⟩⟩ rfl rfl hl.1 rfl (lv_room (Nat.le_of_ble_eq_true rfl)) dX4_itemsIn_8 ⟨Nat.le_of_ble_eq_true rfl, Nat.le_of_ble_eq_true rfl⟩) hS (fun q _ h => fA_le hS.1 q h) (fA_le hS.1) (fun r9 u9 t9 H1 locs ht9 hvm9 hw9 hB9 hz9 hk9 hS => ?_)
  obtain ⟨μ1, r2⟩ := u9
  obtain ⟨hP, -⟩ := hB9
  rw [ht9] at hP
  generalize H1 = H at hP hS ⊢
  obtain ⟨e9, hw9⟩ := hw9
  have e9 : r9 = iZ r2 := e9
  subst e9
  simp only at hP hw9
  have hμ1 := hw9; clear hw9
  rw [hμ1.1] at hP; have hμ1 := hμ1.2
  have hlf := if_el hμ1
  have hlf0 := if_01 hμ1
  refine fz_if_eq (tgt := 46) (by constructor <;> omega) hx hb dX4_itemsIn_11 (by decide) (fun c11_ => ?_) (fun c11_ => ?_)
  · have hk8 : l9 = .leaf := by
      rcases hkk9 with h | h
      · exact h.2.1
      · exfalso; omega
    refine lv_iload_n hx hb dX4_itemsIn_46 rfl (lv_at hl 0 rfl) ?_
    exact W.iret (v := iZ (0)) hx hb hr (fun t9 ht9 hW9 => ⟨⟨iZ (0), (μ, 0), rfl, ⟨rfl, (by
                dsimp only
                refine ⟨rfl, ?_⟩
                rw [hk8]; rfl)⟩, by rw [ht9]; exact hP, va_K.moved hW9.alike hK⟩, hS.F ht9⟩) hS.2.2 dX4_itemsIn_47
  · have hk8 : (rWF l9 ∧ SA μ (q + 1) l9 (p9 + 1).toNat) ∧ μ (q + 2) p9.toNat = p9 + 1 + sL l9 ∧ p9 + 1 + sL l9 < μ q 5 := by
      rcases hkk9 with h | h
      · exfalso; omega
      · exact h.2.2.2
    refine lv_iload_n hx hb dX4_itemsIn_14 rfl (lv_at hl 2 rfl) ?_
    refine lv_iconst (v := iZ 1) hx hb dX4_itemsIn_15 rfl ?_
    refine lv_iadd hx hb dX4_itemsIn_16 ?_
    refine lv_topi (fun x9 ex9 => ?_)
    obtain rfl : x9 = iZ (p9 + 1) := ex9.trans (iZ_add _ _)
    refine lv_istore_n (lv' := [(3, .int (iZ (p9 + 1))), (2, .int (iZ (0))), (0, .ref (h0 + q)), (1, .int (iZ (p9)))]) hx hb dX4_itemsIn_17 rfl hl (by decide) rfl (fun ls hl => ?_)
    refine LX4_itemsIn_18b hx hb hml hown hts hK hM (Nat.le_of_ble_eq_true rfl) (Nat.le_of_ble_eq_true rfl) (Nat.le_of_ble_eq_true rfl) (Nat.le_of_ble_eq_true rfl) (μ) (q) (rm) (p9) (l9) (by assumption) (by assumption) (by assumption) (by exact hk8) ?_ _ (p9 + 1) (0) μ H locs ls (by rfl) (by rw [show (0 : Int).toNat = 0 from rfl, sO_0]; omega) (Nat.lt_succ_self _) hP hS (lv_sub hl [0, 1, 3, 2] rfl)
    · intro i_3 it_3 μ3_ H locs ls q1_3 q2_3 hP hS hl
      have hl : lv_has ls 4 [(2, .int (iZ (it_3)))] := hl
      have hPn46 := hP
      obtain rfl := q1_3
      have hP := hPn46
      refine lv_iload_n hx hb dX4_itemsIn_46 rfl (lv_at hl 0 rfl) ?_
      exact W.iret (v := iZ (it_3)) hx hb hr (fun t9 ht9 hW9 => ⟨⟨iZ (it_3), (μ3_, it_3), rfl, ⟨rfl, (by
                    dsimp only
                    exact ⟨rfl, q2_3⟩)⟩, by rw [ht9]; exact hP, va_K.moved hW9.alike hK⟩, hS.F ht9⟩) hS.2.2 dX4_itemsIn_47
set_option maxHeartbeats 4000000 in
set_option maxRecDepth 100000 in
theorem s_RtellNode2 (l : Launch) (dC : Nat → ClassId) (dI : Nat → Nat → Nat) (cI cZ cII cIII : ClassId) (h0 sz : Nat) (μ : va_M) (q : Nat) (rm : Nat) (nd9 : Int) (wh : Int) (w : Rw) (hq : rowB q rm) (hG : rG μ q rm) (h_n : 0 ≤ nd9 ∧ nd9 < μ q 6) (h_w : 0 ≤ wh ∧ wh ≤ 5) (hrS : rowS μ q w ∧ rWF w) : Met l yX4_tellNode (Cond.code yX4_tellNode cX4_tellNode 4 (some .int) :: wsG) ({ frames := 3, cells := 0, slots := 0, locals := 58 } : Room) (va_Pc [.ref (h0 + q), .int (iZ (nd9)), .int (iZ (wh))] (fun U => U.heap.size = sz ∧ va_P (dC, dI) vwCl (fw (sE cI cZ cII cIII h0) h0 233 μ) U.heap ∧ va_K (dC, dI) vwCl (sT cI cZ cII cIII) U ∧ xM U)) (va_Qi (fun (r9 : Int32) (u : va_M × Int) => r9 = iZ u.2 ∧ (fun (u : va_M) (r : Int) => u = μ ∧ r = ofV w nd9.toNat wh) u.1 u.2) (fun u t => va_P (dC, dI) vwCl (fw (sE cI cZ cII cIII h0) h0 233 u.1) t.heap ∧ va_K (dC, dI) vwCl (sT cI cZ cII cIII) t) (fA h0 233 sz)) 0 0 (fA h0 233 sz) := by
  refine Met.ofW (cc := cX4_tellNode) (maxL := 4) (ret := (some .int)) (by decide) rfl ?_
  intro p e s m args below meth c s₁ B hml hv
  obtain ⟨rfl, hsz, hP, hK, hM⟩ := hv
  have hx := B.exec
  have hb := B.bytes
  have hr := B.returns
  have hts : ∀ w ∈ wsG, w.before _ s = true := hG_of (atoms_spec (ws := (Cond.code yX4_tellNode cX4_tellNode 4 (some .int) :: wsG)) B.pre)
  have hown : s.vm.findClass RX4 = some m.cls := findClass_of_methodNamed B.named
  have hlocks := B.notSynchronized
  subst hsz
  have hS : va_S (fA h0 233 s.heap.size) s.heap s.heap [] := va_S.rf
  have hl := lv_entry ([.ref (h0 + q), .int (iZ (nd9)), .int (iZ (wh))]) (n := 4) (Nat.le_of_ble_eq_true rfl)
  rw [lg_entry_eq]
  generalize (lg_sl ([.ref (h0 + q), .int (iZ (nd9)), .int (iZ (wh))]) ++ List.replicate (4 - (lg_sl ([.ref (h0 + q), .int (iZ (nd9)), .int (iZ (wh))])).length) Slot.unset).toArray = ls at hl ⊢
  have hl : lv_has ls 4 [(0, .ref (h0 + q)), (1, .int (iZ (nd9))), (2, .int (iZ (wh)))] := hl
  have hqb := rowB_b hq
  have hrm := rG_rm hq hG
  have hnn := rG_nod hG
  have hpp := rG_p hG nd9 h_n.1 h_n.2
  have hs1 := hG.1 (μ (q + 5) nd9.toNat).toNat
  have hmp := hG.2.1 (μ (q + 5) nd9.toNat).toNat
  have hmq := rG_m hG (μ (q + 5) nd9.toNat) hpp.1 hpp.2
  obtain ⟨hr1, hr2⟩ := hrS
  have hn6 := hr1.1.2.1
  have hl5 := hr1.1.1
  have hw0 := rWF_0 _ hr2
  have hpl := SS_pln w 0 0 0 nd9.toNat hw0 hr1.2.2 (by omega)
  rw [Nat.zero_add, Nat.zero_add] at hpl
  obtain ⟨kx, vx, lx, hnd, hSA, hiw, hlw⟩ := SA_nd w 0 nd9.toNat hw0 hr1.2.1 (by omega)
  rw [Nat.zero_add] at hSA
  have hdq := dQ_row w 0 0 0 nd9.toNat hw0 hr1.2.1 hr1.2.2 (by omega)
  rw [Nat.zero_add, ← hpl] at hdq
  have hx9 := pl_lt w nd9.toNat hw0 (by omega)
  have ep9 : (μ (q + 5) nd9.toNat).toNat = plN w nd9.toNat := by omega
  rw [← ep9] at hdq hSA
  rw [show dQ μ q (μ (q + 5) nd9.toNat) 0 = 0 from rfl, Int.zero_add, show pQ μ q (μ (q + 5) nd9.toNat) 0 = -1 from rfl] at hdq
  obtain ⟨k1_, k2_, k3_, k4_, k5_⟩ := sK_is hiw
  have hsg := hSA.1
  obtain ⟨dx, hdx, hdx1, hdx2⟩ := sL_d kx lx
  have hit := it_mate (r := .leaf) hG (i := (μ (q + 5) nd9.toNat).toNat) (by omega) ⟨hiw, hlw, trivial⟩ hSA hdx
  have hmx := hG.2.1 (μ (q + 5) nd9.toNat).toNat
  refine lv_aload_n hx hb dX4_tellNode_0 rfl (lv_at hl 0 rfl) ?_
  refine fz_get (D := (dC, dI)) (ci := 4) (v := .ref (h0 + (q + 5))) (C := RX4) (T := TX4) (N := 8) hx hb hts inG4 hown hK hP (k := q) (by omega) (F := (sRF h0 q)) (sE_rowO hq) rfl 4 (by decide) (hts _ k90) (fun _ h9 => h9) rfl dX4_tellNode_1 ?_
  refine lv_iload_n hx hb dX4_tellNode_4 rfl (lv_at hl 1 rfl) ?_
  refine fz_ld (k := (q + 5)) (n := rm) hx hb hK hP 0 (by omega) (sE_rowA (r := 5) hq (by decide)) rfl ⟨by omega, by omega⟩ (by omega) dX4_tellNode_5 ?_
  refine lv_istore_n (lv' := [(3, .int (iZ (μ (q + 5) (nd9).toNat))), (0, .ref (h0 + q)), (1, .int (iZ (nd9))), (2, .int (iZ (wh)))]) hx hb dX4_tellNode_6 rfl hl (by decide) rfl (fun ls hl => ?_)
  refine lv_iload_n hx hb dX4_tellNode_7 rfl (lv_at hl 3 rfl) ?_
  by_cases hc8_0 : wh = 0
  · refine lv_tableIn (tgt := 44) (off := 36) hx hb dX4_tellNode_8 (by rw [iZ_toInt (by constructor <;> omega), hc8_0]; decide +kernel) (by rw [iZ_toInt (by constructor <;> omega), hc8_0]; decide +kernel) (by rw [iZ_toInt (by constructor <;> omega), hc8_0]; decide +kernel) (by decide) ?_
    refine lv_aload_n hx hb dX4_tellNode_44 rfl (lv_at hl 1 rfl) ?_
    refine lv_iload_n hx hb dX4_tellNode_45 rfl (lv_at hl 0 rfl) ?_
    refine va_calli (va_runV (As := [.int (iZ (μ (q + 5) (nd9).toNat))]) (rest := []) ⟨hx, hb, hml, hown, hts⟩ (s_RsortAt2 l dC dI cI cZ cII cIII h0 s.heap.size μ (q) (rm) (μ (q + 5) (nd9).toNat) (hq) (by first | assumption | omega | exact ⟨by omega, by omega⟩ | exact hG.1) (by first | assumption | omega | exact ⟨by omega, by omega⟩ | exact hG.1)) (cwV 1 hts (gV_G k922 k924 ks_yX4_sortAt k3 k925) rfl rfl rfl (by decide +kernel) ⟨Nat.le_of_ble_eq_true rfl, Nat.le_of_ble_eq_true rfl⟩) ⟨fun a U g mk q => by obtain ⟨q0, q1, qP, qK, qM⟩ := q; exact ⟨q0, q1, qP, va_K.moved (u := U) (U := U.calling g mk a) (Vm.Alike.refl U.vm) qK, qM⟩, va_recv hK hP (ci := 4) (q0 := q) rfl ((fw_get (by omega)).trans (by rw [(sE_rowO hq)])), fun U hU hW => ⟨rfl, by rw [hU], by rw [hU]; exact hP, va_K.moved hW.alike hK, xM_warm hW hM⟩⟩ rfl rfl hl.1 rfl (lv_room (Nat.le_of_ble_eq_true rfl)) dX4_tellNode_46 ⟨Nat.le_of_ble_eq_true rfl, Nat.le_of_ble_eq_true rfl⟩) hS (fun q _ h => fA_le hS.1 q h) (fA_le hS.1) (fun r9 u9 t9 H1 locs ht9 hvm9 hw9 hB9 hz9 hk9 hS => ?_)
    obtain ⟨μ1, r2⟩ := u9
    obtain ⟨hP, -⟩ := hB9
    rw [ht9] at hP
    generalize H1 = H at hP hS ⊢
    obtain ⟨e9, hw9⟩ := hw9
    have e9 : r9 = iZ r2 := e9
    subst e9
    simp only at hP hw9
    have hμ1 := hw9; clear hw9
    rw [hμ1.1] at hP; have hμ1 := hμ1.2
    exact W.iret (v := iZ (r2)) hx hb hr (fun t9 ht9 hW9 => ⟨⟨iZ (r2), (μ, r2), rfl, ⟨rfl, (by
                dsimp only
                refine ⟨rfl, ?_⟩
                rw [ofV, if_pos (by omega), hnd]
                have h9 := hμ1
                rw [hsg] at h9
                exact h9.trans k1_)⟩, by rw [ht9]; exact hP, va_K.moved hW9.alike hK⟩, hS.F ht9⟩) hS.2.2 dX4_tellNode_49
  · skip
    by_cases hc8_1 : wh = 1
    · refine lv_tableIn (tgt := 50) (off := 42) hx hb dX4_tellNode_8 (by rw [iZ_toInt (by constructor <;> omega), hc8_1]; decide +kernel) (by rw [iZ_toInt (by constructor <;> omega), hc8_1]; decide +kernel) (by rw [iZ_toInt (by constructor <;> omega), hc8_1]; decide +kernel) (by decide) ?_
      refine lv_aload_n hx hb dX4_tellNode_50 rfl (lv_at hl 1 rfl) ?_
      refine fz_get (D := (dC, dI)) (ci := 4) (v := .ref (h0 + (q + 1))) (C := RX4) (T := TX4) (N := 8) hx hb hts inG4 hown hK hP (k := q) (by omega) (F := (sRF h0 q)) (sE_rowO hq) rfl 0 (by decide) (hts _ k77) (fun _ h9 => h9) rfl dX4_tellNode_51 ?_
      refine lv_iload_n hx hb dX4_tellNode_54 rfl (lv_at hl 0 rfl) ?_
      refine fz_ld (k := (q + 1)) (n := rm) hx hb hK hP 0 (by omega) (sE_rowA (r := 1) hq (by decide)) rfl ⟨by omega, by omega⟩ (by omega) dX4_tellNode_55 ?_
      refine va_calli (va_runSN (As := [.int (iZ (μ (q + 1) (μ (q + 5) (nd9).toNat).toNat))]) (rest := []) ⟨hx, hb, hml, hown, hts⟩ (s_isTag l dC dI cI cZ cII cIII h0 s.heap.size μ (μ (q + 1) (μ (q + 5) (nd9).toNat).toNat) (by first | assumption | omega | exact ⟨by omega, by omega⟩ | exact hG.1)) ⟨va_cnB (host := "PageSkeleton") 1 hts (gI_G k486) rfl rfl rfl (xM_nest hM 20 rfl) (hts _ k1) (by decide +kernel) ⟨Nat.le_of_ble_eq_true rfl, Nat.le_of_ble_eq_true rfl⟩, hts _ k485, trivial⟩ ⟨fun a U g mk q => by obtain ⟨q0, q1, qP, qK, qM⟩ := q; exact ⟨q0, q1, qP, va_K.moved (u := U) (U := U.calling g mk a) (Vm.Alike.refl U.vm) qK, qM⟩, fun U hU hW => ⟨rfl, by rw [hU], by rw [hU]; exact hP, va_K.moved hW.alike hK, xM_warm hW hM⟩⟩ rfl rfl hl.1 rfl (lv_room (Nat.le_of_ble_eq_true rfl)) dX4_tellNode_56 ⟨Nat.le_of_ble_eq_true rfl, Nat.le_of_ble_eq_true rfl⟩) hS (fun q _ h => fA_le hS.1 q h) (fA_le hS.1) (fun r9 u9 t9 H1 locs ht9 hvm9 hw9 hB9 hz9 hk9 hS => ?_)
      obtain ⟨μ3, r4⟩ := u9
      obtain ⟨hP, -⟩ := hB9
      rw [ht9] at hP
      generalize H1 = H at hP hS ⊢
      obtain ⟨e9, hw9⟩ := hw9
      have e9 : r9 = iZ r4 := e9
      subst e9
      simp only at hP hw9
      have hμ3 := hw9; clear hw9
      rw [hμ3.1] at hP; have hμ3 := hμ3.2
      have hlf := if_el hμ3
      have hlf0 := if_01 hμ3
      refine fz_if_eq (tgt := 71) (by constructor <;> omega) hx hb dX4_tellNode_59 (by decide) (fun c59_ => ?_) (fun c59_ => ?_)
      · refine lv_aload_n hx hb dX4_tellNode_71 rfl (lv_at hl 1 rfl) ?_
        refine fz_get (D := (dC, dI)) (ci := 4) (v := .ref (h0 + (q + 1))) (C := RX4) (T := TX4) (N := 8) hx hb hts inG4 hown hK hP (k := q) (by omega) (F := (sRF h0 q)) (sE_rowO hq) rfl 0 (by decide) (hts _ k77) (fun _ h9 => h9) rfl dX4_tellNode_72 ?_
        refine lv_iload_n hx hb dX4_tellNode_75 rfl (lv_at hl 0 rfl) ?_
        refine fz_ld (k := (q + 1)) (n := rm) hx hb hK hP 0 (by omega) (sE_rowA (r := 1) hq (by decide)) rfl ⟨by omega, by omega⟩ (by omega) dX4_tellNode_76 ?_
        refine va_calli (va_runSN (As := [.int (iZ (μ (q + 1) (μ (q + 5) (nd9).toNat).toNat))]) (rest := []) ⟨hx, hb, hml, hown, hts⟩ (s_isWord l dC dI cI cZ cII cIII h0 H.size μ (μ (q + 1) (μ (q + 5) (nd9).toNat).toNat) (by first | assumption | omega | exact ⟨by omega, by omega⟩ | exact hG.1)) ⟨va_cnB (host := "PageSkeleton") 1 hts (gI_G k569) rfl rfl rfl (xM_nest hM 21 rfl) (hts _ k1) (by decide +kernel) ⟨Nat.le_of_ble_eq_true rfl, Nat.le_of_ble_eq_true rfl⟩, hts _ k568, trivial⟩ ⟨fun a U g mk q => by obtain ⟨q0, q1, qP, qK, qM⟩ := q; exact ⟨q0, q1, qP, va_K.moved (u := U) (U := U.calling g mk a) (Vm.Alike.refl U.vm) qK, qM⟩, fun U hU hW => ⟨rfl, by rw [hU], by rw [hU]; exact hP, va_K.moved hW.alike hK, xM_warm hW hM⟩⟩ rfl rfl hl.1 rfl (lv_room (Nat.le_of_ble_eq_true rfl)) dX4_tellNode_77 ⟨Nat.le_of_ble_eq_true rfl, Nat.le_of_ble_eq_true rfl⟩) hS (fun q _ h => fA_le hS.1 q h) (fA_le hS.1) (fun r9 u9 t9 H1 locs ht9 hvm9 hw9 hB9 hz9 hk9 hS => ?_)
        obtain ⟨μ5, r6⟩ := u9
        obtain ⟨hP, -⟩ := hB9
        rw [ht9] at hP
        generalize H1 = H at hP hS ⊢
        obtain ⟨e9, hw9⟩ := hw9
        have e9 : r9 = iZ r6 := e9
        subst e9
        simp only at hP hw9
        have hμ5 := hw9; clear hw9
        rw [hμ5.1] at hP; have hμ5 := hμ5.2
        have hlf2 := if_el hμ5
        have hlf20 := if_01 hμ5
        refine fz_if_eq (tgt := 96) (by constructor <;> omega) hx hb dX4_tellNode_80 (by decide) (fun c80_ => ?_) (fun c80_ => ?_)
        · refine lv_iconst (v := iZ (-1)) hx hb dX4_tellNode_96 rfl ?_
          exact W.iret (v := iZ ((-1))) hx hb hr (fun t9 ht9 hW9 => ⟨⟨iZ ((-1)), (μ, (-1)), rfl, ⟨rfl, (by
                            dsimp only
                            refine ⟨rfl, ?_⟩
                            rw [ofV, if_neg (by omega), if_pos (by omega), hnd, show rk (.inner 0 kx vx lx .leaf : Rw) = kx from rfl, show rv (.inner 0 kx vx lx .leaf : Rw) = vx from rfl, if_neg (by omega)])⟩, by rw [ht9]; exact hP, va_K.moved hW9.alike hK⟩, hS.F ht9⟩) hS.2.2 dX4_tellNode_97
        · refine lv_aload_n hx hb dX4_tellNode_83 rfl (lv_at hl 1 rfl) ?_
          refine fz_get (D := (dC, dI)) (ci := 4) (v := .ref (h0 + (q + 1))) (C := RX4) (T := TX4) (N := 8) hx hb hts inG4 hown hK hP (k := q) (by omega) (F := (sRF h0 q)) (sE_rowO hq) rfl 0 (by decide) (hts _ k77) (fun _ h9 => h9) rfl dX4_tellNode_84 ?_
          refine lv_iload_n hx hb dX4_tellNode_87 rfl (lv_at hl 0 rfl) ?_
          refine fz_ld (k := (q + 1)) (n := rm) hx hb hK hP 0 (by omega) (sE_rowA (r := 1) hq (by decide)) rfl ⟨by omega, by omega⟩ (by omega) dX4_tellNode_88 ?_
          refine lv_sipush (v := iZ 256) hx hb dX4_tellNode_89 rfl ?_
          refine lv_isub hx hb dX4_tellNode_92 ?_
          refine lv_topi (fun x9 ex9 => ?_)
          obtain rfl : x9 = iZ ((μ (q + 1) (μ (q + 5) (nd9).toNat).toNat) - 256) := ex9.trans (iZ_sub _ _)
          refine lv_goto (tgt := 97) hx hb dX4_tellNode_93 (by decide) ?_
          exact W.iret (v := iZ ((μ (q + 1) (μ (q + 5) (nd9).toNat).toNat) - 256)) hx hb hr (fun t9 ht9 hW9 => ⟨⟨iZ ((μ (q + 1) (μ (q + 5) (nd9).toNat).toNat) - 256), (μ, (μ (q + 1) (μ (q + 5) (nd9).toNat).toNat) - 256), rfl, ⟨rfl, (by
                            dsimp only
                            refine ⟨rfl, ?_⟩
                            rw [ofV, if_neg (by omega), if_pos (by omega), hnd, show rk (.inner 0 kx vx lx .leaf : Rw) = kx from rfl, show rv (.inner 0 kx vx lx .leaf : Rw) = vx from rfl, if_pos (by omega), hsg]
                            have h9 := k5_ (k3_.mp (by omega))
                            omega)⟩, by rw [ht9]; exact hP, va_K.moved hW9.alike hK⟩, hS.F ht9⟩) hS.2.2 dX4_tellNode_97
      · refine lv_aload_n hx hb dX4_tellNode_62 rfl (lv_at hl 1 rfl) ?_
        refine fz_get (D := (dC, dI)) (ci := 4) (v := .ref (h0 + (q + 1))) (C := RX4) (T := TX4) (N := 8) hx hb hts inG4 hown hK hP (k := q) (by omega) (F := (sRF h0 q)) (sE_rowO hq) rfl 0 (by decide) (hts _ k77) (fun _ h9 => h9) rfl dX4_tellNode_63 ?_
        refine lv_iload_n hx hb dX4_tellNode_66 rfl (lv_at hl 0 rfl) ?_
        refine fz_ld (k := (q + 1)) (n := rm) hx hb hK hP 0 (by omega) (sE_rowA (r := 1) hq (by decide)) rfl ⟨by omega, by omega⟩ (by omega) dX4_tellNode_67 ?_
        refine lv_goto (tgt := 97) hx hb dX4_tellNode_68 (by decide) ?_
        exact W.iret (v := iZ (μ (q + 1) (μ (q + 5) (nd9).toNat).toNat)) hx hb hr (fun t9 ht9 hW9 => ⟨⟨iZ (μ (q + 1) (μ (q + 5) (nd9).toNat).toNat), (μ, μ (q + 1) (μ (q + 5) (nd9).toNat).toNat), rfl, ⟨rfl, (by
                        dsimp only
                        refine ⟨rfl, ?_⟩
                        rw [ofV, if_neg (by omega), if_pos (by omega), hnd, show rk (.inner 0 kx vx lx .leaf : Rw) = kx from rfl, show rv (.inner 0 kx vx lx .leaf : Rw) = vx from rfl, if_pos (by omega), hsg]
                        exact k4_ (k2_.mp (by omega)))⟩, by rw [ht9]; exact hP, va_K.moved hW9.alike hK⟩, hS.F ht9⟩) hS.2.2 dX4_tellNode_97
    · skip
      by_cases hc8_2 : wh = 2
      · refine lv_tableIn (tgt := 98) (off := 90) hx hb dX4_tellNode_8 (by rw [iZ_toInt (by constructor <;> omega), hc8_2]; decide +kernel) (by rw [iZ_toInt (by constructor <;> omega), hc8_2]; decide +kernel) (by rw [iZ_toInt (by constructor <;> omega), hc8_2]; decide +kernel) (by decide) ?_
        refine lv_aload_n hx hb dX4_tellNode_98 rfl (lv_at hl 1 rfl) ?_
        refine lv_iload_n hx hb dX4_tellNode_99 rfl (lv_at hl 0 rfl) ?_
        refine va_calli (va_runV (As := [.int (iZ (μ (q + 5) (nd9).toNat))]) (rest := []) ⟨hx, hb, hml, hown, hts⟩ (s_RdepthOf2 l dC dI cI cZ cII cIII h0 s.heap.size μ (q) (rm) (μ (q + 5) (nd9).toNat) (hq) (by first | assumption | omega | exact ⟨by omega, by omega⟩ | exact hG.1) (by first | assumption | omega | exact ⟨by omega, by omega⟩ | exact hG.1)) (cwV 1 hts (gV_G k928 k930 ks_yX4_depthOf k3 k931) rfl rfl rfl (by decide +kernel) ⟨Nat.le_of_ble_eq_true rfl, Nat.le_of_ble_eq_true rfl⟩) ⟨fun a U g mk q => by obtain ⟨q0, q1, qP, qK, qM⟩ := q; exact ⟨q0, q1, qP, va_K.moved (u := U) (U := U.calling g mk a) (Vm.Alike.refl U.vm) qK, qM⟩, va_recv hK hP (ci := 4) (q0 := q) rfl ((fw_get (by omega)).trans (by rw [(sE_rowO hq)])), fun U hU hW => ⟨rfl, by rw [hU], by rw [hU]; exact hP, va_K.moved hW.alike hK, xM_warm hW hM⟩⟩ rfl rfl hl.1 rfl (lv_room (Nat.le_of_ble_eq_true rfl)) dX4_tellNode_100 ⟨Nat.le_of_ble_eq_true rfl, Nat.le_of_ble_eq_true rfl⟩) hS (fun q _ h => fA_le hS.1 q h) (fA_le hS.1) (fun r9 u9 t9 H1 locs ht9 hvm9 hw9 hB9 hz9 hk9 hS => ?_)
        obtain ⟨μ7, r8⟩ := u9
        obtain ⟨hP, -⟩ := hB9
        rw [ht9] at hP
        generalize H1 = H at hP hS ⊢
        obtain ⟨e9, hw9⟩ := hw9
        have e9 : r9 = iZ r8 := e9
        subst e9
        simp only at hP hw9
        have hμ7 := hw9; clear hw9
        rw [hμ7.1] at hP; have hμ7 := hμ7.2
        exact W.iret (v := iZ (r8)) hx hb hr (fun t9 ht9 hW9 => ⟨⟨iZ (r8), (μ, r8), rfl, ⟨rfl, (by
                        dsimp only
                        refine ⟨rfl, ?_⟩
                        rw [ofV, if_neg (by omega), if_neg (by omega), if_pos (by omega)]
                        exact (hμ7).trans hdq.1)⟩, by rw [ht9]; exact hP, va_K.moved hW9.alike hK⟩, hS.F ht9⟩) hS.2.2 dX4_tellNode_103
      · skip
        by_cases hc8_3 : wh = 3
        · refine lv_tableIn (tgt := 104) (off := 96) hx hb dX4_tellNode_8 (by rw [iZ_toInt (by constructor <;> omega), hc8_3]; decide +kernel) (by rw [iZ_toInt (by constructor <;> omega), hc8_3]; decide +kernel) (by rw [iZ_toInt (by constructor <;> omega), hc8_3]; decide +kernel) (by decide) ?_
          refine lv_aload_n hx hb dX4_tellNode_104 rfl (lv_at hl 1 rfl) ?_
          refine lv_iload_n hx hb dX4_tellNode_105 rfl (lv_at hl 0 rfl) ?_
          refine va_calli (va_runV (As := [.int (iZ (μ (q + 5) (nd9).toNat))]) (rest := []) ⟨hx, hb, hml, hown, hts⟩ (s_RparentOf2 l dC dI cI cZ cII cIII h0 s.heap.size μ (q) (rm) (μ (q + 5) (nd9).toNat) (hq) (by first | assumption | omega | exact ⟨by omega, by omega⟩ | exact hG.1) (by first | assumption | omega | exact ⟨by omega, by omega⟩ | exact hG.1)) (cwV 1 hts (gV_G k932 k934 ks_yX4_parentOf k3 k935) rfl rfl rfl (by decide +kernel) ⟨Nat.le_of_ble_eq_true rfl, Nat.le_of_ble_eq_true rfl⟩) ⟨fun a U g mk q => by obtain ⟨q0, q1, qP, qK, qM⟩ := q; exact ⟨q0, q1, qP, va_K.moved (u := U) (U := U.calling g mk a) (Vm.Alike.refl U.vm) qK, qM⟩, va_recv hK hP (ci := 4) (q0 := q) rfl ((fw_get (by omega)).trans (by rw [(sE_rowO hq)])), fun U hU hW => ⟨rfl, by rw [hU], by rw [hU]; exact hP, va_K.moved hW.alike hK, xM_warm hW hM⟩⟩ rfl rfl hl.1 rfl (lv_room (Nat.le_of_ble_eq_true rfl)) dX4_tellNode_106 ⟨Nat.le_of_ble_eq_true rfl, Nat.le_of_ble_eq_true rfl⟩) hS (fun q _ h => fA_le hS.1 q h) (fA_le hS.1) (fun r9 u9 t9 H1 locs ht9 hvm9 hw9 hB9 hz9 hk9 hS => ?_)
          obtain ⟨μ10, r11⟩ := u9
          obtain ⟨hP, -⟩ := hB9
          rw [ht9] at hP
          generalize H1 = H at hP hS ⊢
          obtain ⟨e9, hw9⟩ := hw9
          have e9 : r9 = iZ r11 := e9
          subst e9
          simp only at hP hw9
          have hμ10 := hw9; clear hw9
          rw [hμ10.1] at hP; have hμ10 := hμ10.2
          exact W.iret (v := iZ (r11)) hx hb hr (fun t9 ht9 hW9 => ⟨⟨iZ (r11), (μ, r11), rfl, ⟨rfl, (by
                            dsimp only
                            refine ⟨rfl, ?_⟩
                            rw [ofV, if_neg (by omega), if_neg (by omega), if_neg (by omega), if_pos (by omega)]
                            exact (hμ10).trans hdq.2)⟩, by rw [ht9]; exact hP, va_K.moved hW9.alike hK⟩, hS.F ht9⟩) hS.2.2 dX4_tellNode_109
        · skip
          by_cases hc8_4 : wh = 4
          · refine lv_tableIn (tgt := 110) (off := 102) hx hb dX4_tellNode_8 (by rw [iZ_toInt (by constructor <;> omega), hc8_4]; decide +kernel) (by rw [iZ_toInt (by constructor <;> omega), hc8_4]; decide +kernel) (by rw [iZ_toInt (by constructor <;> omega), hc8_4]; decide +kernel) (by decide) ?_
            refine lv_aload_n hx hb dX4_tellNode_110 rfl (lv_at hl 1 rfl) ?_
            refine lv_iload_n hx hb dX4_tellNode_111 rfl (lv_at hl 0 rfl) ?_
            refine va_calli (va_runV (As := [.int (iZ (μ (q + 5) (nd9).toNat))]) (rest := []) ⟨hx, hb, hml, hown, hts⟩ (s_RsizeAt l dC dI cI cZ cII cIII h0 s.heap.size μ (q) (rm) (μ (q + 5) (nd9).toNat) (hq) (by first | assumption | omega | exact ⟨by omega, by omega⟩ | exact hG.1) (by first | assumption | omega | exact ⟨by omega, by omega⟩ | exact hG.1)) (cwV 1 hts (gV_G k936 k809 k810 k3 k811) rfl rfl rfl (by decide +kernel) ⟨Nat.le_of_ble_eq_true rfl, Nat.le_of_ble_eq_true rfl⟩) ⟨fun a U g mk q => by obtain ⟨q0, q1, qP, qK, qM⟩ := q; exact ⟨q0, q1, qP, va_K.moved (u := U) (U := U.calling g mk a) (Vm.Alike.refl U.vm) qK, qM⟩, va_recv hK hP (ci := 4) (q0 := q) rfl ((fw_get (by omega)).trans (by rw [(sE_rowO hq)])), fun U hU hW => ⟨rfl, by rw [hU], by rw [hU]; exact hP, va_K.moved hW.alike hK, xM_warm hW hM⟩⟩ rfl rfl hl.1 rfl (lv_room (Nat.le_of_ble_eq_true rfl)) dX4_tellNode_112 ⟨Nat.le_of_ble_eq_true rfl, Nat.le_of_ble_eq_true rfl⟩) hS (fun q _ h => fA_le hS.1 q h) (fA_le hS.1) (fun r9 u9 t9 H1 locs ht9 hvm9 hw9 hB9 hz9 hk9 hS => ?_)
            obtain ⟨μ12, r13⟩ := u9
            obtain ⟨hP, -⟩ := hB9
            rw [ht9] at hP
            generalize H1 = H at hP hS ⊢
            obtain ⟨e9, hw9⟩ := hw9
            have e9 : r9 = iZ r13 := e9
            subst e9
            simp only at hP hw9
            have hμ12 := hw9; clear hw9
            rw [hμ12.1] at hP; have hμ12 := hμ12.2
            exact W.iret (v := iZ (r13)) hx hb hr (fun t9 ht9 hW9 => ⟨⟨iZ (r13), (μ, r13), rfl, ⟨rfl, (by
                                dsimp only
                                refine ⟨rfl, ?_⟩
                                rw [ofV, if_neg (by omega), if_neg (by omega), if_neg (by omega), if_neg (by omega), if_pos (by omega), hnd]
                                have h8 := sz_is hG (by omega) ⟨hiw, hlw⟩ hSA hdx.symm
                                have h9 := hμ12
                                rw [show (μ (q + 2) (μ (q + 5) nd9.toNat).toNat + 1).toNat = (μ (q + 5) nd9.toNat).toNat + dx by omega] at h9
                                exact h9.trans h8)⟩, by rw [ht9]; exact hP, va_K.moved hW9.alike hK⟩, hS.F ht9⟩) hS.2.2 dX4_tellNode_115
          · skip
            refine lv_tableOut (tgt := 116) hx hb dX4_tellNode_8 (by rw [iZ_toInt (by constructor <;> omega)]; omega) (by decide) ?_
            refine lv_aload_n hx hb dX4_tellNode_116 rfl (lv_at hl 1 rfl) ?_
            refine lv_iload_n hx hb dX4_tellNode_117 rfl (lv_at hl 0 rfl) ?_
            refine va_calli (va_runV (As := [.int (iZ (μ (q + 5) (nd9).toNat))]) (rest := []) ⟨hx, hb, hml, hown, hts⟩ (s_RitemsIn2 l dC dI cI cZ cII cIII h0 s.heap.size μ (q) (rm) (μ (q + 5) (nd9).toNat) (kx) (lx) (hq) (by first | assumption | omega | exact ⟨by omega, by omega⟩ | exact hG.1) (by first | assumption | omega | exact ⟨by omega, by omega⟩ | exact hG.1) (by
                                by_cases hk3 : kx < 3
                                · obtain ⟨g1, g2, g3⟩ := sG_b hiw
                                  exact Or.inl ⟨hk3, hiw.2.1 hk3, by rw [hsg]; exact g1 hk3⟩
                                · obtain ⟨g1, g2, g3⟩ := sG_b hiw
                                  have e1 : sG kx vx = 513 ∨ sG kx vx = 514 := by
                                    have := hiw.1
                                    by_cases hk4 : kx = 3
                                    · exact Or.inl (g2 hk4)
                                    · exact Or.inr (g3 (by omega))
                                  have e2 := hdx2 (by omega)
                                  have e3 := hSA.2.1 (by omega)
                                  refine Or.inr ⟨by omega, by omega, by omega, ⟨nd_WF hr2 (by omega) hnd, by rw [show (μ (q + 5) nd9.toNat + 1).toNat = (μ (q + 5) nd9.toNat).toNat + 1 by omega]; exact e3.1⟩, by omega, by omega⟩)) (cwV 1 hts (gV_G k937 k939 ks_yX4_itemsIn k3 k940) rfl rfl rfl (by decide +kernel) ⟨Nat.le_of_ble_eq_true rfl, Nat.le_of_ble_eq_true rfl⟩) ⟨fun a U g mk q => by obtain ⟨q0, q1, qP, qK, qM⟩ := q; exact ⟨q0, q1, qP, va_K.moved (u := U) (U := U.calling g mk a) (Vm.Alike.refl U.vm) qK, qM⟩, va_recv hK hP (ci := 4) (q0 := q) rfl ((fw_get (by omega)).trans (by rw [(sE_rowO hq)])), fun U hU hW => ⟨rfl, by rw [hU], by rw [hU]; exact hP, va_K.moved hW.alike hK, xM_warm hW hM⟩⟩ rfl rfl hl.1 rfl (lv_room (Nat.le_of_ble_eq_true rfl)) dX4_tellNode_118 ⟨Nat.le_of_ble_eq_true rfl, Nat.le_of_ble_eq_true rfl⟩) hS (fun q _ h => fA_le hS.1 q h) (fA_le hS.1) (fun r9 u9 t9 H1 locs ht9 hvm9 hw9 hB9 hz9 hk9 hS => ?_)
            obtain ⟨μ14, r15⟩ := u9
            obtain ⟨hP, -⟩ := hB9
            rw [ht9] at hP
            generalize H1 = H at hP hS ⊢
            obtain ⟨e9, hw9⟩ := hw9
            have e9 : r9 = iZ r15 := e9
            subst e9
            simp only at hP hw9
            have hμ14 := hw9; clear hw9
            rw [hμ14.1] at hP; have hμ14 := hμ14.2
            exact W.iret (v := iZ (r15)) hx hb hr (fun t9 ht9 hW9 => ⟨⟨iZ (r15), (μ, r15), rfl, ⟨rfl, (by
                                dsimp only
                                refine ⟨rfl, ?_⟩
                                rw [ofV, if_neg (by omega), if_neg (by omega), if_neg (by omega), if_neg (by omega), if_neg (by omega), hnd]
                                exact hμ14)⟩, by rw [ht9]; exact hP, va_K.moved hW9.alike hK⟩, hS.F ht9⟩) hS.2.2 dX4_tellNode_121
set_option maxHeartbeats 4000000 in
set_option maxRecDepth 100000 in
theorem t_pageNode (l : Launch) (hfl : l.stackTraces = false) (dC : Nat → ClassId) (dI : Nat → Nat → Nat) (cI cZ cII cIII : ClassId) (h0 sz : Nat) (μ : va_M) (pg : Int) (nd9 : Int) (wh : Int) (T : List Tk) (wp : Rw) (hI : CI T μ) (h_pg : inR pg) (h_nd9 : inR nd9) (h_wh : inR wh) (hwp : 0 ≤ pg ∧ pg < μ 0 2 → rowS μ (113 + (pg).toNat * 15 + 3) wp ∧ rWF wp) : vx_Met l yX9_pageNode (Cond.code yX9_pageNode cX9_pageNode 4 (some .int) :: wsG) ({ frames := 8, cells := 1, slots := 6, locals := 132 } : Room) (va_Pc [.ref h0, .int (iZ (pg)), .int (iZ (nd9)), .int (iZ (wh))] (fun U => U.heap.size = sz ∧ va_P (dC, dI) vwCl (fw (sE cI cZ cII cIII h0) h0 233 μ) U.heap ∧ va_K (dC, dI) vwCl (sT cI cZ cII cIII) U ∧ xM U ∧ xX (fA h0 233 sz) U)) (va_Qi (fun (r9 : Int32) (u : va_M × Int) => r9 = iZ u.2 ∧ (fun (u : va_M) (r : Int) => CI T u ∧ SZ μ u ∧ ((0 ≤ pg ∧ pg < μ 0 2) ∧ 0 ≤ nd9 ∧ nd9 < rN wp) ∧ (0 ≤ wh ∧ wh ≤ 5) ∧ r = ofV wp nd9.toNat wh) u.1 u.2) (fun u t => va_P (dC, dI) vwCl (fw (sE cI cZ cII cIII h0) h0 233 u.1) t.heap ∧ va_K (dC, dI) vwCl (sT cI cZ cII cIII) t) (fA h0 233 sz)) (vx_X (fun (u : va_M) => CI T u ∧ SZ μ u) (fun E u t => E ∈ (["java/util/NoSuchElementException", "java/lang/IllegalArgumentException"] : List String) ∧ va_P (dC, dI) vwCl (fw (sE cI cZ cII cIII h0) h0 233 u) t.heap ∧ va_K (dC, dI) vwCl (sT cI cZ cII cIII) t ∧ ((E = "java/util/NoSuchElementException" → cd2 ((0 ≤ pg ∧ pg < μ 0 2) ∧ 0 ≤ nd9 ∧ nd9 < rN wp) (0 ≤ wh ∧ wh ≤ 5) = 1) ∧ (E = "java/lang/IllegalArgumentException" → cd2 ((0 ≤ pg ∧ pg < μ 0 2) ∧ 0 ≤ nd9 ∧ nd9 < rN wp) (0 ≤ wh ∧ wh ≤ 5) = 2))) (fA h0 233 sz)) 1 6 (fA h0 233 sz) := by
  refine vx_ofW (cc := cX9_pageNode) (maxL := 4) (ret := (some .int)) (by decide) rfl ?_
  intro p e s m args below meth c s₁ B hml hnt hv
  obtain ⟨rfl, hsz, hP, hK, hM, hEx⟩ := hv
  have hx := B.exec
  have hb := B.bytes
  have hr := B.returns
  have hts : ∀ w ∈ wsG, w.before _ s = true := hG_of (atoms_spec (ws := (Cond.code yX9_pageNode cX9_pageNode 4 (some .int) :: wsG)) B.pre)
  have hown : s.vm.findClass RX9 = some m.cls := findClass_of_methodNamed B.named
  have hlocks := B.notSynchronized
  subst hsz
  have hS : va_S (fA h0 233 s.heap.size) s.heap s.heap [] := va_S.rf
  have hl := lv_entry ([.ref h0, .int (iZ (pg)), .int (iZ (nd9)), .int (iZ (wh))]) (n := 4) (Nat.le_of_ble_eq_true rfl)
  rw [lg_entry_eq]
  generalize (lg_sl ([.ref h0, .int (iZ (pg)), .int (iZ (nd9)), .int (iZ (wh))]) ++ List.replicate (4 - (lg_sl ([.ref h0, .int (iZ (pg)), .int (iZ (nd9)), .int (iZ (wh))])).length) Slot.unset).toArray = ls at hl ⊢
  have hl : lv_has ls 4 [(0, .ref h0), (1, .int (iZ (pg))), (2, .int (iZ (nd9))), (3, .int (iZ (wh)))] := hl
  have hlc := CI_lc hI
  have h66 := CI_n6 hI
  refine lv_aload_n hx hb dX9_pageNode_0 rfl (lv_at hl 0 rfl) ?_
  refine lv_iload_n hx hb dX9_pageNode_1 rfl (lv_at hl 1 rfl) ?_
  by_cases hn2_ : 0 ≤ pg ∧ pg < μ 0 2
  · refine va_callv (va_runV (As := [.int (iZ (pg))]) (rest := []) ⟨hx, hb, hml, hown, hts⟩ (s_needPage l dC dI cI cZ cII cIII h0 s.heap.size μ (pg) (by first | assumption | omega | exact CI_lc hI | exact CI_cn hI | exact (CI_n6 hI).1 | decide) (by first | assumption | omega | exact CI_lc hI | exact CI_cn hI | exact (CI_n6 hI).1 | decide) (by exact hn2_)) (cwV 1 hts (gV_G k735 k737 ks_yX9_needPage k1 k738) rfl rfl rfl (by decide +kernel) ⟨Nat.le_of_ble_eq_true rfl, Nat.le_of_ble_eq_true rfl⟩) ⟨fun a U g mk q => by obtain ⟨q0, q1, qP, qK, qM⟩ := q; exact ⟨q0, q1, qP, va_K.moved (u := U) (U := U.calling g mk a) (Vm.Alike.refl U.vm) qK, qM⟩, va_recv hK hP (ci := 9) (q0 := 0) rfl ((fw_get (by decide)).trans (by rw [sE_0]; rfl)), fun U hU hW => ⟨rfl, by rw [hU], by rw [hU]; exact hP, va_K.moved hW.alike hK, xM_warm hW hM⟩⟩ rfl rfl hl.1 rfl (lv_room (Nat.le_of_ble_eq_true rfl)) dX9_pageNode_2 ⟨Nat.le_of_ble_eq_true rfl, Nat.le_of_ble_eq_true rfl⟩) hS (fun q _ h => fA_le hS.1 q h) (fA_le hS.1) (fun u9 t9 H1 locs ht9 hvm9 hw9 hB9 hz9 hk9 hS => ?_)
    obtain ⟨hP, -⟩ := hB9
    rw [ht9] at hP
    generalize H1 = H at hP hS ⊢
    obtain ⟨μ1, eμ1⟩ : ∃ x : va_M, x = u9 := ⟨_, rfl⟩
    rw [← eμ1] at hP hw9
    have hμ1 := hw9; clear hw9
    rw [hμ1] at hP
    obtain ⟨hl1, hl2⟩ := CI_lf hI pg (by omega) (by omega)
    have hg2 := hl1.2.2.2
    have hn2 := rG_nod hg2
    have hm2 := rG_len hg2
    have wpx := hwp (by omega)
    have w6_ := wpx.1.1.2.1
    refine lv_aload_n hx hb dX9_pageNode_5 rfl (lv_at hl 0 rfl) ?_
    refine lv_aload_n hx hb dX9_pageNode_6 rfl (lv_at hl 0 rfl) ?_
    refine fz_get (D := (dC, dI)) (ci := 9) (v := .ref (h0 + 5)) (C := RX9) (T := TX9) (N := 15) hx hb hts inG9 hown hK hP (k := 0) (by decide) (F := (sF0 h0)) sE_0 rfl 1 (by decide) (hts _ k333) (fun _ h9 => h9) rfl dX9_pageNode_7 ?_
    refine lv_iload_n hx hb dX9_pageNode_10 rfl (lv_at hl 1 rfl) ?_
    refine fz_ald (k := 5) (n := 8) (k2 := (113 + (pg).toNat * 15)) hx hb hK hP 1 rfl (by decide) sE_5 rfl ⟨by omega, by omega⟩ (by decide) (if_pos (by omega)) dX9_pageNode_11 ?_
    refine fz_get (D := (dC, dI)) (ci := 1) (v := .ref (h0 + ((113 + (pg).toNat * 15) + 3))) (C := RX1) (T := TX1) (N := 8) hx hb hts inG1 hown hK hP (k := (113 + (pg).toNat * 15)) (by omega) (F := (sLF h0 (113 + (pg).toNat * 15))) (sE_leafO (show (pg).toNat < 8 by omega) rfl) rfl 3 (by decide) (hts _ k304) (fun _ h9 => h9) rfl dX9_pageNode_12 ?_
    refine lv_iload_n hx hb dX9_pageNode_15 rfl (lv_at hl 2 rfl) ?_
    by_cases hn16_ : 0 ≤ nd9 ∧ nd9 < μ ((113 + (pg).toNat * 15) + 3) 6
    · refine va_callv (va_runV (As := [.ref (h0 + ((113 + (pg).toNat * 15) + 3)), .int (iZ (nd9))]) (rest := []) ⟨hx, hb, hml, hown, hts⟩ (s_needNode l dC dI cI cZ cII cIII h0 H.size μ (((113 + (pg).toNat * 15) + 3)) (96) (nd9) ((rowB_L (show (pg).toNat < 8 by omega) rfl)) (by first | assumption | omega | exact CI_lc hI | exact CI_cn hI | exact (CI_n6 hI).1 | decide) (by first | assumption | omega | exact CI_lc hI | exact CI_cn hI | exact (CI_n6 hI).1 | decide) (by exact hn16_)) (cwV 2 hts (gV_G k914 k916 ks_yX9_needNode k1 k917) rfl rfl rfl (by decide +kernel) ⟨Nat.le_of_ble_eq_true rfl, Nat.le_of_ble_eq_true rfl⟩) ⟨fun a U g mk q => by obtain ⟨q0, q1, qP, qK, qM⟩ := q; exact ⟨q0, q1, qP, va_K.moved (u := U) (U := U.calling g mk a) (Vm.Alike.refl U.vm) qK, qM⟩, va_recv hK hP (ci := 9) (q0 := 0) rfl ((fw_get (by decide)).trans (by rw [sE_0]; rfl)), fun U hU hW => ⟨rfl, by rw [hU], by rw [hU]; exact hP, va_K.moved hW.alike hK, xM_warm hW hM⟩⟩ rfl rfl hl.1 rfl (lv_room (Nat.le_of_ble_eq_true rfl)) dX9_pageNode_16 ⟨Nat.le_of_ble_eq_true rfl, Nat.le_of_ble_eq_true rfl⟩) hS (fun q _ h => fA_le hS.1 q h) (fA_le hS.1) (fun u9 t9 H1 locs ht9 hvm9 hw9 hB9 hz9 hk9 hS => ?_)
      obtain ⟨hP, -⟩ := hB9
      rw [ht9] at hP
      generalize H1 = H at hP hS ⊢
      obtain ⟨μ2, eμ2⟩ : ∃ x : va_M, x = u9 := ⟨_, rfl⟩
      rw [← eμ2] at hP hw9
      have hμ2 := hw9; clear hw9
      rw [hμ2] at hP
      refine lv_aload_n hx hb dX9_pageNode_19 rfl (lv_at hl 0 rfl) ?_
      refine lv_iload_n hx hb dX9_pageNode_20 rfl (lv_at hl 3 rfl) ?_
      refine fz_if_lt (tgt := 33) (by first | assumption | (constructor <;> omega) | decide) hx hb dX9_pageNode_21 (by decide) (fun c21_ => ?_) (fun c21_ => ?_)
      · refine lv_iconst (v := iZ 0) hx hb dX9_pageNode_33 rfl ?_
        refine vx_callv (vx_runV (As := [.int (iZ (0))]) (rest := []) ⟨hx, hb, hml, hown, hts⟩ (x_needArgument l hfl dC dI cI cZ cII cIII h0 H.size μ  ) (cwV 1 hts (gV_G k596 k598 ks_yX9_needArgument k1 k599) rfl rfl rfl (by decide +kernel) ⟨Nat.le_of_ble_eq_true rfl, Nat.le_of_ble_eq_true rfl⟩) ⟨fun a U g mk q => by obtain ⟨q0, q1, qP, qK, qM, qE⟩ := q; exact ⟨q0, q1, qP, va_K.moved (u := U) (U := U.calling g mk a) (Vm.Alike.refl U.vm) qK, qM, xX_call qE⟩, va_recv hK hP (ci := 9) (q0 := 0) rfl ((fw_get (by decide)).trans (by rw [sE_0]; rfl)), fun U hU hW => ⟨rfl, by rw [hU], by rw [hU]; exact hP, va_K.moved hW.alike hK, xM_warm hW hM, xX_at hEx hS (fun q h => fA_le hS.1 q h) hU hW⟩⟩ rfl rfl hl.1 rfl (lv_room (Nat.le_of_ble_eq_true rfl)) dX9_pageNode_34 ⟨Nat.le_of_ble_eq_true rfl, Nat.le_of_ble_eq_true rfl⟩) hS (fun q _ h => fA_le hS.1 q h) (fA_le hS.1) (fun q _ h => fA_le hS.1 q h) (fun E9 ce9 q9 u9 t9 H1 locs ht9 hvm9 hpx9 hBX9 hz9 hk9 hS hce9 hcv9 hcl9 => ?_) (fun u9 t9 H1 locs ht9 hvm9 hw9 hB9 hz9 hk9 hS => hw9.elim)
        obtain ⟨hE9, hP9, hK9⟩ := hBX9
        exact vx_out (fun x hx9 => (hnt x hx9).elim) hlocks hce9 hcv9 hcl9 (fun t8 ht8 hW8 => ⟨u9, (by
                        show CI T u9 ∧ SZ μ u9
                        exact CZ_thr hI hpx9), ⟨(show ∀ z ∈ (["java/lang/IllegalArgumentException"] : List String), z ∈ (["java/util/NoSuchElementException", "java/lang/IllegalArgumentException"] : List String) by decide +kernel) E9 hE9, by rw [ht8, ← ht9]; exact hP9, va_K.moved hW8 hK, (by have hE8 := List.mem_singleton.mp hE9; rw [hE8]; exact ⟨fun h => absurd h (by decide +kernel), fun _ => cd2_2 (by omega) (by omega)⟩)⟩, hS.F ht8⟩) hS.2.2 (Nat.le_of_ble_eq_true rfl) (Nat.le_of_ble_eq_true rfl)
      · refine lv_iload_n hx hb dX9_pageNode_24 rfl (lv_at hl 3 rfl) ?_
        refine lv_iconst (v := iZ 5) hx hb dX9_pageNode_25 rfl ?_
        refine fz_icmp_gt (tgt := 33) (by first | assumption | (constructor <;> omega) | decide) (by decide) hx hb dX9_pageNode_26 (by decide) (fun c26_ => ?_) (fun c26_ => ?_)
        · refine lv_iconst (v := iZ 0) hx hb dX9_pageNode_33 rfl ?_
          refine vx_callv (vx_runV (As := [.int (iZ (0))]) (rest := []) ⟨hx, hb, hml, hown, hts⟩ (x_needArgument l hfl dC dI cI cZ cII cIII h0 H.size μ  ) (cwV 1 hts (gV_G k596 k598 ks_yX9_needArgument k1 k599) rfl rfl rfl (by decide +kernel) ⟨Nat.le_of_ble_eq_true rfl, Nat.le_of_ble_eq_true rfl⟩) ⟨fun a U g mk q => by obtain ⟨q0, q1, qP, qK, qM, qE⟩ := q; exact ⟨q0, q1, qP, va_K.moved (u := U) (U := U.calling g mk a) (Vm.Alike.refl U.vm) qK, qM, xX_call qE⟩, va_recv hK hP (ci := 9) (q0 := 0) rfl ((fw_get (by decide)).trans (by rw [sE_0]; rfl)), fun U hU hW => ⟨rfl, by rw [hU], by rw [hU]; exact hP, va_K.moved hW.alike hK, xM_warm hW hM, xX_at hEx hS (fun q h => fA_le hS.1 q h) hU hW⟩⟩ rfl rfl hl.1 rfl (lv_room (Nat.le_of_ble_eq_true rfl)) dX9_pageNode_34 ⟨Nat.le_of_ble_eq_true rfl, Nat.le_of_ble_eq_true rfl⟩) hS (fun q _ h => fA_le hS.1 q h) (fA_le hS.1) (fun q _ h => fA_le hS.1 q h) (fun E9 ce9 q9 u9 t9 H1 locs ht9 hvm9 hpx9 hBX9 hz9 hk9 hS hce9 hcv9 hcl9 => ?_) (fun u9 t9 H1 locs ht9 hvm9 hw9 hB9 hz9 hk9 hS => hw9.elim)
          obtain ⟨hE9, hP9, hK9⟩ := hBX9
          exact vx_out (fun x hx9 => (hnt x hx9).elim) hlocks hce9 hcv9 hcl9 (fun t8 ht8 hW8 => ⟨u9, (by
                            show CI T u9 ∧ SZ μ u9
                            exact CZ_thr hI hpx9), ⟨(show ∀ z ∈ (["java/lang/IllegalArgumentException"] : List String), z ∈ (["java/util/NoSuchElementException", "java/lang/IllegalArgumentException"] : List String) by decide +kernel) E9 hE9, by rw [ht8, ← ht9]; exact hP9, va_K.moved hW8 hK, (by have hE8 := List.mem_singleton.mp hE9; rw [hE8]; exact ⟨fun h => absurd h (by decide +kernel), fun _ => cd2_2 (by omega) (by omega)⟩)⟩, hS.F ht8⟩) hS.2.2 (Nat.le_of_ble_eq_true rfl) (Nat.le_of_ble_eq_true rfl)
        · refine lv_iconst (v := iZ 1) hx hb dX9_pageNode_29 rfl ?_
          refine lv_goto (tgt := 34) hx hb dX9_pageNode_30 (by decide) ?_
          refine va_callv (va_runV (As := [.int (iZ (1))]) (rest := []) ⟨hx, hb, hml, hown, hts⟩ (s_needArgument l dC dI cI cZ cII cIII h0 H.size μ  ) (cwV 1 hts (gV_G k596 k598 ks_yX9_needArgument k1 k599) rfl rfl rfl (by decide +kernel) ⟨Nat.le_of_ble_eq_true rfl, Nat.le_of_ble_eq_true rfl⟩) ⟨fun a U g mk q => by obtain ⟨q0, q1, qP, qK, qM⟩ := q; exact ⟨q0, q1, qP, va_K.moved (u := U) (U := U.calling g mk a) (Vm.Alike.refl U.vm) qK, qM⟩, va_recv hK hP (ci := 9) (q0 := 0) rfl ((fw_get (by decide)).trans (by rw [sE_0]; rfl)), fun U hU hW => ⟨rfl, by rw [hU], by rw [hU]; exact hP, va_K.moved hW.alike hK, xM_warm hW hM⟩⟩ rfl rfl hl.1 rfl (lv_room (Nat.le_of_ble_eq_true rfl)) dX9_pageNode_34 ⟨Nat.le_of_ble_eq_true rfl, Nat.le_of_ble_eq_true rfl⟩) hS (fun q _ h => fA_le hS.1 q h) (fA_le hS.1) (fun u9 t9 H1 locs ht9 hvm9 hw9 hB9 hz9 hk9 hS => ?_)
          obtain ⟨hP, -⟩ := hB9
          rw [ht9] at hP
          generalize H1 = H at hP hS ⊢
          obtain ⟨μ3, eμ3⟩ : ∃ x : va_M, x = u9 := ⟨_, rfl⟩
          rw [← eμ3] at hP hw9
          have hμ3 := hw9; clear hw9
          rw [hμ3] at hP
          refine lv_aload_n hx hb dX9_pageNode_37 rfl (lv_at hl 0 rfl) ?_
          refine fz_get (D := (dC, dI)) (ci := 9) (v := .ref (h0 + 5)) (C := RX9) (T := TX9) (N := 15) hx hb hts inG9 hown hK hP (k := 0) (by decide) (F := (sF0 h0)) sE_0 rfl 1 (by decide) (hts _ k333) (fun _ h9 => h9) rfl dX9_pageNode_38 ?_
          refine lv_iload_n hx hb dX9_pageNode_41 rfl (lv_at hl 1 rfl) ?_
          refine fz_ald (k := 5) (n := 8) (k2 := (113 + (pg).toNat * 15)) hx hb hK hP 1 rfl (by decide) sE_5 rfl ⟨by omega, by omega⟩ (by decide) (if_pos (by omega)) dX9_pageNode_42 ?_
          refine fz_get (D := (dC, dI)) (ci := 1) (v := .ref (h0 + ((113 + (pg).toNat * 15) + 3))) (C := RX1) (T := TX1) (N := 8) hx hb hts inG1 hown hK hP (k := (113 + (pg).toNat * 15)) (by omega) (F := (sLF h0 (113 + (pg).toNat * 15))) (sE_leafO (show (pg).toNat < 8 by omega) rfl) rfl 3 (by decide) (hts _ k304) (fun _ h9 => h9) rfl dX9_pageNode_43 ?_
          refine lv_iload_n hx hb dX9_pageNode_46 rfl (lv_at hl 2 rfl) ?_
          refine lv_iload_n hx hb dX9_pageNode_47 rfl (lv_at hl 3 rfl) ?_
          refine va_calli (va_runV (As := [.int (iZ (nd9)), .int (iZ (wh))]) (rest := []) ⟨hx, hb, hml, hown, hts⟩ (s_RtellNode2 l dC dI cI cZ cII cIII h0 H.size μ (((113 + (pg).toNat * 15) + 3)) (96) (nd9) (wh) (wp) ((rowB_L (show (pg).toNat < 8 by omega) rfl)) (by exact hg2) (by omega) (by omega) (by exact wpx)) (cwV 2 hts (gV_G k918 k919 k920 k3 k921) rfl rfl rfl (by decide +kernel) ⟨Nat.le_of_ble_eq_true rfl, Nat.le_of_ble_eq_true rfl⟩) ⟨fun a U g mk q => by obtain ⟨q0, q1, qP, qK, qM⟩ := q; exact ⟨q0, q1, qP, va_K.moved (u := U) (U := U.calling g mk a) (Vm.Alike.refl U.vm) qK, qM⟩, va_recv hK hP (ci := 4) (q0 := ((113 + (pg).toNat * 15) + 3)) rfl ((fw_get (by omega)).trans (by rw [(sE_rowO (rowB_L (show (pg).toNat < 8 by omega) rfl))])), fun U hU hW => ⟨rfl, by rw [hU], by rw [hU]; exact hP, va_K.moved hW.alike hK, xM_warm hW hM⟩⟩ rfl rfl hl.1 rfl (lv_room (Nat.le_of_ble_eq_true rfl)) dX9_pageNode_48 ⟨Nat.le_of_ble_eq_true rfl, Nat.le_of_ble_eq_true rfl⟩) hS (fun q _ h => fA_le hS.1 q h) (fA_le hS.1) (fun r9 u9 t9 H1 locs ht9 hvm9 hw9 hB9 hz9 hk9 hS => ?_)
          obtain ⟨μ4, r5⟩ := u9
          obtain ⟨hP, -⟩ := hB9
          rw [ht9] at hP
          generalize H1 = H at hP hS ⊢
          obtain ⟨e9, hw9⟩ := hw9
          have e9 : r9 = iZ r5 := e9
          subst e9
          simp only at hP hw9
          have hμ4 := hw9; clear hw9
          rw [hμ4.1] at hP; have hμ4 := hμ4.2
          exact W_widen (Nat.le_of_ble_eq_true rfl) (Nat.le_of_ble_eq_true rfl) (vx_ret (W.iret (v := iZ (r5)) hx hb hr (fun t9 ht9 hW9 => ⟨⟨iZ (r5), (μ, r5), rfl, ⟨rfl, (by
                            dsimp only
                            exact ⟨hI, SZ_rf, ⟨⟨by omega, by omega⟩, by omega, by omega⟩, by omega, hμ4⟩)⟩, by rw [ht9]; exact hP, va_K.moved hW9.alike hK⟩, hS.F ht9⟩) hS.2.2 dX9_pageNode_51))
    · refine vx_callv (vx_runV (As := [.ref (h0 + ((113 + (pg).toNat * 15) + 3)), .int (iZ (nd9))]) (rest := []) ⟨hx, hb, hml, hown, hts⟩ (x_needNode l hfl dC dI cI cZ cII cIII h0 H.size μ (((113 + (pg).toNat * 15) + 3)) (96) (nd9) ((rowB_L (show (pg).toNat < 8 by omega) rfl)) (by first | assumption | omega | exact CI_lc hI | exact CI_cn hI | exact (CI_n6 hI).1 | decide) (by first | assumption | omega | exact CI_lc hI | exact CI_cn hI | exact (CI_n6 hI).1 | decide) (hn16_)) (cwV 2 hts (gV_G k914 k916 ks_yX9_needNode k1 k917) rfl rfl rfl (by decide +kernel) ⟨Nat.le_of_ble_eq_true rfl, Nat.le_of_ble_eq_true rfl⟩) ⟨fun a U g mk q => by obtain ⟨q0, q1, qP, qK, qM, qE⟩ := q; exact ⟨q0, q1, qP, va_K.moved (u := U) (U := U.calling g mk a) (Vm.Alike.refl U.vm) qK, qM, xX_call qE⟩, va_recv hK hP (ci := 9) (q0 := 0) rfl ((fw_get (by decide)).trans (by rw [sE_0]; rfl)), fun U hU hW => ⟨rfl, by rw [hU], by rw [hU]; exact hP, va_K.moved hW.alike hK, xM_warm hW hM, xX_at hEx hS (fun q h => fA_le hS.1 q h) hU hW⟩⟩ rfl rfl hl.1 rfl (lv_room (Nat.le_of_ble_eq_true rfl)) dX9_pageNode_16 ⟨Nat.le_of_ble_eq_true rfl, Nat.le_of_ble_eq_true rfl⟩) hS (fun q _ h => fA_le hS.1 q h) (fA_le hS.1) (fun q _ h => fA_le hS.1 q h) (fun E9 ce9 q9 u9 t9 H1 locs ht9 hvm9 hpx9 hBX9 hz9 hk9 hS hce9 hcv9 hcl9 => ?_) (fun u9 t9 H1 locs ht9 hvm9 hw9 hB9 hz9 hk9 hS => hw9.elim)
      obtain ⟨hE9, hP9, hK9⟩ := hBX9
      exact vx_out (fun x hx9 => (hnt x hx9).elim) hlocks hce9 hcv9 hcl9 (fun t8 ht8 hW8 => ⟨u9, (by
                    show CI T u9 ∧ SZ μ u9
                    exact CZ_thr hI hpx9), ⟨(show ∀ z ∈ (["java/util/NoSuchElementException"] : List String), z ∈ (["java/util/NoSuchElementException", "java/lang/IllegalArgumentException"] : List String) by decide +kernel) E9 hE9, by rw [ht8, ← ht9]; exact hP9, va_K.moved hW8 hK, (by have hE8 := List.mem_singleton.mp hE9; rw [hE8]; exact ⟨fun _ => cd2_1 (by omega), fun h => absurd h (by decide +kernel)⟩)⟩, hS.F ht8⟩) hS.2.2 (Nat.le_of_ble_eq_true rfl) (Nat.le_of_ble_eq_true rfl)
  · refine vx_callv (vx_runV (As := [.int (iZ (pg))]) (rest := []) ⟨hx, hb, hml, hown, hts⟩ (x_needPage l hfl dC dI cI cZ cII cIII h0 s.heap.size μ (pg) (by first | assumption | omega | exact CI_lc hI | exact CI_cn hI | exact (CI_n6 hI).1 | decide) (by first | assumption | omega | exact CI_lc hI | exact CI_cn hI | exact (CI_n6 hI).1 | decide) (hn2_)) (cwV 1 hts (gV_G k735 k737 ks_yX9_needPage k1 k738) rfl rfl rfl (by decide +kernel) ⟨Nat.le_of_ble_eq_true rfl, Nat.le_of_ble_eq_true rfl⟩) ⟨fun a U g mk q => by obtain ⟨q0, q1, qP, qK, qM, qE⟩ := q; exact ⟨q0, q1, qP, va_K.moved (u := U) (U := U.calling g mk a) (Vm.Alike.refl U.vm) qK, qM, xX_call qE⟩, va_recv hK hP (ci := 9) (q0 := 0) rfl ((fw_get (by decide)).trans (by rw [sE_0]; rfl)), fun U hU hW => ⟨rfl, by rw [hU], by rw [hU]; exact hP, va_K.moved hW.alike hK, xM_warm hW hM, xX_at hEx hS (fun q h => fA_le hS.1 q h) hU hW⟩⟩ rfl rfl hl.1 rfl (lv_room (Nat.le_of_ble_eq_true rfl)) dX9_pageNode_2 ⟨Nat.le_of_ble_eq_true rfl, Nat.le_of_ble_eq_true rfl⟩) hS (fun q _ h => fA_le hS.1 q h) (fA_le hS.1) (fun q _ h => fA_le hS.1 q h) (fun E9 ce9 q9 u9 t9 H1 locs ht9 hvm9 hpx9 hBX9 hz9 hk9 hS hce9 hcv9 hcl9 => ?_) (fun u9 t9 H1 locs ht9 hvm9 hw9 hB9 hz9 hk9 hS => hw9.elim)
    obtain ⟨hE9, hP9, hK9⟩ := hBX9
    exact vx_out (fun x hx9 => (hnt x hx9).elim) hlocks hce9 hcv9 hcl9 (fun t8 ht8 hW8 => ⟨u9, (by
                show CI T u9 ∧ SZ μ u9
                exact CZ_thr hI hpx9), ⟨(show ∀ z ∈ (["java/util/NoSuchElementException"] : List String), z ∈ (["java/util/NoSuchElementException", "java/lang/IllegalArgumentException"] : List String) by decide +kernel) E9 hE9, by rw [ht8, ← ht9]; exact hP9, va_K.moved hW8 hK, (by have hE8 := List.mem_singleton.mp hE9; rw [hE8]; exact ⟨fun _ => cd2_1 (by omega), fun h => absurd h (by decide +kernel)⟩)⟩, hS.F ht8⟩) hS.2.2 (Nat.le_of_ble_eq_true rfl) (Nat.le_of_ble_eq_true rfl)

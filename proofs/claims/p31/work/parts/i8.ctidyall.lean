
/-! the tidier tidies a whole row: told whole -/
set_option maxHeartbeats 4000000 in
set_option maxRecDepth 100000 in
theorem TX6_tidyAll_7a {p : Program} {l : Launch} {e : Env} {R : Room} {s : State} {m : MethodId} {args : Array Value} {below : List Frame} {meth : Method} {c : Code} {cells slots : Nat} {Q : State → Prop} {dC : Nat → ClassId} {dI : Nat → Nat → Nat} {h0 : Nat} {cI cZ cII cIII : ClassId} (hx : p.tables.exec = Jvm.exec) (hb : c.code = cX6_tidyAll) (hml : c.maxLocals = 6) (hown : s.vm.findClass RX6 = some m.cls) (hts : ∀ w ∈ wsG, w.before args s = true) (hK : va_K (dC, dI) vwCl (sT cI cZ cII cIII) s) (hM : xM s) (hRf : 6 ≤ R.frames) (hRl : 152 ≤ R.locals) (hRc : cells ≤ R.cells) (hRs : slots ≤ R.slots) (μ0 : va_M) (q : Nat) (rm : Nat) (i0 : Int) (tu0 : Int) (dn0 : Int) (hq : rowB q rm) (hG : rG μ0 q rm) (hb0 : (0 ≤ tu0 ∧ tu0 ≤ 3000) ∧ 0 ≤ i0 ∧ i0 < μ0 q 5) (hc : ¬ μ0 (q + 1) i0.toNat = 515) (hexit7 : ∀ (tu : Int) (i : Int) (dn : Int) (μ : va_M) (H : Heap) (locs : List Loc) (ls : Array Slot), (μ = μ0) → (i = i0 + 1 ∧ tu = tu0 + 1 ∧ dn = dn0) → va_P (dC, dI) vwCl (fw (sE cI cZ cII cIII h0) h0 233 μ) H → va_S (fA h0 233 s.heap.size) s.heap H locs → lv_has ls 6 [(4, .int (iZ (tu))), (3, .int (iZ (i))), (2, .int (iZ (dn))), (1, .ref (h0 + q)), (0, .ref (h0 + 38))] → W p l e R s m args below meth c H locs cells slots Q (F0 m 7 ls [])) :
    ∀ (tu : Int) (i : Int) (dn : Int) (μ : va_M) (H : Heap) (locs : List Loc) (ls : Array Slot), (μ = μ0) → (i = i0 ∧ tu = tu0 ∧ dn = dn0) → va_P (dC, dI) vwCl (fw (sE cI cZ cII cIII h0) h0 233 μ) H → va_S (fA h0 233 s.heap.size) s.heap H locs → lv_has ls 6 [(4, .int (iZ (tu))), (3, .int (iZ (i))), (2, .int (iZ (dn))), (1, .ref (h0 + q)), (0, .ref (h0 + 38))] → W p l e R s m args below meth c H locs cells slots Q (F0 m 7 ls []) := by
  intro tu i dn μ H locs ls hm9_ hi hP hS hl
  subst hm9_
  obtain ⟨rfl, rfl, rfl⟩ := hi
  have hrm := rG_rm hq hG
  have hqb := rowB_b hq
  have hs1 := hG.1 i.toNat
  refine lv_iload hx hb dX6_tidyAll_7 (lv_at hl 0 rfl) ?_
  refine lv_ldc (v := iZ 1000000) hx hb hown (hts _ k428) dX6_tidyAll_9 ?_
  refine fz_icmp_ge (tgt := 77) (by constructor <;> omega) (by decide) hx hb dX6_tidyAll_11 (by decide) (fun h9 => (by omega)) (fun c11_ => ?_)
  refine lv_iload_n hx hb dX6_tidyAll_14 rfl (lv_at hl 1 rfl) ?_
  refine lv_aload_n hx hb dX6_tidyAll_15 rfl (lv_at hl 3 rfl) ?_
  refine fz_get (D := (dC, dI)) (ci := 4) (v := .int (iZ (μ q 5))) (C := RX4) (T := TX4) (N := 8) hx hb hts inG4 hown hK hP (k := q) (by omega) (F := (sRF h0 q)) (sE_rowO hq) rfl 5 (by decide) (hts _ k96) (fun _ h9 => h9) rfl dX6_tidyAll_16 ?_
  refine fz_icmp_ge (tgt := 77) (by constructor <;> omega) (by constructor <;> omega) hx hb dX6_tidyAll_19 (by decide) (fun h9 => (by omega)) (fun c19_ => ?_)
  refine lv_aload_n hx hb dX6_tidyAll_22 rfl (lv_at hl 3 rfl) ?_
  refine fz_get (D := (dC, dI)) (ci := 4) (v := .ref (h0 + (q + 1))) (C := RX4) (T := TX4) (N := 8) hx hb hts inG4 hown hK hP (k := q) (by omega) (F := (sRF h0 q)) (sE_rowO hq) rfl 0 (by decide) (hts _ k79) (fun _ h9 => h9) rfl dX6_tidyAll_23 ?_
  refine lv_iload_n hx hb dX6_tidyAll_26 rfl (lv_at hl 1 rfl) ?_
  refine fz_ld (k := (q + 1)) (n := rm) hx hb hK hP 0 (by omega) (sE_rowA (r := 1) hq (by decide)) rfl ⟨by omega, by omega⟩ (by omega) dX6_tidyAll_27 ?_
  refine lv_sipush (v := iZ 515) hx hb dX6_tidyAll_28 rfl ?_
  refine fz_icmp_ne (tgt := 68) (by constructor <;> omega) (by decide) hx hb dX6_tidyAll_31 (by decide) (fun c31_ => ?_) (fun h9 => (by omega))
  refine lv_iinc (v := iZ (i + 1)) (lv' := [(3, .int (iZ (i + 1))), (4, .int (iZ (tu))), (2, .int (iZ (dn))), (1, .ref (h0 + q)), (0, .ref (h0 + 38))]) hx hb dX6_tidyAll_68 hl (k := 1) rfl (iZ_add _ _) (by decide) rfl (fun ls hl => ?_)
  refine lv_iinc (v := iZ (tu + 1)) (lv' := [(4, .int (iZ (tu + 1))), (3, .int (iZ (i + 1))), (2, .int (iZ (dn))), (1, .ref (h0 + q)), (0, .ref (h0 + 38))]) hx hb dX6_tidyAll_71 hl (k := 1) rfl (iZ_add _ _) (by decide) rfl (fun ls hl => ?_)
  refine lv_goto (tgt := 7) hx hb dX6_tidyAll_74 (by decide) ?_
  exact hexit7 (tu + 1) (i + 1) (dn) μ H locs ls (by rfl) (by exact ⟨rfl, rfl, rfl⟩) hP hS (lv_sub hl [0, 1, 2, 3, 4] rfl)
set_option maxHeartbeats 4000000 in
set_option maxRecDepth 100000 in
theorem TX6_tidyAll_7b {p : Program} {l : Launch} {e : Env} {R : Room} {s : State} {m : MethodId} {args : Array Value} {below : List Frame} {meth : Method} {c : Code} {cells slots : Nat} {Q : State → Prop} {dC : Nat → ClassId} {dI : Nat → Nat → Nat} {h0 : Nat} {cI cZ cII cIII : ClassId} (hx : p.tables.exec = Jvm.exec) (hb : c.code = cX6_tidyAll) (hml : c.maxLocals = 6) (hown : s.vm.findClass RX6 = some m.cls) (hts : ∀ w ∈ wsG, w.before args s = true) (hK : va_K (dC, dI) vwCl (sT cI cZ cII cIII) s) (hM : xM s) (hRf : 6 ≤ R.frames) (hRl : 152 ≤ R.locals) (hRc : cells ≤ R.cells) (hRs : slots ≤ R.slots) (μ0 : va_M) (q : Nat) (rm : Nat) (i0 : Int) (tu0 : Int) (dn0 : Int) (p0 : Int) (vv : Rw) (hq : rowB q rm) (hG : rG μ0 q rm) (hb0 : (0 ≤ tu0 ∧ tu0 ≤ 3000) ∧ 0 ≤ i0 ∧ i0 < μ0 q 5) (hc : μ0 (q + 1) i0.toNat = 515) (h7 : μ0 q 7 = 0) (hmt : μ0 (q + 2) i0.toNat = p0) (hp0 : 0 ≤ p0 ∧ p0 < i0) (hv0 : rWF vv) (hvd : rAd vv) (hvA : SA μ0 (q + 1) vv (p0 + 1).toNat) (hvL : i0 = p0 + 1 + sL vv) (hcap : ∀ y : Rw, TQ vv y → μ0 q 5 - sL vv + sL y ≤ rm) (hqt : q + 6 ≤ 38 ∨ 41 ≤ q) (hexit7 : ∀ (tu : Int) (i : Int) (dn : Int) (μ : va_M) (H : Heap) (locs : List Loc) (ls : Array Slot), (fr (LTq q) μ0 μ) → (rG μ q rm) → (∃ x : Rw, tRi μ0 μ q (p0 + 1) vv x (dn - dn0) ∧ tn1 x) → (i = μ (q + 2) p0.toNat + 1 ∧ tu = tu0 + 1) → va_P (dC, dI) vwCl (fw (sE cI cZ cII cIII h0) h0 233 μ) H → va_S (fA h0 233 s.heap.size) s.heap H locs → lv_has ls 6 [(4, .int (iZ (tu))), (3, .int (iZ (i))), (2, .int (iZ (dn))), (1, .ref (h0 + q)), (0, .ref (h0 + 38))] → W p l e R s m args below meth c H locs cells slots Q (F0 m 7 ls [])) :
    ∀ (tu : Int) (i : Int) (dn : Int) (μ : va_M) (H : Heap) (locs : List Loc) (ls : Array Slot), (μ = μ0) → (i = i0 ∧ tu = tu0 ∧ dn = dn0) → va_P (dC, dI) vwCl (fw (sE cI cZ cII cIII h0) h0 233 μ) H → va_S (fA h0 233 s.heap.size) s.heap H locs → lv_has ls 6 [(4, .int (iZ (tu))), (3, .int (iZ (i))), (2, .int (iZ (dn))), (1, .ref (h0 + q)), (0, .ref (h0 + 38))] → W p l e R s m args below meth c H locs cells slots Q (F0 m 7 ls []) := by
  intro tu i dn μ H locs ls hm9_ hi hP hS hl
  subst hm9_
  obtain ⟨rfl, rfl, rfl⟩ := hi
  have hrm := rG_rm hq hG
  have hqb := rowB_b hq
  have hs1 := hG.1 i.toNat
  obtain ⟨m1_, m2_⟩ := rng_cl (i := i) hrm.2.2 hG ⟨by omega, by omega⟩ hc
  refine lv_iload hx hb dX6_tidyAll_7 (lv_at hl 0 rfl) ?_
  refine lv_ldc (v := iZ 1000000) hx hb hown (hts _ k428) dX6_tidyAll_9 ?_
  refine fz_icmp_ge (tgt := 77) (by constructor <;> omega) (by decide) hx hb dX6_tidyAll_11 (by decide) (fun h9 => (by omega)) (fun c11_ => ?_)
  refine lv_iload_n hx hb dX6_tidyAll_14 rfl (lv_at hl 1 rfl) ?_
  refine lv_aload_n hx hb dX6_tidyAll_15 rfl (lv_at hl 3 rfl) ?_
  refine fz_get (D := (dC, dI)) (ci := 4) (v := .int (iZ (μ q 5))) (C := RX4) (T := TX4) (N := 8) hx hb hts inG4 hown hK hP (k := q) (by omega) (F := (sRF h0 q)) (sE_rowO hq) rfl 5 (by decide) (hts _ k96) (fun _ h9 => h9) rfl dX6_tidyAll_16 ?_
  refine fz_icmp_ge (tgt := 77) (by constructor <;> omega) (by constructor <;> omega) hx hb dX6_tidyAll_19 (by decide) (fun h9 => (by omega)) (fun c19_ => ?_)
  refine lv_aload_n hx hb dX6_tidyAll_22 rfl (lv_at hl 3 rfl) ?_
  refine fz_get (D := (dC, dI)) (ci := 4) (v := .ref (h0 + (q + 1))) (C := RX4) (T := TX4) (N := 8) hx hb hts inG4 hown hK hP (k := q) (by omega) (F := (sRF h0 q)) (sE_rowO hq) rfl 0 (by decide) (hts _ k79) (fun _ h9 => h9) rfl dX6_tidyAll_23 ?_
  refine lv_iload_n hx hb dX6_tidyAll_26 rfl (lv_at hl 1 rfl) ?_
  refine fz_ld (k := (q + 1)) (n := rm) hx hb hK hP 0 (by omega) (sE_rowA (r := 1) hq (by decide)) rfl ⟨by omega, by omega⟩ (by omega) dX6_tidyAll_27 ?_
  refine lv_sipush (v := iZ 515) hx hb dX6_tidyAll_28 rfl ?_
  refine fz_icmp_ne (tgt := 68) (by constructor <;> omega) (by decide) hx hb dX6_tidyAll_31 (by decide) (fun h9 => (by omega)) (fun c31_ => ?_)
  refine lv_aload_n hx hb dX6_tidyAll_34 rfl (lv_at hl 3 rfl) ?_
  refine fz_get (D := (dC, dI)) (ci := 4) (v := .ref (h0 + (q + 2))) (C := RX4) (T := TX4) (N := 8) hx hb hts inG4 hown hK hP (k := q) (by omega) (F := (sRF h0 q)) (sE_rowO hq) rfl 1 (by decide) (hts _ k84) (fun _ h9 => h9) rfl dX6_tidyAll_35 ?_
  refine lv_iload_n hx hb dX6_tidyAll_38 rfl (lv_at hl 1 rfl) ?_
  refine fz_ld (k := (q + 2)) (n := rm) hx hb hK hP 0 (by omega) (sE_rowA (r := 2) hq (by decide)) rfl ⟨by omega, by omega⟩ (by omega) dX6_tidyAll_39 ?_
  refine lv_istore (lv' := [(5, .int (iZ (μ (q + 2) (i).toNat))), (4, .int (iZ (tu))), (3, .int (iZ (i))), (2, .int (iZ (dn))), (1, .ref (h0 + q)), (0, .ref (h0 + 38))]) hx hb dX6_tidyAll_40 hl (by decide) rfl (fun ls hl => ?_)
  refine lv_iload_n hx hb dX6_tidyAll_42 rfl (lv_at hl 3 rfl) ?_
  refine lv_aload_n hx hb dX6_tidyAll_43 rfl (lv_at hl 5 rfl) ?_
  refine lv_aload_n hx hb dX6_tidyAll_44 rfl (lv_at hl 4 rfl) ?_
  refine lv_iload hx hb dX6_tidyAll_45 (lv_at hl 0 rfl) ?_
  refine lv_iconst (v := iZ 1) hx hb dX6_tidyAll_47 rfl ?_
  refine lv_iadd hx hb dX6_tidyAll_48 ?_
  refine lv_topi (fun x9 ex9 => ?_)
  obtain rfl : x9 = iZ ((μ (q + 2) (i).toNat) + 1) := ex9.trans (iZ_add _ _)
  refine lv_iload_n hx hb dX6_tidyAll_49 rfl (lv_at hl 2 rfl) ?_
  refine va_calli (va_runV (As := [.ref (h0 + q), .int (iZ ((μ (q + 2) (i).toNat) + 1)), .int (iZ (i))]) (rest := [.int (iZ (dn))]) ⟨hx, hb, hml, hown, hts⟩ (s_TtidyRange2 l dC dI cI cZ cII cIII h0 H.size μ (q) (rm) ((μ (q + 2) (i).toNat) + 1) (i) (μ q 5 - i) (vv) (hq) (by exact hG) (by exact hqt) (by exact m2_) (by omega) (by exact hv0) (by exact hvd) (by rw [hmt]; exact hvA) (by omega) (by omega) (by exact h7) (by exact hcap)) (cwV 3 hts (gV_G k429 k431 ks_yX6_tidyRange k6 k432) rfl rfl rfl (by decide +kernel) ⟨by show 5 + 1 ≤ _; omega, by show 8 + (9 + 11) + (124) ≤ _; omega⟩) ⟨fun a U g mk q => by obtain ⟨q0, q1, qP, qK, qM⟩ := q; exact ⟨q0, q1, qP, va_K.moved (u := U) (U := U.calling g mk a) (Vm.Alike.refl U.vm) qK, qM⟩, va_recv hK hP (ci := 6) (q0 := 38) rfl ((fw_get (by decide)).trans (by rw [sE_38])), fun U hU hW => ⟨rfl, by rw [hU], by rw [hU]; exact hP, va_K.moved hW.alike hK, xM_warm hW hM⟩⟩ rfl rfl hl.1 rfl (lv_room (Nat.le_of_ble_eq_true rfl)) dX6_tidyAll_50 ⟨hRc, hRs⟩) hS (fun q _ h => fA_le hS.1 q h) (fA_le hS.1) (fun r9 u9 t9 H1 locs ht9 hvm9 hw9 hB9 hz9 hk9 hS => ?_)
  obtain ⟨μt, rt⟩ := u9
  obtain ⟨hP, -⟩ := hB9
  rw [ht9] at hP
  generalize H1 = H at hP hS ⊢
  obtain ⟨e9, hw9⟩ := hw9
  have e9 : r9 = iZ rt := e9
  subst e9
  simp only at hP hw9
  have hμt := hw9; clear hw9
  obtain ⟨b1_, c1_, x1_, y1_, z1_⟩ := hμt
  have mx_ := rG_mA c1_ (μ (q + 2) i.toNat).toNat
  refine lv_iadd hx hb dX6_tidyAll_53 ?_
  refine lv_topi (fun x9 ex9 => ?_)
  obtain rfl : x9 = iZ (dn + rt) := ex9.trans (iZ_add _ _)
  refine lv_istore_n (lv' := [(2, .int (iZ (dn + rt))), (5, .int (iZ (μ (q + 2) (i).toNat))), (4, .int (iZ (tu))), (3, .int (iZ (i))), (1, .ref (h0 + q)), (0, .ref (h0 + 38))]) hx hb dX6_tidyAll_54 rfl hl (by decide) rfl (fun ls hl => ?_)
  refine lv_aload_n hx hb dX6_tidyAll_55 rfl (lv_at hl 4 rfl) ?_
  refine fz_get (D := (dC, dI)) (ci := 4) (v := .ref (h0 + (q + 2))) (C := RX4) (T := TX4) (N := 8) hx hb hts inG4 hown hK hP (k := q) (by omega) (F := (sRF h0 q)) (sE_rowO hq) rfl 1 (by decide) (hts _ k84) (fun _ h9 => h9) rfl dX6_tidyAll_56 ?_
  refine lv_iload hx hb dX6_tidyAll_59 (lv_at hl 1 rfl) ?_
  refine fz_ld (k := (q + 2)) (n := rm) hx hb hK hP 0 (by omega) (sE_rowA (r := 2) hq (by decide)) rfl ⟨by omega, by omega⟩ (by omega) dX6_tidyAll_61 ?_
  refine lv_iconst (v := iZ 1) hx hb dX6_tidyAll_62 rfl ?_
  refine lv_iadd hx hb dX6_tidyAll_63 ?_
  refine lv_topi (fun x9 ex9 => ?_)
  obtain rfl : x9 = iZ ((μt (q + 2) (μ (q + 2) (i).toNat).toNat) + 1) := ex9.trans (iZ_add _ _)
  refine lv_istore_n (lv' := [(3, .int (iZ ((μt (q + 2) (μ (q + 2) (i).toNat).toNat) + 1))), (2, .int (iZ (dn + rt))), (5, .int (iZ (μ (q + 2) (i).toNat))), (4, .int (iZ (tu))), (1, .ref (h0 + q)), (0, .ref (h0 + 38))]) hx hb dX6_tidyAll_64 rfl hl (by decide) rfl (fun ls hl => ?_)
  refine lv_goto (tgt := 71) hx hb dX6_tidyAll_65 (by decide) ?_
  refine lv_iinc (v := iZ (tu + 1)) (lv' := [(4, .int (iZ (tu + 1))), (3, .int (iZ ((μt (q + 2) (μ (q + 2) (i).toNat).toNat) + 1))), (2, .int (iZ (dn + rt))), (5, .int (iZ (μ (q + 2) (i).toNat))), (1, .ref (h0 + q)), (0, .ref (h0 + 38))]) hx hb dX6_tidyAll_71 hl (k := 3) rfl (iZ_add _ _) (by decide) rfl (fun ls hl => ?_)
  refine lv_goto (tgt := 7) hx hb dX6_tidyAll_74 (by decide) ?_
  exact hexit7 (tu + 1) ((μt (q + 2) (μ (q + 2) (i).toNat).toNat) + 1) (dn + rt) μt H locs ls (by exact b1_) (by exact c1_) (by exact ⟨x1_, by rw [show dn + rt - dn = rt by omega, ← hmt]; exact y1_, z1_⟩) (by exact ⟨by rw [hmt], rfl⟩) hP hS (lv_sub hl [0, 1, 2, 4, 5] rfl)
set_option maxHeartbeats 4000000 in
set_option maxRecDepth 100000 in
theorem TX6_tidyAll_7c {p : Program} {l : Launch} {e : Env} {R : Room} {s : State} {m : MethodId} {args : Array Value} {below : List Frame} {meth : Method} {c : Code} {cells slots : Nat} {Q : State → Prop} {dC : Nat → ClassId} {dI : Nat → Nat → Nat} {h0 : Nat} {cI cZ cII cIII : ClassId} (hx : p.tables.exec = Jvm.exec) (hb : c.code = cX6_tidyAll) (hml : c.maxLocals = 6) (hown : s.vm.findClass RX6 = some m.cls) (hts : ∀ w ∈ wsG, w.before args s = true) (hK : va_K (dC, dI) vwCl (sT cI cZ cII cIII) s) (hM : xM s) (hRf : 6 ≤ R.frames) (hRl : 152 ≤ R.locals) (hRc : cells ≤ R.cells) (hRs : slots ≤ R.slots) (μ0 : va_M) (q : Nat) (rm : Nat) (i0 : Int) (tu0 : Int) (dn0 : Int) (hq : rowB q rm) (hG : rG μ0 q rm) (hb0 : (0 ≤ tu0 ∧ tu0 ≤ 3000) ∧ i0 = μ0 q 5) (hexit77 : ∀ (tu : Int) (i : Int) (dn : Int) (μ : va_M) (H : Heap) (locs : List Loc) (ls : Array Slot), (μ = μ0) → (dn = dn0) → va_P (dC, dI) vwCl (fw (sE cI cZ cII cIII h0) h0 233 μ) H → va_S (fA h0 233 s.heap.size) s.heap H locs → lv_has ls 6 [(2, .int (iZ (dn))), (1, .ref (h0 + q)), (0, .ref (h0 + 38))] → W p l e R s m args below meth c H locs cells slots Q (F0 m 77 ls [])) :
    ∀ (tu : Int) (i : Int) (dn : Int) (μ : va_M) (H : Heap) (locs : List Loc) (ls : Array Slot), (μ = μ0) → (i = i0 ∧ tu = tu0 ∧ dn = dn0) → va_P (dC, dI) vwCl (fw (sE cI cZ cII cIII h0) h0 233 μ) H → va_S (fA h0 233 s.heap.size) s.heap H locs → lv_has ls 6 [(4, .int (iZ (tu))), (3, .int (iZ (i))), (2, .int (iZ (dn))), (1, .ref (h0 + q)), (0, .ref (h0 + 38))] → W p l e R s m args below meth c H locs cells slots Q (F0 m 7 ls []) := by
  intro tu i dn μ H locs ls hm9_ hi hP hS hl
  subst hm9_
  obtain ⟨rfl, rfl, rfl⟩ := hi
  have hrm := rG_rm hq hG
  have hqb := rowB_b hq
  refine lv_iload hx hb dX6_tidyAll_7 (lv_at hl 0 rfl) ?_
  refine lv_ldc (v := iZ 1000000) hx hb hown (hts _ k428) dX6_tidyAll_9 ?_
  refine fz_icmp_ge (tgt := 77) (by constructor <;> omega) (by decide) hx hb dX6_tidyAll_11 (by decide) (fun h9 => (by omega)) (fun c11_ => ?_)
  refine lv_iload_n hx hb dX6_tidyAll_14 rfl (lv_at hl 1 rfl) ?_
  refine lv_aload_n hx hb dX6_tidyAll_15 rfl (lv_at hl 3 rfl) ?_
  refine fz_get (D := (dC, dI)) (ci := 4) (v := .int (iZ (μ q 5))) (C := RX4) (T := TX4) (N := 8) hx hb hts inG4 hown hK hP (k := q) (by omega) (F := (sRF h0 q)) (sE_rowO hq) rfl 5 (by decide) (hts _ k96) (fun _ h9 => h9) rfl dX6_tidyAll_16 ?_
  refine fz_icmp_ge (tgt := 77) (by constructor <;> omega) (by constructor <;> omega) hx hb dX6_tidyAll_19 (by decide) (fun c19_ => ?_) (fun h9 => (by omega))
  exact hexit77 (tu) (i) (dn) μ H locs ls (by rfl) (by rfl) hP hS (lv_sub hl [2, 3, 4] rfl)
set_option maxHeartbeats 4000000 in
set_option maxRecDepth 100000 in
theorem all_leaf {p : Program} {l : Launch} {e : Env} {R : Room} {s : State} {m : MethodId} {args : Array Value} {below : List Frame} {meth : Method} {c : Code} {cells slots : Nat} {Q : State → Prop} {dC : Nat → ClassId} {dI : Nat → Nat → Nat} {h0 : Nat} {cI cZ cII cIII : ClassId} (hx : p.tables.exec = Jvm.exec) (hb : c.code = cX6_tidyAll) (hml : c.maxLocals = 6) (hown : s.vm.findClass RX6 = some m.cls) (hts : ∀ w ∈ wsG, w.before args s = true) (hK : va_K (dC, dI) vwCl (sT cI cZ cII cIII) s) (hM : xM s) (hRf : 6 ≤ R.frames) (hRl : 152 ≤ R.locals) (hRc : cells ≤ R.cells) (hRs : slots ≤ R.slots) (q rm : Nat) (hq : rowB q rm) (hqt : q + 6 ≤ 38 ∨ 41 ≤ q) (z k : Nat) (v : Int) (wl wr : Rw) (h9 : k < 3) (ihr : ∀ (pp : Nat) (tu i dn : Int) (μ : va_M) (H : Heap) (locs : List Loc) (ls : Array Slot), rWF wr → rAd wr → SA μ (q + 1) wr pp → i = pp → (pp : Int) + sL wr ≤ μ q 5 → rG μ q rm → μ q 7 = 0 → (0 ≤ tu ∧ tu + sL wr ≤ 3000) → cpT wr (μ q 5) rm → va_P (dC, dI) vwCl (fw (sE cI cZ cII cIII h0) h0 233 μ) H → va_S (fA h0 233 s.heap.size) s.heap H locs → lv_has ls 6 [(4, .int (iZ (tu))), (3, .int (iZ (i))), (2, .int (iZ (dn))), (1, .ref (h0 + q)), (0, .ref (h0 + 38))] → (∀ (μ2 : va_M) (x : Rw) (n : Nat) (tu2 i2 dn2 : Int) (H : Heap) (locs : List Loc) (ls : Array Slot), tAl wr x n → sgN μ μ2 (q + 1) pp (μ q 5).toNat wr x (μ2 q 5).toNat → fr (LTq q) μ μ2 → rG μ2 q rm → μ2 q 7 = 0 → (tu ≤ tu2 ∧ tu2 ≤ tu + sL wr) → i2 = pp + sL x → dn2 = dn + n → va_P (dC, dI) vwCl (fw (sE cI cZ cII cIII h0) h0 233 μ2) H → va_S (fA h0 233 s.heap.size) s.heap H locs → lv_has ls 6 [(4, .int (iZ (tu2))), (3, .int (iZ (i2))), (2, .int (iZ (dn2))), (1, .ref (h0 + q)), (0, .ref (h0 + 38))] → W p l e R s m args below meth c H locs cells slots Q (F0 m 7 ls [])) → W p l e R s m args below meth c H locs cells slots Q (F0 m 7 ls [])) : ∀ (pp : Nat) (tu i dn : Int) (μ : va_M) (H : Heap) (locs : List Loc) (ls : Array Slot), rWF (Std.DTreeMap.Internal.Impl.inner z k v wl wr : Rw) → rAd (Std.DTreeMap.Internal.Impl.inner z k v wl wr : Rw) → SA μ (q + 1) (Std.DTreeMap.Internal.Impl.inner z k v wl wr : Rw) pp → i = pp → (pp : Int) + sL (Std.DTreeMap.Internal.Impl.inner z k v wl wr : Rw) ≤ μ q 5 → rG μ q rm → μ q 7 = 0 → (0 ≤ tu ∧ tu + sL (Std.DTreeMap.Internal.Impl.inner z k v wl wr : Rw) ≤ 3000) → cpT (Std.DTreeMap.Internal.Impl.inner z k v wl wr : Rw) (μ q 5) rm → va_P (dC, dI) vwCl (fw (sE cI cZ cII cIII h0) h0 233 μ) H → va_S (fA h0 233 s.heap.size) s.heap H locs → lv_has ls 6 [(4, .int (iZ (tu))), (3, .int (iZ (i))), (2, .int (iZ (dn))), (1, .ref (h0 + q)), (0, .ref (h0 + 38))] → (∀ (μ2 : va_M) (x : Rw) (n : Nat) (tu2 i2 dn2 : Int) (H : Heap) (locs : List Loc) (ls : Array Slot), tAl (Std.DTreeMap.Internal.Impl.inner z k v wl wr : Rw) x n → sgN μ μ2 (q + 1) pp (μ q 5).toNat (Std.DTreeMap.Internal.Impl.inner z k v wl wr : Rw) x (μ2 q 5).toNat → fr (LTq q) μ μ2 → rG μ2 q rm → μ2 q 7 = 0 → (tu ≤ tu2 ∧ tu2 ≤ tu + sL (Std.DTreeMap.Internal.Impl.inner z k v wl wr : Rw)) → i2 = pp + sL x → dn2 = dn + n → va_P (dC, dI) vwCl (fw (sE cI cZ cII cIII h0) h0 233 μ2) H → va_S (fA h0 233 s.heap.size) s.heap H locs → lv_has ls 6 [(4, .int (iZ (tu2))), (3, .int (iZ (i2))), (2, .int (iZ (dn2))), (1, .ref (h0 + q)), (0, .ref (h0 + 38))] → W p l e R s m args below meth c H locs cells slots Q (F0 m 7 ls [])) → W p l e R s m args below meth c H locs cells slots Q (F0 m 7 ls []) := by
  intro pp tu i dn μ H locs ls hw hA9 hA hi hlen hG h7 htu hcp hP hS hl kk
  have hl9 := hw.2.1 h9
  have hg := (sG_b (rWF_0 _ hw).1).1 h9
  have hs : sL (Std.DTreeMap.Internal.Impl.inner z k v wl wr : Rw) = 1 + sL wr := by rw [sL_in, if_pos h9]
  rw [hs] at hlen htu
  have a3 := hA.2.2
  rw [if_pos h9] at a3
  refine TX6_tidyAll_7a hx hb hml hown hts hK hM hRf hRl hRc hRs μ q rm i tu dn hq hG ⟨⟨by omega, by omega⟩, by omega, by omega⟩ (by rw [show i.toNat = pp by omega, hA.1]; omega) (fun tu2 i2 dn2 μ1 H locs ls q1 q2 hP hS hl => ?_) tu i dn μ H locs ls rfl ⟨rfl, rfl, rfl⟩ hP hS hl
  obtain ⟨e1, e2, e3⟩ := q2
  rw [q1] at hP
  clear q1 hg
  refine ihr (pp + 1) tu2 i2 dn2 μ H locs ls hw.2.2.2.2.2.2.2 hA9.2.2.2 a3 (by omega) (by omega) hG h7 ⟨by omega, by omega⟩ (cpT_lf h9 hcp) hP hS hl (fun μ2 x n tu3 i3 dn3 H locs ls g1 g2 g3 g4 g5 g6 g7 g8 hP hS hl => ?_)
  exact kk μ2 _ n tu3 i3 dn3 H locs ls ⟨x, n, g1, Or.inl ⟨h9, rfl, rfl⟩⟩ (sgN_lf h9 hl9 hA g2) g3 g4 g5 ⟨by omega, by rw [hs]; omega⟩ (by rw [sL_in, if_pos h9]; omega) (by omega) hP hS hl
set_option maxHeartbeats 4000000 in
set_option maxRecDepth 100000 in
theorem all_group {p : Program} {l : Launch} {e : Env} {R : Room} {s : State} {m : MethodId} {args : Array Value} {below : List Frame} {meth : Method} {c : Code} {cells slots : Nat} {Q : State → Prop} {dC : Nat → ClassId} {dI : Nat → Nat → Nat} {h0 : Nat} {cI cZ cII cIII : ClassId} (hx : p.tables.exec = Jvm.exec) (hb : c.code = cX6_tidyAll) (hml : c.maxLocals = 6) (hown : s.vm.findClass RX6 = some m.cls) (hts : ∀ w ∈ wsG, w.before args s = true) (hK : va_K (dC, dI) vwCl (sT cI cZ cII cIII) s) (hM : xM s) (hRf : 6 ≤ R.frames) (hRl : 152 ≤ R.locals) (hRc : cells ≤ R.cells) (hRs : slots ≤ R.slots) (q rm : Nat) (hq : rowB q rm) (hqt : q + 6 ≤ 38 ∨ 41 ≤ q) (z k : Nat) (v : Int) (wl wr : Rw) (h9 : ¬ k < 3) (ihl : ∀ (pp : Nat) (tu i dn : Int) (μ : va_M) (H : Heap) (locs : List Loc) (ls : Array Slot), rWF wl → rAd wl → SA μ (q + 1) wl pp → i = pp → (pp : Int) + sL wl ≤ μ q 5 → rG μ q rm → μ q 7 = 0 → (0 ≤ tu ∧ tu + sL wl ≤ 3000) → cpT wl (μ q 5) rm → va_P (dC, dI) vwCl (fw (sE cI cZ cII cIII h0) h0 233 μ) H → va_S (fA h0 233 s.heap.size) s.heap H locs → lv_has ls 6 [(4, .int (iZ (tu))), (3, .int (iZ (i))), (2, .int (iZ (dn))), (1, .ref (h0 + q)), (0, .ref (h0 + 38))] → (∀ (μ2 : va_M) (x : Rw) (n : Nat) (tu2 i2 dn2 : Int) (H : Heap) (locs : List Loc) (ls : Array Slot), tAl wl x n → sgN μ μ2 (q + 1) pp (μ q 5).toNat wl x (μ2 q 5).toNat → fr (LTq q) μ μ2 → rG μ2 q rm → μ2 q 7 = 0 → (tu ≤ tu2 ∧ tu2 ≤ tu + sL wl) → i2 = pp + sL x → dn2 = dn + n → va_P (dC, dI) vwCl (fw (sE cI cZ cII cIII h0) h0 233 μ2) H → va_S (fA h0 233 s.heap.size) s.heap H locs → lv_has ls 6 [(4, .int (iZ (tu2))), (3, .int (iZ (i2))), (2, .int (iZ (dn2))), (1, .ref (h0 + q)), (0, .ref (h0 + 38))] → W p l e R s m args below meth c H locs cells slots Q (F0 m 7 ls [])) → W p l e R s m args below meth c H locs cells slots Q (F0 m 7 ls [])) (ihr : ∀ (pp : Nat) (tu i dn : Int) (μ : va_M) (H : Heap) (locs : List Loc) (ls : Array Slot), rWF wr → rAd wr → SA μ (q + 1) wr pp → i = pp → (pp : Int) + sL wr ≤ μ q 5 → rG μ q rm → μ q 7 = 0 → (0 ≤ tu ∧ tu + sL wr ≤ 3000) → cpT wr (μ q 5) rm → va_P (dC, dI) vwCl (fw (sE cI cZ cII cIII h0) h0 233 μ) H → va_S (fA h0 233 s.heap.size) s.heap H locs → lv_has ls 6 [(4, .int (iZ (tu))), (3, .int (iZ (i))), (2, .int (iZ (dn))), (1, .ref (h0 + q)), (0, .ref (h0 + 38))] → (∀ (μ2 : va_M) (x : Rw) (n : Nat) (tu2 i2 dn2 : Int) (H : Heap) (locs : List Loc) (ls : Array Slot), tAl wr x n → sgN μ μ2 (q + 1) pp (μ q 5).toNat wr x (μ2 q 5).toNat → fr (LTq q) μ μ2 → rG μ2 q rm → μ2 q 7 = 0 → (tu ≤ tu2 ∧ tu2 ≤ tu + sL wr) → i2 = pp + sL x → dn2 = dn + n → va_P (dC, dI) vwCl (fw (sE cI cZ cII cIII h0) h0 233 μ2) H → va_S (fA h0 233 s.heap.size) s.heap H locs → lv_has ls 6 [(4, .int (iZ (tu2))), (3, .int (iZ (i2))), (2, .int (iZ (dn2))), (1, .ref (h0 + q)), (0, .ref (h0 + 38))] → W p l e R s m args below meth c H locs cells slots Q (F0 m 7 ls [])) → W p l e R s m args below meth c H locs cells slots Q (F0 m 7 ls [])) : ∀ (pp : Nat) (tu i dn : Int) (μ : va_M) (H : Heap) (locs : List Loc) (ls : Array Slot), rWF (Std.DTreeMap.Internal.Impl.inner z k v wl wr : Rw) → rAd (Std.DTreeMap.Internal.Impl.inner z k v wl wr : Rw) → SA μ (q + 1) (Std.DTreeMap.Internal.Impl.inner z k v wl wr : Rw) pp → i = pp → (pp : Int) + sL (Std.DTreeMap.Internal.Impl.inner z k v wl wr : Rw) ≤ μ q 5 → rG μ q rm → μ q 7 = 0 → (0 ≤ tu ∧ tu + sL (Std.DTreeMap.Internal.Impl.inner z k v wl wr : Rw) ≤ 3000) → cpT (Std.DTreeMap.Internal.Impl.inner z k v wl wr : Rw) (μ q 5) rm → va_P (dC, dI) vwCl (fw (sE cI cZ cII cIII h0) h0 233 μ) H → va_S (fA h0 233 s.heap.size) s.heap H locs → lv_has ls 6 [(4, .int (iZ (tu))), (3, .int (iZ (i))), (2, .int (iZ (dn))), (1, .ref (h0 + q)), (0, .ref (h0 + 38))] → (∀ (μ2 : va_M) (x : Rw) (n : Nat) (tu2 i2 dn2 : Int) (H : Heap) (locs : List Loc) (ls : Array Slot), tAl (Std.DTreeMap.Internal.Impl.inner z k v wl wr : Rw) x n → sgN μ μ2 (q + 1) pp (μ q 5).toNat (Std.DTreeMap.Internal.Impl.inner z k v wl wr : Rw) x (μ2 q 5).toNat → fr (LTq q) μ μ2 → rG μ2 q rm → μ2 q 7 = 0 → (tu ≤ tu2 ∧ tu2 ≤ tu + sL (Std.DTreeMap.Internal.Impl.inner z k v wl wr : Rw)) → i2 = pp + sL x → dn2 = dn + n → va_P (dC, dI) vwCl (fw (sE cI cZ cII cIII h0) h0 233 μ2) H → va_S (fA h0 233 s.heap.size) s.heap H locs → lv_has ls 6 [(4, .int (iZ (tu2))), (3, .int (iZ (i2))), (2, .int (iZ (dn2))), (1, .ref (h0 + q)), (0, .ref (h0 + 38))] → W p l e R s m args below meth c H locs cells slots Q (F0 m 7 ls [])) → W p l e R s m args below meth c H locs cells slots Q (F0 m 7 ls []) := by
  intro pp tu i dn μ H locs ls hw hA9 hA hi hlen hG h7 htu hcp hP hS hl kk
  have h3 : 3 ≤ k := by omega
  have hwl := hw.2.2.2.2.2.2.1
  have hAl := hA9.2.2.1
  have hgb := sG_b (rWF_0 _ hw).1
  have hs : sL (Std.DTreeMap.Internal.Impl.inner z k v wl wr : Rw) = 2 + sL wl + sL wr := by rw [sL_in, if_neg h9]
  obtain ⟨b1, b2⟩ := hA.2.1 h3
  have hc0 : ¬ μ (q + 1) i.toNat = 515 := by
    rw [show i.toNat = pp by omega, hA.1]
    have hk4 := hw.1
    by_cases c : k = 3
    · rw [hgb.2.1 c]; decide
    · rw [hgb.2.2 (by omega)]; decide
  clear hgb
  have hln := (rG_len hG).1
  refine TX6_tidyAll_7a hx hb hml hown hts hK hM hRf hRl hRc hRs μ q rm i tu dn hq hG ⟨⟨by omega, by omega⟩, by omega, by omega⟩ hc0 (fun tu2 i2 dn2 μ1 H locs ls q1 q2 hP hS hl => ?_) tu i dn μ H locs ls rfl ⟨rfl, rfl, rfl⟩ hP hS hl
  obtain ⟨e1, e2, e3⟩ := q2
  rw [q1] at hP
  clear q1 hc0
  refine ihl (pp + 1) tu2 i2 dn2 μ H locs ls hwl hAl b1 (by omega) (by omega) hG h7 ⟨by omega, by omega⟩ (cpT_in h3 hcp) hP hS hl (fun μ2 lx n2 tu3 i3 dn3 H locs ls g1 g2 g3 g4 g5 g6 g7 g8 hP hS hl => ?_)
  have hq1 := RTq_is (tAl_q wl lx n2 hwl hAl g1)
  obtain ⟨t1, t2, -, -, -, -, t7, -⟩ := hq1.1 hwl hAl
  have hln2 := (rG_len g4).1
  have gL := g2.2.1
  obtain ⟨r1, r2, r3⟩ := sgN_rs h3 hA (by omega) g2
  have hlx := t7 (hw.2.2.1 h3)
  obtain ⟨mt1, mt2⟩ := cl_mt g4 (rWF_r hw h3 t1 hlx) r3 h3 (by rw [sL_in, if_neg h9]; omega)
  have ei3 : i3.toNat = pp + 1 + sL lx := by omega
  refine TX6_tidyAll_7b hx hb hml hown hts hK hM hRf hRl hRc hRs μ2 q rm i3 tu3 dn3 (pp : Int) lx hq g4 ⟨⟨by omega, by omega⟩, by omega, by omega⟩ (by rw [ei3]; exact r2) g5 (by rw [ei3]; exact mt2) ⟨by omega, by omega⟩ t1 t2 (by rw [show ((pp : Int) + 1).toNat = pp + 1 by omega]; exact g2.1) (by omega) (cpT_st h3 hcp hq1 (by omega)) hqt (fun tu4 i4 dn4 μ3 H locs ls p1 p2 p3 p4 hP hS hl => ?_) tu3 i3 dn3 μ2 H locs ls rfl ⟨rfl, rfl, rfl⟩ hP hS hl
  clear r1 r2 r3 mt1 mt2
  obtain ⟨l2, ⟨n3, y1, y2, y3, y4⟩, y5⟩ := p3
  rw [show ((pp : Int) + 1).toNat = pp + 1 by omega] at y3
  have AB := sgN_tr g2 y3
  have hq2 := (tSt_TQ n3 lx l2 t1 t2 y1).1
  obtain ⟨s1, s2, -, -, -, -, s7, -⟩ := hq2.1 t1 t2
  obtain ⟨r4, r5, r6⟩ := sgN_rs h3 hA (by omega) AB
  have gL2 := AB.2.1
  have hln3 := (rG_len p2).1
  obtain ⟨mt3, -⟩ := cl_mt p2 (rWF_r hw h3 s1 (s7 hlx)) r6 h3 (by rw [sL_in, if_neg h9]; omega)
  obtain ⟨p4a, p4b⟩ := p4
  rw [Int.toNat_natCast, mt3] at p4a
  clear r5 r6 mt3
  refine ihr (pp + (2 + sL l2)) tu4 i4 dn4 μ3 H locs ls hw.2.2.2.2.2.2.2 hA9.2.2.2 r4 (by omega) (by omega) p2 y4 ⟨by omega, by omega⟩ (cpT_rs h3 hcp (TQ_trans hq1 hq2) (by omega)) hP hS hl (fun μ4 x n tu5 i5 dn5 H locs ls k1 k2 k3 k4 k5 k6 k7 k8 hP hS hl => ?_)
  exact kk μ4 (.inner 0 k (-1) l2 x) (n + n2 + n3) tu5 i5 dn5 H locs ls ⟨x, n, k1, Or.inr ⟨h3, lx, l2, n2, n3, g1, y1, y5, rfl, rfl⟩⟩ (sgN_gr h3 hA (by omega) AB k2) (fr_trans (fr_trans g3 p1) k3) k4 k5 ⟨by omega, by rw [hs]; omega⟩ (by rw [sL_in, if_neg h9]; omega) (by omega) hP hS hl
set_option maxHeartbeats 4000000 in
set_option maxRecDepth 100000 in
theorem all_walk {p : Program} {l : Launch} {e : Env} {R : Room} {s : State} {m : MethodId} {args : Array Value} {below : List Frame} {meth : Method} {c : Code} {cells slots : Nat} {Q : State → Prop} {dC : Nat → ClassId} {dI : Nat → Nat → Nat} {h0 : Nat} {cI cZ cII cIII : ClassId} (hx : p.tables.exec = Jvm.exec) (hb : c.code = cX6_tidyAll) (hml : c.maxLocals = 6) (hown : s.vm.findClass RX6 = some m.cls) (hts : ∀ w ∈ wsG, w.before args s = true) (hK : va_K (dC, dI) vwCl (sT cI cZ cII cIII) s) (hM : xM s) (hRf : 6 ≤ R.frames) (hRl : 152 ≤ R.locals) (hRc : cells ≤ R.cells) (hRs : slots ≤ R.slots) (q rm : Nat) (hq : rowB q rm) (hqt : q + 6 ≤ 38 ∨ 41 ≤ q) : ∀ (w : Rw), ∀ (pp : Nat) (tu i dn : Int) (μ : va_M) (H : Heap) (locs : List Loc) (ls : Array Slot), rWF w → rAd w → SA μ (q + 1) w pp → i = pp → (pp : Int) + sL w ≤ μ q 5 → rG μ q rm → μ q 7 = 0 → (0 ≤ tu ∧ tu + sL w ≤ 3000) → cpT w (μ q 5) rm → va_P (dC, dI) vwCl (fw (sE cI cZ cII cIII h0) h0 233 μ) H → va_S (fA h0 233 s.heap.size) s.heap H locs → lv_has ls 6 [(4, .int (iZ (tu))), (3, .int (iZ (i))), (2, .int (iZ (dn))), (1, .ref (h0 + q)), (0, .ref (h0 + 38))] → (∀ (μ2 : va_M) (x : Rw) (n : Nat) (tu2 i2 dn2 : Int) (H : Heap) (locs : List Loc) (ls : Array Slot), tAl w x n → sgN μ μ2 (q + 1) pp (μ q 5).toNat w x (μ2 q 5).toNat → fr (LTq q) μ μ2 → rG μ2 q rm → μ2 q 7 = 0 → (tu ≤ tu2 ∧ tu2 ≤ tu + sL w) → i2 = pp + sL x → dn2 = dn + n → va_P (dC, dI) vwCl (fw (sE cI cZ cII cIII h0) h0 233 μ2) H → va_S (fA h0 233 s.heap.size) s.heap H locs → lv_has ls 6 [(4, .int (iZ (tu2))), (3, .int (iZ (i2))), (2, .int (iZ (dn2))), (1, .ref (h0 + q)), (0, .ref (h0 + 38))] → W p l e R s m args below meth c H locs cells slots Q (F0 m 7 ls [])) → W p l e R s m args below meth c H locs cells slots Q (F0 m 7 ls []) := by
  intro w
  induction w with
  | leaf =>
    intro pp tu i dn μ H locs ls _ _ hA hi hlen hG h7 htu _ hP hS hl kk
    exact kk μ .leaf 0 tu i dn H locs ls ⟨rfl, rfl⟩ (sgN_rf hA) fr_rfl hG h7 ⟨Int.le_refl _, by show tu ≤ tu + ((0 : Nat) : Int); omega⟩ (by rw [hi]; exact (Int.add_zero _).symm) (Int.add_zero _).symm hP hS hl
  | inner z k v wl wr ihl ihr =>
    by_cases h9 : k < 3
    · exact all_leaf hx hb hml hown hts hK hM hRf hRl hRc hRs q rm hq hqt z k v wl wr h9 ihr
    · exact all_group hx hb hml hown hts hK hM hRf hRl hRc hRs q rm hq hqt z k v wl wr h9 ihl ihr
set_option maxHeartbeats 4000000 in
set_option maxRecDepth 100000 in
theorem LX6_tidyAll_7z {p : Program} {l : Launch} {e : Env} {R : Room} {s : State} {m : MethodId} {args : Array Value} {below : List Frame} {meth : Method} {c : Code} {cells slots : Nat} {Q : State → Prop} {dC : Nat → ClassId} {dI : Nat → Nat → Nat} {h0 : Nat} {cI cZ cII cIII : ClassId} (hx : p.tables.exec = Jvm.exec) (hb : c.code = cX6_tidyAll) (hml : c.maxLocals = 6) (hown : s.vm.findClass RX6 = some m.cls) (hts : ∀ w ∈ wsG, w.before args s = true) (hK : va_K (dC, dI) vwCl (sT cI cZ cII cIII) s) (hM : xM s) (hRf : 6 ≤ R.frames) (hRl : 152 ≤ R.locals) (hRc : cells ≤ R.cells) (hRs : slots ≤ R.slots) (μ0 : va_M) (q : Nat) (rm : Nat) (w : Rw) (hq : rowB q rm) (hG : rG μ0 q rm) (hqt : q + 6 ≤ 38 ∨ 41 ≤ q) (hw : rWF w) (hwd : rAd w) (hrS : rowS μ0 q w) (h7 : μ0 q 7 = 0) (hcapW : ∀ y : Rw, TQ w y → (sL y : Int) ≤ rm) (hexit77 : ∀ (tu : Int) (i : Int) (dn : Int) (μ : va_M) (H : Heap) (locs : List Loc) (ls : Array Slot), (fr (LTq q) μ0 μ) → (rG μ q rm) → (∃ (x : Rw) (n : Nat), tAl w x n ∧ dn = n ∧ sgN μ0 μ (q + 1) 0 (μ0 q 5).toNat w x (μ q 5).toNat) → (μ q 7 = 0) → va_P (dC, dI) vwCl (fw (sE cI cZ cII cIII h0) h0 233 μ) H → va_S (fA h0 233 s.heap.size) s.heap H locs → lv_has ls 6 [(2, .int (iZ (dn))), (1, .ref (h0 + q)), (0, .ref (h0 + 38))] → W p l e R s m args below meth c H locs cells slots Q (F0 m 77 ls [])) :
    ∀ (n9 : Nat) (tu : Int) (i : Int) (dn : Int) (μ : va_M) (H : Heap) (locs : List Loc) (ls : Array Slot), (μ = μ0) → (tu = 0 ∧ i = 0 ∧ dn = 0) → 1 < n9 → va_P (dC, dI) vwCl (fw (sE cI cZ cII cIII h0) h0 233 μ) H → va_S (fA h0 233 s.heap.size) s.heap H locs → lv_has ls 6 [(4, .int (iZ (tu))), (3, .int (iZ (i))), (2, .int (iZ (dn))), (1, .ref (h0 + q)), (0, .ref (h0 + 38))] → W p l e R s m args below meth c H locs cells slots Q (F0 m 7 ls []) := by
  intro n9 tu i dn μ H locs ls hm9_ hi hm9 hP hS hl
  subst hm9_
  obtain ⟨rfl, rfl, rfl⟩ := hi
  have hrm := rG_rm hq hG
  have hL := hrS.1.1
  refine all_walk hx hb hml hown hts hK hM hRf hRl hRc hRs q rm hq hqt w 0 0 0 0 μ H locs ls hw hwd hrS.2.1 rfl (by omega) hG h7 ⟨by omega, by omega⟩ (fun y hy => by have := hcapW y (RTq_is hy); omega) hP hS hl (fun μ2 x n tu2 i2 dn2 H locs ls g1 g2 g3 g4 g5 g6 g7 g8 hP hS hl => ?_)
  have gL := g2.2.1
  have hln2 := (rG_len g4).1
  exact TX6_tidyAll_7c hx hb hml hown hts hK hM hRf hRl hRc hRs μ2 q rm i2 tu2 dn2 hq g4 ⟨⟨by omega, by omega⟩, by omega⟩ (fun tu3 i3 dn3 μ3 H5 locs5 ls5 q1 q2 hP5 hS5 hl5 => hexit77 tu3 i3 dn3 μ3 H5 locs5 ls5 (by rw [q1]; exact g3) (by rw [q1]; exact g4) (by rw [q1]; exact ⟨x, n, g1, by omega, g2⟩) (by rw [q1]; exact g5) hP5 hS5 hl5) tu2 i2 dn2 μ2 H locs ls rfl ⟨rfl, rfl, rfl⟩ hP hS hl
set_option maxHeartbeats 4000000 in
set_option maxRecDepth 100000 in
theorem s_TtidyAll2 (l : Launch) (dC : Nat → ClassId) (dI : Nat → Nat → Nat) (cI cZ cII cIII : ClassId) (h0 sz : Nat) (μ : va_M) (q : Nat) (rm : Nat) (w : Rw) (hq : rowB q rm) (hG : rG μ q rm) (hqt : q + 6 ≤ 38 ∨ 41 ≤ q) (hw : rWF w) (hwd : rAd w) (hrS : rowS μ q w) (h7 : μ q 7 = 0) (hcapW : ∀ y : Rw, TQ w y → (sL y : Int) ≤ rm) : Met l yX6_tidyAll (Cond.code yX6_tidyAll cX6_tidyAll 6 (some .int) :: wsG) ({ frames := 6, cells := 0, slots := 0, locals := 152 } : Room) (va_Pc [.ref (h0 + 38), .ref (h0 + q)] (fun U => U.heap.size = sz ∧ va_P (dC, dI) vwCl (fw (sE cI cZ cII cIII h0) h0 233 μ) U.heap ∧ va_K (dC, dI) vwCl (sT cI cZ cII cIII) U ∧ xM U)) (va_Qi (fun (r9 : Int32) (u : va_M × Int) => r9 = iZ u.2 ∧ (fun (u : va_M) (r : Int) => fr (LTq q) μ u ∧ rG u q rm ∧ ∃ (w2 : Rw) (n : Nat), tdy w w2 n ∧ r = n ∧ rowS u q w2 ∧ u q 7 = 0) u.1 u.2) (fun u t => va_P (dC, dI) vwCl (fw (sE cI cZ cII cIII h0) h0 233 u.1) t.heap ∧ va_K (dC, dI) vwCl (sT cI cZ cII cIII) t) (fA h0 233 sz)) 0 0 (fA h0 233 sz) := by
  refine Met.ofW (cc := cX6_tidyAll) (maxL := 6) (ret := (some .int)) (by decide) rfl ?_
  intro p e s m args below meth c s₁ B hml hv
  obtain ⟨rfl, hsz, hP, hK, hM⟩ := hv
  have hx := B.exec
  have hb := B.bytes
  have hr := B.returns
  have hts : ∀ w ∈ wsG, w.before _ s = true := hG_of (atoms_spec (ws := (Cond.code yX6_tidyAll cX6_tidyAll 6 (some .int) :: wsG)) B.pre)
  have hown : s.vm.findClass RX6 = some m.cls := findClass_of_methodNamed B.named
  have hlocks := B.notSynchronized
  subst hsz
  have hS : va_S (fA h0 233 s.heap.size) s.heap s.heap [] := va_S.rf
  have hl := lv_entry ([.ref (h0 + 38), .ref (h0 + q)]) (n := 6) (Nat.le_of_ble_eq_true rfl)
  rw [lg_entry_eq]
  generalize (lg_sl ([.ref (h0 + 38), .ref (h0 + q)]) ++ List.replicate (6 - (lg_sl ([.ref (h0 + 38), .ref (h0 + q)])).length) Slot.unset).toArray = ls at hl ⊢
  have hl : lv_has ls 6 [(0, .ref (h0 + 38)), (1, .ref (h0 + q))] := hl
  have hqb := rowB_b hq
  refine lv_iconst (v := iZ 0) hx hb dX6_tidyAll_0 rfl ?_
  refine lv_istore_n (lv' := [(2, .int (iZ (0))), (0, .ref (h0 + 38)), (1, .ref (h0 + q))]) hx hb dX6_tidyAll_1 rfl hl (by decide) rfl (fun ls hl => ?_)
  refine lv_iconst (v := iZ 0) hx hb dX6_tidyAll_2 rfl ?_
  refine lv_istore_n (lv' := [(3, .int (iZ (0))), (2, .int (iZ (0))), (0, .ref (h0 + 38)), (1, .ref (h0 + q))]) hx hb dX6_tidyAll_3 rfl hl (by decide) rfl (fun ls hl => ?_)
  refine lv_iconst (v := iZ 0) hx hb dX6_tidyAll_4 rfl ?_
  refine lv_istore (lv' := [(4, .int (iZ (0))), (3, .int (iZ (0))), (2, .int (iZ (0))), (0, .ref (h0 + 38)), (1, .ref (h0 + q))]) hx hb dX6_tidyAll_5 hl (by decide) rfl (fun ls hl => ?_)
  refine LX6_tidyAll_7z hx hb hml hown hts hK hM (Nat.le_of_ble_eq_true rfl) (Nat.le_of_ble_eq_true rfl) (Nat.le_of_ble_eq_true rfl) (Nat.le_of_ble_eq_true rfl) (μ) (q) (rm) (w) (by assumption) (by assumption) (by assumption) (by exact hw) (by exact hwd) (by exact hrS) (by exact h7) (by exact hcapW) ?_ _ (0) (0) (0) μ s.heap [] ls (by rfl) (by exact ⟨rfl, rfl, rfl⟩) (Nat.lt_succ_self _) hP hS (lv_sub hl [0, 1, 2, 4, 3] rfl)
  · intro tu_1 i_1 dn_1 μ1_ H locs ls q1_1 q2_1 q3_1 q4_1 hP hS hl
    have hl : lv_has ls 6 [(2, .int (iZ (dn_1))), (1, .ref (h0 + q)), (0, .ref (h0 + 38))] := hl
    have Q1 := q1_1
    have Q2 := q2_1
    obtain ⟨x9_, n9_, y1_, y2_, y3_⟩ := q3_1
    have Q4 := q4_1
    have hrm := rG_rm hq Q2
    have QT := RTq_is (tAl_q w x9_ n9_ hw hwd y1_)
    obtain ⟨v1_, v2_, -⟩ := QT.1 hw hwd
    have hL9 := hrS.1.1
    have hLz := y3_.2.1
    refine lv_iload_n hx hb dX6_tidyAll_77 rfl (lv_at hl 0 rfl) ?_
    refine lv_aload_n hx hb dX6_tidyAll_78 rfl (lv_at hl 2 rfl) ?_
    refine lv_aload_n hx hb dX6_tidyAll_79 rfl (lv_at hl 1 rfl) ?_
    refine lv_iconst (v := iZ 0) hx hb dX6_tidyAll_80 rfl ?_
    refine lv_aload_n hx hb dX6_tidyAll_81 rfl (lv_at hl 1 rfl) ?_
    refine fz_get (D := (dC, dI)) (ci := 4) (v := .int (iZ (μ1_ q 5))) (C := RX4) (T := TX4) (N := 8) hx hb hts inG4 hown hK hP (k := q) (by omega) (F := (sRF h0 q)) (sE_rowO hq) rfl 5 (by decide) (hts _ k96) (fun _ h9 => h9) rfl dX6_tidyAll_82 ?_
    refine va_calli (va_runV (As := [.ref (h0 + q), .int (iZ (0)), .int (iZ (μ1_ q 5))]) (rest := [.int (iZ (dn_1))]) ⟨hx, hb, hml, hown, hts⟩ (s_TtidyRange2 l dC dI cI cZ cII cIII h0 H.size μ1_ (q) (rm) (0) (μ1_ q 5) (0) (x9_) (hq) (by exact Q2) (by exact hqt) (by exact rng_0 Q2) (by omega) (by exact v1_) (by exact v2_) (by exact y3_.1) (by omega) (by omega) (by exact Q4) (by
                intro y hy
                have h9 := hcapW y (TQ_trans QT hy)
                omega)) (cwV 3 hts (gV_G k429 k431 ks_yX6_tidyRange k6 k432) rfl rfl rfl (by decide +kernel) ⟨Nat.le_of_ble_eq_true rfl, Nat.le_of_ble_eq_true rfl⟩) ⟨fun a U g mk q => by obtain ⟨q0, q1, qP, qK, qM⟩ := q; exact ⟨q0, q1, qP, va_K.moved (u := U) (U := U.calling g mk a) (Vm.Alike.refl U.vm) qK, qM⟩, va_recv hK hP (ci := 6) (q0 := 38) rfl ((fw_get (by decide)).trans (by rw [sE_38])), fun U hU hW => ⟨rfl, by rw [hU], by rw [hU]; exact hP, va_K.moved hW.alike hK, xM_warm hW hM⟩⟩ rfl rfl hl.1 rfl (lv_room (Nat.le_of_ble_eq_true rfl)) dX6_tidyAll_85 ⟨Nat.le_of_ble_eq_true rfl, Nat.le_of_ble_eq_true rfl⟩) hS (fun q _ h => fA_le hS.1 q h) (fA_le hS.1) (fun r9 u9 t9 H1 locs ht9 hvm9 hw9 hB9 hz9 hk9 hS => ?_)
    obtain ⟨μz, rz⟩ := u9
    obtain ⟨hP, -⟩ := hB9
    rw [ht9] at hP
    generalize H1 = H at hP hS ⊢
    obtain ⟨e9, hw9⟩ := hw9
    have e9 : r9 = iZ rz := e9
    subst e9
    simp only at hP hw9
    have hμz := hw9; clear hw9
    obtain ⟨b2_, c2_, w2_, ⟨n2_, z1_, z2_, z3_, z4_⟩, z5_⟩ := hμz
    have hLy := z3_.2.1
    have hln4 := (rG_len c2_).1
    refine lv_iadd hx hb dX6_tidyAll_88 ?_
    refine lv_topi (fun x9 ex9 => ?_)
    obtain rfl : x9 = iZ (dn_1 + rz) := ex9.trans (iZ_add _ _)
    exact W.iret (v := iZ (dn_1 + rz)) hx hb hr (fun t9 ht9 hW9 => ⟨⟨iZ (dn_1 + rz), (μz, dn_1 + rz), rfl, ⟨rfl, (by
                dsimp only
                obtain ⟨u1_, -, -⟩ := (tSt_TQ n2_ x9_ w2_ v1_ v2_ z1_).1.1 v1_ v2_
                exact ⟨fr_trans Q1 b2_, c2_, w2_, n9_ + n2_, ⟨x9_, n9_, n2_, y1_, z1_, z5_, rfl⟩, by omega, rowS_of c2_ (rWF_0 _ u1_) z3_.1 (by omega), z4_⟩)⟩, by rw [ht9]; exact hP, va_K.moved hW9.alike hK⟩, hS.F ht9⟩) hS.2.2 dX6_tidyAll_89

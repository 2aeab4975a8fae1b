
/-! the tidier folds once: told whole -/
set_option maxHeartbeats 4000000 in
set_option maxRecDepth 100000 in
theorem LX6_foldOnce_24z {p : Program} {l : Launch} {e : Env} {R : Room} {s : State} {m : MethodId} {args : Array Value} {below : List Frame} {meth : Method} {c : Code} {cells slots : Nat} {Q : State → Prop} {dC : Nat → ClassId} {dI : Nat → Nat → Nat} {h0 : Nat} {cI cZ cII cIII : ClassId} (hx : p.tables.exec = Jvm.exec) (hb : c.code = cX6_foldOnce) (hml : c.maxLocals = 8) (hown : s.vm.findClass RX6 = some m.cls) (hts : ∀ w ∈ wsG, w.before args s = true) (hK : va_K (dC, dI) vwCl (sT cI cZ cII cIII) s) (hM : xM s) (hRf : 4 ≤ R.frames) (hRl : 97 ≤ R.locals) (hRc : cells ≤ R.cells) (hRs : slots ≤ R.slots) (μ0 : va_M) (q : Nat) (rm : Nat) (p1 : Int) (p2 : Int) (bh : Int) (sz : Int) (v : Rw) (hq : rowB q rm) (hG : rG μ0 q rm) (hrg : rng μ0 q p1 bh) (hp2 : p2 = μ0 q 5 - bh) (hit : itm (μ0 (q + 1)) μ0 p1 p2) (hv0 : rWF v) (hvA : SA μ0 (q + 1) v p1.toNat) (hvL : p2 = p1 + sL v) (hv1 : p2 ≤ μ0 q 5) (hit2 : μ0 38 2 = rI v ∧ (∀ k : Nat, k ≤ rI v → μ0 39 k = p1 + sO v k) ∧ ∀ k : Nat, k ≤ rI v → μ0 40 k = cFm v k) (hfo2 : fno v sz.toNat 0) (hexit110 : ∀ (fi : Int) (av : Int) (sg : Int) (μ : va_M) (H : Heap) (locs : List Loc) (ls : Array Slot), (μ = μ0) → (p1 ≤ av ∧ 1 ≤ sg ∧ av + sg * 2 ≤ p2) → (∀ t : Nat, (t : Int) < sg → sAl (μ0 (q + 1) (av.toNat + t)) (μ0 (q + 1) ((av + sg).toNat + t))) → (Dp (μ0 (q + 1)) av.toNat = Dp (μ0 (q + 1)) p1.toNat ∧ Dp (μ0 (q + 1)) (av + sg).toNat = Dp (μ0 (q + 1)) p1.toNat) → (fo1 v sz.toNat fi.toNat ∧ fno v sz.toNat fi.toNat ∧ av = p1 + sO v fi.toNat ∧ sg = sO v (fi.toNat + sz.toNat) - sO v fi.toNat ∧ 0 ≤ fi ∧ 1 ≤ sz) → va_P (dC, dI) vwCl (fw (sE cI cZ cII cIII h0) h0 233 μ) H → va_S (fA h0 233 s.heap.size) s.heap H locs → lv_has ls 8 [(7, .int (iZ (sg))), (6, .int (iZ (av))), (5, .int (iZ (fi))), (4, .int (iZ (sz))), (3, .int (iZ (p2))), (2, .int (iZ (p1))), (1, .ref (h0 + q)), (0, .ref (h0 + 38))] → W p l e R s m args below meth c H locs cells slots Q (F0 m 110 ls [])) (hexit144 : ∀ (fi : Int) (av : Int) (sg : Int) (μ : va_M) (H : Heap) (locs : List Loc) (ls : Array Slot), (μ = μ0) → (1 ≤ sz ∧ sz * 2 ≤ μ0 38 2) → (fno v sz.toNat fi.toNat ∧ μ0 38 2 < fi + sz * 2 ∧ 0 ≤ fi) → va_P (dC, dI) vwCl (fw (sE cI cZ cII cIII h0) h0 233 μ) H → va_S (fA h0 233 s.heap.size) s.heap H locs → lv_has ls 8 [(4, .int (iZ (sz))), (3, .int (iZ (p2))), (2, .int (iZ (p1))), (1, .ref (h0 + q)), (0, .ref (h0 + 38))] → W p l e R s m args below meth c H locs cells slots Q (F0 m 144 ls [])) :
    ∀ (n9 : Nat) (fi : Int) (av : Int) (sg : Int) (μ : va_M) (H : Heap) (locs : List Loc) (ls : Array Slot), (μ = μ0) → (1 ≤ sz ∧ sz * 2 ≤ μ0 38 2 ∧ 0 ≤ fi ∧ fi ≤ 1101) → (fno v sz.toNat fi.toNat) → (1102 - fi).toNat < n9 → va_P (dC, dI) vwCl (fw (sE cI cZ cII cIII h0) h0 233 μ) H → va_S (fA h0 233 s.heap.size) s.heap H locs → lv_has ls 8 [(5, .int (iZ (fi))), (4, .int (iZ (sz))), (3, .int (iZ (p2))), (2, .int (iZ (p1))), (1, .ref (h0 + q)), (0, .ref (h0 + 38))] → W p l e R s m args below meth c H locs cells slots Q (F0 m 24 ls []) := by
  intro n9
  induction n9 with
  | zero => intro fi av sg μ H locs ls hm9_ hz hfo hm9 hP hS hl; exact absurd hm9 (Nat.not_lt_zero _)
  | succ n9 ih =>
    intro fi av sg μ H locs ls hm9_ hz hfo hm9 hP hS hl
    subst hm9_
    have hit1 := hit.1
    have hrm := rG_rm hq hG
    have hqb := rowB_b hq
    have hr1 := hrg.1
    refine lv_iload hx hb dX6_foldOnce_24 (lv_at hl 0 rfl) ?_
    refine lv_iload hx hb dX6_foldOnce_26 (lv_at hl 1 rfl) ?_
    refine lv_iconst (v := iZ 2) hx hb dX6_foldOnce_28 rfl ?_
    refine lv_imul hx hb dX6_foldOnce_29 ?_
    refine lv_topi (fun x9 ex9 => ?_)
    obtain rfl : x9 = iZ (sz * 2) := ex9.trans (iZ_mul _ _)
    refine lv_iadd hx hb dX6_foldOnce_30 ?_
    refine lv_topi (fun x9 ex9 => ?_)
    obtain rfl : x9 = iZ (fi + (sz * 2)) := ex9.trans (iZ_add _ _)
    refine lv_aload_n hx hb dX6_foldOnce_31 rfl (lv_at hl 5 rfl) ?_
    refine fz_get (D := (dC, dI)) (ci := 6) (v := .int (iZ (μ 38 2))) (C := RX6) (T := TX6) (N := 6) hx hb hts inG6 hown hK hP (k := 38) (by decide) (F := (sF38 h0)) sE_38 rfl 2 (by decide) (hts _ k155) (fun _ h9 => h9) rfl dX6_foldOnce_32 ?_
    refine fz_icmp_gt (tgt := 144) (by constructor <;> omega) (by constructor <;> omega) hx hb dX6_foldOnce_35 (by decide) (fun c35_ => ?_) (fun c35_ => ?_)
    · exact hexit144 (fi) (av) (sg) μ H locs ls (by rfl) (by omega) (by exact ⟨hfo, by omega, by omega⟩) hP hS (lv_sub hl [1, 2, 3, 4, 5] rfl)
    · obtain ⟨t1_, t2_, t3_, t4_, t5_⟩ := hit
      have ta := t2_ (fi + sz).toNat (by omega)
      have tb := t2_ fi.toNat (by omega)
      have tc := t3_ (fi + sz).toNat (by omega) (by omega)
      have td := t3_ fi.toNat (by omega) (by omega)
      have te := t4_ fi.toNat (fi + sz).toNat (by omega) (by omega)
      refine lv_aload_n hx hb dX6_foldOnce_38 rfl (lv_at hl 5 rfl) ?_
      refine fz_get (D := (dC, dI)) (ci := 6) (v := .ref (h0 + 40)) (C := RX6) (T := TX6) (N := 6) hx hb hts inG6 hown hK hP (k := 38) (by decide) (F := (sF38 h0)) sE_38 rfl 1 (by decide) (hts _ k154) (fun _ h9 => h9) rfl dX6_foldOnce_39 ?_
      refine lv_iload hx hb dX6_foldOnce_42 (lv_at hl 0 rfl) ?_
      refine lv_iload hx hb dX6_foldOnce_44 (lv_at hl 1 rfl) ?_
      refine lv_iadd hx hb dX6_foldOnce_46 ?_
      refine lv_topi (fun x9 ex9 => ?_)
      obtain rfl : x9 = iZ (fi + sz) := ex9.trans (iZ_add _ _)
      refine fz_ld (k := 40) (n := 1101) hx hb hK hP 0 (by decide) sE_40 rfl ⟨by omega, by omega⟩ (by decide) dX6_foldOnce_47 ?_
      refine lv_aload_n hx hb dX6_foldOnce_48 rfl (lv_at hl 5 rfl) ?_
      refine fz_get (D := (dC, dI)) (ci := 6) (v := .ref (h0 + 40)) (C := RX6) (T := TX6) (N := 6) hx hb hts inG6 hown hK hP (k := 38) (by decide) (F := (sF38 h0)) sE_38 rfl 1 (by decide) (hts _ k154) (fun _ h9 => h9) rfl dX6_foldOnce_49 ?_
      refine lv_iload hx hb dX6_foldOnce_52 (lv_at hl 0 rfl) ?_
      refine fz_ld (k := 40) (n := 1101) hx hb hK hP 0 (by decide) sE_40 rfl ⟨by omega, by omega⟩ (by decide) dX6_foldOnce_54 ?_
      refine fz_icmp_le (tgt := 138) (by constructor <;> omega) (by constructor <;> omega) hx hb dX6_foldOnce_55 (by decide) (fun c55_ => ?_) (fun c55_ => ?_)
      · refine lv_iinc (v := iZ (fi + 1)) (lv' := [(5, .int (iZ (fi + 1))), (4, .int (iZ (sz))), (3, .int (iZ (p2))), (2, .int (iZ (p1))), (1, .ref (h0 + q)), (0, .ref (h0 + 38))]) hx hb dX6_foldOnce_138 hl (k := 0) rfl (iZ_add _ _) (by decide) rfl (fun ls hl => ?_)
        refine lv_goto (tgt := 24) hx hb dX6_foldOnce_141 (by decide) ?_
        exact ih (fi + 1) (av) (sg) μ H locs ls (by rfl) (by omega) (by
                        obtain ⟨i1_, i2_, i3_⟩ := hit2
                        have hz8 : (fi + sz).toNat = fi.toNat + sz.toNat := by omega
                        have a1_ := i2_ fi.toNat (by omega)
                        have a3_ : μ 39 (fi + sz).toNat = p1 + sO v (fi.toNat + sz.toNat) := by rw [hz8]; exact i2_ _ (by omega)
                        have c1_ := i3_ fi.toNat (by omega)
                        have c3_ : μ 40 (fi + sz).toNat = cFm v (fi.toNat + sz.toNat) := by rw [hz8]; exact i3_ _ (by omega)
                        have hmo := sO_mono v fi.toNat (fi.toNat + sz.toNat) (by omega)
                        have FL := fo_line (so := sz.toNat) (a := fi.toNat) hv0 hvA (by omega) (by omega)
                        rw [show (fi + 1).toNat = fi.toNat + 1 by clear FL; omega]
                        refine fno_a hfo (fun h9 => ?_)
                        obtain ⟨h6, h8, h7⟩ := FL.mp h9
                        clear FL
                        first
                          | omega
                          | (rcases hrq with ⟨g1, g2, g3⟩ | ⟨g1, g3⟩
                             · omega
                             · refine g3 ⟨⟨by omega, by omega, by omega, by omega⟩, fun t ht => ?_⟩
                               have h2 := h7 t (by omega)
                               rw [show (μ 39 fi.toNat).toNat = p1.toNat + sO v fi.toNat by omega, show (μ 39 fi.toNat + (μ 39 (fi + sz).toNat - μ 39 fi.toNat)).toNat = p1.toNat + sO v (fi.toNat + sz.toNat) by omega]
                               exact h2)) (by omega) hP hS (lv_sub hl [0, 1, 2, 3, 4, 5] rfl)
      · refine lv_aload_n hx hb dX6_foldOnce_58 rfl (lv_at hl 5 rfl) ?_
        refine fz_get (D := (dC, dI)) (ci := 6) (v := .ref (h0 + 39)) (C := RX6) (T := TX6) (N := 6) hx hb hts inG6 hown hK hP (k := 38) (by decide) (F := (sF38 h0)) sE_38 rfl 0 (by decide) (hts _ k153) (fun _ h9 => h9) rfl dX6_foldOnce_59 ?_
        refine lv_iload hx hb dX6_foldOnce_62 (lv_at hl 0 rfl) ?_
        refine fz_ld (k := 39) (n := 1101) hx hb hK hP 0 (by decide) sE_39 rfl ⟨by omega, by omega⟩ (by decide) dX6_foldOnce_64 ?_
        refine lv_istore (lv' := [(6, .int (iZ (μ 39 (fi).toNat))), (5, .int (iZ (fi))), (4, .int (iZ (sz))), (3, .int (iZ (p2))), (2, .int (iZ (p1))), (1, .ref (h0 + q)), (0, .ref (h0 + 38))]) hx hb dX6_foldOnce_65 hl (by decide) rfl (fun ls hl => ?_)
        refine lv_aload_n hx hb dX6_foldOnce_67 rfl (lv_at hl 6 rfl) ?_
        refine fz_get (D := (dC, dI)) (ci := 6) (v := .ref (h0 + 39)) (C := RX6) (T := TX6) (N := 6) hx hb hts inG6 hown hK hP (k := 38) (by decide) (F := (sF38 h0)) sE_38 rfl 0 (by decide) (hts _ k153) (fun _ h9 => h9) rfl dX6_foldOnce_68 ?_
        refine lv_iload hx hb dX6_foldOnce_71 (lv_at hl 1 rfl) ?_
        refine lv_iload hx hb dX6_foldOnce_73 (lv_at hl 2 rfl) ?_
        refine lv_iadd hx hb dX6_foldOnce_75 ?_
        refine lv_topi (fun x9 ex9 => ?_)
        obtain rfl : x9 = iZ (fi + sz) := ex9.trans (iZ_add _ _)
        refine fz_ld (k := 39) (n := 1101) hx hb hK hP 0 (by decide) sE_39 rfl ⟨by omega, by omega⟩ (by decide) dX6_foldOnce_76 ?_
        refine lv_iload hx hb dX6_foldOnce_77 (lv_at hl 0 rfl) ?_
        refine lv_isub hx hb dX6_foldOnce_79 ?_
        refine lv_topi (fun x9 ex9 => ?_)
        obtain rfl : x9 = iZ ((μ 39 (fi + sz).toNat) - (μ 39 (fi).toNat)) := ex9.trans (iZ_sub _ _)
        refine lv_istore (lv' := [(7, .int (iZ ((μ 39 (fi + sz).toNat) - (μ 39 (fi).toNat)))), (6, .int (iZ (μ 39 (fi).toNat))), (5, .int (iZ (fi))), (4, .int (iZ (sz))), (3, .int (iZ (p2))), (2, .int (iZ (p1))), (1, .ref (h0 + q)), (0, .ref (h0 + 38))]) hx hb dX6_foldOnce_80 hl (by decide) rfl (fun ls hl => ?_)
        refine lv_iload hx hb dX6_foldOnce_82 (lv_at hl 1 rfl) ?_
        refine lv_iload hx hb dX6_foldOnce_84 (lv_at hl 0 rfl) ?_
        refine lv_iconst (v := iZ 2) hx hb dX6_foldOnce_86 rfl ?_
        refine lv_imul hx hb dX6_foldOnce_87 ?_
        refine lv_topi (fun x9 ex9 => ?_)
        obtain rfl : x9 = iZ (((μ 39 (fi + sz).toNat) - (μ 39 (fi).toNat)) * 2) := ex9.trans (iZ_mul _ _)
        refine lv_iadd hx hb dX6_foldOnce_88 ?_
        refine lv_topi (fun x9 ex9 => ?_)
        obtain rfl : x9 = iZ ((μ 39 (fi).toNat) + (((μ 39 (fi + sz).toNat) - (μ 39 (fi).toNat)) * 2)) := ex9.trans (iZ_add _ _)
        refine lv_iload_n hx hb dX6_foldOnce_89 rfl (lv_at hl 4 rfl) ?_
        refine fz_icmp_gt (tgt := 138) (by constructor <;> omega) (by constructor <;> omega) hx hb dX6_foldOnce_90 (by decide) (fun c90_ => ?_) (fun c90_ => ?_)
        · refine lv_iinc (v := iZ (fi + 1)) (lv' := [(5, .int (iZ (fi + 1))), (7, .int (iZ ((μ 39 (fi + sz).toNat) - (μ 39 (fi).toNat)))), (6, .int (iZ (μ 39 (fi).toNat))), (4, .int (iZ (sz))), (3, .int (iZ (p2))), (2, .int (iZ (p1))), (1, .ref (h0 + q)), (0, .ref (h0 + 38))]) hx hb dX6_foldOnce_138 hl (k := 2) rfl (iZ_add _ _) (by decide) rfl (fun ls hl => ?_)
          refine lv_goto (tgt := 24) hx hb dX6_foldOnce_141 (by decide) ?_
          exact ih (fi + 1) (av) (sg) μ H locs ls (by rfl) (by omega) (by
                            obtain ⟨i1_, i2_, i3_⟩ := hit2
                            have hz8 : (fi + sz).toNat = fi.toNat + sz.toNat := by omega
                            have a1_ := i2_ fi.toNat (by omega)
                            have a3_ : μ 39 (fi + sz).toNat = p1 + sO v (fi.toNat + sz.toNat) := by rw [hz8]; exact i2_ _ (by omega)
                            have c1_ := i3_ fi.toNat (by omega)
                            have c3_ : μ 40 (fi + sz).toNat = cFm v (fi.toNat + sz.toNat) := by rw [hz8]; exact i3_ _ (by omega)
                            have hmo := sO_mono v fi.toNat (fi.toNat + sz.toNat) (by omega)
                            have FL := fo_line (so := sz.toNat) (a := fi.toNat) hv0 hvA (by omega) (by omega)
                            rw [show (fi + 1).toNat = fi.toNat + 1 by clear FL; omega]
                            refine fno_a hfo (fun h9 => ?_)
                            obtain ⟨h6, h8, h7⟩ := FL.mp h9
                            clear FL
                            first
                              | omega
                              | (rcases hrq with ⟨g1, g2, g3⟩ | ⟨g1, g3⟩
                                 · omega
                                 · refine g3 ⟨⟨by omega, by omega, by omega, by omega⟩, fun t ht => ?_⟩
                                   have h2 := h7 t (by omega)
                                   rw [show (μ 39 fi.toNat).toNat = p1.toNat + sO v fi.toNat by omega, show (μ 39 fi.toNat + (μ 39 (fi + sz).toNat - μ 39 fi.toNat)).toNat = p1.toNat + sO v (fi.toNat + sz.toNat) by omega]
                                   exact h2)) (by omega) hP hS (lv_sub hl [0, 3, 4, 5, 6, 7] rfl)
        · refine lv_aload_n hx hb dX6_foldOnce_93 rfl (lv_at hl 6 rfl) ?_
          refine lv_iload hx hb dX6_foldOnce_94 (lv_at hl 1 rfl) ?_
          refine lv_aload_n hx hb dX6_foldOnce_96 rfl (lv_at hl 6 rfl) ?_
          refine lv_iload hx hb dX6_foldOnce_97 (lv_at hl 1 rfl) ?_
          refine lv_iload hx hb dX6_foldOnce_99 (lv_at hl 0 rfl) ?_
          refine lv_iadd hx hb dX6_foldOnce_101 ?_
          refine lv_topi (fun x9 ex9 => ?_)
          obtain rfl : x9 = iZ ((μ 39 (fi).toNat) + ((μ 39 (fi + sz).toNat) - (μ 39 (fi).toNat))) := ex9.trans (iZ_add _ _)
          refine lv_iload hx hb dX6_foldOnce_102 (lv_at hl 0 rfl) ?_
          refine va_calli (va_runV (As := [.int (iZ (μ 39 (fi).toNat)), .ref (h0 + q), .int (iZ ((μ 39 (fi).toNat) + ((μ 39 (fi + sz).toNat) - (μ 39 (fi).toNat)))), .int (iZ ((μ 39 (fi + sz).toNat) - (μ 39 (fi).toNat)))]) (rest := []) ⟨hx, hb, hml, hown, hts⟩ (s_Rmatches l dC dI cI cZ cII cIII h0 H.size μ (q) (rm) (q) (rm) (μ 39 (fi).toNat) ((μ 39 (fi).toNat) + ((μ 39 (fi + sz).toNat) - (μ 39 (fi).toNat))) ((μ 39 (fi + sz).toNat) - (μ 39 (fi).toNat)) (hq) (hq) (by exact hG.1) (by exact hG.1) (by first | assumption | omega | exact ⟨by omega, by omega⟩) (by first | assumption | omega | exact ⟨by omega, by omega⟩) (by first | assumption | omega | exact ⟨by omega, by omega⟩) (by first | assumption | omega | exact ⟨by omega, by omega⟩) (by first | assumption | omega | exact ⟨by omega, by omega⟩) (by first | assumption | omega | exact ⟨by omega, by omega⟩)) (cwV 4 hts (gV_G k441 k442 k443 k3 k444) rfl rfl rfl (by decide +kernel) ⟨by show 2 + 1 ≤ _; omega, by show 8 + (6 + 11) + (35) ≤ _; omega⟩) ⟨fun a U g mk q => by obtain ⟨q0, q1, qP, qK, qM⟩ := q; exact ⟨q0, q1, qP, va_K.moved (u := U) (U := U.calling g mk a) (Vm.Alike.refl U.vm) qK, qM⟩, va_recv hK hP (ci := 4) (q0 := q) rfl ((fw_get (by omega)).trans (by rw [(sE_rowO hq)])), fun U hU hW => ⟨rfl, by rw [hU], by rw [hU]; exact hP, va_K.moved hW.alike hK, xM_warm hW hM⟩⟩ rfl rfl hl.1 rfl (lv_room (Nat.le_of_ble_eq_true rfl)) dX6_foldOnce_104 ⟨hRc, hRs⟩) hS (fun q _ h => fA_le hS.1 q h) (fA_le hS.1) (fun r9 u9 t9 H1 locs ht9 hvm9 hw9 hB9 hz9 hk9 hS => ?_)
          obtain ⟨μq, rq⟩ := u9
          obtain ⟨hP, -⟩ := hB9
          rw [ht9] at hP
          generalize H1 = H at hP hS ⊢
          obtain ⟨e9, hw9⟩ := hw9
          have e9 : r9 = iZ rq := e9
          subst e9
          simp only at hP hw9
          have hμq := hw9; clear hw9
          rw [hμq.1] at hP; have hμq := hμq.2
          have hrq := hμq
          have hr01 : rq = 0 ∨ rq = 1 := hrq.elim (fun h => Or.inr h.1) (fun h => Or.inl h.1)
          refine fz_if_eq (tgt := 138) (by constructor <;> omega) hx hb dX6_foldOnce_107 (by decide) (fun c107_ => ?_) (fun c107_ => ?_)
          · refine lv_iinc (v := iZ (fi + 1)) (lv' := [(5, .int (iZ (fi + 1))), (7, .int (iZ ((μ 39 (fi + sz).toNat) - (μ 39 (fi).toNat)))), (6, .int (iZ (μ 39 (fi).toNat))), (4, .int (iZ (sz))), (3, .int (iZ (p2))), (2, .int (iZ (p1))), (1, .ref (h0 + q)), (0, .ref (h0 + 38))]) hx hb dX6_foldOnce_138 hl (k := 2) rfl (iZ_add _ _) (by decide) rfl (fun ls hl => ?_)
            refine lv_goto (tgt := 24) hx hb dX6_foldOnce_141 (by decide) ?_
            exact ih (fi + 1) (av) (sg) μ H locs ls (by rfl) (by omega) (by
                                obtain ⟨i1_, i2_, i3_⟩ := hit2
                                have hz8 : (fi + sz).toNat = fi.toNat + sz.toNat := by omega
                                have a1_ := i2_ fi.toNat (by omega)
                                have a3_ : μ 39 (fi + sz).toNat = p1 + sO v (fi.toNat + sz.toNat) := by rw [hz8]; exact i2_ _ (by omega)
                                have c1_ := i3_ fi.toNat (by omega)
                                have c3_ : μ 40 (fi + sz).toNat = cFm v (fi.toNat + sz.toNat) := by rw [hz8]; exact i3_ _ (by omega)
                                have hmo := sO_mono v fi.toNat (fi.toNat + sz.toNat) (by omega)
                                have FL := fo_line (so := sz.toNat) (a := fi.toNat) hv0 hvA (by omega) (by omega)
                                rw [show (fi + 1).toNat = fi.toNat + 1 by clear FL; omega]
                                refine fno_a hfo (fun h9 => ?_)
                                obtain ⟨h6, h8, h7⟩ := FL.mp h9
                                clear FL
                                first
                                  | omega
                                  | (rcases hrq with ⟨g1, g2, g3⟩ | ⟨g1, g3⟩
                                     · omega
                                     · refine g3 ⟨⟨by omega, by omega, by omega, by omega⟩, fun t ht => ?_⟩
                                       have h2 := h7 t (by omega)
                                       rw [show (μ 39 fi.toNat).toNat = p1.toNat + sO v fi.toNat by omega, show (μ 39 fi.toNat + (μ 39 (fi + sz).toNat - μ 39 fi.toNat)).toNat = p1.toNat + sO v (fi.toNat + sz.toNat) by omega]
                                       exact h2)) (by omega) hP hS (lv_sub hl [0, 3, 4, 5, 6, 7] rfl)
          · have hmt := hrq.elim (fun h => h.2.2) (fun h => absurd h.1 (by omega))
            exact hexit110 (fi) (μ 39 (fi).toNat) ((μ 39 (fi + sz).toNat) - (μ 39 (fi).toNat)) μ H locs ls (by rfl) (by omega) (by exact hmt) (by exact ⟨td.2.2, by rw [show μ 39 fi.toNat + (μ 39 (fi + sz).toNat - μ 39 fi.toNat) = μ 39 (fi + sz).toNat by omega]; exact tc.2.2⟩) (by
                                obtain ⟨i1_, i2_, i3_⟩ := hit2
                                have hz8 : (fi + sz).toNat = fi.toNat + sz.toNat := by omega
                                have a1_ := i2_ fi.toNat (by omega)
                                have a3_ : μ 39 (fi + sz).toNat = p1 + sO v (fi.toNat + sz.toNat) := by rw [hz8]; exact i2_ _ (by omega)
                                have c1_ := i3_ fi.toNat (by omega)
                                have c3_ : μ 40 (fi + sz).toNat = cFm v (fi.toNat + sz.toNat) := by rw [hz8]; exact i3_ _ (by omega)
                                have hmo := sO_mono v fi.toNat (fi.toNat + sz.toNat) (by omega)
                                have FL := fo_line (so := sz.toNat) (a := fi.toNat) hv0 hvA (by omega) (by omega)
                                refine ⟨FL.mpr ⟨by clear FL; omega, by clear FL; omega, fun t ht => ?_⟩, hfo, a1_, by clear FL; omega, by clear FL; omega, by clear FL; omega⟩
                                clear FL
                                have h2 := hmt t (by omega)
                                rw [show (μ 39 fi.toNat).toNat = p1.toNat + sO v fi.toNat by omega, show (μ 39 fi.toNat + (μ 39 (fi + sz).toNat - μ 39 fi.toNat)).toNat = p1.toNat + sO v (fi.toNat + sz.toNat) by omega] at h2
                                exact h2) hP hS (lv_sub hl [0, 1, 2, 3, 4, 5, 6, 7] rfl)
set_option maxHeartbeats 4000000 in
set_option maxRecDepth 100000 in
theorem LX6_foldOnce_10z {p : Program} {l : Launch} {e : Env} {R : Room} {s : State} {m : MethodId} {args : Array Value} {below : List Frame} {meth : Method} {c : Code} {cells slots : Nat} {Q : State → Prop} {dC : Nat → ClassId} {dI : Nat → Nat → Nat} {h0 : Nat} {cI cZ cII cIII : ClassId} (hx : p.tables.exec = Jvm.exec) (hb : c.code = cX6_foldOnce) (hml : c.maxLocals = 8) (hown : s.vm.findClass RX6 = some m.cls) (hts : ∀ w ∈ wsG, w.before args s = true) (hK : va_K (dC, dI) vwCl (sT cI cZ cII cIII) s) (hM : xM s) (hRf : 4 ≤ R.frames) (hRl : 97 ≤ R.locals) (hRc : cells ≤ R.cells) (hRs : slots ≤ R.slots) (μ0 : va_M) (q : Nat) (rm : Nat) (p1 : Int) (p2 : Int) (bh : Int) (v : Rw) (hq : rowB q rm) (hG : rG μ0 q rm) (hrg : rng μ0 q p1 bh) (hp2 : p2 = μ0 q 5 - bh) (hit : itm (μ0 (q + 1)) μ0 p1 p2) (hv0 : rWF v) (hvA : SA μ0 (q + 1) v p1.toNat) (hvL : p2 = p1 + sL v) (hv1 : p2 ≤ μ0 q 5) (hit2 : μ0 38 2 = rI v ∧ (∀ k : Nat, k ≤ rI v → μ0 39 k = p1 + sO v k) ∧ ∀ k : Nat, k ≤ rI v → μ0 40 k = cFm v k) (hexit110 : ∀ (sz : Int) (fi : Int) (av : Int) (sg : Int) (μ : va_M) (H : Heap) (locs : List Loc) (ls : Array Slot), (μ = μ0) → (p1 ≤ av ∧ 1 ≤ sg ∧ av + sg * 2 ≤ p2) → (∀ t : Nat, (t : Int) < sg → sAl (μ0 (q + 1) (av.toNat + t)) (μ0 (q + 1) ((av + sg).toNat + t))) → (Dp (μ0 (q + 1)) av.toNat = Dp (μ0 (q + 1)) p1.toNat ∧ Dp (μ0 (q + 1)) (av + sg).toNat = Dp (μ0 (q + 1)) p1.toNat) → (fo1 v sz.toNat fi.toNat ∧ fno v sz.toNat fi.toNat ∧ av = p1 + sO v fi.toNat ∧ sg = sO v (fi.toNat + sz.toNat) - sO v fi.toNat ∧ 0 ≤ fi ∧ 1 ≤ sz) → va_P (dC, dI) vwCl (fw (sE cI cZ cII cIII h0) h0 233 μ) H → va_S (fA h0 233 s.heap.size) s.heap H locs → lv_has ls 8 [(7, .int (iZ (sg))), (6, .int (iZ (av))), (5, .int (iZ (fi))), (4, .int (iZ (sz))), (3, .int (iZ (p2))), (2, .int (iZ (p1))), (1, .ref (h0 + q)), (0, .ref (h0 + 38))] → W p l e R s m args below meth c H locs cells slots Q (F0 m 110 ls [])) (hexit150 : ∀ (sz : Int) (fi : Int) (av : Int) (sg : Int) (μ : va_M) (H : Heap) (locs : List Loc) (ls : Array Slot), (μ = μ0) → (fEnd v) → va_P (dC, dI) vwCl (fw (sE cI cZ cII cIII h0) h0 233 μ) H → va_S (fA h0 233 s.heap.size) s.heap H locs → lv_has ls 8 [] → W p l e R s m args below meth c H locs cells slots Q (F0 m 150 ls [])) :
    ∀ (n9 : Nat) (sz : Int) (fi : Int) (av : Int) (sg : Int) (μ : va_M) (H : Heap) (locs : List Loc) (ls : Array Slot), (μ = μ0) → (1 ≤ sz ∧ sz ≤ 1101) → (fno v sz.toNat 0) → (1102 - sz).toNat < n9 → va_P (dC, dI) vwCl (fw (sE cI cZ cII cIII h0) h0 233 μ) H → va_S (fA h0 233 s.heap.size) s.heap H locs → lv_has ls 8 [(4, .int (iZ (sz))), (3, .int (iZ (p2))), (2, .int (iZ (p1))), (1, .ref (h0 + q)), (0, .ref (h0 + 38))] → W p l e R s m args below meth c H locs cells slots Q (F0 m 10 ls []) := by
  intro n9
  induction n9 with
  | zero => intro sz fi av sg μ H locs ls hm9_ hz hfo2 hm9 hP hS hl; exact absurd hm9 (Nat.not_lt_zero _)
  | succ n9 ih =>
    intro sz fi av sg μ H locs ls hm9_ hz hfo2 hm9 hP hS hl
    subst hm9_
    have hit1 := hit.1
    refine lv_iload hx hb dX6_foldOnce_10 (lv_at hl 0 rfl) ?_
    refine lv_iconst (v := iZ 2) hx hb dX6_foldOnce_12 rfl ?_
    refine lv_imul hx hb dX6_foldOnce_13 ?_
    refine lv_topi (fun x9 ex9 => ?_)
    obtain rfl : x9 = iZ (sz * 2) := ex9.trans (iZ_mul _ _)
    refine lv_aload_n hx hb dX6_foldOnce_14 rfl (lv_at hl 4 rfl) ?_
    refine fz_get (D := (dC, dI)) (ci := 6) (v := .int (iZ (μ 38 2))) (C := RX6) (T := TX6) (N := 6) hx hb hts inG6 hown hK hP (k := 38) (by decide) (F := (sF38 h0)) sE_38 rfl 2 (by decide) (hts _ k155) (fun _ h9 => h9) rfl dX6_foldOnce_15 ?_
    refine fz_icmp_gt (tgt := 150) (by constructor <;> omega) (by constructor <;> omega) hx hb dX6_foldOnce_18 (by decide) (fun c18_ => ?_) (fun c18_ => ?_)
    · exact hexit150 (sz) (fi) (av) (sg) μ H locs ls (by rfl) (by
                    have i1_ := hit2.1
                    exact fno_end hfo2 (by omega)) hP hS (lv_sub hl [] rfl)
    · refine lv_iconst (v := iZ 0) hx hb dX6_foldOnce_21 rfl ?_
      refine lv_istore (lv' := [(5, .int (iZ (0))), (4, .int (iZ (sz))), (3, .int (iZ (p2))), (2, .int (iZ (p1))), (1, .ref (h0 + q)), (0, .ref (h0 + 38))]) hx hb dX6_foldOnce_22 hl (by decide) rfl (fun ls hl => ?_)
      refine LX6_foldOnce_24z hx hb hml hown hts hK hM hRf hRl hRc hRs (μ) (q) (rm) (p1) (p2) (bh) (sz) (v) (by assumption) (by assumption) (by assumption) (by assumption) (by exact hit) (by exact hv0) (by exact hvA) (by assumption) (by assumption) (by exact hit2) (by exact hfo2) ?_ ?_ _ (0) (0) (0) μ H locs ls (by rfl) (by omega) (by exact hfo2) (Nat.lt_succ_self _) hP hS (lv_sub hl [0, 1, 2, 3, 4, 5] rfl)
      · intro fi_1 av_1 sg_1 μ1_ H locs ls q1_1 q2_1 q5_1 q6_1 q9_1 hP hS hl
        have hl : lv_has ls 8 [(7, .int (iZ (sg_1))), (6, .int (iZ (av_1))), (5, .int (iZ (fi_1))), (4, .int (iZ (sz))), (3, .int (iZ (p2))), (2, .int (iZ (p1))), (1, .ref (h0 + q)), (0, .ref (h0 + 38))] := hl
        have hPn110 := hP
        have e_m := q1_1
        have e_b := q2_1
        have e_al := q5_1
        have e_d := q6_1
        have e_q := q9_1
        exact hexit110 (sz) (fi_1) (av_1) (sg_1) μ1_ H locs ls (by exact e_m) (by omega) (by exact e_al) (by exact e_d) (by exact e_q) hP hS (lv_sub hl [0, 1, 2, 3, 4, 5, 6, 7] rfl)
      · intro fi_2 av_2 sg_2 μ2_ H locs ls q7_2 q8_2 q10_2 hP hS hl
        have hl : lv_has ls 8 [(4, .int (iZ (sz))), (3, .int (iZ (p2))), (2, .int (iZ (p1))), (1, .ref (h0 + q)), (0, .ref (h0 + 38))] := hl
        have hPn144 := hP
        obtain rfl := q7_2
        have hP := hPn144
        have q88 := q8_2
        refine lv_iinc (v := iZ (sz + 1)) (lv' := [(4, .int (iZ (sz + 1))), (3, .int (iZ (p2))), (2, .int (iZ (p1))), (1, .ref (h0 + q)), (0, .ref (h0 + 38))]) hx hb dX6_foldOnce_144 hl (k := 0) rfl (iZ_add _ _) (by decide) rfl (fun ls hl => ?_)
        refine lv_goto (tgt := 10) hx hb dX6_foldOnce_147 (by decide) ?_
        exact ih (sz + 1) (fi) (av) (sg) μ2_ H locs ls (by rfl) (by omega) (by
                        have h10 := q10_2
                        have i1_ := hit2.1
                        rw [show (sz + 1).toNat = sz.toNat + 1 by omega]
                        exact fno_s h10.1 (by omega)) (by omega) hP hS (lv_sub hl [0, 1, 2, 3, 4] rfl)
set_option maxHeartbeats 4000000 in
set_option maxRecDepth 100000 in
theorem s_TfoldOnce2 (l : Launch) (dC : Nat → ClassId) (dI : Nat → Nat → Nat) (cI cZ cII cIII : ClassId) (h0 sz : Nat) (μ : va_M) (q : Nat) (rm : Nat) (p1 : Int) (p2 : Int) (bh : Int) (v : Rw) (hq : rowB q rm) (hG : rG μ q rm) (hqt : q + 6 ≤ 38 ∨ 41 ≤ q) (hrg : rng μ q p1 bh) (hp2 : p2 = μ q 5 - bh) (hv0 : rWF v) (hvA : SA μ (q + 1) v p1.toNat) (hvL : p2 = p1 + sL v) (hv1 : p2 ≤ μ q 5) (hrm9 : ∀ so a c : Nat, isFold v a so c → μ q 5 - sL v + sL (rput v a so c) ≤ rm) : Met l yX6_foldOnce (Cond.code yX6_foldOnce cX6_foldOnce 8 (some .boolean) :: wsG) ({ frames := 4, cells := 0, slots := 0, locals := 97 } : Room) (va_Pc [.ref (h0 + 38), .ref (h0 + q), .int (iZ (p1)), .int (iZ (p2))] (fun U => U.heap.size = sz ∧ va_P (dC, dI) vwCl (fw (sE cI cZ cII cIII h0) h0 233 μ) U.heap ∧ va_K (dC, dI) vwCl (sT cI cZ cII cIII) U ∧ xM U)) (va_Qi (fun (r9 : Int32) (u : va_M × Int) => r9 = iZ u.2 ∧ (fun (u : va_M) (r : Int) => (r = 0 ∨ r = 1) ∧ fr (LTq q) μ u ∧ rG u q rm ∧ rng u q p1 bh ∧ (r = 0 → u q 5 = μ q 5 ∧ fEnd v ∧ fr (fun x y => (x = 38 ∧ y = 2) ∨ x = 39 ∨ x = 40) μ u) ∧ (r = 1 → ∃ so a c : Nat, fst1 v so a c ∧ u 38 3 = so ∧ u 38 4 = a ∧ u 38 5 = c ∧ u q 7 = 0 ∧ SA u (q + 1) (rput v a so c) p1.toNat ∧ u q 5 = μ q 5 - sL v + sL (rput v a so c) ∧ (∀ j : Nat, j < p1.toNat → u (q + 1) j = μ (q + 1) j) ∧ ∀ t : Nat, p2 + t < μ q 5 → u (q + 1) ((u q 5 - (μ q 5 - p2)).toNat + t) = μ (q + 1) (p2.toNat + t))) u.1 u.2) (fun u t => va_P (dC, dI) vwCl (fw (sE cI cZ cII cIII h0) h0 233 u.1) t.heap ∧ va_K (dC, dI) vwCl (sT cI cZ cII cIII) t) (fA h0 233 sz)) 0 0 (fA h0 233 sz) := by
  refine Met.ofW (cc := cX6_foldOnce) (maxL := 8) (ret := (some .boolean)) (by decide) rfl ?_
  intro p e s m args below meth c s₁ B hml hv
  obtain ⟨rfl, hsz, hP, hK, hM⟩ := hv
  have hx := B.exec
  have hb := B.bytes
  have hr := B.returns
  have hts : ∀ w ∈ wsG, w.before _ s = true := hG_of (atoms_spec (ws := (Cond.code yX6_foldOnce cX6_foldOnce 8 (some .boolean) :: wsG)) B.pre)
  have hown : s.vm.findClass RX6 = some m.cls := findClass_of_methodNamed B.named
  have hlocks := B.notSynchronized
  subst hsz
  have hS : va_S (fA h0 233 s.heap.size) s.heap s.heap [] := va_S.rf
  have hl := lv_entry ([.ref (h0 + 38), .ref (h0 + q), .int (iZ (p1)), .int (iZ (p2))]) (n := 8) (Nat.le_of_ble_eq_true rfl)
  rw [lg_entry_eq]
  generalize (lg_sl ([.ref (h0 + 38), .ref (h0 + q), .int (iZ (p1)), .int (iZ (p2))]) ++ List.replicate (8 - (lg_sl ([.ref (h0 + 38), .ref (h0 + q), .int (iZ (p1)), .int (iZ (p2))])).length) Slot.unset).toArray = ls at hl ⊢
  have hl : lv_has ls 8 [(0, .ref (h0 + 38)), (1, .ref (h0 + q)), (2, .int (iZ (p1))), (3, .int (iZ (p2)))] := hl
  have hqb := rowB_b hq
  refine lv_aload_n hx hb dX6_foldOnce_0 rfl (lv_at hl 0 rfl) ?_
  refine lv_aload_n hx hb dX6_foldOnce_1 rfl (lv_at hl 1 rfl) ?_
  refine lv_iload_n hx hb dX6_foldOnce_2 rfl (lv_at hl 2 rfl) ?_
  refine lv_iload_n hx hb dX6_foldOnce_3 rfl (lv_at hl 3 rfl) ?_
  refine va_callv (va_runV (As := [.ref (h0 + q), .int (iZ (p1)), .int (iZ (p2))]) (rest := []) ⟨hx, hb, hml, hown, hts⟩ (s_TfindItems2 l dC dI cI cZ cII cIII h0 s.heap.size μ (q) (rm) (p1) (p2) (bh) (v) (hq) (by first | assumption | omega | exact ⟨by omega, by omega⟩) (by first | assumption | omega | exact ⟨by omega, by omega⟩) (by first | assumption | omega | exact ⟨by omega, by omega⟩) (by first | assumption | omega | exact ⟨by omega, by omega⟩) (by exact hv0) (by exact hvA) (by exact hvL) (by exact hv1)) (cwV 3 hts (gV_G k480 k482 ks_yX6_findItems k6 k483) rfl rfl rfl (by decide +kernel) ⟨Nat.le_of_ble_eq_true rfl, Nat.le_of_ble_eq_true rfl⟩) ⟨fun a U g mk q => by obtain ⟨q0, q1, qP, qK, qM⟩ := q; exact ⟨q0, q1, qP, va_K.moved (u := U) (U := U.calling g mk a) (Vm.Alike.refl U.vm) qK, qM⟩, va_recv hK hP (ci := 6) (q0 := 38) rfl ((fw_get (by decide)).trans (by rw [sE_38])), fun U hU hW => ⟨rfl, by rw [hU], by rw [hU]; exact hP, va_K.moved hW.alike hK, xM_warm hW hM⟩⟩ rfl rfl hl.1 rfl (lv_room (Nat.le_of_ble_eq_true rfl)) dX6_foldOnce_4 ⟨Nat.le_of_ble_eq_true rfl, Nat.le_of_ble_eq_true rfl⟩) hS (fun q _ h => fA_le hS.1 q h) (fA_le hS.1) (fun u9 t9 H1 locs ht9 hvm9 hw9 hB9 hz9 hk9 hS => ?_)
  obtain ⟨hP, -⟩ := hB9
  rw [ht9] at hP
  generalize H1 = H at hP hS ⊢
  obtain ⟨μ1, eμ1⟩ : ∃ x : va_M, x = u9 := ⟨_, rfl⟩
  rw [← eμ1] at hP hw9
  have hμ1 := hw9; clear hw9
  obtain ⟨it_, ff_, it2_⟩ := hμ1
  have hG1 : rG μ1 q rm := rG_fr hG (fun x y h8 h9 => ff_ _ _ (by omega))
  have hr_1 : rng μ1 q p1 bh := rng_fr hrg (ff_ _ _ (by omega)) (fun y => ff_ _ _ (by omega))
  have x5 : μ1 q 5 = μ q 5 := ff_ _ _ (by omega)
  have it1 : itm (μ1 (q + 1)) μ1 p1 p2 := by rw [show μ1 (q + 1) = μ (q + 1) from funext (fun y => ff_ _ _ (by omega))]; exact it_
  have hrm := rG_rm hq hG
  have hr1 := hrg.1
  have hv19 : SA μ1 (q + 1) v p1.toNat := SA_fr (fun y => ff_ _ _ (by omega)) v _ hvA
  refine lv_iconst (v := iZ 1) hx hb dX6_foldOnce_7 rfl ?_
  refine lv_istore (lv' := [(4, .int (iZ (1))), (0, .ref (h0 + 38)), (1, .ref (h0 + q)), (2, .int (iZ (p1))), (3, .int (iZ (p2)))]) hx hb dX6_foldOnce_8 hl (by decide) rfl (fun ls hl => ?_)
  refine LX6_foldOnce_10z hx hb hml hown hts hK hM (Nat.le_of_ble_eq_true rfl) (Nat.le_of_ble_eq_true rfl) (Nat.le_of_ble_eq_true rfl) (Nat.le_of_ble_eq_true rfl) (μ1) (q) (rm) (p1) (p2) (bh) (v) (by assumption) (by exact hG1) (by exact hr_1) (by omega) (by exact it1) (by exact hv0) (by exact hv19) (by exact hvL) (by omega) (by exact it2_) ?_ ?_ _ (1) (0) (0) (0) μ1 H locs ls (by rfl) (by omega) (by exact fno_1) (Nat.lt_succ_self _) hP hS (lv_sub hl [0, 4, 3, 2, 1] rfl)
  · intro sz_3 fi_3 av_3 sg_3 μ3_ H locs ls q1_3 q2_3 q5_3 q6_3 q9_3 hP hS hl
    have hl : lv_has ls 8 [(7, .int (iZ (sg_3))), (6, .int (iZ (av_3))), (5, .int (iZ (fi_3))), (4, .int (iZ (sz_3))), (3, .int (iZ (p2))), (2, .int (iZ (p1))), (1, .ref (h0 + q)), (0, .ref (h0 + 38))] := hl
    have hPn110 := hP
    have e_m := q1_3
    have e_b := q2_3
    have e_al := q5_3
    have e_d := q6_3
    have e_q := q9_3
    refine lv_aload_n hx hb dX6_foldOnce_110 rfl (lv_at hl 7 rfl) ?_
    refine lv_iload hx hb dX6_foldOnce_111 (lv_at hl 3 rfl) ?_
    refine fz_put (D := (dC, dI)) (ci := 6) (ty := .int) (z := sz_3) (C := RX6) (T := TX6) (N := 6) hx hb hts inG6 tyX6 tyX6_ok nmX6 hown hK hP fA_in hS (k := 38) (by decide) (F := (sF38 h0)) sE_38 rfl 3 (by decide) (hts _ k156) (fun _ h9 => h9) rfl (by decide +kernel) rfl rfl (fun _ => Nat.le_of_ble_eq_true rfl) (fun _ _ => rfl) dX6_foldOnce_113 (fun H locs hP hS => ?_)
    obtain ⟨μ4, eμ4⟩ : ∃ x : va_M, x = uz μ3_ 38 3 (sz_3) := ⟨_, rfl⟩
    rw [← eμ4] at hP
    refine lv_aload_n hx hb dX6_foldOnce_116 rfl (lv_at hl 7 rfl) ?_
    refine lv_iload hx hb dX6_foldOnce_117 (lv_at hl 2 rfl) ?_
    refine fz_put (D := (dC, dI)) (ci := 6) (ty := .int) (z := fi_3) (C := RX6) (T := TX6) (N := 6) hx hb hts inG6 tyX6 tyX6_ok nmX6 hown hK hP fA_in hS (k := 38) (by decide) (F := (sF38 h0)) sE_38 rfl 4 (by decide) (hts _ k158) (fun _ h9 => h9) rfl (by decide +kernel) rfl rfl (fun _ => Nat.le_of_ble_eq_true rfl) (fun _ _ => rfl) dX6_foldOnce_119 (fun H locs hP hS => ?_)
    obtain ⟨μ5, eμ5⟩ : ∃ x : va_M, x = uz μ4 38 4 (fi_3) := ⟨_, rfl⟩
    rw [← eμ5] at hP
    have E1 : ∀ y, μ5 (q + 1) y = μ1 (q + 1) y := fun y => by rw [eμ5, eμ4, uz_n (by omega), uz_n (by omega), e_m]
    have e_5 : μ5 q 5 = μ q 5 := by rw [eμ5, eμ4, uz_n (by omega), uz_n (by omega), e_m]; exact x5
    have e_G : rG μ5 q rm := rG_fr hG1 (fun x y h8 h9 => by rw [eμ5, eμ4, uz_n (by omega), uz_n (by omega), e_m])
    have e_r : rng μ5 q p1 bh := rng_fr hr_1 (by omega) E1
    have e_7 : μ5 q 7 = 0 := (rG_ov e_G).elim id (fun h => by omega)
    rw [← funext E1] at e_al e_d
    have F5 : fr (LTq q) μ μ5 := by
      rw [eμ5, eμ4]
      refine fr_uz (fr_uz ?_ (Or.inr (by omega))) (Or.inr (by omega))
      rw [e_m]
      exact fr_mono ff_ (fun x y h => Or.inr (by omega))
    have F3 : μ5 38 3 = sz_3 ∧ μ5 38 4 = fi_3 := ⟨by rw [eμ5, eμ4, uz_n (by omega), uz_s], by rw [eμ5, eμ4, uz_s]⟩
    refine lv_aload_n hx hb dX6_foldOnce_122 rfl (lv_at hl 7 rfl) ?_
    refine lv_aload_n hx hb dX6_foldOnce_123 rfl (lv_at hl 7 rfl) ?_
    refine lv_aload_n hx hb dX6_foldOnce_124 rfl (lv_at hl 6 rfl) ?_
    refine lv_iload hx hb dX6_foldOnce_125 (lv_at hl 1 rfl) ?_
    refine lv_iload hx hb dX6_foldOnce_127 (lv_at hl 0 rfl) ?_
    refine lv_iload_n hx hb dX6_foldOnce_129 rfl (lv_at hl 4 rfl) ?_
    refine va_calli (va_runV (As := [.ref (h0 + q), .int (iZ (av_3)), .int (iZ (sg_3)), .int (iZ (p2))]) (rest := [.ref (h0 + 38)]) ⟨hx, hb, hml, hown, hts⟩ (s_TfoldAt2 l dC dI cI cZ cII cIII h0 H.size μ5 (q) (rm) (av_3) (sg_3) (p1) (p2) (bh) (v) ((fi_3).toNat) ((sz_3).toNat) (hq) (by exact e_G) (by exact e_7) (by exact e_r) (by omega) (by exact e_b) (by exact e_al) (by exact e_d) (by exact hv0) (by exact SA_fr (fun y => (E1 y).trans (ff_ _ _ (by omega))) v _ hvA) (by exact hvL) (by omega) (by exact e_q.1) (by exact e_q.2.2.1) (by exact e_q.2.2.2.1) (by
                intro c hc
                rw [e_5]
                exact hrm9 _ _ c hc)) (cwV 4 hts (gV_G k487 k489 ks_yX6_foldAt k6 k490) rfl rfl rfl (by decide +kernel) ⟨Nat.le_of_ble_eq_true rfl, Nat.le_of_ble_eq_true rfl⟩) ⟨fun a U g mk q => by obtain ⟨q0, q1, qP, qK, qM⟩ := q; exact ⟨q0, q1, qP, va_K.moved (u := U) (U := U.calling g mk a) (Vm.Alike.refl U.vm) qK, qM⟩, va_recv hK hP (ci := 6) (q0 := 38) rfl ((fw_get (by decide)).trans (by rw [sE_38])), fun U hU hW => ⟨rfl, by rw [hU], by rw [hU]; exact hP, va_K.moved hW.alike hK, xM_warm hW hM⟩⟩ rfl rfl hl.1 rfl (lv_room (Nat.le_of_ble_eq_true rfl)) dX6_foldOnce_130 ⟨Nat.le_of_ble_eq_true rfl, Nat.le_of_ble_eq_true rfl⟩) hS (fun q _ h => fA_le hS.1 q h) (fA_le hS.1) (fun r9 u9 t9 H1 locs ht9 hvm9 hw9 hB9 hz9 hk9 hS => ?_)
    obtain ⟨μf, rfa⟩ := u9
    obtain ⟨hP, -⟩ := hB9
    rw [ht9] at hP
    generalize H1 = H at hP hS ⊢
    obtain ⟨e9, hw9⟩ := hw9
    have e9 : r9 = iZ rfa := e9
    subst e9
    simp only at hP hw9
    have hμf := hw9; clear hw9
    obtain ⟨k1_, k2_, k3_, cc_, kr_, kf_, km_, k7_, kS_, k5_, kp_, ks_⟩ := hμf
    refine fz_put (D := (dC, dI)) (ci := 6) (ty := .int) (z := rfa) (C := RX6) (T := TX6) (N := 6) hx hb hts inG6 tyX6 tyX6_ok nmX6 hown hK hP fA_in hS (k := 38) (by decide) (F := (sF38 h0)) sE_38 rfl 5 (by decide) (hts _ k160) (fun _ h9 => h9) rfl (by decide +kernel) rfl rfl (fun _ => Nat.le_of_ble_eq_true rfl) (fun _ _ => rfl) dX6_foldOnce_133 (fun H locs hP hS => ?_)
    obtain ⟨μ6, eμ6⟩ : ∃ x : va_M, x = uz μf 38 5 (rfa) := ⟨_, rfl⟩
    rw [← eμ6] at hP
    refine lv_iconst (v := iZ 1) hx hb dX6_foldOnce_136 rfl ?_
    exact W.zret (v := iZ (1)) hx hb hr (by decide +kernel) (fun t9 ht9 hW9 => ⟨⟨iZ (1), (μ6, 1), rfl, ⟨rfl, (by
                dsimp only
                refine ⟨Or.inr rfl, ?_, rG_fr k1_ (fun x y h8 h9 => by rw [eμ6, uz_n (by omega)]), rng_fr k3_ (by rw [eμ6, uz_n (by omega)]) (fun y => by rw [eμ6, uz_n (by omega)]), fun h => absurd h (by decide), fun _ => ⟨(sz_3).toNat, (fi_3).toNat, cc_, ⟨kf_, e_q.2.1, km_⟩, ?_, ?_, ?_, by rw [eμ6, uz_n (by omega)]; exact k7_, SA_fr (fun y => by rw [eμ6, uz_n (by omega)]) _ _ kS_, by rw [eμ6, uz_n (by omega), k5_, e_5], fun j hj => ?_, fun t ht => ?_⟩⟩
                rotate_left
                · rw [eμ6, uz_n (by omega), k2_ _ _ (by unfold LEq; omega), F3.1]; have := e_q.2.2.2.2.2; omega
                · rw [eμ6, uz_n (by omega), k2_ _ _ (by unfold LEq; omega), F3.2]; have := e_q.2.2.2.2.1; omega
                · rw [eμ6, uz_s]; exact kr_
                · rw [eμ6, uz_n (by omega), kp_ j hj, E1]; exact ff_ _ _ (by omega)
                · have h9 := ks_ t (by omega)
                  rw [e_5] at h9
                  rw [eμ6, uz_n (by omega), uz_n (by omega), h9, E1]; exact ff_ _ _ (by omega)
                rw [eμ6]
                exact fr_uz (fr_trans F5 (fr_mono k2_ (fun x y h => Or.inl h))) (Or.inr (by omega)))⟩, by rw [ht9]; exact hP, va_K.moved hW9.alike hK⟩, hS.F ht9⟩) hS.2.2 dX6_foldOnce_137
  · intro sz_7 fi_7 av_7 sg_7 μ7_ H locs ls q3_7 q11_7 hP hS hl
    have hl : lv_has ls 8 [] := hl
    have hPn150 := hP
    have e_end := q11_7
    obtain rfl := q3_7
    have hP := hPn150
    refine lv_iconst (v := iZ 0) hx hb dX6_foldOnce_150 rfl ?_
    exact W.zret (v := iZ (0)) hx hb hr (by decide +kernel) (fun t9 ht9 hW9 => ⟨⟨iZ (0), (μ7_, 0), rfl, ⟨rfl, (by
                dsimp only
                exact ⟨Or.inl rfl, fr_mono ff_ (fun x y h => Or.inr (by omega)), hG1, hr_1, fun _ => ⟨x5, e_end, ff_⟩, fun h => absurd h (by decide)⟩)⟩, by rw [ht9]; exact hP, va_K.moved hW9.alike hK⟩, hS.F ht9⟩) hS.2.2 dX6_foldOnce_151

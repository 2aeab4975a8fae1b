
/-! a leaf is folded, a page comes: told whole -/
theorem rowT_Pre (T : List Tk) : ∀ S : List Int, (∀ (k : Nat) (e : Int), S[k]? = some e → 0 ≤ e ∧ e < 200) → rWF (rowT T S) ∧ rPg (rowT T S) ∧ rT (rowT T S) = S.length ∧ rI (rowT T S) = S.length
  | [], _ => ⟨trivial, trivial, rfl, rfl⟩
  | e :: S, h => by
    have h0 := h 0 e rfl
    have hk := kdT_lt T e
    obtain ⟨i1, i2, i3, i4⟩ := rowT_Pre T S (fun k x hk => h (k + 1) x hk)
    refine ⟨⟨by show_term (have zq0 : True := trivial; omega), fun _ => rfl, fun h9 => by show_term (have zq1 : True := trivial; omega), by show_term (have zq2 : True := trivial; omega), by show_term (have zq3 : True := trivial; omega), fun _ => h0.1, trivial, i1⟩, ⟨by show_term (have zq4 : True := trivial; omega), trivial, i2⟩, ?_, ?_⟩
    · rw [rowT, rT_in, if_pos (by show_term (have zq5 : True := trivial; omega)), i3, List.length_cons]; show_term (have zq6 : True := trivial; omega)
    · rw [rowT, rI_in, i4, List.length_cons]; show_term (have zq7 : True := trivial; omega)
/-- the leaf's row, its folds -/
def fldC (u : va_M) (b : Nat) (w0 : Rw) (l : List (Nat × Nat × Nat)) (w : Rw) : Prop := fSt l w0 w ∧ fEnd w ∧ rowS u (b + 3) w ∧ u (b + 3) 7 = 0 ∧ u b 5 = l.length ∧ ∀ (k : Nat) (s : Nat × Nat × Nat), l[k]? = some s → u (b + 9) (3 * k) = s.1 ∧ u (b + 9) (3 * k + 1) = s.2.1 ∧ u (b + 9) (3 * k + 2) = s.2.2
set_option maxHeartbeats 4000000 in
set_option maxRecDepth 100000 in
theorem LX1_foldAll_7z {p : Program} {l : Launch} {e : Env} {R : Room} {s : State} {m : MethodId} {args : Array Value} {below : List Frame} {meth : Method} {c : Code} {cells slots : Nat} {Q : State → Prop} {dC : Nat → ClassId} {dI : Nat → Nat → Nat} {h0 : Nat} {cI cZ cII cIII : ClassId} (hx : p.tables.exec = Jvm.exec) (hb : c.code = cX1_foldAll) (hml : c.maxLocals = 3) (hown : s.vm.findClass RX1 = some m.cls) (hts : ∀ w ∈ wsG, w.before args s = true) (hK : va_K (dC, dI) vwCl (sT cI cZ cII cIII) s) (hM : xM s) (hRf : 5 ≤ R.frames) (hRl : 124 ≤ R.locals) (hRc : cells ≤ R.cells) (hRs : slots ≤ R.slots) (μ0 : va_M) (b : Nat) (ii : Nat) (w0 : Rw) (hb9 : b = 113 + ii * 15) (hi9 : ii < 8) (hexit97 : ∀ (i : Int) (v : Rw) (lq : List (Nat × Nat × Nat)) (μ : va_M) (H : Heap) (locs : List Loc) (ls : Array Slot), (fr (FoB b) μ0 μ) → (rG μ (b + 3) 96) → (0 ≤ μ b 5 ∧ μ b 5 ≤ 60) → (∃ (v : Rw) (lq : List (Nat × Nat × Nat)), rPre v ∧ 1 ≤ rI v ∧ SA μ (b + 3 + 1) v 0 ∧ μ (b + 3) 5 = sL v ∧ μ (b + 3) 7 = 0 ∧ fSt lq w0 v ∧ fEnd v ∧ μ b 5 = lq.length ∧ ∀ (k : Nat) (s : Nat × Nat × Nat), lq[k]? = some s → μ (b + 9) (3 * k) = s.1 ∧ μ (b + 9) (3 * k + 1) = s.2.1 ∧ μ (b + 9) (3 * k + 2) = s.2.2) → va_P (dC, dI) vwCl (fw (sE cI cZ cII cIII h0) h0 233 μ) H → va_S (fA h0 233 s.heap.size) s.heap H locs → lv_has ls 3 [] → W p l e R s m args below meth c H locs cells slots Q (F0 m 97 ls [])) :
    ∀ (n9 : Nat) (i : Int) (v : Rw) (lq : List (Nat × Nat × Nat)) (μ : va_M) (H : Heap) (locs : List Loc) (ls : Array Slot), (0 ≤ i ∧ i ≤ 60) → (fr (FoB b) μ0 μ) → (rG μ (b + 3) 96) → (μ b 5 = i) → (rPre v ∧ 1 ≤ rI v ∧ i + rI v ≤ 60) → (SA μ (b + 3 + 1) v 0 ∧ μ (b + 3) 5 = sL v ∧ μ (b + 3) 7 = 0) → (fSt lq w0 v ∧ i = lq.length) → (∀ (k : Nat) (s : Nat × Nat × Nat), lq[k]? = some s → μ (b + 9) (3 * k) = s.1 ∧ μ (b + 9) (3 * k + 1) = s.2.1 ∧ μ (b + 9) (3 * k + 2) = s.2.2) → (60 - i).toNat < n9 → va_P (dC, dI) vwCl (fw (sE cI cZ cII cIII h0) h0 233 μ) H → va_S (fA h0 233 s.heap.size) s.heap H locs → lv_has ls 3 [(2, .int (iZ (i))), (1, .ref (h0 + 38)), (0, .ref (h0 + b))] → W p l e R s m args below meth c H locs cells slots Q (F0 m 7 ls []) := by
  intro n9
  induction n9 with
  | zero => intro i v lq μ H locs ls hi hf hG h5 hpr hvA hst hrs hm9 hP hS hl; exact absurd hm9 (Nat.not_lt_zero _)
  | succ n9 ih =>
    intro i v lq μ H locs ls hi hf hG h5 hpr hvA hst hrs hm9 hP hS hl
    have hlb := lf_b hb9 hi9
    have hln := rG_len hG
    have hpb := rPre_b hpr.1
    have hsl := rWF_sL v hpr.1.1
    have hrT := hpr.1.2.2
    refine lv_iload_n hx hb dX1_foldAll_7 rfl (lv_at hl 0 rfl) ?_
    refine lv_bipush (v := iZ 60) hx hb dX1_foldAll_8 rfl ?_
    refine fz_icmp_ge (tgt := 97) (by constructor <;> show_term (have zq8 : True := trivial; omega)) (by decide) hx hb dX1_foldAll_10 (by decide) (fun c10_ => ?_) (fun c10_ => ?_)
    · exact hexit97 (i) (v) (lq) μ H locs ls (by exact hf) (by exact hG) (by show_term (have zq9 : True := trivial; omega)) (by show_term (have zq10 : True := trivial; omega)) hP hS (lv_sub hl [] rfl)
    · refine lv_aload_n hx hb dX1_foldAll_13 rfl (lv_at hl 1 rfl) ?_
      refine lv_aload_n hx hb dX1_foldAll_14 rfl (lv_at hl 2 rfl) ?_
      refine fz_get (D := (dC, dI)) (ci := 1) (v := .ref (h0 + (b + 3))) (C := RX1) (T := TX1) (N := 8) hx hb hts inG1 hown hK hP (k := b) (by show_term (have zq11 : True := trivial; omega)) (F := (sLF h0 b)) (sE_leafO hi9 hb9) rfl 3 (by decide) (hts _ k302) (fun _ h9 => h9) rfl dX1_foldAll_15 ?_
      refine lv_iconst (v := iZ 0) hx hb dX1_foldAll_18 rfl ?_
      refine lv_aload_n hx hb dX1_foldAll_19 rfl (lv_at hl 2 rfl) ?_
      refine fz_get (D := (dC, dI)) (ci := 1) (v := .ref (h0 + (b + 3))) (C := RX1) (T := TX1) (N := 8) hx hb hts inG1 hown hK hP (k := b) (by show_term (have zq12 : True := trivial; omega)) (F := (sLF h0 b)) (sE_leafO hi9 hb9) rfl 3 (by decide) (hts _ k302) (fun _ h9 => h9) rfl dX1_foldAll_20 ?_
      refine fz_get (D := (dC, dI)) (ci := 4) (v := .int (iZ (μ (b + 3) 5))) (C := RX4) (T := TX4) (N := 8) hx hb hts inG4 hown hK hP (k := (b + 3)) (by show_term (have zq13 : True := trivial; omega)) (F := (sRF h0 (b + 3))) (sE_rowO (rowB_L hi9 hb9)) rfl 5 (by decide) (hts _ k97) (fun _ h9 => h9) rfl dX1_foldAll_23 ?_
      refine va_calli (va_runV (As := [.ref (h0 + (b + 3)), .int (iZ (0)), .int (iZ (μ (b + 3) 5))]) (rest := []) ⟨hx, hb, hml, hown, hts⟩ (s_TfoldOnce2 l dC dI cI cZ cII cIII h0 H.size μ ((b + 3)) (96) (0) (μ (b + 3) 5) (0) (v) ((rowB_L hi9 hb9)) (by exact hG) (by show_term (have zq14 : True := trivial; omega)) (by exact rng_0 hG) (by show_term (have zq15 : True := trivial; omega)) (by exact hpr.1.1) (by exact hvA.1) (by have := hvA.2.1; show_term (have zq16 : True := trivial; omega)) (by show_term (have zq17 : True := trivial; omega)) (by
                    intro so a c hc
                    have h1 := rPre_put hpr.1 hc
                    have h2 := (rWF_sL _ h1.1).1
                    have h3 := h1.2.2
                    have h4 := hvA.2.1
                    show_term (have zq18 : True := trivial; omega))) (cwV 3 hts (gV_G k726 k477 k478 k6 k479) rfl rfl rfl (by decide +kernel) ⟨by show 4 + 1 ≤ _; show_term (have zq19 : True := trivial; omega), by show 8 + (8 + 11) + (97) ≤ _; show_term (have zq20 : True := trivial; omega)⟩) ⟨fun a U g mk q => by obtain ⟨q0, q1, qP, qK, qM⟩ := q; exact ⟨q0, q1, qP, va_K.moved (u := U) (U := U.calling g mk a) (Vm.Alike.refl U.vm) qK, qM⟩, va_recv hK hP (ci := 6) (q0 := 38) rfl ((fw_get (by decide)).trans (by rw [sE_38])), fun U hU hW => ⟨rfl, by rw [hU], by rw [hU]; exact hP, va_K.moved hW.alike hK, xM_warm hW hM⟩⟩ rfl rfl hl.1 rfl (lv_room (Nat.le_of_ble_eq_true rfl)) dX1_foldAll_26 ⟨hRc, hRs⟩) hS (fun q _ h => fA_le hS.1 q h) (fA_le hS.1) (fun r9 u9 t9 H1 locs ht9 hvm9 hw9 hB9 hz9 hk9 hS => ?_)
      obtain ⟨μf, rf⟩ := u9
      obtain ⟨hP, -⟩ := hB9
      rw [ht9] at hP
      generalize H1 = H at hP hS ⊢
      obtain ⟨e9, hw9⟩ := hw9
      have e9 : r9 = iZ rf := e9
      subst e9
      simp only at hP hw9
      have hμf := hw9; clear hw9
      obtain ⟨a1_, b1_, c1_, d1_, e1_, g1_⟩ := hμf
      have G1_ := hid_i g1_
      clear g1_
      have E1_ := hid_i e1_
      clear e1_
      have f5_ : μf b 5 = i := by rw [b1_ _ _ (by unfold LTq LEq; show_term (have zq21 : True := trivial; omega))]; exact h5
      have F1 : fr (FoB b) μ0 μf := fr_trans hf (fr_mono b1_ (fun x y h => Or.inr (Or.inr h)))
      refine fz_if_eq (tgt := 97) (by constructor <;> show_term (have zq22 : True := trivial; omega)) hx hb dX1_foldAll_29 (by decide) (fun c29_ => ?_) (fun c29_ => ?_)
      · exact hexit97 (i) (v) (lq) μf H locs ls (by exact F1) (by exact c1_) (by show_term (have zq23 : True := trivial; omega)) (by
                        refine ⟨v, lq, hpr.1, hpr.2.1, ?_, ?_, ?_, hst.1, (hid_e E1_ (by show_term (have zq24 : True := trivial; omega))).2.1, ?_, fun k s hk => ?_⟩
                        all_goals have ff := (hid_e E1_ (by show_term (have zq25 : True := trivial; omega))).2.2
                        · exact SA_fr (fun y => ff _ _ (by show_term (have zq26 : True := trivial; omega))) v 0 hvA.1
                        · rw [ff _ _ (by show_term (have zq27 : True := trivial; omega))]; exact hvA.2.1
                        · rw [ff _ _ (by show_term (have zq28 : True := trivial; omega))]; exact hvA.2.2
                        · rw [f5_]; exact hst.2
                        · rw [ff _ _ (by show_term (have zq29 : True := trivial; omega)), ff _ _ (by show_term (have zq30 : True := trivial; omega)), ff _ _ (by show_term (have zq31 : True := trivial; omega))]; exact hrs k s hk) hP hS (lv_sub hl [] rfl)
      · obtain ⟨so_, a_, c_, s1_, v3_, v4_, v5_, s7_, sA_, s5_, -, -⟩ := hid_e G1_ (by show_term (have zq32 : True := trivial; omega))
        have hput := rPre_put hpr.1 s1_.1
        have hIl := rput_Il s1_.1
        have hIr := rput_I s1_.1
        have hI1 : 1 ≤ rI (rput v a_ so_ c_) := by unfold rput; rw [rpre_I _ _ _ (by have := s1_.1.2.2.1; show_term (have zq33 : True := trivial; omega)), rI_in]; show_term (have zq34 : True := trivial; omega)
        have x9 : ∀ y, μf (b + 9) y = μ (b + 9) y := fun y => b1_ _ _ (by unfold LTq LEq; show_term (have zq35 : True := trivial; omega))
        refine lv_aload_n hx hb dX1_foldAll_32 rfl (lv_at hl 2 rfl) ?_
        refine fz_get (D := (dC, dI)) (ci := 1) (v := .ref (h0 + (b + 9))) (C := RX1) (T := TX1) (N := 8) hx hb hts inG1 hown hK hP (k := b) (by show_term (have zq36 : True := trivial; omega)) (F := (sLF h0 b)) (sE_leafO hi9 hb9) rfl 4 (by decide) (hts _ k305) (fun _ h9 => h9) rfl dX1_foldAll_33 ?_
        refine lv_aload_n hx hb dX1_foldAll_36 rfl (lv_at hl 2 rfl) ?_
        refine fz_get (D := (dC, dI)) (ci := 1) (v := .int (iZ (μf b 5))) (C := RX1) (T := TX1) (N := 8) hx hb hts inG1 hown hK hP (k := b) (by show_term (have zq37 : True := trivial; omega)) (F := (sLF h0 b)) (sE_leafO hi9 hb9) rfl 5 (by decide) (hts _ k307) (fun _ h9 => h9) rfl dX1_foldAll_37 ?_
        refine lv_iconst (v := iZ 3) hx hb dX1_foldAll_40 rfl ?_
        refine lv_imul hx hb dX1_foldAll_41 ?_
        refine lv_topi (fun x9 ex9 => ?_)
        obtain rfl : x9 = iZ ((μf b 5) * 3) := ex9.trans (iZ_mul _ _)
        refine lv_aload_n hx hb dX1_foldAll_42 rfl (lv_at hl 1 rfl) ?_
        refine fz_get (D := (dC, dI)) (ci := 6) (v := .int (iZ (μf 38 3))) (C := RX6) (T := TX6) (N := 6) hx hb hts inG6 hown hK hP (k := 38) (by decide) (F := (sF38 h0)) sE_38 rfl 3 (by decide) (hts _ k157) (fun _ h9 => h9) rfl dX1_foldAll_43 ?_
        refine fz_st (k := (b + 9)) (n := 180) (i := ((μf b 5) * 3)) (z := (μf 38 3)) hx hb hK hP fA_in hS 0 (by show_term (have zq38 : True := trivial; omega)) (sE_leafA 9 180 hi9 hb9 (by decide)) rfl ⟨by show_term (have zq39 : True := trivial; omega), by show_term (have zq40 : True := trivial; omega)⟩ (by decide) dX1_foldAll_46 (fun H locs hP hS => ?_)
        obtain ⟨μ1, eμ1⟩ : ∃ x : va_M, x = uz μf (b + 9) ((μf b 5) * 3).toNat (μf 38 3) := ⟨_, rfl⟩
        rw [← eμ1] at hP
        refine lv_aload_n hx hb dX1_foldAll_47 rfl (lv_at hl 2 rfl) ?_
        refine fz_get (D := (dC, dI)) (ci := 1) (v := .ref (h0 + (b + 9))) (C := RX1) (T := TX1) (N := 8) hx hb hts inG1 hown hK hP (k := b) (by show_term (have zq41 : True := trivial; omega)) (F := (sLF h0 b)) (sE_leafO hi9 hb9) rfl 4 (by decide) (hts _ k305) (fun _ h9 => h9) rfl dX1_foldAll_48 ?_
        refine lv_aload_n hx hb dX1_foldAll_51 rfl (lv_at hl 2 rfl) ?_
        refine fz_get (D := (dC, dI)) (ci := 1) (v := .int (iZ (μ1 b 5))) (C := RX1) (T := TX1) (N := 8) hx hb hts inG1 hown hK hP (k := b) (by show_term (have zq42 : True := trivial; omega)) (F := (sLF h0 b)) (sE_leafO hi9 hb9) rfl 5 (by decide) (hts _ k307) (fun _ h9 => h9) rfl dX1_foldAll_52 ?_
        rw [show μ1 b 5 = μf b 5 from by rw [eμ1, uz_n (by show_term (have zq43 : True := trivial; omega))]]
        refine lv_iconst (v := iZ 3) hx hb dX1_foldAll_55 rfl ?_
        refine lv_imul hx hb dX1_foldAll_56 ?_
        refine lv_topi (fun x9 ex9 => ?_)
        obtain rfl : x9 = iZ ((μf b 5) * 3) := ex9.trans (iZ_mul _ _)
        refine lv_iconst (v := iZ 1) hx hb dX1_foldAll_57 rfl ?_
        refine lv_iadd hx hb dX1_foldAll_58 ?_
        refine lv_topi (fun x9 ex9 => ?_)
        obtain rfl : x9 = iZ (((μf b 5) * 3) + 1) := ex9.trans (iZ_add _ _)
        refine lv_aload_n hx hb dX1_foldAll_59 rfl (lv_at hl 1 rfl) ?_
        refine fz_get (D := (dC, dI)) (ci := 6) (v := .int (iZ (μ1 38 4))) (C := RX6) (T := TX6) (N := 6) hx hb hts inG6 hown hK hP (k := 38) (by decide) (F := (sF38 h0)) sE_38 rfl 4 (by decide) (hts _ k159) (fun _ h9 => h9) rfl dX1_foldAll_60 ?_
        refine fz_st (k := (b + 9)) (n := 180) (i := (((μf b 5) * 3) + 1)) (z := (μ1 38 4)) hx hb hK hP fA_in hS 0 (by show_term (have zq44 : True := trivial; omega)) (sE_leafA 9 180 hi9 hb9 (by decide)) rfl ⟨by show_term (have zq45 : True := trivial; omega), by show_term (have zq46 : True := trivial; omega)⟩ (by decide) dX1_foldAll_63 (fun H locs hP hS => ?_)
        obtain ⟨μ2, eμ2⟩ : ∃ x : va_M, x = uz μ1 (b + 9) (((μf b 5) * 3) + 1).toNat (μ1 38 4) := ⟨_, rfl⟩
        rw [← eμ2] at hP
        refine lv_aload_n hx hb dX1_foldAll_64 rfl (lv_at hl 2 rfl) ?_
        refine fz_get (D := (dC, dI)) (ci := 1) (v := .ref (h0 + (b + 9))) (C := RX1) (T := TX1) (N := 8) hx hb hts inG1 hown hK hP (k := b) (by show_term (have zq47 : True := trivial; omega)) (F := (sLF h0 b)) (sE_leafO hi9 hb9) rfl 4 (by decide) (hts _ k305) (fun _ h9 => h9) rfl dX1_foldAll_65 ?_
        refine lv_aload_n hx hb dX1_foldAll_68 rfl (lv_at hl 2 rfl) ?_
        refine fz_get (D := (dC, dI)) (ci := 1) (v := .int (iZ (μ2 b 5))) (C := RX1) (T := TX1) (N := 8) hx hb hts inG1 hown hK hP (k := b) (by show_term (have zq48 : True := trivial; omega)) (F := (sLF h0 b)) (sE_leafO hi9 hb9) rfl 5 (by decide) (hts _ k307) (fun _ h9 => h9) rfl dX1_foldAll_69 ?_
        rw [show μ2 b 5 = μf b 5 from by rw [eμ2, uz_n (by show_term (have zq49 : True := trivial; omega)), eμ1, uz_n (by show_term (have zq50 : True := trivial; omega))]]
        refine lv_iconst (v := iZ 3) hx hb dX1_foldAll_72 rfl ?_
        refine lv_imul hx hb dX1_foldAll_73 ?_
        refine lv_topi (fun x9 ex9 => ?_)
        obtain rfl : x9 = iZ ((μf b 5) * 3) := ex9.trans (iZ_mul _ _)
        refine lv_iconst (v := iZ 2) hx hb dX1_foldAll_74 rfl ?_
        refine lv_iadd hx hb dX1_foldAll_75 ?_
        refine lv_topi (fun x9 ex9 => ?_)
        obtain rfl : x9 = iZ (((μf b 5) * 3) + 2) := ex9.trans (iZ_add _ _)
        refine lv_aload_n hx hb dX1_foldAll_76 rfl (lv_at hl 1 rfl) ?_
        refine fz_get (D := (dC, dI)) (ci := 6) (v := .int (iZ (μ2 38 5))) (C := RX6) (T := TX6) (N := 6) hx hb hts inG6 hown hK hP (k := 38) (by decide) (F := (sF38 h0)) sE_38 rfl 5 (by decide) (hts _ k161) (fun _ h9 => h9) rfl dX1_foldAll_77 ?_
        refine fz_st (k := (b + 9)) (n := 180) (i := (((μf b 5) * 3) + 2)) (z := (μ2 38 5)) hx hb hK hP fA_in hS 0 (by show_term (have zq51 : True := trivial; omega)) (sE_leafA 9 180 hi9 hb9 (by decide)) rfl ⟨by show_term (have zq52 : True := trivial; omega), by show_term (have zq53 : True := trivial; omega)⟩ (by decide) dX1_foldAll_80 (fun H locs hP hS => ?_)
        obtain ⟨μ3, eμ3⟩ : ∃ x : va_M, x = uz μ2 (b + 9) (((μf b 5) * 3) + 2).toNat (μ2 38 5) := ⟨_, rfl⟩
        rw [← eμ3] at hP
        refine lv_aload_n hx hb dX1_foldAll_81 rfl (lv_at hl 2 rfl) ?_
        refine lv_dup hx hb dX1_foldAll_82 rfl ?_
        refine fz_get (D := (dC, dI)) (ci := 1) (v := .int (iZ (μ3 b 5))) (C := RX1) (T := TX1) (N := 8) hx hb hts inG1 hown hK hP (k := b) (by show_term (have zq54 : True := trivial; omega)) (F := (sLF h0 b)) (sE_leafO hi9 hb9) rfl 5 (by decide) (hts _ k307) (fun _ h9 => h9) rfl dX1_foldAll_83 ?_
        rw [show μ3 b 5 = μf b 5 from by rw [eμ3, uz_n (by show_term (have zq55 : True := trivial; omega)), eμ2, uz_n (by show_term (have zq56 : True := trivial; omega)), eμ1, uz_n (by show_term (have zq57 : True := trivial; omega))]]
        refine lv_iconst (v := iZ 1) hx hb dX1_foldAll_86 rfl ?_
        refine lv_iadd hx hb dX1_foldAll_87 ?_
        refine lv_topi (fun x9 ex9 => ?_)
        obtain rfl : x9 = iZ ((μf b 5) + 1) := ex9.trans (iZ_add _ _)
        refine fz_put (D := (dC, dI)) (ci := 1) (ty := .int) (z := ((μf b 5) + 1)) (C := RX1) (T := TX1) (N := 8) hx hb hts inG1 tyX1 tyX1_ok nmX1 hown hK hP fA_in hS (k := b) (by show_term (have zq58 : True := trivial; omega)) (F := (sLF h0 b)) (sE_leafO hi9 hb9) rfl 5 (by decide) (hts _ k307) (fun _ h9 => h9) rfl (by decide +kernel) rfl rfl (fun _ => Nat.le_of_ble_eq_true rfl) (fun _ _ => rfl) dX1_foldAll_88 (fun H locs hP hS => ?_)
        obtain ⟨μ4, eμ4⟩ : ∃ x : va_M, x = uz μ3 b 5 ((μf b 5) + 1) := ⟨_, rfl⟩
        rw [← eμ4] at hP
        refine lv_iinc (v := iZ (i + 1)) (lv' := [(2, .int (iZ (i + 1))), (1, .ref (h0 + 38)), (0, .ref (h0 + b))]) hx hb dX1_foldAll_91 hl (k := 0) rfl (iZ_add _ _) (by decide) rfl (fun ls hl => ?_)
        refine lv_goto (tgt := 7) hx hb dX1_foldAll_94 (by decide) ?_
        exact ih (i + 1) (rput v a_ so_ c_) (lq ++ [(so_, a_, c_)]) μ4 H locs ls (by show_term (have zq59 : True := trivial; omega)) (by rw [eμ4, eμ3, eμ2, eμ1]; exact fr_uz (fr_uz (fr_uz (fr_uz F1 (Or.inr (Or.inl rfl))) (Or.inr (Or.inl rfl))) (Or.inr (Or.inl rfl))) (Or.inl ⟨rfl, rfl⟩)) (by exact rG_fr c1_ (fun x y h8 h9 => by rw [eμ4, eμ3, eμ2, eμ1, uz_n (by show_term (have zq60 : True := trivial; omega)), uz_n (by show_term (have zq61 : True := trivial; omega)), uz_n (by show_term (have zq62 : True := trivial; omega)), uz_n (by show_term (have zq63 : True := trivial; omega))])) (by rw [eμ4, eμ3, eμ2, eμ1, uz_s]; show_term (have zq64 : True := trivial; omega)) (by exact ⟨hput, hI1, by show_term (have zq65 : True := trivial; omega)⟩) (by exact ⟨SA_fr (fun y => by rw [eμ4, eμ3, eμ2, eμ1, uz_n (by show_term (have zq66 : True := trivial; omega)), uz_n (by show_term (have zq67 : True := trivial; omega)), uz_n (by show_term (have zq68 : True := trivial; omega)), uz_n (by show_term (have zq69 : True := trivial; omega))]) _ _ sA_, by rw [eμ4, eμ3, eμ2, eμ1, uz_n (by show_term (have zq70 : True := trivial; omega)), uz_n (by show_term (have zq71 : True := trivial; omega)), uz_n (by show_term (have zq72 : True := trivial; omega)), uz_n (by show_term (have zq73 : True := trivial; omega))]; have := hvA.2.1; show_term (have zq74 : True := trivial; omega), by rw [eμ4, eμ3, eμ2, eμ1, uz_n (by show_term (have zq75 : True := trivial; omega)), uz_n (by show_term (have zq76 : True := trivial; omega)), uz_n (by show_term (have zq77 : True := trivial; omega)), uz_n (by show_term (have zq78 : True := trivial; omega))]; exact s7_⟩) (by exact ⟨fSt_app lq w0 v (so_, a_, c_) hst.1 s1_, by rw [List.length_append, List.length_singleton]; have := hst.2; show_term (have zq79 : True := trivial; omega)⟩) (by
                        intro k s hk
                        have hil := hst.2
                        by_cases h9 : k < lq.length
                        · rw [List.getElem?_append_left h9] at hk
                          obtain ⟨b1, b2, b3⟩ := hrs k s hk
                          refine ⟨?_, ?_, ?_⟩
                          all_goals rw [eμ4, eμ3, eμ2, eμ1, uz_n (by show_term (have zq80 : True := trivial; omega)), uz_n (by show_term (have zq81 : True := trivial; omega)), uz_n (by show_term (have zq82 : True := trivial; omega)), uz_n (by show_term (have zq83 : True := trivial; omega)), x9]
                          · exact b1
                          · exact b2
                          · exact b3
                        · have h8 := (List.getElem?_eq_some_iff.mp hk).1
                          rw [List.length_append, List.length_singleton] at h8
                          obtain rfl : k = lq.length := by show_term (have zq84 : True := trivial; omega)
                          rw [List.getElem?_append_right (Nat.le_refl _), Nat.sub_self] at hk
                          cases hk
                          refine ⟨?_, ?_, ?_⟩
                          · rw [eμ4, eμ3, eμ2, eμ1, uz_n (by show_term (have zq85 : True := trivial; omega)), uz_n (by show_term (have zq86 : True := trivial; omega)), uz_n (by show_term (have zq87 : True := trivial; omega)), show 3 * lq.length = (μf b 5 * 3).toNat by show_term (have zq88 : True := trivial; omega), uz_s]; exact v3_
                          · rw [eμ4, eμ3, eμ2, eμ1, uz_n (by show_term (have zq89 : True := trivial; omega)), uz_n (by show_term (have zq90 : True := trivial; omega)), show 3 * lq.length + 1 = (μf b 5 * 3 + 1).toNat by show_term (have zq91 : True := trivial; omega), uz_s, uz_n (by show_term (have zq92 : True := trivial; omega))]; exact v4_
                          · rw [eμ4, eμ3, eμ2, eμ1, uz_n (by show_term (have zq93 : True := trivial; omega)), show 3 * lq.length + 2 = (μf b 5 * 3 + 2).toNat by show_term (have zq94 : True := trivial; omega), uz_s, uz_n (by show_term (have zq95 : True := trivial; omega)), uz_n (by show_term (have zq96 : True := trivial; omega))]; exact v5_) (by show_term (have zq97 : True := trivial; omega)) hP hS (lv_sub hl [0, 1, 2] rfl)
set_option maxHeartbeats 4000000 in
set_option maxRecDepth 100000 in
theorem s_FfoldAll2 (l : Launch) (dC : Nat → ClassId) (dI : Nat → Nat → Nat) (cI cZ cII cIII : ClassId) (h0 sz : Nat) (μ : va_M) (b : Nat) (ii : Nat) (w0 : Rw) (hb9 : b = 113 + ii * 15) (hi9 : ii < 8) (hG : rG μ (b + 3) 96) (hw0 : rPre w0 ∧ 1 ≤ rI w0) (hwA : rowS μ (b + 3) w0) (h70 : μ (b + 3) 7 = 0) : Met l yX1_foldAll (Cond.code yX1_foldAll cX1_foldAll 3 none :: wsG) ({ frames := 5, cells := 0, slots := 0, locals := 124 } : Room) (va_Pc [.ref (h0 + b), .ref (h0 + 38)] (fun U => U.heap.size = sz ∧ va_P (dC, dI) vwCl (fw (sE cI cZ cII cIII h0) h0 233 μ) U.heap ∧ va_K (dC, dI) vwCl (sT cI cZ cII cIII) U ∧ xM U)) (va_Qv (fun (u : va_M) => fr (FoB b) μ u ∧ rG u (b + 3) 96 ∧ (0 ≤ u b 5 ∧ u b 5 ≤ 60) ∧ ∃ (lq : List (Nat × Nat × Nat)) (w : Rw), fldC u b w0 lq w) (fun u t => va_P (dC, dI) vwCl (fw (sE cI cZ cII cIII h0) h0 233 u) t.heap ∧ va_K (dC, dI) vwCl (sT cI cZ cII cIII) t) (fA h0 233 sz)) 0 0 (fA h0 233 sz) := by
  refine Met.ofW (cc := cX1_foldAll) (maxL := 3) (ret := none) (by decide) rfl ?_
  intro p e s m args below meth c s₁ B hml hv
  obtain ⟨rfl, hsz, hP, hK, hM⟩ := hv
  have hx := B.exec
  have hb := B.bytes
  have hr := B.returns
  have hts : ∀ w ∈ wsG, w.before _ s = true := hG_of (atoms_spec (ws := (Cond.code yX1_foldAll cX1_foldAll 3 none :: wsG)) B.pre)
  have hown : s.vm.findClass RX1 = some m.cls := findClass_of_methodNamed B.named
  have hlocks := B.notSynchronized
  subst hsz
  have hS : va_S (fA h0 233 s.heap.size) s.heap s.heap [] := va_S.rf
  have hl := lv_entry ([.ref (h0 + b), .ref (h0 + 38)]) (n := 3) (Nat.le_of_ble_eq_true rfl)
  rw [lg_entry_eq]
  generalize (lg_sl ([.ref (h0 + b), .ref (h0 + 38)]) ++ List.replicate (3 - (lg_sl ([.ref (h0 + b), .ref (h0 + 38)])).length) Slot.unset).toArray = ls at hl ⊢
  have hl : lv_has ls 3 [(0, .ref (h0 + b)), (1, .ref (h0 + 38))] := hl
  have hlb := lf_b hb9 hi9
  refine lv_aload_n hx hb dX1_foldAll_0 rfl (lv_at hl 0 rfl) ?_
  refine lv_iconst (v := iZ 0) hx hb dX1_foldAll_1 rfl ?_
  refine fz_put (D := (dC, dI)) (ci := 1) (ty := .int) (z := 0) (C := RX1) (T := TX1) (N := 8) hx hb hts inG1 tyX1 tyX1_ok nmX1 hown hK hP fA_in hS (k := b) (by show_term (have zq98 : True := trivial; omega)) (F := (sLF h0 b)) (sE_leafO hi9 hb9) rfl 5 (by decide) (hts _ k307) (fun _ h9 => h9) rfl (by decide +kernel) rfl rfl (fun _ => Nat.le_of_ble_eq_true rfl) (fun _ _ => rfl) dX1_foldAll_2 (fun H locs hP hS => ?_)
  obtain ⟨μ5, eμ5⟩ : ∃ x : va_M, x = uz μ b 5 (0) := ⟨_, rfl⟩
  rw [← eμ5] at hP
  refine lv_iconst (v := iZ 0) hx hb dX1_foldAll_5 rfl ?_
  refine lv_istore_n (lv' := [(2, .int (iZ (0))), (0, .ref (h0 + b)), (1, .ref (h0 + 38))]) hx hb dX1_foldAll_6 rfl hl (by decide) rfl (fun ls hl => ?_)
  refine LX1_foldAll_7z hx hb hml hown hts hK hM (Nat.le_of_ble_eq_true rfl) (Nat.le_of_ble_eq_true rfl) (Nat.le_of_ble_eq_true rfl) (Nat.le_of_ble_eq_true rfl) (μ) (b) (ii) (w0) (by assumption) (by assumption) ?_ _ (0) (w0) ([]) μ5 H locs ls (by decide) (by rw [eμ5]; exact fr_uz fr_rfl (Or.inl ⟨rfl, rfl⟩)) (by exact rG_fr hG (fun x y h8 h9 => by rw [eμ5, uz_n (by show_term (have zq99 : True := trivial; omega))])) (by rw [eμ5, uz_s]) (by exact ⟨hw0.1, hw0.2, by have := rPre_b hw0.1; show_term (have zq100 : True := trivial; omega)⟩) (by exact ⟨SA_fr (fun y => by rw [eμ5, uz_n (by show_term (have zq101 : True := trivial; omega))]) _ _ hwA.2.1, by rw [eμ5, uz_n (by show_term (have zq102 : True := trivial; omega))]; exact hwA.1.1, by rw [eμ5, uz_n (by show_term (have zq103 : True := trivial; omega))]; exact h70⟩) (by exact ⟨rfl, rfl⟩) (by intro k s hk; simp at hk) (Nat.lt_succ_self _) hP hS (lv_sub hl [0, 2, 1] rfl)
  · intro i_6 v_6 lq_6 μ6_ H locs ls q0_6 q1_6 q2_6 q3_6 hP hS hl
    have hl : lv_has ls 3 [] := hl
    exact W.vret hx hb hr (fun t9 ht9 hW9 => ⟨⟨μ6_, rfl, (by
                try dsimp only
                obtain ⟨v9, l9, p1, p2, p3, p4, p5, p6, p7, p8, p9⟩ := q3_6
                exact ⟨q0_6, q1_6, q2_6, l9, v9, p6, p7, rowS_of q1_6 (rWF_0 _ p1.1) p3 p4, p5, p8, p9⟩), by rw [ht9]; exact hP, va_K.moved hW9.alike hK⟩, hS.F ht9⟩) hS.2.2 dX1_foldAll_97

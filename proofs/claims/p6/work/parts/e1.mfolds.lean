
/-! all folds of a page, told whole -/
set_option maxHeartbeats 4000000 in
set_option maxRecDepth 100000 in
theorem LX10_folds_81z {p : Program} {l : Launch} {e : Env} {R : Room} {s : State} {m : MethodId} {args : Array Value} {below : List Frame} {meth : Method} {c : Code} {cells slots : Nat} {Q : State → Prop} {dC : Nat → ClassId} {dI : Nat → Nat → Nat} {h0 : Nat} {cI cZ cII cIII : ClassId} (hx : p.tables.exec = Jvm.exec) (hb : c.code = cX10_folds) (hml : c.maxLocals = 4) (hown : s.vm.findClass RX10 = some m.cls) (hts : ∀ w ∈ wsG, w.before args s = true) (hK : va_K (dC, dI) vwCl (mT cI cZ cII cIII) s) (hRf : 27 ≤ R.frames) (hRl : 900 ≤ R.locals) (hRc : cells ≤ R.cells) (hRs : slots ≤ R.slots) (μ0 : va_M) (pg : Int) (t : Int) (hp : 0 ≤ pg ∧ pg < 8) (hfo : 0 ≤ μ0 505 pg.toNat ∧ μ0 505 pg.toNat < 60) (hexit113 : ∀ (k : Int) (μ : va_M) (H : Heap) (locs : List Loc) (ls : Array Slot), (fr (fun x y => x = 17 + pg.toNat * 61 + 1 + (μ0 505 pg.toNat).toNat) μ0 μ) → (∀ j : Nat, j < 3 → μ (17 + pg.toNat * 61 + 1 + (μ0 505 pg.toNat).toNat) j = μ0 752 j) → va_P (dC, dI) vwCl (fw (mE cI cZ cII cIII h0) h0 6325 μ) H → va_S (fA h0 6325 s.heap.size) s.heap H locs → lv_has ls 4 [(2, .int (iZ (t))), (1, .int (iZ (pg))), (0, .ref h0)] → W p l e R s m args below meth c H locs cells slots Q (F0 m 113 ls [])) :
    ∀ (n9 : Nat) (k : Int) (μ : va_M) (H : Heap) (locs : List Loc) (ls : Array Slot), (0 ≤ k ∧ k ≤ 3) → (fr (fun x y => x = 17 + pg.toNat * 61 + 1 + (μ0 505 pg.toNat).toNat) μ0 μ) → (∀ j : Nat, (j : Int) < k → μ (17 + pg.toNat * 61 + 1 + (μ0 505 pg.toNat).toNat) j = μ0 752 j) → (100 - k).toNat < n9 → va_P (dC, dI) vwCl (fw (mE cI cZ cII cIII h0) h0 6325 μ) H → va_S (fA h0 6325 s.heap.size) s.heap H locs → lv_has ls 4 [(3, .int (iZ (k))), (2, .int (iZ (t))), (1, .int (iZ (pg))), (0, .ref h0)] → W p l e R s m args below meth c H locs cells slots Q (F0 m 81 ls []) := by
  intro n9
  induction n9 with
  | zero => intro k μ H locs ls hk hf hv hm9 hP hS hl; exact absurd hm9 (Nat.not_lt_zero _)
  | succ n9 ih =>
    intro k μ H locs ls hk hf hv hm9 hP hS hl
    have hzk : μ 505 pg.toNat = μ0 505 pg.toNat := hf _ _ (by show ¬ 505 = _; omega)
    have h752 : ∀ j, μ 752 j = μ0 752 j := fun j => hf _ _ (by show ¬ 752 = _; omega)
    refine lv_iload_n hx hb dX10_folds_81 rfl (lv_at hl 0 rfl) ?_
    refine lv_iconst (v := iZ 3) hx hb dX10_folds_82 rfl ?_
    refine fz_icmp_ge (tgt := 113) (by constructor <;> omega) (by decide) hx hb dX10_folds_83 (by decide) (fun c83_ => ?_) (fun c83_ => ?_)
    · exact hexit113 (k) μ H locs ls (by exact hf) (by intro j hj; exact hv j (by omega)) hP hS (lv_sub hl [1, 2, 3] rfl)
    · refine lv_aload_n hx hb dX10_folds_86 rfl (lv_at hl 3 rfl) ?_
      refine fz_get (D := (dC, dI)) (ci := 10) (v := .ref (h0 + 16)) (C := RX10) (T := TX10) (N := 53) hx hb hts inG10 hown hK hP (k := 0) (by decide) (F := mF h0) mE_obj rfl 16 (by decide) (hts _ k1182) (fun _ h9 => h9) rfl dX10_folds_87 ?_
      refine lv_iload_n hx hb dX10_folds_90 rfl (lv_at hl 2 rfl) ?_
      refine fz_ald (k := 16) (n := 8) (k2 := (17 + (pg).toNat * 61)) hx hb hK hP 3 rfl (by decide) mE_fold rfl ⟨by omega, by omega⟩ (by decide) (if_pos (by omega)) dX10_folds_91 ?_
      refine lv_aload_n hx hb dX10_folds_92 rfl (lv_at hl 3 rfl) ?_
      refine fz_get (D := (dC, dI)) (ci := 10) (v := .ref (h0 + 505)) (C := RX10) (T := TX10) (N := 53) hx hb hts inG10 hown hK hP (k := 0) (by decide) (F := mF h0) mE_obj rfl 17 (by decide) (hts _ k1183) (fun _ h9 => h9) rfl dX10_folds_93 ?_
      refine lv_iload_n hx hb dX10_folds_96 rfl (lv_at hl 2 rfl) ?_
      refine fz_ld (k := 505) (n := 8) hx hb hK hP 0 (by decide) mE_folds rfl ⟨by omega, by omega⟩ (by decide) dX10_folds_97 ?_
      refine fz_ald (k := (17 + (pg).toNat * 61)) (n := 60) (k2 := (17 + (pg).toNat * 61 + 1 + (μ 505 (pg).toNat).toNat)) hx hb hK hP 2 rfl (by omega) (mE_foldM (by omega)) rfl ⟨by omega, by omega⟩ (by decide) (if_pos (by omega)) dX10_folds_98 ?_
      refine lv_iload_n hx hb dX10_folds_99 rfl (lv_at hl 0 rfl) ?_
      refine lv_aload_n hx hb dX10_folds_100 rfl (lv_at hl 3 rfl) ?_
      refine fz_get (D := (dC, dI)) (ci := 10) (v := .ref (h0 + 752)) (C := RX10) (T := TX10) (N := 53) hx hb hts inG10 hown hK hP (k := 0) (by decide) (F := mF h0) mE_obj rfl 31 (by decide) (hts _ k1197) (fun _ h9 => h9) rfl dX10_folds_101 ?_
      refine lv_iload_n hx hb dX10_folds_104 rfl (lv_at hl 0 rfl) ?_
      refine fz_ld (k := 752) (n := 3) hx hb hK hP 0 (by decide) mE_found rfl ⟨by omega, by omega⟩ (by decide) dX10_folds_105 ?_
      refine fz_st (k := (17 + (pg).toNat * 61 + 1 + (μ 505 (pg).toNat).toNat)) (n := 3) (i := k) (z := (μ 752 (k).toNat)) hx hb hK hP fA_in hS 0 (by omega) (mE_foldR (by omega) (by omega)) rfl ⟨by omega, by omega⟩ (by decide) dX10_folds_106 (fun H locs hP hS => ?_)
      obtain ⟨μ1, eμ1⟩ : ∃ x : va_M, x = uz μ (17 + (pg).toNat * 61 + 1 + (μ 505 (pg).toNat).toNat) (k).toNat (μ 752 (k).toNat) := ⟨_, rfl⟩
      rw [← eμ1] at hP
      refine lv_iinc (v := iZ (k + 1)) (lv' := [(3, .int (iZ (k + 1))), (2, .int (iZ (t))), (1, .int (iZ (pg))), (0, .ref h0)]) hx hb dX10_folds_107 hl (k := 0) rfl (iZ_add _ _) (by decide) rfl (fun ls hl => ?_)
      refine lv_goto (tgt := 81) hx hb dX10_folds_110 (by decide) ?_
      exact ih (k + 1) μ1 H locs ls (by omega) (by
                    subst eμ1
                    exact fr_uz hf (by show _ = _; rw [hzk])) (by
                    subst eμ1
                    intro j hj
                    by_cases h9 : j = k.toNat
                    · subst h9
                      rw [hzk, uz_s]
                      exact h752 _
                    · rw [uz_n (by omega)]
                      exact hv j (by omega)) (by omega) hP hS (lv_sub hl [0, 1, 2, 3] rfl)
set_option maxHeartbeats 4000000 in
set_option maxRecDepth 100000 in
theorem LX10_folds_71z {p : Program} {l : Launch} {e : Env} {R : Room} {s : State} {m : MethodId} {args : Array Value} {below : List Frame} {meth : Method} {c : Code} {cells slots : Nat} {Q : State → Prop} {dC : Nat → ClassId} {dI : Nat → Nat → Nat} {h0 : Nat} {cI cZ cII cIII : ClassId} (hx : p.tables.exec = Jvm.exec) (hb : c.code = cX10_folds) (hml : c.maxLocals = 4) (hown : s.vm.findClass RX10 = some m.cls) (hts : ∀ w ∈ wsG, w.before args s = true) (hK : va_K (dC, dI) vwCl (mT cI cZ cII cIII) s) (hRf : 27 ≤ R.frames) (hRl : 900 ≤ R.locals) (hRc : cells ≤ R.cells) (hRs : slots ≤ R.slots) (μ0 : va_M) (pg : Int) (t : Int) (w0 : Rw) (hp : 0 ≤ pg ∧ pg < 8) (htp : t = 17 + pg) (hexit126 : ∀ (w : Rw) (lq : List (Nat × Nat × Nat)) (μ : va_M) (H : Heap) (locs : List Loc) (ls : Array Slot), (∃ (w : Rw) (lq : List (Nat × Nat × Nat)), rPage w ∧ 1 ≤ rI w ∧ TR μ t.toNat w ∧ (0 ≤ μ 505 pg.toNat ∧ μ 505 pg.toNat ≤ 60) ∧ fSt lq w0 w ∧ fEnd w ∧ μ 505 pg.toNat = lq.length ∧ ∀ (k : Nat) (s : Nat × Nat × Nat), lq[k]? = some s → μ (17 + pg.toNat * 61 + 1 + k) 0 = s.1 ∧ μ (17 + pg.toNat * 61 + 1 + k) 1 = s.2.1 ∧ μ (17 + pg.toNat * 61 + 1 + k) 2 = s.2.2) → (fr (FF pg.toNat) μ0 μ) → va_P (dC, dI) vwCl (fw (mE cI cZ cII cIII h0) h0 6325 μ) H → va_S (fA h0 6325 s.heap.size) s.heap H locs → lv_has ls 4 [] → W p l e R s m args below meth c H locs cells slots Q (F0 m 126 ls [])) :
    ∀ (n9 : Nat) (w : Rw) (lq : List (Nat × Nat × Nat)) (μ : va_M) (H : Heap) (locs : List Loc) (ls : Array Slot), ((rPre w ∧ rAq w) ∧ 1 ≤ rI w) → (TR μ t.toNat w) → (0 ≤ μ 505 pg.toNat ∧ μ 505 pg.toNat + rI w ≤ 60) → (fr (FF pg.toNat) μ0 μ) → (fSt lq w0 w) → (μ 505 pg.toNat = lq.length) → (∀ (k : Nat) (s : Nat × Nat × Nat), lq[k]? = some s → μ (17 + pg.toNat * 61 + 1 + k) 0 = s.1 ∧ μ (17 + pg.toNat * 61 + 1 + k) 1 = s.2.1 ∧ μ (17 + pg.toNat * 61 + 1 + k) 2 = s.2.2) → rI w < n9 → va_P (dC, dI) vwCl (fw (mE cI cZ cII cIII h0) h0 6325 μ) H → va_S (fA h0 6325 s.heap.size) s.heap H locs → lv_has ls 4 [(2, .int (iZ (t))), (1, .int (iZ (pg))), (0, .ref h0)] → W p l e R s m args below meth c H locs cells slots Q (F0 m 71 ls []) := by
  intro n9
  induction n9 with
  | zero => intro w lq μ H locs ls hw hT hz hf hst hcn hrs hm9 hP hS hl; exact absurd hm9 (Nat.not_lt_zero _)
  | succ n9 ih =>
    intro w lq μ H locs ls hw hT hz hf hst hcn hrs hm9 hP hS hl
    have hb9 := rPre_b hw.1.1
    refine lv_aload_n hx hb dX10_folds_71 rfl (lv_at hl 2 rfl) ?_
    refine lv_iload_n hx hb dX10_folds_72 rfl (lv_at hl 0 rfl) ?_
    refine va_calli (va_runV (As := [.int (iZ (t))]) (rest := []) ⟨hx, hb, hml, hown, hts⟩ (m_foldsOne2 l dC dI cI cZ cII cIII h0 H.size μ (t) (w) (by first | assumption | omega | exact ⟨by omega, by omega⟩) (by first | assumption | omega | exact ⟨by omega, by omega⟩) (by first | assumption | omega | exact ⟨by omega, by omega⟩) (by first | assumption | omega | exact ⟨by omega, by omega⟩) (by exact hw.1.1.1) (by first | assumption | omega | exact ⟨by omega, by omega⟩) (by first | assumption | omega | exact ⟨by omega, by omega⟩)) (cwV 1 hts (gV_G k1381 k1383 ks_yX10_foldsOne k13 k1384) rfl rfl rfl (by decide +kernel) ⟨by show 25 + 1 ≤ _; omega, by show 8 + (7 + 11) + (800) ≤ _; omega⟩) ⟨fun a U g mk q => by obtain ⟨q0, q1, qP, qK⟩ := q; exact ⟨q0, q1, qP, va_K.moved (u := U) (U := U.calling g mk a) (Vm.Alike.refl U.vm) qK⟩, va_recv hK hP (ci := 10) (q0 := 0) rfl ((fw_get (by decide)).trans (by rw [mE_obj]; rfl)), fun U hU hW => ⟨rfl, by rw [hU], by rw [hU]; exact hP, va_K.moved hW.alike hK⟩⟩ rfl rfl hl.1 rfl (lv_room (Nat.le_of_ble_eq_true rfl)) dX10_folds_73 ⟨hRc, hRs⟩) hS (fun q _ h => fA_le hS.1 q h) (fA_le hS.1) (fun r9 u9 t9 H1 locs ht9 hvm9 hw9 hB9 hz9 hk9 hS => ?_)
    obtain ⟨μ2, r3⟩ := u9
    obtain ⟨hP, -⟩ := hB9
    rw [ht9] at hP
    generalize H1 = H at hP hS ⊢
    obtain ⟨e9, hw9⟩ := hw9
    have e9 : r9 = iZ r3 := e9
    subst e9
    simp only at hP hw9
    have hμ2 := hw9; clear hw9
    refine fz_if_eq (tgt := 126) (by constructor <;> omega) hx hb dX10_folds_76 (by decide) (fun c76_ => ?_) (fun c76_ => ?_)
    · obtain ⟨hf1, hnoF, hnE⟩ : fr (fun x y => x = 723) μ μ2 ∧ noF w (rI w) ∧ fEnd w := by
        rcases hμ2 with ⟨_, h⟩ | ⟨h, _⟩
        · exact h
        · omega
      exact hexit126 (w) (lq) μ2 H locs ls (by
                    refine ⟨w, lq, ⟨hw.1.1.1, ⟨hw.1.1.2.1, rAq_end w hw.1.1.1 hw.1.2 hnoF⟩, hw.1.1.2.2⟩, hw.2, ⟨?_, ?_⟩, ?_, hst, hnE, ?_, fun k s hk => ?_⟩
                    · rw [hf1 _ _ (by show ¬ 719 = 723; omega)]; exact hT.1
                    · exact RA_kept hT.2 (fun x _ _ => ⟨hf1 _ _ (by show ¬ _ = 723; omega), hf1 _ _ (by show ¬ _ = 723; omega), hf1 _ _ (by show ¬ _ = 723; omega)⟩)
                    · rw [hf1 _ _ (by show ¬ 505 = 723; omega)]; omega
                    · rw [hf1 _ _ (by show ¬ 505 = 723; omega)]; exact hcn
                    · have h8 := (List.getElem?_eq_some_iff.mp hk).1
                      rw [hf1 _ _ (by show ¬ _ = 723; omega), hf1 _ _ (by show ¬ _ = 723; omega), hf1 _ _ (by show ¬ _ = 723; omega)]
                      exact hrs k s hk) (by exact fr_trans hf (fr_mono hf1 (fun x y h => Or.inl (Or.inl h)))) hP hS (lv_sub hl [] rfl)
    · obtain ⟨a1, s1, c1, hF1, hT1, hf1, hE1, hS1, hv0, hv1, hv2⟩ : ∃ a1 s1 c1 : Nat, isFold w a1 s1 c1 ∧ TR μ2 t.toNat (rput w a1 s1 c1) ∧ fr (FQ t.toNat) μ μ2 ∧ fEx w a1 s1 c1 ∧ fst1 w s1 a1 c1 ∧ μ2 752 0 = s1 ∧ μ2 752 1 = a1 ∧ μ2 752 2 = c1 := by
        rcases hμ2 with ⟨h, _⟩ | ⟨_, h⟩
        · omega
        · exact h
      skip
      have hI1 := rput_Il hF1
      have hI2 := rput_I hF1
      have hz1 : μ2 505 pg.toNat = μ 505 pg.toNat := hf1 _ _ (FQ_not (by omega))
      have hI3 : 1 ≤ rI (rput w a1 s1 c1) := by unfold rput; rw [rpre_I _ _ _ (by have := hF1.2.2.1; omega), rI_in]; omega
      refine lv_iconst (v := iZ 0) hx hb dX10_folds_79 rfl ?_
      refine lv_istore_n (lv' := [(3, .int (iZ (0))), (2, .int (iZ (t))), (1, .int (iZ (pg))), (0, .ref h0)]) hx hb dX10_folds_80 rfl hl (by decide) rfl (fun ls hl => ?_)
      refine LX10_folds_81z hx hb hml hown hts hK hRf hRl hRc hRs (μ2) (pg) (t) (by exact hp) (by omega) ?_ _ (0) μ2 H locs ls (by omega) (by exact fr_rfl) (by intro j hj; omega) (Nat.lt_succ_self _) hP hS (lv_sub hl [0, 1, 2, 3] rfl)
      · intro k_4 μ4_ H locs ls q4_4 q13_4 hP hS hl
        have hl : lv_has ls 4 [(2, .int (iZ (t))), (1, .int (iZ (pg))), (0, .ref h0)] := hl
        have hz2 : μ4_ 505 pg.toNat = μ 505 pg.toNat := (q4_4 _ _ (by show ¬ 505 = _; omega)).trans hz1
        refine lv_aload_n hx hb dX10_folds_113 rfl (lv_at hl 2 rfl) ?_
        refine fz_get (D := (dC, dI)) (ci := 10) (v := .ref (h0 + 505)) (C := RX10) (T := TX10) (N := 53) hx hb hts inG10 hown hK hP (k := 0) (by decide) (F := mF h0) mE_obj rfl 17 (by decide) (hts _ k1183) (fun _ h9 => h9) rfl dX10_folds_114 ?_
        refine lv_iload_n hx hb dX10_folds_117 rfl (lv_at hl 1 rfl) ?_
        refine lv_dup2_11 hx hb dX10_folds_118 rfl rfl ?_
        refine fz_ld (k := 505) (n := 8) hx hb hK hP 0 (by decide) mE_folds rfl ⟨by omega, by omega⟩ (by decide) dX10_folds_119 ?_
        refine lv_iconst (v := iZ 1) hx hb dX10_folds_120 rfl ?_
        refine lv_iadd hx hb dX10_folds_121 ?_
        refine lv_topi (fun x9 ex9 => ?_)
        obtain rfl : x9 = iZ ((μ4_ 505 (pg).toNat) + 1) := ex9.trans (iZ_add _ _)
        refine fz_st (k := 505) (n := 8) (i := pg) (z := ((μ4_ 505 (pg).toNat) + 1)) hx hb hK hP fA_in hS 0 (by decide) mE_folds rfl ⟨by omega, by omega⟩ (by decide) dX10_folds_122 (fun H locs hP hS => ?_)
        obtain ⟨μ5, eμ5⟩ : ∃ x : va_M, x = uz μ4_ 505 (pg).toNat ((μ4_ 505 (pg).toNat) + 1) := ⟨_, rfl⟩
        rw [← eμ5] at hP
        refine lv_goto (tgt := 71) hx hb dX10_folds_123 (by decide) ?_
        exact ih (rput w a1 s1 c1) (lq ++ [(s1, a1, c1)]) μ5 H locs ls (by exact ⟨⟨rPre_put hw.1.1 hF1, rAq_put hw.1.1.1 hw.1.2 hF1 hE1⟩, hI3⟩) (by
                        subst eμ5
                        exact TR_fr (P := fun x y => (17 + pg.toNat * 61 ≤ x ∧ x < 17 + pg.toNat * 61 + 61) ∨ x = 505) hT1 (fr_uz (fr_mono q4_4 (fun x y (h : x = _) => Or.inl (by omega))) (Or.inr rfl)) (fun x => by omega) (by omega)) (by
                        subst eμ5
                        rw [uz_s, hz2]; omega) (by
                        subst eμ5
                        exact fr_uz (fr_trans hf (fr_trans (fr_mono hf1 (fun x y h => by unfold FF; exact Or.inl (by rw [show 17 + pg.toNat = t.toNat by omega]; exact h))) (fr_mono q4_4 (fun x y (h : x = _) => Or.inr (Or.inr (by omega)))))) (Or.inr (Or.inl ⟨rfl, rfl⟩))) (by exact fSt_app lq w0 w (s1, a1, c1) hst hS1) (by
                        subst eμ5
                        rw [uz_s, hz2, hcn, List.length_append, List.length_singleton]
                        omega) (by
                        subst eμ5
                        intro k s hk
                        by_cases h9 : k < lq.length
                        · rw [List.getElem?_append_left h9] at hk
                          obtain ⟨b1, b2, b3⟩ := hrs k s hk
                          have e9 : ∀ j, μ4_ (17 + pg.toNat * 61 + 1 + k) j = μ (17 + pg.toNat * 61 + 1 + k) j := fun j => (q4_4 _ _ (by show ¬ _ = _; omega)).trans (hf1 _ _ (FQ_not (by omega)))
                          exact ⟨by rw [uz_n (by omega), e9]; exact b1, by rw [uz_n (by omega), e9]; exact b2, by rw [uz_n (by omega), e9]; exact b3⟩
                        · have h8 := (List.getElem?_eq_some_iff.mp hk).1
                          rw [List.length_append, List.length_singleton] at h8
                          obtain rfl : k = lq.length := by omega
                          rw [List.getElem?_append_right (Nat.le_refl _), Nat.sub_self] at hk
                          cases hk
                          have e8 : lq.length = (μ2 505 pg.toNat).toNat := by omega
                          rw [e8]
                          exact ⟨by rw [uz_n (by omega), q13_4 0 (by decide)]; exact hv0, by rw [uz_n (by omega), q13_4 1 (by decide)]; exact hv1, by rw [uz_n (by omega), q13_4 2 (by decide)]; exact hv2⟩) (by omega) hP hS (lv_sub hl [0, 1, 2] rfl)
set_option maxHeartbeats 40000000 in
set_option maxRecDepth 100000 in
theorem m_folds2 (l : Launch) (dC : Nat → ClassId) (dI : Nat → Nat → Nat) (cI cZ cII cIII : ClassId) (h0 sz : Nat) (μ : va_M) (pg : Int) (hp : 0 ≤ pg ∧ pg < 8) (hlg : 1 ≤ μ 15 pg.toNat ∧ μ 15 pg.toNat ≤ 60) (htk : ∀ j : Nat, (j : Int) < μ 15 pg.toNat → 0 ≤ μ (7 + pg.toNat) j ∧ μ (7 + pg.toNat) j < 200) (hsr : ∀ j : Nat, j < 201 → inR (μ 3 j)) : Met l yX10_folds (Cond.code yX10_folds cX10_folds 4 none :: wsG) ({ frames := 27, cells := 0, slots := 0, locals := 900 } : Room) (va_Pc [.ref h0, .int (iZ (pg))] (fun U => U.heap.size = sz ∧ va_P (dC, dI) vwCl (fw (mE cI cZ cII cIII h0) h0 6325 μ) U.heap ∧ va_K (dC, dI) vwCl (mT cI cZ cII cIII) U)) (va_Qv (fun (u : va_M) => (∃ (w : Rw) (lq : List (Nat × Nat × Nat)), rPage w ∧ 1 ≤ rI w ∧ TR u (17 + pg).toNat w ∧ (0 ≤ u 505 pg.toNat ∧ u 505 pg.toNat ≤ 60) ∧ fSt lq (tkrow μ pg.toNat 0 (μ 15 pg.toNat).toNat) w ∧ fEnd w ∧ u 505 pg.toNat = lq.length ∧ ∀ (k : Nat) (s : Nat × Nat × Nat), lq[k]? = some s → u (17 + pg.toNat * 61 + 1 + k) 0 = s.1 ∧ u (17 + pg.toNat * 61 + 1 + k) 1 = s.2.1 ∧ u (17 + pg.toNat * 61 + 1 + k) 2 = s.2.2) ∧ fr (FF pg.toNat) μ u) (fun u t => va_P (dC, dI) vwCl (fw (mE cI cZ cII cIII h0) h0 6325 u) t.heap ∧ va_K (dC, dI) vwCl (mT cI cZ cII cIII) t) (fA h0 6325 sz)) 0 0 (fA h0 6325 sz) := by
  refine Met.ofW (cc := cX10_folds) (maxL := 4) (ret := none) (by decide) rfl ?_
  intro p e s m args below meth c s₁ B hml hv
  obtain ⟨rfl, hsz, hP, hK⟩ := hv
  have hx := B.exec
  have hb := B.bytes
  have hr := B.returns
  have hts : ∀ w ∈ wsG, w.before _ s = true := hG_of (atoms_spec (ws := (Cond.code yX10_folds cX10_folds 4 none :: wsG)) B.pre)
  have hown : s.vm.findClass RX10 = some m.cls := findClass_of_methodNamed B.named
  have hlocks := B.notSynchronized
  subst hsz
  have hS : va_S (fA h0 6325 s.heap.size) s.heap s.heap [] := va_S.rf
  have hl := lv_entry ([.ref h0, .int (iZ (pg))]) (n := 4) (Nat.le_of_ble_eq_true rfl)
  rw [lg_entry_eq]
  generalize (lg_sl ([.ref h0, .int (iZ (pg))]) ++ List.replicate (4 - (lg_sl ([.ref h0, .int (iZ (pg))])).length) Slot.unset).toArray = ls at hl ⊢
  have hl : lv_has ls 4 [(0, .ref h0), (1, .int (iZ (pg)))] := hl
  refine lv_bipush (v := iZ 17) hx hb dX10_folds_0 rfl ?_
  refine lv_iload_n hx hb dX10_folds_2 rfl (lv_at hl 1 rfl) ?_
  refine lv_iadd hx hb dX10_folds_3 ?_
  refine lv_topi (fun x9 ex9 => ?_)
  obtain rfl : x9 = iZ (17 + pg) := ex9.trans (iZ_add _ _)
  refine lv_istore_n (lv' := [(2, .int (iZ (17 + pg))), (0, .ref h0), (1, .int (iZ (pg)))]) hx hb dX10_folds_4 rfl hl (by decide) rfl (fun ls hl => ?_)
  refine lv_aload_n hx hb dX10_folds_5 rfl (lv_at hl 1 rfl) ?_
  refine lv_iload_n hx hb dX10_folds_6 rfl (lv_at hl 0 rfl) ?_
  refine va_callv (va_runV (As := [.int (iZ (17 + pg))]) (rest := []) ⟨hx, hb, hml, hown, hts⟩ (m_empties l dC dI cI cZ cII cIII h0 s.heap.size μ (17 + pg) (by first | assumption | omega | exact ⟨by omega, by omega⟩)) (cwV 1 hts (gV_G k1373 k1375 ks_yX10_empties k13 k1376) rfl rfl rfl (by decide +kernel) ⟨Nat.le_of_ble_eq_true rfl, Nat.le_of_ble_eq_true rfl⟩) ⟨fun a U g mk q => by obtain ⟨q0, q1, qP, qK⟩ := q; exact ⟨q0, q1, qP, va_K.moved (u := U) (U := U.calling g mk a) (Vm.Alike.refl U.vm) qK⟩, va_recv hK hP (ci := 10) (q0 := 0) rfl ((fw_get (by decide)).trans (by rw [mE_obj]; rfl)), fun U hU hW => ⟨rfl, by rw [hU], by rw [hU]; exact hP, va_K.moved hW.alike hK⟩⟩ rfl rfl hl.1 rfl (lv_room (Nat.le_of_ble_eq_true rfl)) dX10_folds_7 ⟨Nat.le_of_ble_eq_true rfl, Nat.le_of_ble_eq_true rfl⟩) hS (fun q _ h => fA_le hS.1 q h) (fA_le hS.1) (fun u9 t9 H1 locs ht9 hvm9 hw9 hB9 hz9 hk9 hS => ?_)
  obtain ⟨hP, -⟩ := hB9
  rw [ht9] at hP
  generalize H1 = H at hP hS ⊢
  obtain ⟨μ6, eμ6⟩ : ∃ x : va_M, x = u9 := ⟨_, rfl⟩
  rw [← eμ6] at hP hw9
  have hμ6 := hw9; clear hw9
  refine lv_aload_n hx hb dX10_folds_10 rfl (lv_at hl 1 rfl) ?_
  refine fz_get (D := (dC, dI)) (ci := 10) (v := .ref (h0 + 505)) (C := RX10) (T := TX10) (N := 53) hx hb hts inG10 hown hK hP (k := 0) (by decide) (F := mF h0) mE_obj rfl 17 (by decide) (hts _ k1183) (fun _ h9 => h9) rfl dX10_folds_11 ?_
  refine lv_iload_n hx hb dX10_folds_14 rfl (lv_at hl 2 rfl) ?_
  refine lv_iconst (v := iZ 0) hx hb dX10_folds_15 rfl ?_
  refine fz_st (k := 505) (n := 8) (i := pg) (z := 0) hx hb hK hP fA_in hS 0 (by decide) mE_folds rfl ⟨by omega, by omega⟩ (by decide) dX10_folds_16 (fun H locs hP hS => ?_)
  obtain ⟨μ7, eμ7⟩ : ∃ x : va_M, x = uz μ6 505 (pg).toNat (0) := ⟨_, rfl⟩
  rw [← eμ7] at hP
  refine lv_iconst (v := iZ 0) hx hb dX10_folds_17 rfl ?_
  have f0 : fr (FF pg.toNat) μ μ7 := by rw [eμ7, hμ6]; exact fr_uz (fr_uz fr_rfl (Or.inl (Or.inr (Or.inr (Or.inl (by unfold PT; omega)))))) (Or.inr (Or.inl ⟨rfl, rfl⟩))
  have f1 : fr (fun x y => x = 719 ∨ x = 505) μ μ7 := by rw [eμ7, hμ6]; exact fr_uz (fr_uz fr_rfl (Or.inl rfl)) (Or.inr rfl)
  have f2 : ∀ x y, x < 500 → μ7 x y = μ x y := fun x y h => f1 _ _ (by omega)
  have f3 : μ7 719 (17 + pg).toNat = 0 := by rw [eμ7, hμ6, uz_n (by omega), uz_s]
  have f4 : μ7 505 pg.toNat = 0 := by subst eμ7; rw [uz_s]
  refine lv_istore_n (lv' := [(3, .int (iZ (0))), (2, .int (iZ (17 + pg))), (0, .ref h0), (1, .int (iZ (pg)))]) hx hb dX10_folds_18 rfl hl (by decide) rfl (fun ls hl => ?_)
  refine LX10_folds_19 hx hb hml hown hts hK (Nat.le_of_ble_eq_true rfl) (Nat.le_of_ble_eq_true rfl) (Nat.le_of_ble_eq_true rfl) (Nat.le_of_ble_eq_true rfl) (μ7) (pg) (17 + pg) (by assumption) (by rfl) (by rw [f2 _ _ (by omega)]; omega) (by
            intro j hj
            rw [f2 _ _ (by omega)] at hj
            rw [f2 _ _ (by omega)]
            exact htk j hj) (by
            intro j hj
            rw [f2 _ _ (by omega)]
            exact hsr j hj) ?_ _ (0) μ7 H locs ls (by rw [f2 _ _ (by omega)]; omega) (by exact fr_rfl) (by exact f3) (by intro j hj; omega) (Nat.lt_succ_self _) hP hS (lv_sub hl [0, 1, 3, 2] rfl)
  · intro k_8 μ8_ H locs ls q1_8 q2_8 q3_8 hP hS hl
    have hl : lv_has ls 4 [(2, .int (iZ ((17 + pg)))), (1, .int (iZ (pg))), (0, .ref h0)] := hl
    have g1 : ∀ x y, x < 500 → μ8_ x y = μ x y := fun x y h => (q1_8 _ _ (by unfold PT; omega)).trans (f2 _ _ h)
    have hlm := q2_8
    rw [f2 _ _ (by omega)] at hlm
    have gR : TR μ8_ (17 + pg).toNat (tkrow μ pg.toNat 0 (μ 15 pg.toNat).toNat) := by
      refine ⟨by rw [hlm, tkrow_N]; omega, tkrow_RA _ 0 (fun j h1 h2 => ?_)⟩
      have h3 := q3_8 j (by rw [f2 _ _ (by omega)]; omega)
      rw [f2 _ _ (by omega), f2 _ _ (by omega)] at h3
      exact h3
    refine LX10_folds_71z hx hb hml hown hts hK (Nat.le_of_ble_eq_true rfl) (Nat.le_of_ble_eq_true rfl) (Nat.le_of_ble_eq_true rfl) (Nat.le_of_ble_eq_true rfl) (μ) (pg) (17 + pg) (tkrow μ pg.toNat 0 (μ 15 pg.toNat).toNat) (by assumption) (by rfl) ?_ _ (tkrow μ pg.toNat 0 (μ 15 pg.toNat).toNat) ([]) μ8_ H locs ls (by
                refine ⟨⟨⟨tkrow_WF _ 0 (fun j _ h => htk j (by omega)), tkrow_Pg _ _, ?_⟩, tkrow_Aq _ _⟩, ?_⟩
                · rw [tkrow_T]; omega
                · rw [tkrow_I]; omega) (by exact gR) (by rw [q1_8 _ _ (by unfold PT; omega), f4, tkrow_I]; omega) (by exact fr_trans f0 (fr_mono q1_8 (fun x y h => Or.inl (Or.inr (Or.inr (Or.inl (by rw [show 17 + pg.toNat = (17 + pg).toNat by omega]; exact h))))))) (by rfl) (by rw [q1_8 _ _ (by unfold PT; omega), f4]; rfl) (by intro k s hk; simp at hk) (Nat.lt_succ_self _) hP hS (lv_sub hl [0, 1, 2] rfl)
    · intro w_10 lq_10 μ10_ H locs ls q5_10 q6_10 hP hS hl
      have hl : lv_has ls 4 [] := hl
      exact W.vret hx hb hr (fun t9 ht9 hW9 => ⟨⟨μ10_, rfl, (by
                    try dsimp only
                    exact ⟨q5_10, q6_10⟩), by rw [ht9]; exact hP, va_K.moved hW9.alike hK⟩, hS.F ht9⟩) hS.2.2 dX10_folds_126

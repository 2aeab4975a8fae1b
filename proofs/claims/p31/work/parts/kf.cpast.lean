
/-! a row loaded, saved, taken back to: told whole -/
set_option maxHeartbeats 4000000 in
set_option maxRecDepth 100000 in
theorem LX4_load_6c {p : Program} {l : Launch} {e : Env} {R : Room} {s : State} {m : MethodId} {args : Array Value} {below : List Frame} {meth : Method} {c : Code} {cells slots : Nat} {Q : State → Prop} {dC : Nat → ClassId} {dI : Nat → Nat → Nat} {h0 : Nat} {cI cZ cII cIII : ClassId} (hx : p.tables.exec = Jvm.exec) (hb : c.code = cX4_load) (hml : c.maxLocals = 4) (hown : s.vm.findClass RX4 = some m.cls) (hts : ∀ w ∈ wsG, w.before args s = true) (hK : va_K (dC, dI) vwCl (sT cI cZ cII cIII) s) (hM : xM s) (hRf : 3 ≤ R.frames) (hRl : 58 ≤ R.locals) (hRc : cells ≤ R.cells) (hRs : slots ≤ R.slots) (μ0 : va_M) (q : Nat) (rm : Nat) (kc : Nat) (nc : Nat) (cnt : Int) (hq : rowB q rm) (hkc : kc < 233 ∧ (kc < q ∨ q + 6 ≤ kc) ∧ nc ≤ 1101) (hE : ∀ f, sE cI cZ cII cIII h0 kc f = .inl (cI, nc, .inl f)) (hcn : 0 ≤ cnt ∧ cnt ≤ nc) (hexit30 : ∀ (i : Int) (μ : va_M) (H : Heap) (locs : List Loc) (ls : Array Slot), (fr (fun x _ => x = q ∨ x = q + 1) μ0 μ) → ((cnt ≤ rm ∧ μ q 5 = cnt ∧ μ q 7 = 0) ∨ (rm < cnt ∧ μ q 5 = rm ∧ μ q 7 = 1)) → (∀ j : Nat, (j : Int) < cnt → j < rm → μ (q + 1) j = μ0 kc j) → (∀ j : Nat, μ (q + 1) j = μ0 (q + 1) j ∨ μ (q + 1) j = μ0 kc j) → va_P (dC, dI) vwCl (fw (sE cI cZ cII cIII h0) h0 233 μ) H → va_S (fA h0 233 s.heap.size) s.heap H locs → lv_has ls 4 [(0, .ref (h0 + q))] → W p l e R s m args below meth c H locs cells slots Q (F0 m 30 ls [])) :
    ∀ (n9 : Nat) (i : Int) (μ : va_M) (H : Heap) (locs : List Loc) (ls : Array Slot), (0 ≤ i ∧ i ≤ cnt) → (fr (fun x _ => x = q ∨ x = q + 1) μ0 μ) → ((i ≤ rm ∧ μ q 5 = i ∧ μ q 7 = 0) ∨ (rm < i ∧ μ q 5 = rm ∧ μ q 7 = 1)) → (∀ j : Nat, (j : Int) < i → j < rm → μ (q + 1) j = μ0 kc j) → (∀ j : Nat, μ (q + 1) j = μ0 (q + 1) j ∨ μ (q + 1) j = μ0 kc j) → (1102 - i).toNat < n9 → va_P (dC, dI) vwCl (fw (sE cI cZ cII cIII h0) h0 233 μ) H → va_S (fA h0 233 s.heap.size) s.heap H locs → lv_has ls 4 [(3, .int (iZ (i))), (2, .int (iZ (cnt))), (1, .ref (h0 + kc)), (0, .ref (h0 + q))] → W p l e R s m args below meth c H locs cells slots Q (F0 m 6 ls []) := by
  intro n9
  induction n9 with
  | zero => intro i μ H locs ls hi hf hs hc hg hm9 hP hS hl; exact absurd hm9 (Nat.not_lt_zero _)
  | succ n9 ih =>
    intro i μ H locs ls hi hf hs hc hg hm9 hP hS hl
    have hqb := rowB_b hq
    refine lv_iload_n hx hb dX4_load_6 rfl (lv_at hl 0 rfl) ?_
    refine lv_iload_n hx hb dX4_load_7 rfl (lv_at hl 1 rfl) ?_
    refine fz_icmp_ge (tgt := 30) (by constructor <;> omega) (by constructor <;> omega) hx hb dX4_load_8 (by decide) (fun c8_ => ?_) (fun c8_ => ?_)
    · exact hexit30 (i) μ H locs ls (by exact hf) (by
                    have : i = cnt := by omega
                    rw [← this]; exact hs) (by intro j hj hj2; exact hc j (by omega) hj2) (by exact hg) hP hS (lv_sub hl [3] rfl)
    · refine lv_iload_n hx hb dX4_load_11 rfl (lv_at hl 0 rfl) ?_
      refine lv_aload_n hx hb dX4_load_12 rfl (lv_at hl 2 rfl) ?_
      refine fz_len (k := kc) (n := nc) hx hb hK hP 0 (by omega) hE rfl dX4_load_13 ?_
      refine fz_icmp_ge (tgt := 30) (by constructor <;> omega) (by constructor <;> omega) hx hb dX4_load_14 (by decide) (fun c14_ => ?_) (fun c14_ => ?_)
      · exact hexit30 (i) μ H locs ls (by exact hf) (by
                        have : i = cnt := by omega
                        rw [← this]; exact hs) (by intro j hj hj2; exact hc j (by omega) hj2) (by exact hg) hP hS (lv_sub hl [3] rfl)
      · refine lv_aload_n hx hb dX4_load_17 rfl (lv_at hl 3 rfl) ?_
        refine lv_aload_n hx hb dX4_load_18 rfl (lv_at hl 2 rfl) ?_
        refine lv_iload_n hx hb dX4_load_19 rfl (lv_at hl 0 rfl) ?_
        refine fz_ld (k := kc) (n := nc) hx hb hK hP 0 (by omega) hE rfl ⟨by omega, by omega⟩ (by omega) dX4_load_20 ?_
        refine va_callv (va_runV (As := [.int (iZ (μ kc (i).toNat))]) (rest := []) ⟨hx, hb, hml, hown, hts⟩ (s_Rput l dC dI cI cZ cII cIII h0 H.size μ (q) (rm) (μ kc (i).toNat) (hq) (by first | assumption | omega | exact ⟨by omega, by omega⟩)) (cwV 1 hts (gV_G k410 k411 k412 k3 k413) rfl rfl rfl (by decide +kernel) ⟨by show 1 + 1 ≤ _; omega, by show 8 + (2 + 11) + (14) ≤ _; omega⟩) ⟨fun a U g mk q => by obtain ⟨q0, q1, qP, qK, qM⟩ := q; exact ⟨q0, q1, qP, va_K.moved (u := U) (U := U.calling g mk a) (Vm.Alike.refl U.vm) qK, qM⟩, va_recv hK hP (ci := 4) (q0 := q) rfl ((fw_get (by omega)).trans (by rw [(sE_rowO hq)])), fun U hU hW => ⟨rfl, by rw [hU], by rw [hU]; exact hP, va_K.moved hW.alike hK, xM_warm hW hM⟩⟩ rfl rfl hl.1 rfl (lv_room (Nat.le_of_ble_eq_true rfl)) dX4_load_21 ⟨hRc, hRs⟩) hS (fun q _ h => fA_le hS.1 q h) (fA_le hS.1) (fun u9 t9 H1 locs ht9 hvm9 hw9 hB9 hz9 hk9 hS => ?_)
        obtain ⟨hP, -⟩ := hB9
        rw [ht9] at hP
        generalize H1 = H at hP hS ⊢
        obtain ⟨μp, eμp⟩ : ∃ x : va_M, x = u9 := ⟨_, rfl⟩
        rw [← eμp] at hP hw9
        have hμp := hw9; clear hw9
        obtain ⟨c1, c2⟩ := hμp
        have ek : μ kc i.toNat = μ0 kc i.toNat := hf _ _ (by omega)
        have e5 : (μ q 5 < rm → (μ q 5).toNat = i.toNat ∧ i < rm) := fun h => by omega
        have hfp : fr (fun x _ => x = q ∨ x = q + 1) μ μp := by
          by_cases h9 : μ q 5 < rm
          · rw [c1 h9]; exact fr_uz (fr_uz fr_rfl (Or.inr rfl)) (Or.inl rfl)
          · rw [c2 h9]; exact fr_uz fr_rfl (Or.inl rfl)
        refine lv_iinc (v := iZ (i + 1)) (lv' := [(3, .int (iZ (i + 1))), (2, .int (iZ (cnt))), (1, .ref (h0 + kc)), (0, .ref (h0 + q))]) hx hb dX4_load_24 hl (k := 0) rfl (iZ_add _ _) (by decide) rfl (fun ls hl => ?_)
        refine lv_goto (tgt := 6) hx hb dX4_load_27 (by decide) ?_
        exact ih (i + 1) μp H locs ls (by omega) (by exact fr_trans hf hfp) (by
                        by_cases h9 : μ q 5 < rm
                        · refine Or.inl ⟨by omega, ?_, ?_⟩
                          · rw [c1 h9, uz_s]; omega
                          · rw [c1 h9, uz_n (by omega), uz_n (by omega)]; omega
                        · refine Or.inr ⟨by omega, ?_, ?_⟩
                          · rw [c2 h9, uz_n (by omega)]; omega
                          · rw [c2 h9, uz_s]) (by
                        intro j hj hj2
                        by_cases h9 : μ q 5 < rm
                        · have e9 := (e5 h9).1
                          rw [c1 h9, uz_n (by omega), e9]
                          by_cases h8 : j = i.toNat
                          · rw [h8, uz_s]; exact ek
                          · rw [uz_n (by omega)]; exact hc j (by omega) hj2
                        · rw [c2 h9, uz_n (by omega)]; exact hc j (by omega) hj2) (by
                        intro j
                        by_cases h9 : μ q 5 < rm
                        · rw [c1 h9, uz_n (by omega)]
                          by_cases h8 : j = (μ q 5).toNat
                          · rw [h8, uz_s, (e5 h9).1]; exact Or.inr ek
                          · rw [uz_n (by omega)]; exact hg j
                        · rw [c2 h9, uz_n (by omega)]; exact hg j) (by omega) hP hS (lv_sub hl [0, 1, 2, 3] rfl)
set_option maxHeartbeats 4000000 in
set_option maxRecDepth 100000 in
theorem s_Rload3 (l : Launch) (dC : Nat → ClassId) (dI : Nat → Nat → Nat) (cI cZ cII cIII : ClassId) (h0 sz : Nat) (μ : va_M) (q : Nat) (rm : Nat) (kc : Nat) (nc : Nat) (cnt : Int) (w : Rw) (hq : rowB q rm) (hkc : kc < 233 ∧ (kc < q ∨ q + 6 ≤ kc) ∧ nc ≤ 1101) (hE : ∀ f, sE cI cZ cII cIII h0 kc f = .inl (cI, nc, .inl f)) (hcn : cnt = sL w ∧ cnt ≤ nc) (hwf : rW0 w) (hA : SA μ kc w 0) : Met l yX4_load (Cond.code yX4_load cX4_load 4 none :: wsG) ({ frames := 3, cells := 0, slots := 0, locals := 58 } : Room) (va_Pc [.ref (h0 + q), .ref (h0 + kc), .int (iZ (cnt))] (fun U => U.heap.size = sz ∧ va_P (dC, dI) vwCl (fw (sE cI cZ cII cIII h0) h0 233 μ) U.heap ∧ va_K (dC, dI) vwCl (sT cI cZ cII cIII) U ∧ xM U)) (va_Qv (fun (u : va_M) => (rowS u q (rcut rm w) ∧ fr (LEw q (sL (rcut rm w))) μ u ∧ ∀ j : Nat, u (q + 1) j = μ (q + 1) j ∨ u (q + 1) j = μ kc j) ∧ (u q 7 = 0 ∨ (u q 7 = 1 ∧ u q 5 = 0)) ∧ (sL w ≤ rm → u q 7 = 0)) (fun u t => va_P (dC, dI) vwCl (fw (sE cI cZ cII cIII h0) h0 233 u) t.heap ∧ va_K (dC, dI) vwCl (sT cI cZ cII cIII) t) (fA h0 233 sz)) 0 0 (fA h0 233 sz) := by
  refine Met.ofW (cc := cX4_load) (maxL := 4) (ret := none) (by decide) rfl ?_
  intro p e s m args below meth c s₁ B hml hv
  obtain ⟨rfl, hsz, hP, hK, hM⟩ := hv
  have hx := B.exec
  have hb := B.bytes
  have hr := B.returns
  have hts : ∀ w ∈ wsG, w.before _ s = true := hG_of (atoms_spec (ws := (Cond.code yX4_load cX4_load 4 none :: wsG)) B.pre)
  have hown : s.vm.findClass RX4 = some m.cls := findClass_of_methodNamed B.named
  have hlocks := B.notSynchronized
  subst hsz
  have hS : va_S (fA h0 233 s.heap.size) s.heap s.heap [] := va_S.rf
  have hl := lv_entry ([.ref (h0 + q), .ref (h0 + kc), .int (iZ (cnt))]) (n := 4) (Nat.le_of_ble_eq_true rfl)
  rw [lg_entry_eq]
  generalize (lg_sl ([.ref (h0 + q), .ref (h0 + kc), .int (iZ (cnt))]) ++ List.replicate (4 - (lg_sl ([.ref (h0 + q), .ref (h0 + kc), .int (iZ (cnt))])).length) Slot.unset).toArray = ls at hl ⊢
  have hl : lv_has ls 4 [(0, .ref (h0 + q)), (1, .ref (h0 + kc)), (2, .int (iZ (cnt)))] := hl
  have hqb := rowB_b hq
  refine lv_aload_n hx hb dX4_load_0 rfl (lv_at hl 0 rfl) ?_
  refine va_callv (va_runV (As := []) (rest := []) ⟨hx, hb, hml, hown, hts⟩ (s_Rempty l dC dI cI cZ cII cIII h0 s.heap.size μ (q) (rm) (hq)) (cwV 0 hts (gV_G k406 k407 k408 k3 k409) rfl rfl rfl (by decide +kernel) ⟨Nat.le_of_ble_eq_true rfl, Nat.le_of_ble_eq_true rfl⟩) ⟨fun a U g mk q => by obtain ⟨q0, q1, qP, qK, qM⟩ := q; exact ⟨q0, q1, qP, va_K.moved (u := U) (U := U.calling g mk a) (Vm.Alike.refl U.vm) qK, qM⟩, va_recv hK hP (ci := 4) (q0 := q) rfl ((fw_get (by omega)).trans (by rw [(sE_rowO hq)])), fun U hU hW => ⟨rfl, by rw [hU], by rw [hU]; exact hP, va_K.moved hW.alike hK, xM_warm hW hM⟩⟩ rfl rfl hl.1 rfl (lv_room (Nat.le_of_ble_eq_true rfl)) dX4_load_1 ⟨Nat.le_of_ble_eq_true rfl, Nat.le_of_ble_eq_true rfl⟩) hS (fun q _ h => fA_le hS.1 q h) (fA_le hS.1) (fun u9 t9 H1 locs ht9 hvm9 hw9 hB9 hz9 hk9 hS => ?_)
  obtain ⟨hP, -⟩ := hB9
  rw [ht9] at hP
  generalize H1 = H at hP hS ⊢
  obtain ⟨μe, eμe⟩ : ∃ x : va_M, x = u9 := ⟨_, rfl⟩
  rw [← eμe] at hP hw9
  have hμe := hw9; clear hw9
  have he := hμe
  have hfe : fr (fun x _ => x = q ∨ x = q + 1) μ μe := by rw [he]; exact fr_uz (fr_uz fr_rfl (Or.inl rfl)) (Or.inl rfl)
  refine lv_iconst (v := iZ 0) hx hb dX4_load_4 rfl ?_
  refine lv_istore_n (lv' := [(3, .int (iZ (0))), (0, .ref (h0 + q)), (1, .ref (h0 + kc)), (2, .int (iZ (cnt)))]) hx hb dX4_load_5 rfl hl (by decide) rfl (fun ls hl => ?_)
  refine LX4_load_6c hx hb hml hown hts hK hM (Nat.le_of_ble_eq_true rfl) (Nat.le_of_ble_eq_true rfl) (Nat.le_of_ble_eq_true rfl) (Nat.le_of_ble_eq_true rfl) (μe) (q) (rm) (kc) (nc) (cnt) (by assumption) (by exact hkc) (by exact hE) (by omega) ?_ _ (0) μe H locs ls (by omega) (by exact fr_rfl) (by
            refine Or.inl ⟨by omega, ?_, ?_⟩
            · rw [he, uz_n (by omega), uz_s]
            · rw [he, uz_s]) (by intro j hj; omega) (by intro j; exact Or.inl rfl) (Nat.lt_succ_self _) hP hS (lv_sub hl [0, 3, 2, 1] rfl)
  · intro i_1 μ1_ H locs ls q1_1 q2_1 q3_1 q4_1 hP hS hl
    have hl : lv_has ls 4 [(0, .ref (h0 + q))] := hl
    have G1_ := q1_1
    have G2_ := q2_1
    have G3_ := q3_1
    have G4_ := q4_1
    refine lv_aload_n hx hb dX4_load_30 rfl (lv_at hl 0 rfl) ?_
    refine va_callv (va_runV (As := []) (rest := []) ⟨hx, hb, hml, hown, hts⟩ (s_Rseal l dC dI cI cZ cII cIII h0 H.size μ1_ (q) (rm) (rcut rm w) (hq) (by omega) (by
                unfold rcut
                by_cases h9 : sL w ≤ rm
                · rw [if_pos h9]
                  refine ⟨hwf, Or.inl ⟨by omega, SA_to w 0 0 hA (fun y hy => ?_), by omega⟩⟩
                  rw [Nat.zero_add, G3_ y (by omega) (by omega)]
                  exact hfe _ _ (by omega)
                · rw [if_neg h9]
                  exact ⟨trivial, Or.inr ⟨by omega, rfl⟩⟩)) (cwV 0 hts (gV_G k414 k415 k416 k3 k417) rfl rfl rfl (by decide +kernel) ⟨Nat.le_of_ble_eq_true rfl, Nat.le_of_ble_eq_true rfl⟩) ⟨fun a U g mk q => by obtain ⟨q0, q1, qP, qK, qM⟩ := q; exact ⟨q0, q1, qP, va_K.moved (u := U) (U := U.calling g mk a) (Vm.Alike.refl U.vm) qK, qM⟩, va_recv hK hP (ci := 4) (q0 := q) rfl ((fw_get (by omega)).trans (by rw [(sE_rowO hq)])), fun U hU hW => ⟨rfl, by rw [hU], by rw [hU]; exact hP, va_K.moved hW.alike hK, xM_warm hW hM⟩⟩ rfl rfl hl.1 rfl (lv_room (Nat.le_of_ble_eq_true rfl)) dX4_load_31 ⟨Nat.le_of_ble_eq_true rfl, Nat.le_of_ble_eq_true rfl⟩) hS (fun q _ h => fA_le hS.1 q h) (fA_le hS.1) (fun u9 t9 H1 locs ht9 hvm9 hw9 hB9 hz9 hk9 hS => ?_)
    obtain ⟨hP, -⟩ := hB9
    rw [ht9] at hP
    generalize H1 = H at hP hS ⊢
    obtain ⟨μs, eμs⟩ : ∃ x : va_M, x = u9 := ⟨_, rfl⟩
    rw [← eμs] at hP hw9
    have hμs := hw9; clear hw9
    exact W.vret hx hb hr (fun t9 ht9 hW9 => ⟨⟨μs, rfl, (by
                try dsimp only
                obtain ⟨d1_, d2_⟩ := hμs
                refine ⟨⟨d1_, ?_, fun j => ?_⟩, ?_, ?_⟩
                · exact fr_trans (fr_mono (fr_trans hfe G1_) (fun x y h => by unfold LEw LEq; omega)) (fr_mono d2_ (fun x y h => by unfold SEw SEq at h; unfold LEw LEq; omega))
                · have k1 := d2_ (q + 1) j (by unfold SEw SEq; omega)
                  have k2 := hfe kc j (by omega)
                  have k3 : μe (q + 1) j = μ (q + 1) j := by rw [he, uz_n (by omega), uz_n (by omega)]
                  rw [k1, ← k2, ← k3]
                  exact G4_ j
                · have k9 : μs q 7 = μ1_ q 7 := d2_ _ _ (by unfold SEw SEq; omega)
                  have k8 := d1_.1.1
                  unfold rcut at k8
                  by_cases h9 : sL w ≤ rm
                  · exact Or.inl (by omega)
                  · rw [if_neg h9] at k8
                    exact Or.inr ⟨by omega, k8⟩
                · intro h9
                  have k9 : μs q 7 = μ1_ q 7 := d2_ _ _ (by unfold SEw SEq; omega)
                  omega), by rw [ht9]; exact hP, va_K.moved hW9.alike hK⟩, hS.F ht9⟩) hS.2.2 dX4_load_34
set_option maxHeartbeats 4000000 in
set_option maxRecDepth 100000 in
theorem s_Rtake3 (l : Launch) (dC : Nat → ClassId) (dI : Nat → Nat → Nat) (cI cZ cII cIII : ClassId) (h0 sz : Nat) (μ : va_M) (q : Nat) (rm : Nat) (q2 : Nat) (rm2 : Nat) (w : Rw) (hq : rowB q rm) (hq2 : rowB q2 rm2) (hap : q + 6 ≤ q2 ∨ q2 + 6 ≤ q) (hwf : rW0 w) (hS2 : rowS μ q2 w) (hlen2 : μ q2 5 ≤ rm2) : Met l yX4_take (Cond.code yX4_take cX4_take 2 none :: wsG) ({ frames := 4, cells := 0, slots := 0, locals := 81 } : Room) (va_Pc [.ref (h0 + q), .ref (h0 + q2)] (fun U => U.heap.size = sz ∧ va_P (dC, dI) vwCl (fw (sE cI cZ cII cIII h0) h0 233 μ) U.heap ∧ va_K (dC, dI) vwCl (sT cI cZ cII cIII) U ∧ xM U)) (va_Qv (fun (u : va_M) => (rowS u q (rcut rm w) ∧ fr (LEw q (sL (rcut rm w))) μ u ∧ ∀ j : Nat, u (q + 1) j = μ (q + 1) j ∨ u (q + 1) j = μ (q2 + 1) j) ∧ (u q 7 = 0 ∨ (u q 7 = 1 ∧ u q 5 = 0)) ∧ (sL w ≤ rm → u q 7 = 0)) (fun u t => va_P (dC, dI) vwCl (fw (sE cI cZ cII cIII h0) h0 233 u) t.heap ∧ va_K (dC, dI) vwCl (sT cI cZ cII cIII) t) (fA h0 233 sz)) 0 0 (fA h0 233 sz) := by
  refine Met.ofW (cc := cX4_take) (maxL := 2) (ret := none) (by decide) rfl ?_
  intro p e s m args below meth c s₁ B hml hv
  obtain ⟨rfl, hsz, hP, hK, hM⟩ := hv
  have hx := B.exec
  have hb := B.bytes
  have hr := B.returns
  have hts : ∀ w ∈ wsG, w.before _ s = true := hG_of (atoms_spec (ws := (Cond.code yX4_take cX4_take 2 none :: wsG)) B.pre)
  have hown : s.vm.findClass RX4 = some m.cls := findClass_of_methodNamed B.named
  have hlocks := B.notSynchronized
  subst hsz
  have hS : va_S (fA h0 233 s.heap.size) s.heap s.heap [] := va_S.rf
  have hl := lv_entry ([.ref (h0 + q), .ref (h0 + q2)]) (n := 2) (Nat.le_of_ble_eq_true rfl)
  rw [lg_entry_eq]
  generalize (lg_sl ([.ref (h0 + q), .ref (h0 + q2)]) ++ List.replicate (2 - (lg_sl ([.ref (h0 + q), .ref (h0 + q2)])).length) Slot.unset).toArray = ls at hl ⊢
  have hl : lv_has ls 2 [(0, .ref (h0 + q)), (1, .ref (h0 + q2))] := hl
  have hqb := rowB_b hq
  have hqb2 := rowB_b hq2
  refine lv_aload_n hx hb dX4_take_0 rfl (lv_at hl 0 rfl) ?_
  refine lv_aload_n hx hb dX4_take_1 rfl (lv_at hl 1 rfl) ?_
  refine fz_get (D := (dC, dI)) (ci := 4) (v := .ref (h0 + (q2 + 1))) (C := RX4) (T := TX4) (N := 8) hx hb hts inG4 hown hK hP (k := q2) (by omega) (F := (sRF h0 q2)) (sE_rowO hq2) rfl 0 (by decide) (hts _ k77) (fun _ h9 => h9) rfl dX4_take_2 ?_
  refine lv_aload_n hx hb dX4_take_5 rfl (lv_at hl 1 rfl) ?_
  refine fz_get (D := (dC, dI)) (ci := 4) (v := .int (iZ (μ q2 5))) (C := RX4) (T := TX4) (N := 8) hx hb hts inG4 hown hK hP (k := q2) (by omega) (F := (sRF h0 q2)) (sE_rowO hq2) rfl 5 (by decide) (hts _ k92) (fun _ h9 => h9) rfl dX4_take_6 ?_
  refine va_callv (va_runV (As := [.ref (h0 + (q2 + 1)), .int (iZ (μ q2 5))]) (rest := []) ⟨hx, hb, hml, hown, hts⟩ (s_Rload3 l dC dI cI cZ cII cIII h0 s.heap.size μ (q) (rm) ((q2 + 1)) (rm2) (μ q2 5) (w) (hq) (by omega) ((sE_rowA (r := 1) hq2 (by decide))) (by have := hS2.1.1; omega) (by exact hwf) (by exact hS2.2.1)) (cwV 2 hts (gV_G k402 k403 k404 k3 k405) rfl rfl rfl (by decide +kernel) ⟨Nat.le_of_ble_eq_true rfl, Nat.le_of_ble_eq_true rfl⟩) ⟨fun a U g mk q => by obtain ⟨q0, q1, qP, qK, qM⟩ := q; exact ⟨q0, q1, qP, va_K.moved (u := U) (U := U.calling g mk a) (Vm.Alike.refl U.vm) qK, qM⟩, va_recv hK hP (ci := 4) (q0 := q) rfl ((fw_get (by omega)).trans (by rw [(sE_rowO hq)])), fun U hU hW => ⟨rfl, by rw [hU], by rw [hU]; exact hP, va_K.moved hW.alike hK, xM_warm hW hM⟩⟩ rfl rfl hl.1 rfl (lv_room (Nat.le_of_ble_eq_true rfl)) dX4_take_9 ⟨Nat.le_of_ble_eq_true rfl, Nat.le_of_ble_eq_true rfl⟩) hS (fun q _ h => fA_le hS.1 q h) (fA_le hS.1) (fun u9 t9 H1 locs ht9 hvm9 hw9 hB9 hz9 hk9 hS => ?_)
  obtain ⟨hP, -⟩ := hB9
  rw [ht9] at hP
  generalize H1 = H at hP hS ⊢
  obtain ⟨μ1, eμ1⟩ : ∃ x : va_M, x = u9 := ⟨_, rfl⟩
  rw [← eμ1] at hP hw9
  have hμ1 := hw9; clear hw9
  exact W.vret hx hb hr (fun t9 ht9 hW9 => ⟨⟨μ1, rfl, (by
            try dsimp only
            exact hμ1), by rw [ht9]; exact hP, va_K.moved hW9.alike hK⟩, hS.F ht9⟩) hS.2.2 dX4_take_12
set_option maxHeartbeats 4000000 in
set_option maxRecDepth 100000 in
theorem s_Psave2 (l : Launch) (dC : Nat → ClassId) (dI : Nat → Nat → Nat) (cI cZ cII cIII : ClassId) (h0 sz : Nat) (μ : va_M) (co : Int) (Wk : Rw) (Bs : List Rw) (hG : rG μ 6 1100) (hpo : pstOK μ) (hWr : rowS μ 6 Wk) (hpx : pstX μ Bs) (hl16 : Bs.length ≤ 16) : Met l yX3_save (Cond.code yX3_save cX3_save 3 none :: wsG) ({ frames := 1, cells := 0, slots := 0, locals := 48 } : Room) (va_Pc [.ref (h0 + 18), .ref (h0 + 6), .int (iZ (co))] (fun U => U.heap.size = sz ∧ va_P (dC, dI) vwCl (fw (sE cI cZ cII cIII h0) h0 233 μ) U.heap ∧ va_K (dC, dI) vwCl (sT cI cZ cII cIII) U ∧ xM U)) (va_Qv (fun (u : va_M) => pstOK u ∧ fr PaB μ u ∧ pstX u (Wk :: Bs.take 15)) (fun u t => va_P (dC, dI) vwCl (fw (sE cI cZ cII cIII h0) h0 233 u) t.heap ∧ va_K (dC, dI) vwCl (sT cI cZ cII cIII) t) (fA h0 233 sz)) 0 0 (fA h0 233 sz) := by
  refine Met.ofW (cc := cX3_save) (maxL := 3) (ret := none) (by decide) rfl ?_
  intro p e s m args below meth c s₁ B hml hv
  obtain ⟨rfl, hsz, hP, hK, hM⟩ := hv
  have hx := B.exec
  have hb := B.bytes
  have hr := B.returns
  have hts : ∀ w ∈ wsG, w.before _ s = true := hG_of (atoms_spec (ws := (Cond.code yX3_save cX3_save 3 none :: wsG)) B.pre)
  have hown : s.vm.findClass RX3 = some m.cls := findClass_of_methodNamed B.named
  have hlocks := B.notSynchronized
  subst hsz
  have hS : va_S (fA h0 233 s.heap.size) s.heap s.heap [] := va_S.rf
  have hl := lv_entry ([.ref (h0 + 18), .ref (h0 + 6), .int (iZ (co))]) (n := 3) (Nat.le_of_ble_eq_true rfl)
  rw [lg_entry_eq]
  generalize (lg_sl ([.ref (h0 + 18), .ref (h0 + 6), .int (iZ (co))]) ++ List.replicate (3 - (lg_sl ([.ref (h0 + 18), .ref (h0 + 6), .int (iZ (co))])).length) Slot.unset).toArray = ls at hl ⊢
  have hl : lv_has ls 3 [(0, .ref (h0 + 18)), (1, .ref (h0 + 6)), (2, .int (iZ (co)))] := hl
  have hln := rG_len hG
  have hp1 := hpo.1
  refine lv_aload_n hx hb dX3_save_0 rfl (lv_at hl 1 rfl) ?_
  refine fz_get (D := (dC, dI)) (ci := 4) (v := .ref (h0 + 7)) (C := RX4) (T := TX4) (N := 8) hx hb hts inG4 hown hK hP (k := 6) (by decide) (F := (sRF h0 6)) (sE_rowO rowB_6) rfl 0 (by decide) (hts _ k78) (fun _ h9 => h9) rfl dX3_save_1 ?_
  refine lv_iconst (v := iZ 0) hx hb dX3_save_4 rfl ?_
  refine lv_aload_n hx hb dX3_save_5 rfl (lv_at hl 0 rfl) ?_
  refine fz_get (D := (dC, dI)) (ci := 3) (v := .ref (h0 + 19)) (C := RX3) (T := TX3) (N := 5) hx hb hts inG3 hown hK hP (k := 18) (by decide) (F := (sF18 h0)) sE_18 rfl 0 (by decide) (hts _ k130) (fun _ h9 => h9) rfl dX3_save_6 ?_
  refine lv_aload_n hx hb dX3_save_9 rfl (lv_at hl 0 rfl) ?_
  refine fz_get (D := (dC, dI)) (ci := 3) (v := .int (iZ (μ 18 3))) (C := RX3) (T := TX3) (N := 5) hx hb hts inG3 hown hK hP (k := 18) (by decide) (F := (sF18 h0)) sE_18 rfl 3 (by decide) (hts _ k133) (fun _ h9 => h9) rfl dX3_save_10 ?_
  refine fz_ald (k := 19) (n := 16) (k2 := (20 + (μ 18 3).toNat)) hx hb hK hP 2 rfl (by decide) sE_19 rfl ⟨by omega, by omega⟩ (by decide) (if_pos (by omega)) dX3_save_13 ?_
  refine lv_iconst (v := iZ 0) hx hb dX3_save_14 rfl ?_
  refine lv_aload_n hx hb dX3_save_15 rfl (lv_at hl 1 rfl) ?_
  refine fz_get (D := (dC, dI)) (ci := 4) (v := .int (iZ (μ 6 5))) (C := RX4) (T := TX4) (N := 8) hx hb hts inG4 hown hK hP (k := 6) (by decide) (F := (sRF h0 6)) (sE_rowO rowB_6) rfl 5 (by decide) (hts _ k95) (fun _ h9 => h9) rfl dX3_save_16 ?_
  refine fz_copy (k0 := 7) (k1 := (20 + (μ 18 3).toNat)) (n0 := 1100) (n1 := 1100) (sp := 0) (dp := 0) (n := (μ 6 5)) hx hb (hml.trans hl.1.symm) hown (hts _ k499) (hts _ k465) (hts _ k464) (hts _ k19) hK hP fA_in hS (by decide) (by omega) (sE_rowA (r := 1) rowB_6 (by decide)) (sE_codes (show (μ 18 3).toNat < 16 by omega)) rfl (by decide) (by decide) (by omega) (by omega) (by omega) (by omega) (by omega) (Nat.le_of_ble_eq_true rfl) (Nat.le_of_ble_eq_true rfl) dX3_save_19 (fun H locs hP hS => ?_)
  obtain ⟨μ1, eμ1⟩ : ∃ x : va_M, x = uc μ 7 (0 : Int).toNat (20 + (μ 18 3).toNat) (0 : Int).toNat (μ 6 5).toNat := ⟨_, rfl⟩
  rw [← eμ1] at hP
  have ecp := eμ1
  have m3 : μ1 18 3 = μ 18 3 := by rw [ecp, uc_n (by omega)]
  have m4 : μ1 18 4 = μ 18 4 := by rw [ecp, uc_n (by omega)]
  have m5 : μ1 6 5 = μ 6 5 := by rw [ecp, uc_n (by omega)]
  refine lv_aload_n hx hb dX3_save_22 rfl (lv_at hl 0 rfl) ?_
  refine fz_get (D := (dC, dI)) (ci := 3) (v := .ref (h0 + 36)) (C := RX3) (T := TX3) (N := 5) hx hb hts inG3 hown hK hP (k := 18) (by decide) (F := (sF18 h0)) sE_18 rfl 1 (by decide) (hts _ k131) (fun _ h9 => h9) rfl dX3_save_23 ?_
  refine lv_aload_n hx hb dX3_save_26 rfl (lv_at hl 0 rfl) ?_
  refine fz_get (D := (dC, dI)) (ci := 3) (v := .int (iZ (μ1 18 3))) (C := RX3) (T := TX3) (N := 5) hx hb hts inG3 hown hK hP (k := 18) (by decide) (F := (sF18 h0)) sE_18 rfl 3 (by decide) (hts _ k133) (fun _ h9 => h9) rfl dX3_save_27 ?_
  refine lv_aload_n hx hb dX3_save_30 rfl (lv_at hl 1 rfl) ?_
  refine fz_get (D := (dC, dI)) (ci := 4) (v := .int (iZ (μ1 6 5))) (C := RX4) (T := TX4) (N := 8) hx hb hts inG4 hown hK hP (k := 6) (by decide) (F := (sRF h0 6)) (sE_rowO rowB_6) rfl 5 (by decide) (hts _ k95) (fun _ h9 => h9) rfl dX3_save_31 ?_
  refine fz_st (k := 36) (n := 16) (i := (μ1 18 3)) (z := (μ1 6 5)) hx hb hK hP fA_in hS 0 (by decide) sE_36 rfl ⟨by omega, by omega⟩ (by decide) dX3_save_34 (fun H locs hP hS => ?_)
  obtain ⟨μ2, eμ2⟩ : ∃ x : va_M, x = uz μ1 36 (μ1 18 3).toNat (μ1 6 5) := ⟨_, rfl⟩
  rw [← eμ2] at hP
  refine lv_aload_n hx hb dX3_save_35 rfl (lv_at hl 0 rfl) ?_
  refine fz_get (D := (dC, dI)) (ci := 3) (v := .ref (h0 + 37)) (C := RX3) (T := TX3) (N := 5) hx hb hts inG3 hown hK hP (k := 18) (by decide) (F := (sF18 h0)) sE_18 rfl 2 (by decide) (hts _ k132) (fun _ h9 => h9) rfl dX3_save_36 ?_
  refine lv_aload_n hx hb dX3_save_39 rfl (lv_at hl 0 rfl) ?_
  refine fz_get (D := (dC, dI)) (ci := 3) (v := .int (iZ (μ2 18 3))) (C := RX3) (T := TX3) (N := 5) hx hb hts inG3 hown hK hP (k := 18) (by decide) (F := (sF18 h0)) sE_18 rfl 3 (by decide) (hts _ k133) (fun _ h9 => h9) rfl dX3_save_40 ?_
  rw [show μ2 18 3 = μ1 18 3 from by rw [eμ2, uz_n (by omega)]]
  refine lv_iload_n hx hb dX3_save_43 rfl (lv_at hl 2 rfl) ?_
  refine fz_st (k := 37) (n := 16) (i := (μ1 18 3)) (z := co) hx hb hK hP fA_in hS 0 (by decide) sE_37 rfl ⟨by omega, by omega⟩ (by decide) dX3_save_44 (fun H locs hP hS => ?_)
  obtain ⟨μ3, eμ3⟩ : ∃ x : va_M, x = uz μ2 37 (μ1 18 3).toNat (co) := ⟨_, rfl⟩
  rw [← eμ3] at hP
  refine lv_aload_n hx hb dX3_save_45 rfl (lv_at hl 0 rfl) ?_
  refine lv_aload_n hx hb dX3_save_46 rfl (lv_at hl 0 rfl) ?_
  refine fz_get (D := (dC, dI)) (ci := 3) (v := .int (iZ (μ3 18 3))) (C := RX3) (T := TX3) (N := 5) hx hb hts inG3 hown hK hP (k := 18) (by decide) (F := (sF18 h0)) sE_18 rfl 3 (by decide) (hts _ k133) (fun _ h9 => h9) rfl dX3_save_47 ?_
  rw [show μ3 18 3 = μ1 18 3 from by rw [eμ3, uz_n (by omega), eμ2, uz_n (by omega)]]
  refine lv_iconst (v := iZ 1) hx hb dX3_save_50 rfl ?_
  refine lv_iadd hx hb dX3_save_51 ?_
  refine lv_topi (fun x9 ex9 => ?_)
  obtain rfl : x9 = iZ ((μ1 18 3) + 1) := ex9.trans (iZ_add _ _)
  refine lv_bipush (v := iZ 16) hx hb dX3_save_52 rfl ?_
  refine lv_irem hx hb dX3_save_54 (by decide +kernel) ?_
  refine lv_topi (fun x9 ex9 => ?_)
  obtain rfl : x9 = iZ (((μ1 18 3) + 1) % 16) := ex9.trans (iZ_remP (by constructor <;> omega) (by decide) (by omega) (by omega))
  refine fz_put (D := (dC, dI)) (ci := 3) (ty := .int) (z := (((μ1 18 3) + 1) % 16)) (C := RX3) (T := TX3) (N := 5) hx hb hts inG3 tyX3 tyX3_ok nmX3 hown hK hP fA_in hS (k := 18) (by decide) (F := (sF18 h0)) sE_18 rfl 3 (by decide) (hts _ k133) (fun _ h9 => h9) rfl (by decide +kernel) rfl rfl (fun _ => Nat.le_of_ble_eq_true rfl) (fun _ _ => rfl) dX3_save_55 (fun H locs hP hS => ?_)
  obtain ⟨μ4, eμ4⟩ : ∃ x : va_M, x = uz μ3 18 3 (((μ1 18 3) + 1) % 16) := ⟨_, rfl⟩
  rw [← eμ4] at hP
  refine lv_aload_n hx hb dX3_save_58 rfl (lv_at hl 0 rfl) ?_
  refine lv_aload_n hx hb dX3_save_59 rfl (lv_at hl 0 rfl) ?_
  refine fz_get (D := (dC, dI)) (ci := 3) (v := .int (iZ (μ4 18 4))) (C := RX3) (T := TX3) (N := 5) hx hb hts inG3 hown hK hP (k := 18) (by decide) (F := (sF18 h0)) sE_18 rfl 4 (by decide) (hts _ k134) (fun _ h9 => h9) rfl dX3_save_60 ?_
  rw [show μ4 18 4 = μ1 18 4 from by rw [eμ4, uz_n (by omega), eμ3, uz_n (by omega), eμ2, uz_n (by omega)]]
  refine lv_iconst (v := iZ 1) hx hb dX3_save_63 rfl ?_
  refine lv_iadd hx hb dX3_save_64 ?_
  refine lv_topi (fun x9 ex9 => ?_)
  obtain rfl : x9 = iZ ((μ1 18 4) + 1) := ex9.trans (iZ_add _ _)
  refine lv_bipush (v := iZ 16) hx hb dX3_save_65 rfl ?_
  refine va_mmin hx hb (hml.trans hl.1.symm) hown (hts _ k500) (hts _ k501) (hts _ k4) (hts _ k502) (Nat.le_of_ble_eq_true rfl) (Nat.le_of_ble_eq_true rfl) (Nat.le_of_ble_eq_true rfl) (Nat.le_of_ble_eq_true rfl) dX3_save_67 ?_
  refine lv_topi (fun x9 ex9 => ?_)
  obtain rfl : x9 = iZ (min ((μ1 18 4) + 1) 16) := ex9.trans (iZ_mn (by constructor <;> omega) (by decide))
  refine fz_put (D := (dC, dI)) (ci := 3) (ty := .int) (z := (min ((μ1 18 4) + 1) 16)) (C := RX3) (T := TX3) (N := 5) hx hb hts inG3 tyX3 tyX3_ok nmX3 hown hK hP fA_in hS (k := 18) (by decide) (F := (sF18 h0)) sE_18 rfl 4 (by decide) (hts _ k134) (fun _ h9 => h9) rfl (by decide +kernel) rfl rfl (fun _ => Nat.le_of_ble_eq_true rfl) (fun _ _ => rfl) dX3_save_70 (fun H locs hP hS => ?_)
  obtain ⟨μ5, eμ5⟩ : ∃ x : va_M, x = uz μ4 18 4 (min ((μ1 18 4) + 1) 16) := ⟨_, rfl⟩
  rw [← eμ5] at hP
  exact W.vret hx hb hr (fun t9 ht9 hW9 => ⟨⟨μ5, rfl, (by
            try dsimp only
            have B9 : pstOK μ5 ∧ fr PaB μ μ5 := by
              obtain ⟨w, w1_, w2_⟩ := rG_w hG
              have hw5 : μ 6 5 = sL w := w2_.1.1
              have e3 : μ5 18 3 = (μ 18 3 + 1) % 16 := by rw [eμ5, eμ4, eμ3, eμ2, uz_n (by omega), uz_s, m3]
              have e4 : μ5 18 4 = min (μ 18 4 + 1) 16 := by rw [eμ5, eμ4, eμ3, eμ2, uz_s, m4]
              refine ⟨⟨by rw [e3, e4]; omega, fun k hk => ?_⟩, ?_⟩
              · obtain ⟨h1, w8, h2, h3, h4, h5⟩ := hpo.2 k hk
                by_cases h9 : k = (μ 18 3).toNat
                · have ec : ∀ y, μ5 (20 + k) y = if y < sL w then μ (6 + 1) y else μ (20 + k) y := fun y => by
                    rw [eμ5, eμ4, eμ3, eμ2, uz_n (by omega), uz_n (by omega), uz_n (by omega), uz_n (by omega), ecp, h9]
                    by_cases h7 : y < sL w
                    · rw [if_pos h7, uc_s (by omega)]
                      congr 1
                      omega
                    · rw [if_neg h7, uc_n (by omega)]
                  refine ⟨fun i => ?_, w, w1_, SA_to w 0 0 w2_.2.1 (fun d hd => by rw [Nat.zero_add, ec, if_pos hd]), ?_, by omega⟩
                  · rw [ec]
                    split
                    · exact hG.1 i
                    · exact h1 i
                  · rw [eμ5, eμ4, eμ3, eμ2, uz_n (by omega), uz_n (by omega), uz_n (by omega), show k = (μ1 18 3).toNat by omega, uz_s]; omega
                · have ec : ∀ y, μ5 (20 + k) y = μ (20 + k) y := fun y => by
                    rw [eμ5, eμ4, eμ3, eμ2, uz_n (by omega), uz_n (by omega), uz_n (by omega), uz_n (by omega), ecp, uc_n (by omega)]
                  exact ⟨fun i => by rw [ec]; exact h1 i, w8, h2, SA_fr ec w8 0 h3, by rw [eμ5, eμ4, eμ3, eμ2, uz_n (by omega), uz_n (by omega), uz_n (by omega), uz_n (by omega), ecp, uc_n (by omega)]; exact h4, h5⟩
              · rw [eμ5, eμ4, eμ3, eμ2]
                refine fr_uz (fr_uz (fr_uz (fr_uz ?_ (by unfold PaB; omega)) (by unfold PaB; omega)) (by unfold PaB; omega)) (by unfold PaB; omega)
                rw [ecp]
                intro x y h
                exact uc_n (fun h9 => h (by unfold PaB; omega))
            have hw5 : μ 6 5 = sL Wk := hWr.1.1
            refine ⟨B9.1, B9.2, pstX_S hpx hl16 hp1.1 hWr.2.1 (by rw [eμ5, eμ4, eμ3, eμ2, uz_n (by omega), uz_s, m3]) (by rw [eμ5, eμ4, eμ3, eμ2, uz_s, m4]) (fun y hy => ?_) ?_ (fun k hk h9 => ⟨fun y => ?_, ?_⟩)⟩
            · rw [eμ5, eμ4, eμ3, eμ2, uz_n (by omega), uz_n (by omega), uz_n (by omega), uz_n (by omega), ecp, uc_s (by omega)]
              congr 1
              omega
            · rw [eμ5, eμ4, eμ3, eμ2, uz_n (by omega), uz_n (by omega), uz_n (by omega), show (μ 18 3).toNat = (μ1 18 3).toNat by omega, uz_s]; omega
            · rw [eμ5, eμ4, eμ3, eμ2, uz_n (by omega), uz_n (by omega), uz_n (by omega), uz_n (by omega), ecp, uc_n (by omega)]
            · rw [eμ5, eμ4, eμ3, eμ2, uz_n (by omega), uz_n (by omega), uz_n (by omega), uz_n (by omega), ecp, uc_n (by omega)]), by rw [ht9]; exact hP, va_K.moved hW9.alike hK⟩, hS.F ht9⟩) hS.2.2 dX3_save_73
set_option maxHeartbeats 4000000 in
set_option maxRecDepth 100000 in
theorem s_Prestore2 (l : Launch) (dC : Nat → ClassId) (dI : Nat → Nat → Nat) (cI cZ cII cIII : ClassId) (h0 sz : Nat) (μ : va_M) (B8 : Rw) (Bt : List Rw) (hG : rG μ 6 1100) (hpo : pstOK μ) (hpx : pstX μ (B8 :: Bt)) (hB : rWF B8 ∧ sL B8 ≤ 1100) : Met l yX3_restore (Cond.code yX3_restore cX3_restore 2 (some .int) :: wsG) ({ frames := 4, cells := 0, slots := 0, locals := 81 } : Room) (va_Pc [.ref (h0 + 18), .ref (h0 + 6)] (fun U => U.heap.size = sz ∧ va_P (dC, dI) vwCl (fw (sE cI cZ cII cIII h0) h0 233 μ) U.heap ∧ va_K (dC, dI) vwCl (sT cI cZ cII cIII) U ∧ xM U)) (va_Qi (fun (r9 : Int32) (u : va_M × Int) => r9 = iZ u.2 ∧ (fun (u : va_M) (r : Int) => pstOK u ∧ rG u 6 1100 ∧ fr (fun x y => PaB x y ∨ LEq 6 x y) μ u ∧ rowS u 6 B8 ∧ pstX u Bt) u.1 u.2) (fun u t => va_P (dC, dI) vwCl (fw (sE cI cZ cII cIII h0) h0 233 u.1) t.heap ∧ va_K (dC, dI) vwCl (sT cI cZ cII cIII) t) (fA h0 233 sz)) 0 0 (fA h0 233 sz) := by
  refine Met.ofW (cc := cX3_restore) (maxL := 2) (ret := (some .int)) (by decide) rfl ?_
  intro p e s m args below meth c s₁ B hml hv
  obtain ⟨rfl, hsz, hP, hK, hM⟩ := hv
  have hx := B.exec
  have hb := B.bytes
  have hr := B.returns
  have hts : ∀ w ∈ wsG, w.before _ s = true := hG_of (atoms_spec (ws := (Cond.code yX3_restore cX3_restore 2 (some .int) :: wsG)) B.pre)
  have hown : s.vm.findClass RX3 = some m.cls := findClass_of_methodNamed B.named
  have hlocks := B.notSynchronized
  subst hsz
  have hS : va_S (fA h0 233 s.heap.size) s.heap s.heap [] := va_S.rf
  have hl := lv_entry ([.ref (h0 + 18), .ref (h0 + 6)]) (n := 2) (Nat.le_of_ble_eq_true rfl)
  rw [lg_entry_eq]
  generalize (lg_sl ([.ref (h0 + 18), .ref (h0 + 6)]) ++ List.replicate (2 - (lg_sl ([.ref (h0 + 18), .ref (h0 + 6)])).length) Slot.unset).toArray = ls at hl ⊢
  have hl : lv_has ls 2 [(0, .ref (h0 + 18)), (1, .ref (h0 + 6))] := hl
  have hln := rG_len hG
  have hp1 := hpo.1
  refine lv_aload_n hx hb dX3_restore_0 rfl (lv_at hl 0 rfl) ?_
  refine lv_aload_n hx hb dX3_restore_1 rfl (lv_at hl 0 rfl) ?_
  refine fz_get (D := (dC, dI)) (ci := 3) (v := .int (iZ (μ 18 3))) (C := RX3) (T := TX3) (N := 5) hx hb hts inG3 hown hK hP (k := 18) (by decide) (F := (sF18 h0)) sE_18 rfl 3 (by decide) (hts _ k133) (fun _ h9 => h9) rfl dX3_restore_2 ?_
  refine lv_bipush (v := iZ 16) hx hb dX3_restore_5 rfl ?_
  refine lv_iadd hx hb dX3_restore_7 ?_
  refine lv_topi (fun x9 ex9 => ?_)
  obtain rfl : x9 = iZ ((μ 18 3) + 16) := ex9.trans (iZ_add _ _)
  refine lv_iconst (v := iZ 1) hx hb dX3_restore_8 rfl ?_
  refine lv_isub hx hb dX3_restore_9 ?_
  refine lv_topi (fun x9 ex9 => ?_)
  obtain rfl : x9 = iZ (((μ 18 3) + 16) - 1) := ex9.trans (iZ_sub _ _)
  refine lv_bipush (v := iZ 16) hx hb dX3_restore_10 rfl ?_
  refine lv_irem hx hb dX3_restore_12 (by decide +kernel) ?_
  refine lv_topi (fun x9 ex9 => ?_)
  obtain rfl : x9 = iZ ((((μ 18 3) + 16) - 1) % 16) := ex9.trans (iZ_remP (by constructor <;> omega) (by decide) (by omega) (by omega))
  refine fz_put (D := (dC, dI)) (ci := 3) (ty := .int) (z := ((((μ 18 3) + 16) - 1) % 16)) (C := RX3) (T := TX3) (N := 5) hx hb hts inG3 tyX3 tyX3_ok nmX3 hown hK hP fA_in hS (k := 18) (by decide) (F := (sF18 h0)) sE_18 rfl 3 (by decide) (hts _ k133) (fun _ h9 => h9) rfl (by decide +kernel) rfl rfl (fun _ => Nat.le_of_ble_eq_true rfl) (fun _ _ => rfl) dX3_restore_13 (fun H locs hP hS => ?_)
  obtain ⟨μ1, eμ1⟩ : ∃ x : va_M, x = uz μ 18 3 ((((μ 18 3) + 16) - 1) % 16) := ⟨_, rfl⟩
  rw [← eμ1] at hP
  refine lv_aload_n hx hb dX3_restore_16 rfl (lv_at hl 0 rfl) ?_
  refine lv_aload_n hx hb dX3_restore_17 rfl (lv_at hl 0 rfl) ?_
  refine fz_get (D := (dC, dI)) (ci := 3) (v := .int (iZ (μ1 18 4))) (C := RX3) (T := TX3) (N := 5) hx hb hts inG3 hown hK hP (k := 18) (by decide) (F := (sF18 h0)) sE_18 rfl 4 (by decide) (hts _ k134) (fun _ h9 => h9) rfl dX3_restore_18 ?_
  rw [show μ1 18 4 = μ 18 4 from by rw [eμ1, uz_n (by omega)]]
  refine lv_iconst (v := iZ 1) hx hb dX3_restore_21 rfl ?_
  refine lv_isub hx hb dX3_restore_22 ?_
  refine lv_topi (fun x9 ex9 => ?_)
  obtain rfl : x9 = iZ ((μ 18 4) - 1) := ex9.trans (iZ_sub _ _)
  refine lv_iconst (v := iZ 0) hx hb dX3_restore_23 rfl ?_
  refine va_mmax hx hb (hml.trans hl.1.symm) hown (hts _ k511) (hts _ k75) (hts _ k4) (hts _ k76) (Nat.le_of_ble_eq_true rfl) (Nat.le_of_ble_eq_true rfl) (Nat.le_of_ble_eq_true rfl) (Nat.le_of_ble_eq_true rfl) dX3_restore_24 ?_
  refine lv_topi (fun x9 ex9 => ?_)
  obtain rfl : x9 = iZ (max ((μ 18 4) - 1) 0) := ex9.trans (iZ_mx (by constructor <;> omega) (by decide))
  refine fz_put (D := (dC, dI)) (ci := 3) (ty := .int) (z := (max ((μ 18 4) - 1) 0)) (C := RX3) (T := TX3) (N := 5) hx hb hts inG3 tyX3 tyX3_ok nmX3 hown hK hP fA_in hS (k := 18) (by decide) (F := (sF18 h0)) sE_18 rfl 4 (by decide) (hts _ k134) (fun _ h9 => h9) rfl (by decide +kernel) rfl rfl (fun _ => Nat.le_of_ble_eq_true rfl) (fun _ _ => rfl) dX3_restore_27 (fun H locs hP hS => ?_)
  obtain ⟨μ2, eμ2⟩ : ∃ x : va_M, x = uz μ1 18 4 (max ((μ 18 4) - 1) 0) := ⟨_, rfl⟩
  rw [← eμ2] at hP
  obtain ⟨s1_, -⟩ := hpo.2 ((μ 18 3 + 16 - 1) % 16).toNat (by omega)
  obtain ⟨w2_, w3_⟩ := hpx.2 0 B8 rfl
  rw [show ((μ 18 3 - 1 - ((0 : Nat) : Int)) % 16).toNat = ((μ 18 3 + 16 - 1) % 16).toNat by omega] at w2_ w3_
  have w1_ := rWF_0 B8 hB.1
  have w4_ := hB.2
  have e3 : μ2 18 3 = (μ 18 3 + 16 - 1) % 16 := by rw [eμ2, eμ1, uz_n (by omega), uz_s]
  have eN : ∀ x y, x ≠ 18 → μ2 x y = μ x y := fun x y h => by rw [eμ2, eμ1, uz_n (by omega), uz_n (by omega)]
  have F0 : fr PaB μ μ2 := by rw [eμ2, eμ1]; exact fr_uz (fr_uz fr_rfl (by unfold PaB; omega)) (by unfold PaB; omega)
  have P0 : pstOK μ2 := by
    refine ⟨?_, fun k hk => ?_⟩
    · have e4 : μ2 18 4 = max (μ 18 4 - 1) 0 := by rw [eμ2, eμ1, uz_s]
      rw [e3, e4]; omega
    · obtain ⟨h1, w8, h2, h3, h4, h5⟩ := hpo.2 k hk
      exact ⟨fun i => by rw [eN _ _ (by omega)]; exact h1 i, w8, h2, SA_fr (fun y => eN _ y (by omega)) w8 0 h3, by rw [eN _ _ (by omega)]; exact h4, h5⟩
  have e36 := eN 36 ((μ 18 3 + 16 - 1) % 16).toNat (by omega)
  have e4b : μ2 18 4 = max (μ 18 4 - 1) 0 := by rw [eμ2, eμ1, uz_s]
  refine lv_aload_n hx hb dX3_restore_30 rfl (lv_at hl 1 rfl) ?_
  refine lv_aload_n hx hb dX3_restore_31 rfl (lv_at hl 0 rfl) ?_
  refine fz_get (D := (dC, dI)) (ci := 3) (v := .ref (h0 + 19)) (C := RX3) (T := TX3) (N := 5) hx hb hts inG3 hown hK hP (k := 18) (by decide) (F := (sF18 h0)) sE_18 rfl 0 (by decide) (hts _ k130) (fun _ h9 => h9) rfl dX3_restore_32 ?_
  refine lv_aload_n hx hb dX3_restore_35 rfl (lv_at hl 0 rfl) ?_
  refine fz_get (D := (dC, dI)) (ci := 3) (v := .int (iZ (μ2 18 3))) (C := RX3) (T := TX3) (N := 5) hx hb hts inG3 hown hK hP (k := 18) (by decide) (F := (sF18 h0)) sE_18 rfl 3 (by decide) (hts _ k133) (fun _ h9 => h9) rfl dX3_restore_36 ?_
  rw [show μ2 18 3 = (((μ 18 3) + 16) - 1) % 16 from by rw [eμ2, uz_n (by omega), eμ1, uz_s]]
  refine fz_ald (k := 19) (n := 16) (k2 := (20 + ((((μ 18 3) + 16) - 1) % 16).toNat)) hx hb hK hP 2 rfl (by decide) sE_19 rfl ⟨by omega, by omega⟩ (by decide) (if_pos (by omega)) dX3_restore_39 ?_
  refine lv_aload_n hx hb dX3_restore_40 rfl (lv_at hl 0 rfl) ?_
  refine fz_get (D := (dC, dI)) (ci := 3) (v := .ref (h0 + 36)) (C := RX3) (T := TX3) (N := 5) hx hb hts inG3 hown hK hP (k := 18) (by decide) (F := (sF18 h0)) sE_18 rfl 1 (by decide) (hts _ k131) (fun _ h9 => h9) rfl dX3_restore_41 ?_
  refine lv_aload_n hx hb dX3_restore_44 rfl (lv_at hl 0 rfl) ?_
  refine fz_get (D := (dC, dI)) (ci := 3) (v := .int (iZ (μ2 18 3))) (C := RX3) (T := TX3) (N := 5) hx hb hts inG3 hown hK hP (k := 18) (by decide) (F := (sF18 h0)) sE_18 rfl 3 (by decide) (hts _ k133) (fun _ h9 => h9) rfl dX3_restore_45 ?_
  rw [show μ2 18 3 = (((μ 18 3) + 16) - 1) % 16 from by rw [eμ2, uz_n (by omega), eμ1, uz_s]]
  refine fz_ld (k := 36) (n := 16) hx hb hK hP 0 (by decide) sE_36 rfl ⟨by omega, by omega⟩ (by decide) dX3_restore_48 ?_
  rw [show μ2 36 ((((μ 18 3) + 16) - 1) % 16).toNat = μ 36 ((((μ 18 3) + 16) - 1) % 16).toNat from by rw [eμ2, uz_n (by omega), eμ1, uz_n (by omega)]]
  refine va_callv (va_runV (As := [.ref (h0 + (20 + ((((μ 18 3) + 16) - 1) % 16).toNat)), .int (iZ (μ 36 ((((μ 18 3) + 16) - 1) % 16).toNat))]) (rest := []) ⟨hx, hb, hml, hown, hts⟩ (s_Rload3 l dC dI cI cZ cII cIII h0 H.size μ2 (6) (1100) ((20 + ((((μ 18 3) + 16) - 1) % 16).toNat)) (1100) (μ 36 ((((μ 18 3) + 16) - 1) % 16).toNat) (B8) (rowB_6) (by omega) ((sE_codes (show ((((μ 18 3) + 16) - 1) % 16).toNat < 16 by omega))) (by omega) (by exact w1_) (by exact SA_fr (fun y => eN _ y (by omega)) B8 0 w2_)) (cwV 2 hts (gV_G k512 k403 k404 k3 k405) rfl rfl rfl (by decide +kernel) ⟨Nat.le_of_ble_eq_true rfl, Nat.le_of_ble_eq_true rfl⟩) ⟨fun a U g mk q => by obtain ⟨q0, q1, qP, qK, qM⟩ := q; exact ⟨q0, q1, qP, va_K.moved (u := U) (U := U.calling g mk a) (Vm.Alike.refl U.vm) qK, qM⟩, va_recv hK hP (ci := 4) (q0 := 6) rfl ((fw_get (by decide)).trans (by rw [(sE_rowO rowB_6)])), fun U hU hW => ⟨rfl, by rw [hU], by rw [hU]; exact hP, va_K.moved hW.alike hK, xM_warm hW hM⟩⟩ rfl rfl hl.1 rfl (lv_room (Nat.le_of_ble_eq_true rfl)) dX3_restore_49 ⟨Nat.le_of_ble_eq_true rfl, Nat.le_of_ble_eq_true rfl⟩) hS (fun q _ h => fA_le hS.1 q h) (fA_le hS.1) (fun u9 t9 H1 locs ht9 hvm9 hw9 hB9 hz9 hk9 hS => ?_)
  obtain ⟨hP, -⟩ := hB9
  rw [ht9] at hP
  generalize H1 = H at hP hS ⊢
  obtain ⟨μl, eμl⟩ : ∃ x : va_M, x = u9 := ⟨_, rfl⟩
  rw [← eμl] at hP hw9
  have hμl := hw9; clear hw9
  obtain ⟨⟨a1_, a2_, a3_⟩, a4_, -⟩ := hμl
  have G9 : rG μl 6 1100 := rG_load (rG_fr hG (fun x y h8 h9 => eN _ _ (by omega))) w1_ (fun i => by rw [eN _ _ (by omega)]; exact s1_ i) a4_ a1_ a2_ a3_
  have b3 : μl 18 3 = (μ 18 3 + 16 - 1) % 16 := by rw [a2_ _ _ (by unfold LEw LEq; omega)]; exact e3
  have b4 : μl 18 4 = max (μ 18 4 - 1) 0 := by rw [a2_ _ _ (by unfold LEw LEq; omega)]; exact e4b
  have a9_ : rowS μl 6 B8 := by
    have h9 := a1_
    unfold rcut at h9
    rw [if_pos w4_] at h9
    exact h9
  refine lv_aload_n hx hb dX3_restore_52 rfl (lv_at hl 0 rfl) ?_
  refine fz_get (D := (dC, dI)) (ci := 3) (v := .ref (h0 + 37)) (C := RX3) (T := TX3) (N := 5) hx hb hts inG3 hown hK hP (k := 18) (by decide) (F := (sF18 h0)) sE_18 rfl 2 (by decide) (hts _ k132) (fun _ h9 => h9) rfl dX3_restore_53 ?_
  refine lv_aload_n hx hb dX3_restore_56 rfl (lv_at hl 0 rfl) ?_
  refine fz_get (D := (dC, dI)) (ci := 3) (v := .int (iZ (μl 18 3))) (C := RX3) (T := TX3) (N := 5) hx hb hts inG3 hown hK hP (k := 18) (by decide) (F := (sF18 h0)) sE_18 rfl 3 (by decide) (hts _ k133) (fun _ h9 => h9) rfl dX3_restore_57 ?_
  refine fz_ld (k := 37) (n := 16) hx hb hK hP 0 (by decide) sE_37 rfl ⟨by omega, by omega⟩ (by decide) dX3_restore_60 ?_
  exact W.iret (v := iZ (μl 37 (μl 18 3).toNat)) hx hb hr (fun t9 ht9 hW9 => ⟨⟨iZ (μl 37 (μl 18 3).toNat), (μl, μl 37 (μl 18 3).toNat), rfl, ⟨rfl, (by
            dsimp only
            exact ⟨pst_fr P0 (fun x y h8 h9 => a2_ _ _ (by unfold LEw LEq; omega)), G9, fr_trans (fr_mono F0 (fun x y h => Or.inl h)) (fr_mono a2_ (fun x y h => Or.inr (LEw_4 h))), a9_, pstX_T hpx hp1.1 b3 b4 (fun x y h8 h9 => by rw [a2_ _ _ (by unfold LEw LEq; omega)]; exact eN _ _ (by omega))⟩)⟩, by rw [ht9]; exact hP, va_K.moved hW9.alike hK⟩, hS.F ht9⟩) hS.2.2 dX3_restore_61

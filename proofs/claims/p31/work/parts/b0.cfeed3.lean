
/-! the class is fed: what holds of every place of the tape -/
set_option maxHeartbeats 4000000 in
set_option maxRecDepth 100000 in
theorem LX5_feedNumber_3F {p : Program} {l : Launch} {e : Env} {R : Room} {s : State} {m : MethodId} {args : Array Value} {below : List Frame} {meth : Method} {c : Code} {cells slots : Nat} {Q : State → Prop} {dC : Nat → ClassId} {dI : Nat → Nat → Nat} {h0 : Nat} {cI cZ cII cIII : ClassId} (hx : p.tables.exec = Jvm.exec) (hb : c.code = cX5_feedNumber) (hml : c.maxLocals = 3) (hown : s.vm.findClass RX5 = some m.cls) (hts : ∀ w ∈ wsG, w.before args s = true) (hK : va_K (dC, dI) vwCl (sT cI cZ cII cIII) s) (hM : xM s) (hRf : 1 ≤ R.frames) (hRl : 14 ≤ R.locals) (hRc : cells ≤ R.cells) (hRs : slots ≤ R.slots) (μ0 : va_M) (t0 : Int) (nb : Int) (ht0 : 0 ≤ t0 ∧ t0 + 4 ≤ 400) (hexit51 : ∀ (k : Int) (sh : Int) (μ : va_M) (H : Heap) (locs : List Loc) (ls : Array Slot), (μ 1 1 = t0 + 4) → (fr (fun x y => (x = 1 ∧ y = 1) ∨ x = 2) μ0 μ) → (∀ j : Nat, μ 2 j = if t0 ≤ j ∧ (j : Int) < t0 + 4 then bz nb (j - t0) else μ0 2 j) → va_P (dC, dI) vwCl (fw (sE cI cZ cII cIII h0) h0 233 μ) H → va_S (fA h0 233 s.heap.size) s.heap H locs → lv_has ls 3 [] → W p l e R s m args below meth c H locs cells slots Q (F0 m 51 ls [])) :
    ∀ (n9 : Nat) (k : Int) (sh : Int) (μ : va_M) (H : Heap) (locs : List Loc) (ls : Array Slot), (0 ≤ k ∧ k ≤ 4) → (sh = 24 - 8 * k) → (μ 1 1 = t0 + k) → (fr (fun x y => (x = 1 ∧ y = 1) ∨ x = 2) μ0 μ) → (∀ j : Nat, μ 2 j = if t0 ≤ j ∧ (j : Int) < t0 + k then bz nb (j - t0) else μ0 2 j) → (5 - k).toNat < n9 → va_P (dC, dI) vwCl (fw (sE cI cZ cII cIII h0) h0 233 μ) H → va_S (fA h0 233 s.heap.size) s.heap H locs → lv_has ls 3 [(2, .int (iZ (sh))), (1, .int (iZ (nb))), (0, .ref (h0 + 1))] → W p l e R s m args below meth c H locs cells slots Q (F0 m 3 ls []) := by
  intro n9
  induction n9 with
  | zero => intro k sh μ H locs ls hk hsh ht hf hfed hm9 hP hS hl; exact absurd hm9 (Nat.not_lt_zero _)
  | succ n9 ih =>
    intro k sh μ H locs ls hk hsh ht hf hfed hm9 hP hS hl
    refine lv_iload_n hx hb dX5_feedNumber_3 rfl (lv_at hl 0 rfl) ?_
    refine fz_if_lt (tgt := 51) (by constructor <;> (first | ((try clear hm9); (try clear hfed); (try clear hf); (try clear ht); (try clear hexit51); (try clear ht0); (try clear hRs); (try clear hRc); (try clear hRl); (try clear hRf); omega) | omega)) hx hb dX5_feedNumber_4 (by decide) (fun c4_ => ?_) (fun c4_ => ?_)
    · exact hexit51 (k) (sh) μ H locs ls (by (first | ((try clear hm9); (try clear hfed); (try clear hf); (try clear hexit51); (try clear ht0); (try clear hRs); (try clear hRc); (try clear hRl); (try clear hRf); omega) | omega)) (by exact hf) (by
                    obtain rfl : k = 4 := by (first | ((try clear hm9); (try clear hfed); (try clear hf); (try clear ht); (try clear hexit51); (try clear ht0); (try clear hRs); (try clear hRc); (try clear hRl); (try clear hRf); omega) | omega)
                    exact hfed) hP hS (lv_sub hl [] rfl)
    · have hk4 : k < 4 := by (first | ((try clear hk4); (try clear hm9); (try clear hfed); (try clear hf); (try clear ht); (try clear hexit51); (try clear ht0); (try clear hRs); (try clear hRc); (try clear hRl); (try clear hRf); omega) | omega)
      refine lv_aload_n hx hb dX5_feedNumber_7 rfl (lv_at hl 2 rfl) ?_
      refine fz_get (D := (dC, dI)) (ci := 5) (v := .int (iZ (μ 1 1))) (C := RX5) (T := TX5) (N := 8) hx hb hts inG5 hown hK hP (k := 1) (by decide) (F := (sF1 h0)) sE_1 rfl 1 (by decide) (hts _ k36) (fun _ h9 => h9) rfl dX5_feedNumber_8 ?_
      refine lv_aload_n hx hb dX5_feedNumber_11 rfl (lv_at hl 2 rfl) ?_
      refine fz_get (D := (dC, dI)) (ci := 5) (v := .ref (h0 + 2)) (C := RX5) (T := TX5) (N := 8) hx hb hts inG5 hown hK hP (k := 1) (by decide) (F := (sF1 h0)) sE_1 rfl 0 (by decide) (hts _ k35) (fun _ h9 => h9) rfl dX5_feedNumber_12 ?_
      refine fz_len (k := 2) (n := 400) hx hb hK hP 0 (by decide) sE_2 rfl dX5_feedNumber_15 ?_
      refine fz_icmp_ge (tgt := 45) (by constructor <;> (first | ((try clear c4_); (try clear hm9); (try clear hfed); (try clear hf); (try clear hsh); (try clear hexit51); (try clear hRs); (try clear hRc); (try clear hRl); (try clear hRf); omega) | omega)) (by decide) hx hb dX5_feedNumber_16 (by decide) (fun h9 => (by (first | ((try clear c4_); (try clear hm9); (try clear hfed); (try clear hf); (try clear hsh); (try clear hexit51); (try clear hRs); (try clear hRc); (try clear hRl); (try clear hRf); omega) | omega))) (fun c16_ => ?_)
      refine lv_aload_n hx hb dX5_feedNumber_19 rfl (lv_at hl 2 rfl) ?_
      refine fz_get (D := (dC, dI)) (ci := 5) (v := .ref (h0 + 2)) (C := RX5) (T := TX5) (N := 8) hx hb hts inG5 hown hK hP (k := 1) (by decide) (F := (sF1 h0)) sE_1 rfl 0 (by decide) (hts _ k35) (fun _ h9 => h9) rfl dX5_feedNumber_20 ?_
      refine lv_aload_n hx hb dX5_feedNumber_23 rfl (lv_at hl 2 rfl) ?_
      refine fz_get (D := (dC, dI)) (ci := 5) (v := .int (iZ (μ 1 1))) (C := RX5) (T := TX5) (N := 8) hx hb hts inG5 hown hK hP (k := 1) (by decide) (F := (sF1 h0)) sE_1 rfl 1 (by decide) (hts _ k36) (fun _ h9 => h9) rfl dX5_feedNumber_24 ?_
      refine lv_iload_n hx hb dX5_feedNumber_27 rfl (lv_at hl 1 rfl) ?_
      refine lv_iload_n hx hb dX5_feedNumber_28 rfl (lv_at hl 0 rfl) ?_
      refine lv_iushr hx hb dX5_feedNumber_29 rfl ?_
      refine lv_topi (fun x9 ex9 => ?_)
      obtain ⟨z1, rfl, hz1⟩ := iZ_ex x9
      have ez1 := ex9; clear ex9
      refine lv_sipush (v := iZ 255) hx hb dX5_feedNumber_30 rfl ?_
      refine lv_iand hx hb dX5_feedNumber_33 ?_
      refine lv_topi (fun x9 ex9 => ?_)
      obtain ⟨z2, rfl, hz2⟩ := iZ_ex x9
      have ez2 := ex9; clear ex9
      refine fz_st (k := 2) (n := 400) (i := (μ 1 1)) (z := z2) hx hb hK hP fA_in hS 0 (by decide) sE_2 rfl ⟨by (first | ((try clear ez2); (try clear hz2); (try clear ex9); (try clear ez1); (try clear hz1); (try clear c16_); (try clear c4_); (try clear hm9); (try clear hfed); (try clear hf); (try clear hsh); (try clear hexit51); (try clear hRs); (try clear hRc); (try clear hRl); (try clear hRf); omega) | omega), by (first | ((try clear ez2); (try clear hz2); (try clear z2); (try clear ex9); (try clear ez1); (try clear hz1); (try clear z1); (try clear hk4); (try clear c4_); (try clear hm9); (try clear hfed); (try clear hf); (try clear ht); (try clear hsh); (try clear hk); (try clear hexit51); (try clear ht0); (try clear hRs); (try clear hRc); (try clear hRl); (try clear hRf); omega) | omega)⟩ (by decide) dX5_feedNumber_34 (fun H locs hP hS => ?_)
      obtain ⟨μ3, eμ3⟩ : ∃ x : va_M, x = uz μ 2 (μ 1 1).toNat (z2) := ⟨_, rfl⟩
      rw [← eμ3] at hP
      refine lv_aload_n hx hb dX5_feedNumber_35 rfl (lv_at hl 2 rfl) ?_
      refine lv_dup hx hb dX5_feedNumber_36 rfl ?_
      refine fz_get (D := (dC, dI)) (ci := 5) (v := .int (iZ (μ3 1 1))) (C := RX5) (T := TX5) (N := 8) hx hb hts inG5 hown hK hP (k := 1) (by decide) (F := (sF1 h0)) sE_1 rfl 1 (by decide) (hts _ k36) (fun _ h9 => h9) rfl dX5_feedNumber_37 ?_
      rw [show μ3 1 1 = μ 1 1 from by rw [eμ3, uz_n (by (first | ((try clear x); (try clear eμ3); (try clear μ3); (try clear ez2); (try clear hz2); (try clear ex9); (try clear ez1); (try clear hz1); (try clear c16_); (try clear hk4); (try clear c4_); (try clear hm9); (try clear hfed); (try clear hf); (try clear ht); (try clear hsh); (try clear hk); (try clear hexit51); (try clear ht0); (try clear hRs); (try clear hRc); (try clear hRl); (try clear hRf); omega) | omega))]]
      refine lv_iconst (v := iZ 1) hx hb dX5_feedNumber_40 rfl ?_
      refine lv_iadd hx hb dX5_feedNumber_41 ?_
      refine lv_topi (fun x9 ex9 => ?_)
      obtain rfl : x9 = iZ ((μ 1 1) + 1) := ex9.trans (iZ_add _ _)
      refine fz_put (D := (dC, dI)) (ci := 5) (ty := .int) (z := ((μ 1 1) + 1)) (C := RX5) (T := TX5) (N := 8) hx hb hts inG5 tyX5 tyX5_ok nmX5 hown hK hP fA_in hS (k := 1) (by decide) (F := (sF1 h0)) sE_1 rfl 1 (by decide) (hts _ k36) (fun _ h9 => h9) rfl (by decide +kernel) rfl rfl (fun _ => Nat.le_of_ble_eq_true rfl) (fun _ _ => rfl) dX5_feedNumber_42 (fun H locs hP hS => ?_)
      obtain ⟨μ4, eμ4⟩ : ∃ x : va_M, x = uz μ3 1 1 ((μ 1 1) + 1) := ⟨_, rfl⟩
      rw [← eμ4] at hP
      refine lv_iinc (v := iZ (sh - 8)) (lv' := [(2, .int (iZ (sh - 8))), (1, .int (iZ (nb))), (0, .ref (h0 + 1))]) hx hb dX5_feedNumber_45 hl (k := 0) rfl (iZ_add _ (-8)) (by decide) rfl (fun ls hl => ?_)
      refine lv_goto (tgt := 3) hx hb dX5_feedNumber_48 (by decide) ?_
      exact ih (k + 1) (sh - 8) μ4 H locs ls (by (first | ((try clear μ3); (try clear x); (try clear eμ4); (try clear μ4); (try clear ex9); (try clear eμ3); (try clear ez2); (try clear hz2); (try clear ez1); (try clear hz1); (try clear c16_); (try clear c4_); (try clear hm9); (try clear hfed); (try clear hf); (try clear ht); (try clear hsh); (try clear hexit51); (try clear ht0); (try clear hRs); (try clear hRc); (try clear hRl); (try clear hRf); omega) | omega)) (by (first | ((try clear μ3); (try clear x); (try clear eμ4); (try clear μ4); (try clear ex9); (try clear eμ3); (try clear ez2); (try clear hz2); (try clear ez1); (try clear hz1); (try clear c16_); (try clear hk4); (try clear c4_); (try clear hm9); (try clear hfed); (try clear hf); (try clear ht); (try clear hk); (try clear hexit51); (try clear ht0); (try clear hRs); (try clear hRc); (try clear hRl); (try clear hRf); omega) | omega)) (by rw [eμ4, eμ3, uz_s]; (first | ((try clear μ3); (try clear x); (try clear eμ4); (try clear μ4); (try clear ex9); (try clear eμ3); (try clear ez2); (try clear hz2); (try clear ez1); (try clear hz1); (try clear c16_); (try clear hk4); (try clear c4_); (try clear hm9); (try clear hfed); (try clear hf); (try clear hsh); (try clear hk); (try clear hexit51); (try clear ht0); (try clear hRs); (try clear hRc); (try clear hRl); (try clear hRf); omega) | omega)) (by rw [eμ4, eμ3]; exact fr_uz (fr_uz hf (Or.inr rfl)) (Or.inl ⟨rfl, rfl⟩)) (by
                    intro j
                    rw [eμ4, eμ3, uz_n (by (first | ((try clear μ3); (try clear x); (try clear eμ4); (try clear μ4); (try clear ex9); (try clear eμ3); (try clear ez2); (try clear hz2); (try clear ez1); (try clear hz1); (try clear c16_); (try clear hk4); (try clear c4_); (try clear hm9); (try clear hfed); (try clear hf); (try clear ht); (try clear hsh); (try clear hk); (try clear hexit51); (try clear ht0); (try clear hRs); (try clear hRc); (try clear hRl); (try clear hRf); omega) | omega))]
                    by_cases hj2 : j = (μ 1 1).toNat
                    · have hjz : (j : Int) = t0 + k := by (first | ((try clear hjz); (try clear μ3); (try clear x); (try clear eμ4); (try clear μ4); (try clear ex9); (try clear eμ3); (try clear ez2); (try clear hz2); (try clear ez1); (try clear hz1); (try clear c16_); (try clear c4_); (try clear hm9); (try clear hfed); (try clear hf); (try clear hsh); (try clear hexit51); (try clear hRs); (try clear hRc); (try clear hRl); (try clear hRf); omega) | omega)
                      rw [← hj2, uz_s, if_pos (by (first | ((try clear μ3); (try clear x); (try clear eμ4); (try clear μ4); (try clear ex9); (try clear eμ3); (try clear ez2); (try clear hz2); (try clear ez1); (try clear hz1); (try clear c4_); (try clear hm9); (try clear hfed); (try clear hf); (try clear hsh); (try clear hexit51); (try clear hRs); (try clear hRc); (try clear hRl); (try clear hRf); omega) | omega)), hjz, show t0 + k - t0 = k by (first | ((try clear hjz); (try clear hj2); (try clear μ3); (try clear x); (try clear eμ4); (try clear μ4); (try clear ex9); (try clear eμ3); (try clear ez2); (try clear hz2); (try clear ez1); (try clear hz1); (try clear c16_); (try clear hk4); (try clear c4_); (try clear hm9); (try clear hfed); (try clear hf); (try clear ht); (try clear hsh); (try clear hk); (try clear hexit51); (try clear ht0); (try clear hRs); (try clear hRc); (try clear hRl); (try clear hRf); omega) | omega)]
                      exact by_bz ⟨hk.1, hk4⟩ hsh hz2 ez1 ez2
                    · rw [uz_n (by (first | ((try clear μ3); (try clear x); (try clear eμ4); (try clear μ4); (try clear ex9); (try clear eμ3); (try clear ez2); (try clear hz2); (try clear ez1); (try clear hz1); (try clear c16_); (try clear hk4); (try clear c4_); (try clear hm9); (try clear hfed); (try clear hf); (try clear ht); (try clear hsh); (try clear hk); (try clear hexit51); (try clear ht0); (try clear hRs); (try clear hRc); (try clear hRl); (try clear hRf); omega) | omega)), hfed j]
                      have h5 : (t0 ≤ (j : Int) ∧ (j : Int) < t0 + (k + 1)) ↔ (t0 ≤ (j : Int) ∧ (j : Int) < t0 + k) := by (first | ((try clear h5); (try clear μ3); (try clear x); (try clear eμ4); (try clear μ4); (try clear ex9); (try clear eμ3); (try clear ez2); (try clear hz2); (try clear ez1); (try clear hz1); (try clear hk4); (try clear c4_); (try clear hm9); (try clear hfed); (try clear hf); (try clear hsh); (try clear hk); (try clear hexit51); (try clear ht0); (try clear hRs); (try clear hRc); (try clear hRl); (try clear hRf); omega) | omega)
                      simp only [h5]) (by (first | ((try clear h5); (try clear hj2); (try clear μ3); (try clear x); (try clear eμ4); (try clear μ4); (try clear ex9); (try clear eμ3); (try clear ez2); (try clear hz2); (try clear ez1); (try clear hz1); (try clear c16_); (try clear c4_); (try clear hfed); (try clear hf); (try clear ht); (try clear hsh); (try clear hexit51); (try clear ht0); (try clear hRs); (try clear hRc); (try clear hRl); (try clear hRf); omega) | omega)) hP hS (lv_sub hl [0, 1, 2] rfl)
set_option maxHeartbeats 4000000 in
set_option maxRecDepth 100000 in
theorem s_feedNumber2 (l : Launch) (dC : Nat → ClassId) (dI : Nat → Nat → Nat) (cI cZ cII cIII : ClassId) (h0 sz : Nat) (μ : va_M) (nb : Int) (hnb : inR nb) (ht0 : 0 ≤ μ 1 1 ∧ μ 1 1 + 4 ≤ 400) : Met l yX5_feedNumber (Cond.code yX5_feedNumber cX5_feedNumber 3 none :: wsG) ({ frames := 1, cells := 0, slots := 0, locals := 14 } : Room) (va_Pc [.ref (h0 + 1), .int (iZ (nb))] (fun U => U.heap.size = sz ∧ va_P (dC, dI) vwCl (fw (sE cI cZ cII cIII h0) h0 233 μ) U.heap ∧ va_K (dC, dI) vwCl (sT cI cZ cII cIII) U ∧ xM U)) (va_Qv (fun (u : va_M) => u 1 1 = μ 1 1 + 4 ∧ fr (fun x y => (x = 1 ∧ y = 1) ∨ x = 2) μ u ∧ ∀ j : Nat, u 2 j = if μ 1 1 ≤ j ∧ (j : Int) < μ 1 1 + 4 then bz nb (j - μ 1 1) else μ 2 j) (fun u t => va_P (dC, dI) vwCl (fw (sE cI cZ cII cIII h0) h0 233 u) t.heap ∧ va_K (dC, dI) vwCl (sT cI cZ cII cIII) t) (fA h0 233 sz)) 0 0 (fA h0 233 sz) := by
  refine Met.ofW (cc := cX5_feedNumber) (maxL := 3) (ret := none) (by decide) rfl ?_
  intro p e s m args below meth c s₁ B hml hv
  obtain ⟨rfl, hsz, hP, hK, hM⟩ := hv
  have hx := B.exec
  have hb := B.bytes
  have hr := B.returns
  have hts : ∀ w ∈ wsG, w.before _ s = true := hG_of (atoms_spec (ws := (Cond.code yX5_feedNumber cX5_feedNumber 3 none :: wsG)) B.pre)
  have hown : s.vm.findClass RX5 = some m.cls := findClass_of_methodNamed B.named
  have hlocks := B.notSynchronized
  subst hsz
  have hS : va_S (fA h0 233 s.heap.size) s.heap s.heap [] := va_S.rf
  have hl := lv_entry ([.ref (h0 + 1), .int (iZ (nb))]) (n := 3) (Nat.le_of_ble_eq_true rfl)
  rw [lg_entry_eq]
  generalize (lg_sl ([.ref (h0 + 1), .int (iZ (nb))]) ++ List.replicate (3 - (lg_sl ([.ref (h0 + 1), .int (iZ (nb))])).length) Slot.unset).toArray = ls at hl ⊢
  have hl : lv_has ls 3 [(0, .ref (h0 + 1)), (1, .int (iZ (nb)))] := hl
  refine lv_bipush (v := iZ 24) hx hb dX5_feedNumber_0 rfl ?_
  refine lv_istore_n (lv' := [(2, .int (iZ (24))), (0, .ref (h0 + 1)), (1, .int (iZ (nb)))]) hx hb dX5_feedNumber_2 rfl hl (by decide) rfl (fun ls hl => ?_)
  refine LX5_feedNumber_3F hx hb hml hown hts hK hM (Nat.le_of_ble_eq_true rfl) (Nat.le_of_ble_eq_true rfl) (Nat.le_of_ble_eq_true rfl) (Nat.le_of_ble_eq_true rfl) (μ) (μ 1 1) (nb) (by (first | ((try clear hsz); (try clear s₁); omega) | omega)) ?_ _ (0) (24) μ s.heap [] ls (by decide) (by rfl) (by (first | ((try clear hsz); (try clear s₁); (try clear ht0); omega) | omega)) (by exact fr_rfl) (by intro j; rw [if_neg (by (first | ((try clear hsz); (try clear s₁); (try clear ht0); omega) | omega))]) (Nat.lt_succ_self _) hP hS (lv_sub hl [0, 2, 1] rfl)
  · intro k_5 sh_5 μ5_ H locs ls q1_5 q2_5 q3_5 hP hS hl
    have hl : lv_has ls 3 [] := hl
    exact W.vret hx hb hr (fun t9 ht9 hW9 => ⟨⟨μ5_, rfl, (by
                try dsimp only
                exact ⟨q1_5, q2_5, q3_5⟩), by rw [ht9]; exact hP, va_K.moved hW9.alike hK⟩, hS.F ht9⟩) hS.2.2 dX5_feedNumber_51
set_option maxHeartbeats 4000000 in
set_option maxRecDepth 100000 in
theorem s_feed2 (l : Launch) (dC : Nat → ClassId) (dI : Nat → Nat → Nat) (cI cZ cII cIII : ClassId) (h0 sz : Nat) (μ : va_M) (a1 : Int) (a2 : Int) (a3 : Int) (a4 : Int) (a5 : Int) (hra1 : inR a1) (hra2 : inR a2) (hra3 : inR a3) (hra4 : inR a4) (hra5 : inR a5) (htp : 0 ≤ μ 1 1 ∧ μ 1 1 ≤ 400) : Met l yX9_feed (Cond.code yX9_feed cX9_feed 6 (some .int) :: wsG) ({ frames := 2, cells := 0, slots := 0, locals := 36 } : Room) (va_Pc [.ref h0, .int (iZ (a1)), .int (iZ (a2)), .int (iZ (a3)), .int (iZ (a4)), .int (iZ (a5))] (fun U => U.heap.size = sz ∧ va_P (dC, dI) vwCl (fw (sE cI cZ cII cIII h0) h0 233 μ) U.heap ∧ va_K (dC, dI) vwCl (sT cI cZ cII cIII) U ∧ xM U)) (va_Qi (fun (r9 : Int32) (u : va_M × Int) => r9 = iZ u.2 ∧ (fun (u : va_M) (r : Int) => (μ 1 1 + 20 > 400 → u = μ ∧ r = -1) ∧ (μ 1 1 + 20 ≤ 400 → u 1 1 = μ 1 1 + 20 ∧ r = μ 1 1 + 20 ∧ fr (fun x y => (x = 1 ∧ y = 1) ∨ x = 2) μ u ∧ ∀ j : Nat, u 2 j = if μ 1 1 ≤ j ∧ (j : Int) < μ 1 1 + 20 then bz (argO a1 a2 a3 a4 a5 (j - μ 1 1)) ((j - μ 1 1) % 4) else μ 2 j)) u.1 u.2) (fun u t => va_P (dC, dI) vwCl (fw (sE cI cZ cII cIII h0) h0 233 u.1) t.heap ∧ va_K (dC, dI) vwCl (sT cI cZ cII cIII) t) (fA h0 233 sz)) 0 0 (fA h0 233 sz) := by
  refine Met.ofW (cc := cX9_feed) (maxL := 6) (ret := (some .int)) (by decide) rfl ?_
  intro p e s m args below meth c s₁ B hml hv
  obtain ⟨rfl, hsz, hP, hK, hM⟩ := hv
  have hx := B.exec
  have hb := B.bytes
  have hr := B.returns
  have hts : ∀ w ∈ wsG, w.before _ s = true := hG_of (atoms_spec (ws := (Cond.code yX9_feed cX9_feed 6 (some .int) :: wsG)) B.pre)
  have hown : s.vm.findClass RX9 = some m.cls := findClass_of_methodNamed B.named
  have hlocks := B.notSynchronized
  subst hsz
  have hS : va_S (fA h0 233 s.heap.size) s.heap s.heap [] := va_S.rf
  have hl := lv_entry ([.ref h0, .int (iZ (a1)), .int (iZ (a2)), .int (iZ (a3)), .int (iZ (a4)), .int (iZ (a5))]) (n := 6) (Nat.le_of_ble_eq_true rfl)
  rw [lg_entry_eq]
  generalize (lg_sl ([.ref h0, .int (iZ (a1)), .int (iZ (a2)), .int (iZ (a3)), .int (iZ (a4)), .int (iZ (a5))]) ++ List.replicate (6 - (lg_sl ([.ref h0, .int (iZ (a1)), .int (iZ (a2)), .int (iZ (a3)), .int (iZ (a4)), .int (iZ (a5))])).length) Slot.unset).toArray = ls at hl ⊢
  have hl : lv_has ls 6 [(0, .ref h0), (1, .int (iZ (a1))), (2, .int (iZ (a2))), (3, .int (iZ (a3))), (4, .int (iZ (a4))), (5, .int (iZ (a5)))] := hl
  refine lv_aload_n hx hb dX9_feed_0 rfl (lv_at hl 0 rfl) ?_
  refine fz_get (D := (dC, dI)) (ci := 9) (v := .ref (h0 + 1)) (C := RX9) (T := TX9) (N := 15) hx hb hts inG9 hown hK hP (k := 0) (by decide) (F := (sF0 h0)) sE_0 rfl 0 (by decide) (hts _ k332) (fun _ h9 => h9) rfl dX9_feed_1 ?_
  refine fz_get (D := (dC, dI)) (ci := 5) (v := .int (iZ (μ 1 1))) (C := RX5) (T := TX5) (N := 8) hx hb hts inG5 hown hK hP (k := 1) (by decide) (F := (sF1 h0)) sE_1 rfl 1 (by decide) (hts _ k37) (fun _ h9 => h9) rfl dX9_feed_4 ?_
  refine lv_bipush (v := iZ 20) hx hb dX9_feed_7 rfl ?_
  refine lv_iadd hx hb dX9_feed_9 ?_
  refine lv_topi (fun x9 ex9 => ?_)
  obtain rfl : x9 = iZ ((μ 1 1) + 20) := ex9.trans (iZ_add _ _)
  refine lv_sipush (v := iZ 400) hx hb dX9_feed_10 rfl ?_
  refine fz_icmp_le (tgt := 18) (by constructor <;> (first | ((try clear ex9); (try clear hsz); (try clear s₁); omega) | omega)) (by decide) hx hb dX9_feed_13 (by decide) (fun c13_ => ?_) (fun c13_ => ?_)
  · refine lv_aload_n hx hb dX9_feed_18 rfl (lv_at hl 0 rfl) ?_
    refine fz_get (D := (dC, dI)) (ci := 9) (v := .ref (h0 + 1)) (C := RX9) (T := TX9) (N := 15) hx hb hts inG9 hown hK hP (k := 0) (by decide) (F := (sF0 h0)) sE_0 rfl 0 (by decide) (hts _ k332) (fun _ h9 => h9) rfl dX9_feed_19 ?_
    refine lv_iload_n hx hb dX9_feed_22 rfl (lv_at hl 1 rfl) ?_
    refine va_callv (va_runV (As := [.int (iZ (a1))]) (rest := []) ⟨hx, hb, hml, hown, hts⟩ (s_feedNumber2 l dC dI cI cZ cII cIII h0 s.heap.size μ (a1) (by first | assumption | omega | exact ⟨by omega, by omega⟩) (by first | assumption | (first | ((try clear ex9); (try clear hsz); (try clear s₁); omega) | omega) | exact ⟨by omega, by omega⟩)) (cwV 1 hts (gV_G k382 k383 k384 k2 k385) rfl rfl rfl (by decide +kernel) ⟨Nat.le_of_ble_eq_true rfl, Nat.le_of_ble_eq_true rfl⟩) ⟨fun a U g mk q => by obtain ⟨q0, q1, qP, qK, qM⟩ := q; exact ⟨q0, q1, qP, va_K.moved (u := U) (U := U.calling g mk a) (Vm.Alike.refl U.vm) qK, qM⟩, va_recv hK hP (ci := 5) (q0 := 1) rfl ((fw_get (by decide)).trans (by rw [sE_1])), fun U hU hW => ⟨rfl, by rw [hU], by rw [hU]; exact hP, va_K.moved hW.alike hK, xM_warm hW hM⟩⟩ rfl rfl hl.1 rfl (lv_room (Nat.le_of_ble_eq_true rfl)) dX9_feed_23 ⟨Nat.le_of_ble_eq_true rfl, Nat.le_of_ble_eq_true rfl⟩) hS (fun q _ h => fA_le hS.1 q h) (fA_le hS.1) (fun u9 t9 H1 locs ht9 hvm9 hw9 hB9 hz9 hk9 hS => ?_)
    obtain ⟨hP, -⟩ := hB9
    rw [ht9] at hP
    generalize H1 = H at hP hS ⊢
    obtain ⟨μ1c, eμ1c⟩ : ∃ x : va_M, x = u9 := ⟨_, rfl⟩
    rw [← eμ1c] at hP hw9
    have hμ1c := hw9; clear hw9
    obtain ⟨t1_, f1_, b1_⟩ := hμ1c
    refine lv_aload_n hx hb dX9_feed_26 rfl (lv_at hl 0 rfl) ?_
    refine fz_get (D := (dC, dI)) (ci := 9) (v := .ref (h0 + 1)) (C := RX9) (T := TX9) (N := 15) hx hb hts inG9 hown hK hP (k := 0) (by decide) (F := (sF0 h0)) sE_0 rfl 0 (by decide) (hts _ k332) (fun _ h9 => h9) rfl dX9_feed_27 ?_
    refine lv_iload_n hx hb dX9_feed_30 rfl (lv_at hl 2 rfl) ?_
    refine va_callv (va_runV (As := [.int (iZ (a2))]) (rest := []) ⟨hx, hb, hml, hown, hts⟩ (s_feedNumber2 l dC dI cI cZ cII cIII h0 H.size μ1c (a2) (by first | assumption | omega | exact ⟨by omega, by omega⟩) (by first | assumption | (first | ((try clear b1_); (try clear f1_); (try clear hμ1c); (try clear x); (try clear eμ1c); (try clear hz9); (try clear ex9); (try clear hsz); (try clear s₁); omega) | omega) | exact ⟨by omega, by omega⟩)) (cwV 1 hts (gV_G k382 k383 k384 k2 k385) rfl rfl rfl (by decide +kernel) ⟨Nat.le_of_ble_eq_true rfl, Nat.le_of_ble_eq_true rfl⟩) ⟨fun a U g mk q => by obtain ⟨q0, q1, qP, qK, qM⟩ := q; exact ⟨q0, q1, qP, va_K.moved (u := U) (U := U.calling g mk a) (Vm.Alike.refl U.vm) qK, qM⟩, va_recv hK hP (ci := 5) (q0 := 1) rfl ((fw_get (by decide)).trans (by rw [sE_1])), fun U hU hW => ⟨rfl, by rw [hU], by rw [hU]; exact hP, va_K.moved hW.alike hK, xM_warm hW hM⟩⟩ rfl rfl hl.1 rfl (lv_room (Nat.le_of_ble_eq_true rfl)) dX9_feed_31 ⟨Nat.le_of_ble_eq_true rfl, Nat.le_of_ble_eq_true rfl⟩) hS (fun q _ h => fA_le hS.1 q h) (fA_le hS.1) (fun u9 t9 H1 locs ht9 hvm9 hw9 hB9 hz9 hk9 hS => ?_)
    obtain ⟨hP, -⟩ := hB9
    rw [ht9] at hP
    generalize H1 = H at hP hS ⊢
    obtain ⟨μ2c, eμ2c⟩ : ∃ x : va_M, x = u9 := ⟨_, rfl⟩
    rw [← eμ2c] at hP hw9
    have hμ2c := hw9; clear hw9
    obtain ⟨t2_, f2_, b2_⟩ := hμ2c
    refine lv_aload_n hx hb dX9_feed_34 rfl (lv_at hl 0 rfl) ?_
    refine fz_get (D := (dC, dI)) (ci := 9) (v := .ref (h0 + 1)) (C := RX9) (T := TX9) (N := 15) hx hb hts inG9 hown hK hP (k := 0) (by decide) (F := (sF0 h0)) sE_0 rfl 0 (by decide) (hts _ k332) (fun _ h9 => h9) rfl dX9_feed_35 ?_
    refine lv_iload_n hx hb dX9_feed_38 rfl (lv_at hl 3 rfl) ?_
    refine va_callv (va_runV (As := [.int (iZ (a3))]) (rest := []) ⟨hx, hb, hml, hown, hts⟩ (s_feedNumber2 l dC dI cI cZ cII cIII h0 H.size μ2c (a3) (by first | assumption | omega | exact ⟨by omega, by omega⟩) (by first | assumption | (first | ((try clear b2_); (try clear f2_); (try clear hμ2c); (try clear x); (try clear eμ2c); (try clear hz9); (try clear b1_); (try clear f1_); (try clear hμ1c); (try clear eμ1c); (try clear ex9); (try clear hsz); (try clear s₁); omega) | omega) | exact ⟨by omega, by omega⟩)) (cwV 1 hts (gV_G k382 k383 k384 k2 k385) rfl rfl rfl (by decide +kernel) ⟨Nat.le_of_ble_eq_true rfl, Nat.le_of_ble_eq_true rfl⟩) ⟨fun a U g mk q => by obtain ⟨q0, q1, qP, qK, qM⟩ := q; exact ⟨q0, q1, qP, va_K.moved (u := U) (U := U.calling g mk a) (Vm.Alike.refl U.vm) qK, qM⟩, va_recv hK hP (ci := 5) (q0 := 1) rfl ((fw_get (by decide)).trans (by rw [sE_1])), fun U hU hW => ⟨rfl, by rw [hU], by rw [hU]; exact hP, va_K.moved hW.alike hK, xM_warm hW hM⟩⟩ rfl rfl hl.1 rfl (lv_room (Nat.le_of_ble_eq_true rfl)) dX9_feed_39 ⟨Nat.le_of_ble_eq_true rfl, Nat.le_of_ble_eq_true rfl⟩) hS (fun q _ h => fA_le hS.1 q h) (fA_le hS.1) (fun u9 t9 H1 locs ht9 hvm9 hw9 hB9 hz9 hk9 hS => ?_)
    obtain ⟨hP, -⟩ := hB9
    rw [ht9] at hP
    generalize H1 = H at hP hS ⊢
    obtain ⟨μ3c, eμ3c⟩ : ∃ x : va_M, x = u9 := ⟨_, rfl⟩
    rw [← eμ3c] at hP hw9
    have hμ3c := hw9; clear hw9
    obtain ⟨t3_, f3_, b3_⟩ := hμ3c
    refine lv_aload_n hx hb dX9_feed_42 rfl (lv_at hl 0 rfl) ?_
    refine fz_get (D := (dC, dI)) (ci := 9) (v := .ref (h0 + 1)) (C := RX9) (T := TX9) (N := 15) hx hb hts inG9 hown hK hP (k := 0) (by decide) (F := (sF0 h0)) sE_0 rfl 0 (by decide) (hts _ k332) (fun _ h9 => h9) rfl dX9_feed_43 ?_
    refine lv_iload hx hb dX9_feed_46 (lv_at hl 4 rfl) ?_
    refine va_callv (va_runV (As := [.int (iZ (a4))]) (rest := []) ⟨hx, hb, hml, hown, hts⟩ (s_feedNumber2 l dC dI cI cZ cII cIII h0 H.size μ3c (a4) (by first | assumption | omega | exact ⟨by omega, by omega⟩) (by first | assumption | (first | ((try clear b3_); (try clear f3_); (try clear hμ3c); (try clear x); (try clear eμ3c); (try clear hz9); (try clear b2_); (try clear f2_); (try clear hμ2c); (try clear eμ2c); (try clear b1_); (try clear f1_); (try clear hμ1c); (try clear eμ1c); (try clear ex9); (try clear hsz); (try clear s₁); omega) | omega) | exact ⟨by omega, by omega⟩)) (cwV 1 hts (gV_G k382 k383 k384 k2 k385) rfl rfl rfl (by decide +kernel) ⟨Nat.le_of_ble_eq_true rfl, Nat.le_of_ble_eq_true rfl⟩) ⟨fun a U g mk q => by obtain ⟨q0, q1, qP, qK, qM⟩ := q; exact ⟨q0, q1, qP, va_K.moved (u := U) (U := U.calling g mk a) (Vm.Alike.refl U.vm) qK, qM⟩, va_recv hK hP (ci := 5) (q0 := 1) rfl ((fw_get (by decide)).trans (by rw [sE_1])), fun U hU hW => ⟨rfl, by rw [hU], by rw [hU]; exact hP, va_K.moved hW.alike hK, xM_warm hW hM⟩⟩ rfl rfl hl.1 rfl (lv_room (Nat.le_of_ble_eq_true rfl)) dX9_feed_48 ⟨Nat.le_of_ble_eq_true rfl, Nat.le_of_ble_eq_true rfl⟩) hS (fun q _ h => fA_le hS.1 q h) (fA_le hS.1) (fun u9 t9 H1 locs ht9 hvm9 hw9 hB9 hz9 hk9 hS => ?_)
    obtain ⟨hP, -⟩ := hB9
    rw [ht9] at hP
    generalize H1 = H at hP hS ⊢
    obtain ⟨μ4c, eμ4c⟩ : ∃ x : va_M, x = u9 := ⟨_, rfl⟩
    rw [← eμ4c] at hP hw9
    have hμ4c := hw9; clear hw9
    obtain ⟨t4_, f4_, b4_⟩ := hμ4c
    refine lv_aload_n hx hb dX9_feed_51 rfl (lv_at hl 0 rfl) ?_
    refine fz_get (D := (dC, dI)) (ci := 9) (v := .ref (h0 + 1)) (C := RX9) (T := TX9) (N := 15) hx hb hts inG9 hown hK hP (k := 0) (by decide) (F := (sF0 h0)) sE_0 rfl 0 (by decide) (hts _ k332) (fun _ h9 => h9) rfl dX9_feed_52 ?_
    refine lv_iload hx hb dX9_feed_55 (lv_at hl 5 rfl) ?_
    refine va_callv (va_runV (As := [.int (iZ (a5))]) (rest := []) ⟨hx, hb, hml, hown, hts⟩ (s_feedNumber2 l dC dI cI cZ cII cIII h0 H.size μ4c (a5) (by first | assumption | omega | exact ⟨by omega, by omega⟩) (by first | assumption | (first | ((try clear b4_); (try clear f4_); (try clear hμ4c); (try clear x); (try clear eμ4c); (try clear hz9); (try clear b3_); (try clear f3_); (try clear hμ3c); (try clear eμ3c); (try clear b2_); (try clear f2_); (try clear hμ2c); (try clear eμ2c); (try clear b1_); (try clear f1_); (try clear hμ1c); (try clear eμ1c); (try clear ex9); (try clear hsz); (try clear s₁); omega) | omega) | exact ⟨by omega, by omega⟩)) (cwV 1 hts (gV_G k382 k383 k384 k2 k385) rfl rfl rfl (by decide +kernel) ⟨Nat.le_of_ble_eq_true rfl, Nat.le_of_ble_eq_true rfl⟩) ⟨fun a U g mk q => by obtain ⟨q0, q1, qP, qK, qM⟩ := q; exact ⟨q0, q1, qP, va_K.moved (u := U) (U := U.calling g mk a) (Vm.Alike.refl U.vm) qK, qM⟩, va_recv hK hP (ci := 5) (q0 := 1) rfl ((fw_get (by decide)).trans (by rw [sE_1])), fun U hU hW => ⟨rfl, by rw [hU], by rw [hU]; exact hP, va_K.moved hW.alike hK, xM_warm hW hM⟩⟩ rfl rfl hl.1 rfl (lv_room (Nat.le_of_ble_eq_true rfl)) dX9_feed_57 ⟨Nat.le_of_ble_eq_true rfl, Nat.le_of_ble_eq_true rfl⟩) hS (fun q _ h => fA_le hS.1 q h) (fA_le hS.1) (fun u9 t9 H1 locs ht9 hvm9 hw9 hB9 hz9 hk9 hS => ?_)
    obtain ⟨hP, -⟩ := hB9
    rw [ht9] at hP
    generalize H1 = H at hP hS ⊢
    obtain ⟨μ5c, eμ5c⟩ : ∃ x : va_M, x = u9 := ⟨_, rfl⟩
    rw [← eμ5c] at hP hw9
    have hμ5c := hw9; clear hw9
    obtain ⟨t5_, f5_, b5_⟩ := hμ5c
    refine lv_aload_n hx hb dX9_feed_60 rfl (lv_at hl 0 rfl) ?_
    refine fz_get (D := (dC, dI)) (ci := 9) (v := .ref (h0 + 1)) (C := RX9) (T := TX9) (N := 15) hx hb hts inG9 hown hK hP (k := 0) (by decide) (F := (sF0 h0)) sE_0 rfl 0 (by decide) (hts _ k332) (fun _ h9 => h9) rfl dX9_feed_61 ?_
    refine fz_get (D := (dC, dI)) (ci := 5) (v := .int (iZ (μ5c 1 1))) (C := RX5) (T := TX5) (N := 8) hx hb hts inG5 hown hK hP (k := 1) (by decide) (F := (sF1 h0)) sE_1 rfl 1 (by decide) (hts _ k37) (fun _ h9 => h9) rfl dX9_feed_64 ?_
    exact W.iret (v := iZ (μ5c 1 1)) hx hb hr (fun t9 ht9 hW9 => ⟨⟨iZ (μ5c 1 1), (μ5c, μ5c 1 1), rfl, ⟨rfl, (by
                dsimp only
                refine ⟨fun h => absurd h (by (first | ((try clear b5_); (try clear f5_); (try clear hμ5c); (try clear x); (try clear eμ5c); (try clear hz9); (try clear b4_); (try clear f4_); (try clear hμ4c); (try clear eμ4c); (try clear b3_); (try clear f3_); (try clear hμ3c); (try clear eμ3c); (try clear b2_); (try clear f2_); (try clear hμ2c); (try clear eμ2c); (try clear b1_); (try clear f1_); (try clear hμ1c); (try clear eμ1c); (try clear ex9); (try clear hsz); (try clear s₁); omega) | omega)), fun _ => ⟨by (first | ((try clear h); (try clear b5_); (try clear f5_); (try clear hμ5c); (try clear x); (try clear eμ5c); (try clear hz9); (try clear b4_); (try clear f4_); (try clear hμ4c); (try clear eμ4c); (try clear b3_); (try clear f3_); (try clear hμ3c); (try clear eμ3c); (try clear b2_); (try clear f2_); (try clear hμ2c); (try clear eμ2c); (try clear b1_); (try clear f1_); (try clear hμ1c); (try clear eμ1c); (try clear c13_); (try clear ex9); (try clear hsz); (try clear s₁); (try clear htp); omega) | omega), by (first | ((try clear h); (try clear b5_); (try clear f5_); (try clear hμ5c); (try clear x); (try clear eμ5c); (try clear hz9); (try clear b4_); (try clear f4_); (try clear hμ4c); (try clear eμ4c); (try clear b3_); (try clear f3_); (try clear hμ3c); (try clear eμ3c); (try clear b2_); (try clear f2_); (try clear hμ2c); (try clear eμ2c); (try clear b1_); (try clear f1_); (try clear hμ1c); (try clear eμ1c); (try clear c13_); (try clear ex9); (try clear hsz); (try clear s₁); (try clear htp); omega) | omega), fr_trans (fr_trans (fr_trans (fr_trans f1_ f2_) f3_) f4_) f5_, fun j => ?_⟩⟩
                rw [b5_ j, b4_ j, b3_ j, b2_ j, b1_ j]
                unfold argO
                clear f1_ f2_ f3_ f4_ f5_ b1_ b2_ b3_ b4_ b5_
                repeat' split
                all_goals first | (exfalso; (first | ((try clear b5_); (try clear f5_); (try clear hμ5c); (try clear x); (try clear eμ5c); (try clear hz9); (try clear b4_); (try clear f4_); (try clear hμ4c); (try clear eμ4c); (try clear b3_); (try clear f3_); (try clear hμ3c); (try clear eμ3c); (try clear b2_); (try clear f2_); (try clear hμ2c); (try clear eμ2c); (try clear b1_); (try clear f1_); (try clear hμ1c); (try clear eμ1c); (try clear c13_); (try clear ex9); (try clear hsz); (try clear s₁); (try clear htp); omega) | omega)) | rfl | (congr 1; (first | ((try clear b5_); (try clear f5_); (try clear hμ5c); (try clear x); (try clear eμ5c); (try clear hz9); (try clear b4_); (try clear f4_); (try clear hμ4c); (try clear eμ4c); (try clear b3_); (try clear f3_); (try clear hμ3c); (try clear eμ3c); (try clear b2_); (try clear f2_); (try clear hμ2c); (try clear eμ2c); (try clear b1_); (try clear f1_); (try clear hμ1c); (try clear eμ1c); (try clear c13_); (try clear ex9); (try clear hsz); (try clear s₁); (try clear htp); omega) | omega)))⟩, by rw [ht9]; exact hP, va_K.moved hW9.alike hK⟩, hS.F ht9⟩) hS.2.2 dX9_feed_67
  · refine lv_iconst (v := iZ (-1)) hx hb dX9_feed_16 rfl ?_
    exact W.iret (v := iZ ((-1))) hx hb hr (fun t9 ht9 hW9 => ⟨⟨iZ ((-1)), (μ, (-1)), rfl, ⟨rfl, (by
                dsimp only
                exact ⟨fun _ => ⟨rfl, rfl⟩, fun h => absurd h (by (first | ((try clear ex9); (try clear hsz); (try clear s₁); omega) | omega))⟩)⟩, by rw [ht9]; exact hP, va_K.moved hW9.alike hK⟩, hS.F ht9⟩) hS.2.2 dX9_feed_17


/-! the class's page, told whole, with its folds -/
theorem pgo_ne {b : Int → Int} {n : Int} : ∀ (f : Nat) (a : Int) (T : List Tk) (S : List Int) (T2 : List Tk) (S2 : List Int), pgo b n f a T S = some (T2, S2) → S2.length ≠ 0
  | 0, _, _, _, _, _, h => by rw [pgo] at h; cases h
  | f + 1, a, T, S, T2, S2, h => by
    rw [pgo] at h
    split at h
    · split at h
      · cases h
      · next h9 => cases h; exact h9
    · split at h
      · exact pgo_ne f _ _ _ _ _ h
      · split at h
        · cases h
        · split at h
          · cases h
          · split at h
            · cases h
            · split at h
              · exact pgo_ne f _ _ _ _ _ h
              · split at h
                · cases h
                · exact pgo_ne f _ _ _ _ _ h
theorem pg_ne {b : Int → Int} {n a : Int} {T : List Tk} {S : List Int} {T2 : List Tk} {S2 : List Int} (h : pg b n a T S = some (T2, S2)) : S2.length ≠ 0 := pgo_ne _ _ _ _ _ _ h
theorem rowS_fr9 {μ u : va_M} {q : Nat} {w : Rw} (h : rowS μ q w) (hf : ∀ x y, q ≤ x → x < q + 6 → u x y = μ x y) : rowS u q w := by
  obtain ⟨⟨h1, h2, h3⟩, h4, h5⟩ := h
  exact ⟨⟨by rw [hf _ _ (by omega) (by omega)]; exact h1, by rw [hf _ _ (by omega) (by omega)]; exact h2, by rw [hf _ _ (by omega) (by omega)]; exact h3⟩, SA_fr (fun y => hf _ _ (by omega) (by omega)) w 0 h4, SS_fr w 0 0 0 h5 (fun y _ _ => ⟨hf _ _ (by omega) (by omega), hf _ _ (by omega) (by omega), hf _ _ (by omega) (by omega)⟩) (fun y _ _ => hf _ _ (by omega) (by omega))⟩
theorem fldC_fr {μ u : va_M} {b : Nat} {w0 w : Rw} {l : List (Nat × Nat × Nat)} (h : fldC μ b w0 l w) (h5 : u b 5 = μ b 5) (hf : ∀ x y, b + 3 ≤ x → x < b + 9 → u x y = μ x y) (h9 : ∀ y : Nat, 0 ≤ μ (b + 9) y → μ (b + 9) y ≤ 60 → u (b + 9) y = μ (b + 9) y) (hI : rI w0 ≤ 60) : fldC u b w0 l w := by
  obtain ⟨a1, a2, a3, a4, a5, a6⟩ := h
  refine ⟨a1, a2, rowS_fr9 a3 (fun x y q1 q2 => hf x y q1 (by omega)), by rw [hf _ _ (by omega) (by omega)]; exact a4, h5.trans a5, fun k s hk => ?_⟩
  obtain ⟨b1, b2, b3⟩ := a6 k s hk
  obtain ⟨c1, c2, c3⟩ := fSt_b l w0 w a1 hI s (List.mem_of_getElem? hk)
  exact ⟨by rw [h9 _ (by omega) (by omega)]; exact b1, by rw [h9 _ (by omega) (by omega)]; exact b2, by rw [h9 _ (by omega) (by omega)]; exact b3⟩
theorem nz_r {μ : va_M} {x y : Nat} (h : inR (μ x y)) : nz μ x y = μ x y := by
  unfold nz
  split
  · exact iZ_toInt h
  · rfl
set_option maxHeartbeats 4000000 in
set_option maxRecDepth 100000 in
theorem q_page2 (l : Launch) (hfl : l.stackTraces = false) (dC : Nat → ClassId) (dI : Nat → Nat → Nat) (cI cZ cII cIII : ClassId) (h0 sz : Nat) (μ : va_M) (n : Int) (T : List Tk) (hI : CI T μ) (h_n : inR n) : vx_Met l yX9_page (Cond.code yX9_page cX9_page 3 (some .int) :: wsG) ({ frames := 7, cells := 1, slots := 6, locals := 146 } : Room) (va_Pc [.ref h0, .int (iZ (n))] (fun U => U.heap.size = sz ∧ va_P (dC, dI) vwCl (fw (sE cI cZ cII cIII h0) h0 233 μ) U.heap ∧ va_K (dC, dI) vwCl (sT cI cZ cII cIII) U ∧ xM U ∧ xX (fA h0 233 sz) U)) (va_Qi (fun (r9 : Int32) (u : va_M × Int) => r9 = iZ u.2 ∧ (fun (u : va_M) (r : Int) => (∀ x y, (6 ≤ x ∧ x < 12) ∨ (18 ≤ x ∧ x < 37) → u x y = μ x y) ∧ u 1 1 = 0 ∧ (∀ y, u 2 y = μ 2 y) ∧ (0 ≤ n ∧ n ≤ μ 1 1 ∧ μ 0 2 < 8) ∧ ((∃ (T2 : List Tk) (S2 : List Int), pg (bC μ n) n 0 T [] = some (T2, S2) ∧ CI T2 u ∧ u 0 2 = μ 0 2 + 1 ∧ lfT u (113 + (μ 0 2).toNat * 15) T2 S2 ∧ (∀ x y, 113 ≤ x → (x - 113) % 15 < 9 → (x < 113 + (μ 0 2).toNat * 15 ∨ 113 + (μ 0 2).toNat * 15 + 15 ≤ x) → u x y = μ x y) ∧ ∃ (l9 : List (Nat × Nat × Nat)) (w9 : Rw), fldC u (113 + (μ 0 2).toNat * 15) (rowT T2 S2) l9 w9) ∨ (pg (bC μ n) n 0 T [] = none ∧ CI T u ∧ u 0 2 = μ 0 2 ∧ ∀ x y, 113 ≤ x → (x - 113) % 15 < 9 → u x y = μ x y))) u.1 u.2) (fun u t => va_P (dC, dI) vwCl (fw (sE cI cZ cII cIII h0) h0 233 u.1) t.heap ∧ va_K (dC, dI) vwCl (sT cI cZ cII cIII) t) (fA h0 233 sz)) (vx_X (fun (u : va_M) => CI T u ∧ SZ μ u ∧ ¬ (0 ≤ n ∧ n ≤ μ 1 1 ∧ μ 0 2 < 8)) (fun E u t => E ∈ (["java/lang/IllegalArgumentException", "java/lang/IllegalStateException"] : List String) ∧ va_P (dC, dI) vwCl (fw (sE cI cZ cII cIII h0) h0 233 u) t.heap ∧ va_K (dC, dI) vwCl (sT cI cZ cII cIII) t) (fA h0 233 sz)) 1 6 (fA h0 233 sz) := by
  refine vx_ofW (cc := cX9_page) (maxL := 3) (ret := (some .int)) (by decide) rfl ?_
  intro p e s m args below meth c s₁ B hml hnt hv
  obtain ⟨rfl, hsz, hP, hK, hM, hEx⟩ := hv
  have hx := B.exec
  have hb := B.bytes
  have hr := B.returns
  have hts : ∀ w ∈ wsG, w.before _ s = true := hG_of (atoms_spec (ws := (Cond.code yX9_page cX9_page 3 (some .int) :: wsG)) B.pre)
  have hown : s.vm.findClass RX9 = some m.cls := findClass_of_methodNamed B.named
  have hlocks := B.notSynchronized
  subst hsz
  have hS : va_S (fA h0 233 s.heap.size) s.heap s.heap [] := va_S.rf
  have hl := lv_entry ([.ref h0, .int (iZ (n))]) (n := 3) (Nat.le_of_ble_eq_true rfl)
  rw [lg_entry_eq]
  generalize (lg_sl ([.ref h0, .int (iZ (n))]) ++ List.replicate (3 - (lg_sl ([.ref h0, .int (iZ (n))])).length) Slot.unset).toArray = ls at hl ⊢
  have hl : lv_has ls 3 [(0, .ref h0), (1, .int (iZ (n)))] := hl
  have hlc := CI_lc hI
  have t11 := hI.1.1.2.2.1
  refine lv_aload_n hx hb dX9_page_0 rfl (lv_at hl 0 rfl) ?_
  refine lv_iload_n hx hb dX9_page_1 rfl (lv_at hl 1 rfl) ?_
  refine fz_if_lt (tgt := 20) (by first | assumption | (constructor <;> omega) | decide) hx hb dX9_page_2 (by decide) (fun c2_ => ?_) (fun c2_ => ?_)
  · refine lv_iconst (v := iZ 0) hx hb dX9_page_20 rfl ?_
    refine vx_callv (vx_runV (As := [.int (iZ (0))]) (rest := []) ⟨hx, hb, hml, hown, hts⟩ (x_needArgument l hfl dC dI cI cZ cII cIII h0 s.heap.size μ  ) (cwV 1 hts (gV_G k596 k598 ks_yX9_needArgument k1 k599) rfl rfl rfl (by decide +kernel) ⟨Nat.le_of_ble_eq_true rfl, Nat.le_of_ble_eq_true rfl⟩) ⟨fun a U g mk q => by obtain ⟨q0, q1, qP, qK, qM, qE⟩ := q; exact ⟨q0, q1, qP, va_K.moved (u := U) (U := U.calling g mk a) (Vm.Alike.refl U.vm) qK, qM, xX_call qE⟩, va_recv hK hP (ci := 9) (q0 := 0) rfl ((fw_get (by decide)).trans (by rw [sE_0]; rfl)), fun U hU hW => ⟨rfl, by rw [hU], by rw [hU]; exact hP, va_K.moved hW.alike hK, xM_warm hW hM, xX_at hEx hS (fun q h => fA_le hS.1 q h) hU hW⟩⟩ rfl rfl hl.1 rfl (lv_room (Nat.le_of_ble_eq_true rfl)) dX9_page_21 ⟨Nat.le_of_ble_eq_true rfl, Nat.le_of_ble_eq_true rfl⟩) hS (fun q _ h => fA_le hS.1 q h) (fA_le hS.1) (fun q _ h => fA_le hS.1 q h) (fun E9 ce9 q9 u9 t9 H1 locs ht9 hvm9 hpx9 hBX9 hz9 hk9 hS hce9 hcv9 hcl9 => ?_) (fun u9 t9 H1 locs ht9 hvm9 hw9 hB9 hz9 hk9 hS => hw9.elim)
    obtain ⟨hE9, hP9, hK9⟩ := hBX9
    exact vx_out (fun x hx9 => (hnt x hx9).elim) hlocks hce9 hcv9 hcl9 (fun t8 ht8 hW8 => ⟨u9, (by
                show CI T u9 ∧ SZ μ u9 ∧ ¬ (0 ≤ n ∧ n ≤ μ 1 1 ∧ μ 0 2 < 8)
                have q9 := CZ_thr hI hpx9
                exact ⟨q9.1, q9.2, fun h => by omega⟩), ⟨(show ∀ z ∈ (["java/lang/IllegalArgumentException"] : List String), z ∈ (["java/lang/IllegalArgumentException", "java/lang/IllegalStateException"] : List String) by decide +kernel) E9 hE9, by rw [ht8, ← ht9]; exact hP9, va_K.moved hW8 hK⟩, hS.F ht8⟩) hS.2.2 (Nat.le_of_ble_eq_true rfl) (Nat.le_of_ble_eq_true rfl)
  · refine lv_iload_n hx hb dX9_page_5 rfl (lv_at hl 1 rfl) ?_
    refine lv_aload_n hx hb dX9_page_6 rfl (lv_at hl 0 rfl) ?_
    refine fz_get (D := (dC, dI)) (ci := 9) (v := .ref (h0 + 1)) (C := RX9) (T := TX9) (N := 15) hx hb hts inG9 hown hK hP (k := 0) (by decide) (F := (sF0 h0)) sE_0 rfl 0 (by decide) (hts _ k332) (fun _ h9 => h9) rfl dX9_page_7 ?_
    refine fz_get (D := (dC, dI)) (ci := 5) (v := .int (iZ (μ 1 1))) (C := RX5) (T := TX5) (N := 8) hx hb hts inG5 hown hK hP (k := 1) (by decide) (F := (sF1 h0)) sE_1 rfl 1 (by decide) (hts _ k37) (fun _ h9 => h9) rfl dX9_page_10 ?_
    refine fz_icmp_gt (tgt := 20) (by first | assumption | (constructor <;> omega) | decide) (by first | assumption | (constructor <;> omega) | decide) hx hb dX9_page_13 (by decide) (fun c13_ => ?_) (fun c13_ => ?_)
    · refine lv_iconst (v := iZ 0) hx hb dX9_page_20 rfl ?_
      refine vx_callv (vx_runV (As := [.int (iZ (0))]) (rest := []) ⟨hx, hb, hml, hown, hts⟩ (x_needArgument l hfl dC dI cI cZ cII cIII h0 s.heap.size μ  ) (cwV 1 hts (gV_G k596 k598 ks_yX9_needArgument k1 k599) rfl rfl rfl (by decide +kernel) ⟨Nat.le_of_ble_eq_true rfl, Nat.le_of_ble_eq_true rfl⟩) ⟨fun a U g mk q => by obtain ⟨q0, q1, qP, qK, qM, qE⟩ := q; exact ⟨q0, q1, qP, va_K.moved (u := U) (U := U.calling g mk a) (Vm.Alike.refl U.vm) qK, qM, xX_call qE⟩, va_recv hK hP (ci := 9) (q0 := 0) rfl ((fw_get (by decide)).trans (by rw [sE_0]; rfl)), fun U hU hW => ⟨rfl, by rw [hU], by rw [hU]; exact hP, va_K.moved hW.alike hK, xM_warm hW hM, xX_at hEx hS (fun q h => fA_le hS.1 q h) hU hW⟩⟩ rfl rfl hl.1 rfl (lv_room (Nat.le_of_ble_eq_true rfl)) dX9_page_21 ⟨Nat.le_of_ble_eq_true rfl, Nat.le_of_ble_eq_true rfl⟩) hS (fun q _ h => fA_le hS.1 q h) (fA_le hS.1) (fun q _ h => fA_le hS.1 q h) (fun E9 ce9 q9 u9 t9 H1 locs ht9 hvm9 hpx9 hBX9 hz9 hk9 hS hce9 hcv9 hcl9 => ?_) (fun u9 t9 H1 locs ht9 hvm9 hw9 hB9 hz9 hk9 hS => hw9.elim)
      obtain ⟨hE9, hP9, hK9⟩ := hBX9
      exact vx_out (fun x hx9 => (hnt x hx9).elim) hlocks hce9 hcv9 hcl9 (fun t8 ht8 hW8 => ⟨u9, (by
                    show CI T u9 ∧ SZ μ u9 ∧ ¬ (0 ≤ n ∧ n ≤ μ 1 1 ∧ μ 0 2 < 8)
                    have q9 := CZ_thr hI hpx9
                    exact ⟨q9.1, q9.2, fun h => by omega⟩), ⟨(show ∀ z ∈ (["java/lang/IllegalArgumentException"] : List String), z ∈ (["java/lang/IllegalArgumentException", "java/lang/IllegalStateException"] : List String) by decide +kernel) E9 hE9, by rw [ht8, ← ht9]; exact hP9, va_K.moved hW8 hK⟩, hS.F ht8⟩) hS.2.2 (Nat.le_of_ble_eq_true rfl) (Nat.le_of_ble_eq_true rfl)
    · refine lv_iconst (v := iZ 1) hx hb dX9_page_16 rfl ?_
      refine lv_goto (tgt := 21) hx hb dX9_page_17 (by decide) ?_
      refine va_callv (va_runV (As := [.int (iZ (1))]) (rest := []) ⟨hx, hb, hml, hown, hts⟩ (s_needArgument l dC dI cI cZ cII cIII h0 s.heap.size μ  ) (cwV 1 hts (gV_G k596 k598 ks_yX9_needArgument k1 k599) rfl rfl rfl (by decide +kernel) ⟨Nat.le_of_ble_eq_true rfl, Nat.le_of_ble_eq_true rfl⟩) ⟨fun a U g mk q => by obtain ⟨q0, q1, qP, qK, qM⟩ := q; exact ⟨q0, q1, qP, va_K.moved (u := U) (U := U.calling g mk a) (Vm.Alike.refl U.vm) qK, qM⟩, va_recv hK hP (ci := 9) (q0 := 0) rfl ((fw_get (by decide)).trans (by rw [sE_0]; rfl)), fun U hU hW => ⟨rfl, by rw [hU], by rw [hU]; exact hP, va_K.moved hW.alike hK, xM_warm hW hM⟩⟩ rfl rfl hl.1 rfl (lv_room (Nat.le_of_ble_eq_true rfl)) dX9_page_21 ⟨Nat.le_of_ble_eq_true rfl, Nat.le_of_ble_eq_true rfl⟩) hS (fun q _ h => fA_le hS.1 q h) (fA_le hS.1) (fun u9 t9 H1 locs ht9 hvm9 hw9 hB9 hz9 hk9 hS => ?_)
      obtain ⟨hP, -⟩ := hB9
      rw [ht9] at hP
      generalize H1 = H at hP hS ⊢
      obtain ⟨μ1, eμ1⟩ : ∃ x : va_M, x = u9 := ⟨_, rfl⟩
      rw [← eμ1] at hP hw9
      have hμ1 := hw9; clear hw9
      rw [hμ1] at hP
      refine lv_aload_n hx hb dX9_page_24 rfl (lv_at hl 0 rfl) ?_
      refine lv_aload_n hx hb dX9_page_25 rfl (lv_at hl 0 rfl) ?_
      refine fz_get (D := (dC, dI)) (ci := 9) (v := .int (iZ (μ 0 2))) (C := RX9) (T := TX9) (N := 15) hx hb hts inG9 hown hK hP (k := 0) (by decide) (F := (sF0 h0)) sE_0 rfl 2 (by decide) (hts _ k334) (fun _ h9 => h9) rfl dX9_page_26 ?_
      refine lv_bipush (v := iZ 8) hx hb dX9_page_29 rfl ?_
      refine fz_icmp_ge (tgt := 38) (by first | assumption | (constructor <;> omega) | decide) (by decide) hx hb dX9_page_31 (by decide) (fun c31_ => ?_) (fun c31_ => ?_)
      · refine lv_iconst (v := iZ 0) hx hb dX9_page_38 rfl ?_
        refine vx_callv (vx_runV (As := [.int (iZ (0))]) (rest := []) ⟨hx, hb, hml, hown, hts⟩ (x_needState l hfl dC dI cI cZ cII cIII h0 H.size μ  ) (cwV 1 hts (gV_G k663 k665 ks_yX9_needState k1 k666) rfl rfl rfl (by decide +kernel) ⟨Nat.le_of_ble_eq_true rfl, Nat.le_of_ble_eq_true rfl⟩) ⟨fun a U g mk q => by obtain ⟨q0, q1, qP, qK, qM, qE⟩ := q; exact ⟨q0, q1, qP, va_K.moved (u := U) (U := U.calling g mk a) (Vm.Alike.refl U.vm) qK, qM, xX_call qE⟩, va_recv hK hP (ci := 9) (q0 := 0) rfl ((fw_get (by decide)).trans (by rw [sE_0]; rfl)), fun U hU hW => ⟨rfl, by rw [hU], by rw [hU]; exact hP, va_K.moved hW.alike hK, xM_warm hW hM, xX_at hEx hS (fun q h => fA_le hS.1 q h) hU hW⟩⟩ rfl rfl hl.1 rfl (lv_room (Nat.le_of_ble_eq_true rfl)) dX9_page_39 ⟨Nat.le_of_ble_eq_true rfl, Nat.le_of_ble_eq_true rfl⟩) hS (fun q _ h => fA_le hS.1 q h) (fA_le hS.1) (fun q _ h => fA_le hS.1 q h) (fun E9 ce9 q9 u9 t9 H1 locs ht9 hvm9 hpx9 hBX9 hz9 hk9 hS hce9 hcv9 hcl9 => ?_) (fun u9 t9 H1 locs ht9 hvm9 hw9 hB9 hz9 hk9 hS => hw9.elim)
        obtain ⟨hE9, hP9, hK9⟩ := hBX9
        exact vx_out (fun x hx9 => (hnt x hx9).elim) hlocks hce9 hcv9 hcl9 (fun t8 ht8 hW8 => ⟨u9, (by
                        show CI T u9 ∧ SZ μ u9 ∧ ¬ (0 ≤ n ∧ n ≤ μ 1 1 ∧ μ 0 2 < 8)
                        have q9 := CZ_thr hI hpx9
                        exact ⟨q9.1, q9.2, fun h => by omega⟩), ⟨(show ∀ z ∈ (["java/lang/IllegalStateException"] : List String), z ∈ (["java/lang/IllegalArgumentException", "java/lang/IllegalStateException"] : List String) by decide +kernel) E9 hE9, by rw [ht8, ← ht9]; exact hP9, va_K.moved hW8 hK⟩, hS.F ht8⟩) hS.2.2 (Nat.le_of_ble_eq_true rfl) (Nat.le_of_ble_eq_true rfl)
      · refine lv_iconst (v := iZ 1) hx hb dX9_page_34 rfl ?_
        refine lv_goto (tgt := 39) hx hb dX9_page_35 (by decide) ?_
        refine va_callv (va_runV (As := [.int (iZ (1))]) (rest := []) ⟨hx, hb, hml, hown, hts⟩ (s_needState l dC dI cI cZ cII cIII h0 H.size μ  ) (cwV 1 hts (gV_G k663 k665 ks_yX9_needState k1 k666) rfl rfl rfl (by decide +kernel) ⟨Nat.le_of_ble_eq_true rfl, Nat.le_of_ble_eq_true rfl⟩) ⟨fun a U g mk q => by obtain ⟨q0, q1, qP, qK, qM⟩ := q; exact ⟨q0, q1, qP, va_K.moved (u := U) (U := U.calling g mk a) (Vm.Alike.refl U.vm) qK, qM⟩, va_recv hK hP (ci := 9) (q0 := 0) rfl ((fw_get (by decide)).trans (by rw [sE_0]; rfl)), fun U hU hW => ⟨rfl, by rw [hU], by rw [hU]; exact hP, va_K.moved hW.alike hK, xM_warm hW hM⟩⟩ rfl rfl hl.1 rfl (lv_room (Nat.le_of_ble_eq_true rfl)) dX9_page_39 ⟨Nat.le_of_ble_eq_true rfl, Nat.le_of_ble_eq_true rfl⟩) hS (fun q _ h => fA_le hS.1 q h) (fA_le hS.1) (fun u9 t9 H1 locs ht9 hvm9 hw9 hB9 hz9 hk9 hS => ?_)
        obtain ⟨hP, -⟩ := hB9
        rw [ht9] at hP
        generalize H1 = H at hP hS ⊢
        obtain ⟨μ2, eμ2⟩ : ∃ x : va_M, x = u9 := ⟨_, rfl⟩
        rw [← eμ2] at hP hw9
        have hμ2 := hw9; clear hw9
        rw [hμ2] at hP
        refine lv_aload_n hx hb dX9_page_42 rfl (lv_at hl 0 rfl) ?_
        refine fz_get (D := (dC, dI)) (ci := 9) (v := .ref (h0 + 1)) (C := RX9) (T := TX9) (N := 15) hx hb hts inG9 hown hK hP (k := 0) (by decide) (F := (sF0 h0)) sE_0 rfl 0 (by decide) (hts _ k332) (fun _ h9 => h9) rfl dX9_page_43 ?_
        refine lv_iload_n hx hb dX9_page_46 rfl (lv_at hl 1 rfl) ?_
        refine va_calli (va_runV (As := [.int (iZ (n))]) (rest := []) ⟨hx, hb, hml, hown, hts⟩ (s_XreadText l dC dI cI cZ cII cIII h0 H.size μ (n) (T) (by exact hI.1.1.2.1) (by omega) (by exact hI.1.1.1)) (cwV 1 hts (gV_G k682 k683 k684 k2 k685) rfl rfl rfl (by decide +kernel) ⟨Nat.le_of_ble_eq_true rfl, Nat.le_of_ble_eq_true rfl⟩) ⟨fun a U g mk q => by obtain ⟨q0, q1, qP, qK, qM⟩ := q; exact ⟨q0, q1, qP, va_K.moved (u := U) (U := U.calling g mk a) (Vm.Alike.refl U.vm) qK, qM⟩, va_recv hK hP (ci := 5) (q0 := 1) rfl ((fw_get (by decide)).trans (by rw [sE_1])), fun U hU hW => ⟨rfl, by rw [hU], by rw [hU]; exact hP, va_K.moved hW.alike hK, xM_warm hW hM⟩⟩ rfl rfl hl.1 rfl (lv_room (Nat.le_of_ble_eq_true rfl)) dX9_page_47 ⟨Nat.le_of_ble_eq_true rfl, Nat.le_of_ble_eq_true rfl⟩) hS (fun q _ h => fA_le hS.1 q h) (fA_le hS.1) (fun r9 u9 t9 H1 locs ht9 hvm9 hw9 hB9 hz9 hk9 hS => ?_)
        obtain ⟨μr, rr⟩ := u9
        obtain ⟨hP, -⟩ := hB9
        rw [ht9] at hP
        generalize H1 = H at hP hS ⊢
        obtain ⟨e9, hw9⟩ := hw9
        have e9 : r9 = iZ rr := e9
        subst e9
        simp only at hP hw9
        have hμr := hw9; clear hw9
        obtain ⟨f1_, o1_⟩ := hμr
        have x02 : μr 0 2 = μ 0 2 := f1_ _ _ (by omega)
        have rr02 : 0 ≤ rr ∧ rr ≤ 2 := by rcases o1_ with h | h <;> omega
        refine lv_istore_n (lv' := [(2, .int (iZ (rr))), (0, .ref h0), (1, .int (iZ (n)))]) hx hb dX9_page_50 rfl hl (by decide) rfl (fun ls hl => ?_)
        refine lv_aload_n hx hb dX9_page_51 rfl (lv_at hl 1 rfl) ?_
        refine fz_get (D := (dC, dI)) (ci := 9) (v := .ref (h0 + 1)) (C := RX9) (T := TX9) (N := 15) hx hb hts inG9 hown hK hP (k := 0) (by decide) (F := (sF0 h0)) sE_0 rfl 0 (by decide) (hts _ k332) (fun _ h9 => h9) rfl dX9_page_52 ?_
        refine lv_iconst (v := iZ 0) hx hb dX9_page_55 rfl ?_
        refine fz_put (D := (dC, dI)) (ci := 5) (ty := .int) (z := 0) (C := RX5) (T := TX5) (N := 8) hx hb hts inG5 tyX5 tyX5_ok nmX5 hown hK hP fA_in hS (k := 1) (by decide) (F := (sF1 h0)) sE_1 rfl 1 (by decide) (hts _ k37) (fun _ h9 => h9) rfl (by decide +kernel) rfl rfl (fun _ => Nat.le_of_ble_eq_true rfl) (fun _ _ => rfl) dX9_page_56 (fun H locs hP hS => ?_)
        obtain ⟨μ3, eμ3⟩ : ∃ x : va_M, x = uz μr 1 1 (0) := ⟨_, rfl⟩
        rw [← eμ3] at hP
        have F1 : fr (fun x y => x = 1 ∨ x = 3 ∨ x = 4) μ μ3 := by rw [eμ3]; exact fr_uz (fr_mono f1_ (fun x y h => by omega)) (Or.inl rfl)
        have b11 : μ3 1 1 = 0 := by rw [eμ3, uz_s]
        have x2b : ∀ y, μ3 2 y = μ 2 y := fun y => F1 _ _ (by omega)
        have tb1 : tpB μ3 := fun j => by rw [x2b]; exact hI.1.1.2.1 j
        have x02b : μ3 0 2 = μ 0 2 := F1 _ _ (by omega)
        have lv1 : lvOK μ3 := lv_fr hI.1.2.1 (fun x y h _ => F1 _ _ (by omega))
        have tabU : ∀ T8, tabC μr T8 → tabC μ3 T8 := fun T8 h8 => tabC_fr h8 (by rw [eμ3, uz_n (by omega)]) (fun y => by rw [eμ3, uz_n (by omega)])
        skip
        refine lv_iload_n hx hb dX9_page_59 rfl (lv_at hl 0 rfl) ?_
        refine fz_if_eq (tgt := 68) (by first | assumption | (constructor <;> omega) | decide) hx hb dX9_page_60 (by decide) (fun c60_ => ?_) (fun c60_ => ?_)
        · obtain ⟨T2, S2, p1_, p2_, p3_⟩ : ∃ (T2 : List Tk) (S2 : List Int), pg (bC μ n) n 0 T [] = some (T2, S2) ∧ tabC μr T2 ∧ fndC μr S2 := by
            rcases o1_ with h | h
            · exact h.2
            · exact absurd h.1 (by omega)
          have t2_ := tabU _ p2_
          have s2_ : fndC μ3 S2 := fndC_fr p3_ (by rw [eμ3, uz_n (by omega)]) (by rw [eμ3, uz_n (by omega)]; exact Int.le_refl _) (fun y => by rw [eμ3, uz_n (by omega)])
          obtain ⟨ll1, ll2⟩ := lv1 (μ 0 2).toNat (by omega)
          have hS1_ := pg_ne p1_
          have hRP_ := rowT_Pre T2 S2 (fun k e hk => by have := (s2_.2 k e hk).1; have := t2_.1; omega)
          have hS6_ := s2_.1.2
          refine lv_aload_n hx hb dX9_page_68 rfl (lv_at hl 1 rfl) ?_
          refine fz_get (D := (dC, dI)) (ci := 9) (v := .ref (h0 + 5)) (C := RX9) (T := TX9) (N := 15) hx hb hts inG9 hown hK hP (k := 0) (by decide) (F := (sF0 h0)) sE_0 rfl 1 (by decide) (hts _ k333) (fun _ h9 => h9) rfl dX9_page_69 ?_
          refine lv_aload_n hx hb dX9_page_72 rfl (lv_at hl 1 rfl) ?_
          refine fz_get (D := (dC, dI)) (ci := 9) (v := .int (iZ (μ3 0 2))) (C := RX9) (T := TX9) (N := 15) hx hb hts inG9 hown hK hP (k := 0) (by decide) (F := (sF0 h0)) sE_0 rfl 2 (by decide) (hts _ k334) (fun _ h9 => h9) rfl dX9_page_73 ?_
          rw [show μ3 0 2 = μr 0 2 from by rw [eμ3, uz_n (by omega)]]
          rw [show μr 0 2 = μ 0 2 from (by exact x02)]
          refine fz_ald (k := 5) (n := 8) (k2 := (113 + (μ 0 2).toNat * 15)) hx hb hK hP 1 rfl (by decide) sE_5 rfl ⟨by omega, by omega⟩ (by decide) (if_pos (by omega)) dX9_page_76 ?_
          refine lv_aload_n hx hb dX9_page_77 rfl (lv_at hl 1 rfl) ?_
          refine fz_get (D := (dC, dI)) (ci := 9) (v := .ref (h0 + 1)) (C := RX9) (T := TX9) (N := 15) hx hb hts inG9 hown hK hP (k := 0) (by decide) (F := (sF0 h0)) sE_0 rfl 0 (by decide) (hts _ k332) (fun _ h9 => h9) rfl dX9_page_78 ?_
          refine fz_get (D := (dC, dI)) (ci := 5) (v := .ref (h0 + 4)) (C := RX5) (T := TX5) (N := 8) hx hb hts inG5 hown hK hP (k := 1) (by decide) (F := (sF1 h0)) sE_1 rfl 4 (by decide) (hts _ k42) (fun _ h9 => h9) rfl dX9_page_81 ?_
          refine lv_aload_n hx hb dX9_page_84 rfl (lv_at hl 1 rfl) ?_
          refine fz_get (D := (dC, dI)) (ci := 9) (v := .ref (h0 + 1)) (C := RX9) (T := TX9) (N := 15) hx hb hts inG9 hown hK hP (k := 0) (by decide) (F := (sF0 h0)) sE_0 rfl 0 (by decide) (hts _ k332) (fun _ h9 => h9) rfl dX9_page_85 ?_
          refine fz_get (D := (dC, dI)) (ci := 5) (v := .int (iZ (μ3 1 5))) (C := RX5) (T := TX5) (N := 8) hx hb hts inG5 hown hK hP (k := 1) (by decide) (F := (sF1 h0)) sE_1 rfl 5 (by decide) (hts _ k44) (fun _ h9 => h9) rfl dX9_page_88 ?_
          rw [show μ3 1 5 = μr 1 5 from by rw [eμ3, uz_n (by omega)]]
          refine lv_aload_n hx hb dX9_page_91 rfl (lv_at hl 1 rfl) ?_
          refine fz_get (D := (dC, dI)) (ci := 9) (v := .ref (h0 + 1)) (C := RX9) (T := TX9) (N := 15) hx hb hts inG9 hown hK hP (k := 0) (by decide) (F := (sF0 h0)) sE_0 rfl 0 (by decide) (hts _ k332) (fun _ h9 => h9) rfl dX9_page_92 ?_
          refine va_callv (va_runV (As := [.ref (h0 + 4), .int (iZ (μr 1 5)), .ref (h0 + 1)]) (rest := []) ⟨hx, hb, hml, hown, hts⟩ (s_Fbecome2 l dC dI cI cZ cII cIII h0 H.size μ3 ((113 + (μ 0 2).toNat * 15)) ((μ 0 2).toNat) (T2) (S2) (μr 1 5) (rfl) ((show (μ 0 2).toNat < 8 by omega)) (by exact ll1) (by exact t2_) (by exact s2_) (by rw [eμ3, uz_n (by omega)])) (cwV 3 hts (gV_G k710 k711 k712 k10 k713) rfl rfl rfl (by decide +kernel) ⟨Nat.le_of_ble_eq_true rfl, Nat.le_of_ble_eq_true rfl⟩) ⟨fun a U g mk q => by obtain ⟨q0, q1, qP, qK, qM⟩ := q; exact ⟨q0, q1, qP, va_K.moved (u := U) (U := U.calling g mk a) (Vm.Alike.refl U.vm) qK, qM⟩, va_recv hK hP (ci := 1) (q0 := (113 + (μ 0 2).toNat * 15)) rfl ((fw_get (by omega)).trans (by rw [(sE_leafO (show (μ 0 2).toNat < 8 by omega) rfl)])), fun U hU hW => ⟨rfl, by rw [hU], by rw [hU]; exact hP, va_K.moved hW.alike hK, xM_warm hW hM⟩⟩ rfl rfl hl.1 rfl (lv_room (Nat.le_of_ble_eq_true rfl)) dX9_page_95 ⟨Nat.le_of_ble_eq_true rfl, Nat.le_of_ble_eq_true rfl⟩) hS (fun q _ h => fA_le hS.1 q h) (fA_le hS.1) (fun u9 t9 H1 locs ht9 hvm9 hw9 hB9 hz9 hk9 hS => ?_)
          obtain ⟨hP, -⟩ := hB9
          rw [ht9] at hP
          generalize H1 = H at hP hS ⊢
          obtain ⟨μb, eμb⟩ : ∃ x : va_M, x = u9 := ⟨_, rfl⟩
          rw [← eμb] at hP hw9
          have hμb := hw9; clear hw9
          obtain ⟨g1_, g2_, g3_, g4_⟩ := hμb
          have x02c : μb 0 2 = μ 0 2 := by rw [g1_ _ _ (by unfold LfB; omega)]; exact x02b
          refine lv_aload_n hx hb dX9_page_98 rfl (lv_at hl 1 rfl) ?_
          refine fz_get (D := (dC, dI)) (ci := 9) (v := .ref (h0 + 5)) (C := RX9) (T := TX9) (N := 15) hx hb hts inG9 hown hK hP (k := 0) (by decide) (F := (sF0 h0)) sE_0 rfl 1 (by decide) (hts _ k333) (fun _ h9 => h9) rfl dX9_page_99 ?_
          refine lv_aload_n hx hb dX9_page_102 rfl (lv_at hl 1 rfl) ?_
          refine fz_get (D := (dC, dI)) (ci := 9) (v := .int (iZ (μb 0 2))) (C := RX9) (T := TX9) (N := 15) hx hb hts inG9 hown hK hP (k := 0) (by decide) (F := (sF0 h0)) sE_0 rfl 2 (by decide) (hts _ k334) (fun _ h9 => h9) rfl dX9_page_103 ?_
          rw [show μb 0 2 = μ 0 2 from (by exact x02c)]
          refine fz_ald (k := 5) (n := 8) (k2 := (113 + (μ 0 2).toNat * 15)) hx hb hK hP 1 rfl (by decide) sE_5 rfl ⟨by omega, by omega⟩ (by decide) (if_pos (by omega)) dX9_page_106 ?_
          refine lv_aload_n hx hb dX9_page_107 rfl (lv_at hl 1 rfl) ?_
          refine fz_get (D := (dC, dI)) (ci := 9) (v := .ref (h0 + 38)) (C := RX9) (T := TX9) (N := 15) hx hb hts inG9 hown hK hP (k := 0) (by decide) (F := (sF0 h0)) sE_0 rfl 8 (by decide) (hts _ k340) (fun _ h9 => h9) rfl dX9_page_108 ?_
          refine va_callv (va_runV (As := [.ref (h0 + 38)]) (rest := []) ⟨hx, hb, hml, hown, hts⟩ (s_FfoldAll2 l dC dI cI cZ cII cIII h0 H.size μb ((113 + (μ 0 2).toNat * 15)) ((μ 0 2).toNat) (rowT T2 S2) (rfl) ((show (μ 0 2).toNat < 8 by omega)) (by exact g2_.2.2.2) (by exact ⟨⟨hRP_.1, hRP_.2.1, by omega⟩, by omega⟩) (by exact g4_.1) (by exact g4_.2)) (cwV 1 hts (gV_G k722 k723 k724 k10 k725) rfl rfl rfl (by decide +kernel) ⟨Nat.le_of_ble_eq_true rfl, Nat.le_of_ble_eq_true rfl⟩) ⟨fun a U g mk q => by obtain ⟨q0, q1, qP, qK, qM⟩ := q; exact ⟨q0, q1, qP, va_K.moved (u := U) (U := U.calling g mk a) (Vm.Alike.refl U.vm) qK, qM⟩, va_recv hK hP (ci := 1) (q0 := (113 + (μ 0 2).toNat * 15)) rfl ((fw_get (by omega)).trans (by rw [(sE_leafO (show (μ 0 2).toNat < 8 by omega) rfl)])), fun U hU hW => ⟨rfl, by rw [hU], by rw [hU]; exact hP, va_K.moved hW.alike hK, xM_warm hW hM⟩⟩ rfl rfl hl.1 rfl (lv_room (Nat.le_of_ble_eq_true rfl)) dX9_page_111 ⟨Nat.le_of_ble_eq_true rfl, Nat.le_of_ble_eq_true rfl⟩) hS (fun q _ h => fA_le hS.1 q h) (fA_le hS.1) (fun u9 t9 H1 locs ht9 hvm9 hw9 hB9 hz9 hk9 hS => ?_)
          obtain ⟨hP, -⟩ := hB9
          rw [ht9] at hP
          generalize H1 = H at hP hS ⊢
          obtain ⟨μf, eμf⟩ : ∃ x : va_M, x = u9 := ⟨_, rfl⟩
          rw [← eμf] at hP hw9
          have hμf := hw9; clear hw9
          obtain ⟨k1_, k2_, k3_, l9_, w9_, k4_⟩ := hμf
          have x02d : μf 0 2 = μ 0 2 := by rw [k1_ _ _ (by unfold FoB LTq LEq; omega)]; exact x02c
          refine lv_aload_n hx hb dX9_page_114 rfl (lv_at hl 1 rfl) ?_
          refine lv_dup hx hb dX9_page_115 rfl ?_
          refine fz_get (D := (dC, dI)) (ci := 9) (v := .int (iZ (μf 0 2))) (C := RX9) (T := TX9) (N := 15) hx hb hts inG9 hown hK hP (k := 0) (by decide) (F := (sF0 h0)) sE_0 rfl 2 (by decide) (hts _ k334) (fun _ h9 => h9) rfl dX9_page_116 ?_
          refine lv_iconst (v := iZ 1) hx hb dX9_page_119 rfl ?_
          refine lv_iadd hx hb dX9_page_120 ?_
          refine lv_topi (fun x9 ex9 => ?_)
          obtain rfl : x9 = iZ ((μf 0 2) + 1) := ex9.trans (iZ_add _ _)
          refine fz_put (D := (dC, dI)) (ci := 9) (ty := .int) (z := ((μf 0 2) + 1)) (C := RX9) (T := TX9) (N := 15) hx hb hts inG9 tyX9 tyX9_ok nmX9 hown hK hP fA_in hS (k := 0) (by decide) (F := (sF0 h0)) sE_0 rfl 2 (by decide) (hts _ k334) (fun _ h9 => h9) rfl (by decide +kernel) rfl rfl (fun _ => Nat.le_of_ble_eq_true rfl) (fun _ _ => rfl) dX9_page_121 (fun H locs hP hS => ?_)
          obtain ⟨μ4, eμ4⟩ : ∃ x : va_M, x = uz μf 0 2 ((μf 0 2) + 1) := ⟨_, rfl⟩
          rw [← eμ4] at hP
          have P9 : CI0 T2 μ4 ∧ μ4 0 2 = μ 0 2 + 1 ∧ μ4 1 1 = 0 ∧ ∀ y, μ4 2 y = μ 2 y := by
            have e02 : μ4 0 2 = μ 0 2 + 1 := by rw [eμ4, uz_s, x02d]
            have FA : ∀ x y, ((1 ≤ x ∧ x < 38) ∨ (45 ≤ x ∧ x < 113)) → μ4 x y = μ3 x y := fun x y h => by
              rw [eμ4, uz_n (by omega), k1_ _ _ (by unfold FoB LTq LEq; omega), g1_ _ _ (by unfold LfB; omega)]
            refine ⟨CI_pg hI.1 ⟨tabC_fr t2_ (FA _ _ (by omega)) (fun y => FA _ _ (by omega)), fun j => by rw [FA _ _ (by omega)]; exact tb1 j, by rw [FA _ _ (by omega)]; omega, by omega⟩ (fun i hi => ?_) (fun x y h => by rw [FA _ _ (by omega)]; exact F1 _ _ (by omega)), e02, by rw [FA _ _ (by omega)]; exact b11, fun y => by rw [FA _ _ (by omega)]; exact x2b y⟩
            by_cases e : i = (μ 0 2).toNat
            · rw [e]
              have q10 : μ4 (113 + (μ 0 2).toNat * 15 + 10) 1 = μ3 (113 + (μ 0 2).toNat * 15 + 10) 1 := by rw [eμ4, uz_n (by omega), k1_ _ _ (by unfold FoB LTq LEq; omega), g1_ _ _ (by unfold LfB; omega)]
              have q2 : μ4 (113 + (μ 0 2).toNat * 15) 2 = μb (113 + (μ 0 2).toNat * 15) 2 := by rw [eμ4, uz_n (by omega), k1_ _ _ (by unfold FoB LTq LEq; omega)]
              have q5 : μ4 (113 + (μ 0 2).toNat * 15) 5 = μf (113 + (μ 0 2).toNat * 15) 5 := by rw [eμ4, uz_n (by omega)]
              have g21 := g2_.1.1
              refine ⟨⟨⟨by omega, by omega⟩, fun j => ?_, fun j => ?_, rG_fr k2_ (fun x y h1 h2 => by rw [eμ4, uz_n (by omega)])⟩, by rw [q10]; exact ll2⟩
              · rw [eμ4, uz_n (by omega), k1_ _ _ (by unfold FoB LTq LEq; omega)]; exact g2_.2.1 j
              · rw [eμ4, uz_n (by omega), k1_ _ _ (by unfold FoB LTq LEq; omega)]; exact g2_.2.2.1 j
            · obtain ⟨m1, m2⟩ := lv1 i hi
              have FB : ∀ x y, 113 + i * 15 ≤ x → x < 113 + i * 15 + 15 → μ4 x y = μ3 x y := fun x y h1 h2 => by
                rw [eμ4, uz_n (by omega), k1_ _ _ (by unfold FoB LTq LEq; omega), g1_ _ _ (by unfold LfB; omega)]
              exact ⟨lf_fr m1 (fun x y h => FB _ _ (by omega) (by omega)), by rw [FB _ _ (by omega) (by omega)]; exact m2⟩
          have L9 : lfT μ4 (113 + (μ 0 2).toNat * 15) T2 S2 := ⟨by rw [eμ4, uz_n (by omega), k1_ _ _ (by unfold FoB LTq LEq; omega)]; exact g3_.1, fun k e hk => ⟨by rw [eμ4, uz_n (by omega), k1_ _ _ (by unfold FoB LTq LEq; omega)]; exact (g3_.2 k e hk).1, by rw [eμ4, uz_n (by omega), k1_ _ _ (by unfold FoB LTq LEq; omega)]; exact (g3_.2 k e hk).2⟩⟩
          have O9 : ∀ x y, 113 ≤ x → (x < 113 + (μ 0 2).toNat * 15 ∨ 113 + (μ 0 2).toNat * 15 + 15 ≤ x) → μ4 x y = μ x y := fun x y h1 h2 => by
            rw [eμ4, uz_n (by omega), k1_ _ _ (by unfold FoB LTq LEq; omega), g1_ _ _ (by unfold LfB; omega)]
            exact F1 _ _ (by omega)
          have K9 : fldC μ4 (113 + (μ 0 2).toNat * 15) (rowT T2 S2) l9_ w9_ := fldC_fr k4_ (by rw [eμ4, uz_n (by omega)]) (fun x y q1 q2 => by rw [eμ4, uz_n (by omega)]) (fun y _ _ => by rw [eμ4, uz_n (by omega)]) (by omega)
          have Q9 : ∀ x y, (6 ≤ x ∧ x < 12) ∨ (18 ≤ x ∧ x < 37) → μ4 x y = μ x y := fun x y h1 => by
            rw [eμ4, uz_n (by omega), k1_ _ _ (by unfold FoB LTq LEq; omega), g1_ _ _ (by unfold LfB; omega)]
            exact F1 _ _ (by omega)
          refine lv_aload_n hx hb dX9_page_124 rfl (lv_at hl 1 rfl) ?_
          refine fz_get (D := (dC, dI)) (ci := 9) (v := .int (iZ (μ4 0 2))) (C := RX9) (T := TX9) (N := 15) hx hb hts inG9 hown hK hP (k := 0) (by decide) (F := (sF0 h0)) sE_0 rfl 2 (by decide) (hts _ k334) (fun _ h9 => h9) rfl dX9_page_125 ?_
          rw [show μ4 0 2 = (μf 0 2) + 1 from by rw [eμ4, uz_s]]
          refine lv_iconst (v := iZ 1) hx hb dX9_page_128 rfl ?_
          refine lv_isub hx hb dX9_page_129 ?_
          refine lv_topi (fun x9 ex9 => ?_)
          obtain rfl : x9 = iZ (((μf 0 2) + 1) - 1) := ex9.trans (iZ_sub _ _)
          rw [fw_nz] at hP
          obtain ⟨μ5, eμ5⟩ : ∃ x : va_M, x = nz μ4 := ⟨_, rfl⟩
          rw [← eμ5] at hP
          exact W_widen (Nat.le_of_ble_eq_true rfl) (Nat.le_of_ble_eq_true rfl) (vx_ret (W.iret (v := iZ (((μf 0 2) + 1) - 1)) hx hb hr (fun t9 ht9 hW9 => ⟨⟨iZ (((μf 0 2) + 1) - 1), (μ5, ((μf 0 2) + 1) - 1), rfl, ⟨rfl, (by
                            dsimp only
                            obtain ⟨P1, P2, P3, P4⟩ := P9
                            rw [eμ5]
                            have zz : ∀ x y, ¬ Zc x y → nz μ4 x y = μ4 x y := fun x y h => nz_n h
                            exact ⟨fun x y h1 => by rw [zz _ _ (by unfold Zc; omega)]; exact Q9 x y h1, by rw [zz _ _ (by unfold Zc; omega)]; exact P3, fun y => by rw [zz _ _ (by unfold Zc; omega)]; exact P4 y, by omega, Or.inl ⟨T2, S2, p1_, CI_nz P1, by rw [zz _ _ (by unfold Zc; omega)]; exact P2, ⟨by rw [zz _ _ (by unfold Zc; omega)]; exact L9.1, fun k e hk => ⟨by rw [zz _ _ (by unfold Zc; omega)]; exact (L9.2 k e hk).1, by rw [zz _ _ (by unfold Zc; omega)]; exact (L9.2 k e hk).2⟩⟩, fun x y h1 h2 h3 => by rw [zz _ _ (by unfold Zc; omega)]; exact O9 x y h1 h3, l9_, w9_, fldC_fr K9 (zz _ _ (by unfold Zc; omega)) (fun x y q1 q2 => zz _ _ (by unfold Zc; omega)) (fun y q1 q2 => nz_r (by unfold inR; omega)) (by omega)⟩⟩)⟩, by rw [ht9]; exact hP, va_K.moved hW9.alike hK⟩, hS.F ht9⟩) hS.2.2 dX9_page_130))
        · have o2_ : pg (bC μ n) n 0 T [] = none ∧ tabC μr T := by
            rcases o1_ with h | h
            · exact absurd h.1 (by omega)
            · exact h.2.2
          have C8 : CI0 T μ3 := CI_pg hI.1 ⟨tabU _ o2_.2, tb1, by omega, by omega⟩ lv1 (fun x y h => F1 _ _ (by omega))
          refine lv_iload_n hx hb dX9_page_63 rfl (lv_at hl 0 rfl) ?_
          refine lv_bipush (v := iZ 10) hx hb dX9_page_64 rfl ?_
          refine lv_isub hx hb dX9_page_66 ?_
          refine lv_topi (fun x9 ex9 => ?_)
          obtain rfl : x9 = iZ (rr - 10) := ex9.trans (iZ_sub _ _)
          rw [fw_nz] at hP
          obtain ⟨μ6, eμ6⟩ : ∃ x : va_M, x = nz μ3 := ⟨_, rfl⟩
          rw [← eμ6] at hP
          exact W_widen (Nat.le_of_ble_eq_true rfl) (Nat.le_of_ble_eq_true rfl) (vx_ret (W.iret (v := iZ (rr - 10)) hx hb hr (fun t9 ht9 hW9 => ⟨⟨iZ (rr - 10), (μ6, rr - 10), rfl, ⟨rfl, (by
                            dsimp only
                            rw [eμ6]
                            have zz : ∀ x y, ¬ Zc x y → nz μ3 x y = μ3 x y := fun x y h => nz_n h
                            exact ⟨fun x y h1 => by rw [zz _ _ (by unfold Zc; omega)]; exact F1 _ _ (by omega), by rw [zz _ _ (by unfold Zc; omega)]; exact b11, fun y => by rw [zz _ _ (by unfold Zc; omega)]; exact x2b y, by omega, Or.inr ⟨o2_.1, CI_nz C8, by rw [zz _ _ (by unfold Zc; omega)]; exact x02b, fun x y h1 h2 => by rw [zz _ _ (by unfold Zc; omega)]; exact F1 _ _ (by omega)⟩⟩)⟩, by rw [ht9]; exact hP, va_K.moved hW9.alike hK⟩, hS.F ht9⟩) hS.2.2 dX9_page_67))

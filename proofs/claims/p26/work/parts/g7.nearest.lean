
/-! nearest of the class, told whole -/
def cNr (Ws : Nat → Rw) (pg q : Nat) : Int := (lay (Ws q) (Ws pg)).1
/-- the least of the first so many but one, and where it stands first -/
def nr9 (c : Nat → Int) (pg : Nat) : Nat → Int × Int
  | 0 => (-1, 1000000)
  | q + 1 => if q = pg ∨ ¬ c q < (nr9 c pg q).2 then nr9 c pg q else ((q : Int), c q)
theorem nr9_k {c : Nat → Int} {pg q : Nat} (h : q = pg ∨ ¬ c q < (nr9 c pg q).2) : nr9 c pg (q + 1) = nr9 c pg q := if_pos h
theorem nr9_s {c : Nat → Int} {pg q : Nat} (h : ¬ q = pg) (h2 : c q < (nr9 c pg q).2) : nr9 c pg (q + 1) = ((q : Int), c q) := if_neg (fun q => q.elim h (fun a => a h2))
set_option maxHeartbeats 4000000 in
set_option maxRecDepth 100000 in
theorem LX9_nearest_13v {p : Program} {l : Launch} {e : Env} {R : Room} {s : State} {m : MethodId} {args : Array Value} {below : List Frame} {meth : Method} {c : Code} {cells slots : Nat} {Q : State → Prop} {dC : Nat → ClassId} {dI : Nat → Nat → Nat} {h0 : Nat} {cI cZ cII cIII : ClassId} (hx : p.tables.exec = Jvm.exec) (hb : c.code = cX9_nearest) (hml : c.maxLocals = 6) (hown : s.vm.findClass RX9 = some m.cls) (hts : ∀ w ∈ wsG, w.before args s = true) (hK : va_K (dC, dI) vwCl (sT cI cZ cII cIII) s) (hM : xM s) (hRf : 8 ≤ R.frames) (hRl : 161 ≤ R.locals) (hRc : cells ≤ R.cells) (hRs : slots ≤ R.slots) (μ0 : va_M) (T : List Tk) (pg : Int) (Ws : Nat → Rw) (hI : CI T μ0) (hpg : 0 ≤ pg ∧ pg < μ0 0 2) (hWs : WsC μ0 Ws) (hexit55 : ∀ (i : Int) (le : Int) (be : Int) (μ : va_M) (H : Heap) (locs : List Loc) (ls : Array Slot), (CI T μ) → (fr (fun x _ => 41 ≤ x ∧ x ≤ 44) μ0 μ) → (be = (nr9 (cNr Ws (pg).toNat) (pg).toNat (μ0 0 2).toNat).1) → va_P (dC, dI) vwCl (fw (sE cI cZ cII cIII h0) h0 233 μ) H → va_S (fA h0 233 s.heap.size) s.heap H locs → lv_has ls 6 [(2, .int (iZ (be)))] → W p l e R s m args below meth c H locs cells slots Q (F0 m 55 ls [])) :
    ∀ (n9 : Nat) (i : Int) (le : Int) (be : Int) (μ : va_M) (H : Heap) (locs : List Loc) (ls : Array Slot), (0 ≤ i ∧ i ≤ μ0 0 2 ∧ 0 ≤ le ∧ le ≤ 1000000) → (CI T μ) → (fr (fun x _ => 41 ≤ x ∧ x ≤ 44) μ0 μ) → (be = (nr9 (cNr Ws (pg).toNat) (pg).toNat i.toNat).1 ∧ le = (nr9 (cNr Ws (pg).toNat) (pg).toNat i.toNat).2) → (9 - i).toNat < n9 → va_P (dC, dI) vwCl (fw (sE cI cZ cII cIII h0) h0 233 μ) H → va_S (fA h0 233 s.heap.size) s.heap H locs → lv_has ls 6 [(4, .int (iZ (i))), (3, .int (iZ (le))), (2, .int (iZ (be))), (1, .int (iZ (pg))), (0, .ref h0)] → W p l e R s m args below meth c H locs cells slots Q (F0 m 13 ls []) := by
  intro n9
  induction n9 with
  | zero => intro i le be μ H locs ls hi hc9 hf hs9 hm9 hP hS hl; exact absurd hm9 (Nat.not_lt_zero _)
  | succ n9 ih =>
    intro i le be μ H locs ls hi hc9 hf hs9 hm9 hP hS hl
    have hlc := CI_lc hI
    have x2 : μ 0 2 = μ0 0 2 := hf _ _ (by omega)
    have ei : (i + 1).toNat = i.toNat + 1 := by omega
    refine lv_iload hx hb dX9_nearest_13 (lv_at hl 0 rfl) ?_
    refine lv_aload_n hx hb dX9_nearest_15 rfl (lv_at hl 4 rfl) ?_
    refine fz_get (D := (dC, dI)) (ci := 9) (v := .int (iZ (μ 0 2))) (C := RX9) (T := TX9) (N := 15) hx hb hts inG9 hown hK hP (k := 0) (by decide) (F := (sF0 h0)) sE_0 rfl 2 (by decide) (hts _ k334) (fun _ h9 => h9) rfl dX9_nearest_16 ?_
    refine fz_icmp_ge (tgt := 55) (by first | assumption | (constructor <;> omega) | decide) (by first | assumption | (constructor <;> omega) | decide) hx hb dX9_nearest_19 (by decide) (fun c19_ => ?_) (fun c19_ => ?_)
    · exact hexit55 (i) (le) (be) μ H locs ls (by exact hc9) (by exact hf) (by rw [show (μ0 0 2).toNat = i.toNat by omega]; exact hs9.1) hP hS (lv_sub hl [2] rfl)
    · refine lv_iload hx hb dX9_nearest_22 (lv_at hl 0 rfl) ?_
      refine lv_iload_n hx hb dX9_nearest_24 rfl (lv_at hl 3 rfl) ?_
      refine fz_icmp_eq (tgt := 49) (by first | assumption | (constructor <;> omega) | decide) (by first | assumption | (constructor <;> omega) | decide) hx hb dX9_nearest_25 (by decide) (fun c25_ => ?_) (fun c25_ => ?_)
      · refine lv_iinc (v := iZ (i + 1)) (lv' := [(4, .int (iZ (i + 1))), (3, .int (iZ (le))), (2, .int (iZ (be))), (1, .int (iZ (pg))), (0, .ref h0)]) hx hb dX9_nearest_49 hl (k := 0) rfl (iZ_add _ _) (by decide) rfl (fun ls hl => ?_)
        refine lv_goto (tgt := 13) hx hb dX9_nearest_52 (by decide) ?_
        exact ih (i + 1) (le) (be) μ H locs ls (by omega) (by exact hc9) (by exact hf) (by rw [ei, nr9_k (Or.inl (by omega))]; exact hs9) (by omega) hP hS (lv_sub hl [0, 1, 2, 3, 4] rfl)
      · refine lv_aload_n hx hb dX9_nearest_28 rfl (lv_at hl 4 rfl) ?_
        refine lv_iload_n hx hb dX9_nearest_29 rfl (lv_at hl 3 rfl) ?_
        refine lv_iload hx hb dX9_nearest_30 (lv_at hl 0 rfl) ?_
        refine va_calli (va_runV (As := [.int (iZ (pg)), .int (iZ (i))]) (rest := []) ⟨hx, hb, hml, hown, hts⟩ (s_costBetween2 l dC dI cI cZ cII cIII h0 H.size μ (pg) (i) (T) (Ws (pg).toNat) (Ws (i).toNat) (by exact hc9) (by first | assumption | omega | exact CI_lc hI | exact CI_cn hI | exact (CI_n6 hI).1 | decide) (by first | assumption | omega | exact CI_lc hI | exact CI_cn hI | exact (CI_n6 hI).1 | decide) (by
                        obtain ⟨w1, w2⟩ := hWs (pg).toNat (by omega)
                        exact ⟨rowS_fr9 w1 (fun x y q1 q2 => hf _ _ (by omega)), w2⟩) (by
                        obtain ⟨w1, w2⟩ := hWs (i).toNat (by omega)
                        exact ⟨rowS_fr9 w1 (fun x y q1 q2 => hf _ _ (by omega)), w2⟩)) (cwV 2 hts (gV_G k1026 k1028 ks_yX9_costBetween k1 k1029) rfl rfl rfl (by decide +kernel) ⟨by show 6 + 1 ≤ _; omega, by show 8 + (3 + 11) + (139) ≤ _; omega⟩) ⟨fun a U g mk q => by obtain ⟨q0, q1, qP, qK, qM⟩ := q; exact ⟨q0, q1, qP, va_K.moved (u := U) (U := U.calling g mk a) (Vm.Alike.refl U.vm) qK, qM⟩, va_recv hK hP (ci := 9) (q0 := 0) rfl ((fw_get (by decide)).trans (by rw [sE_0]; rfl)), fun U hU hW => ⟨rfl, by rw [hU], by rw [hU]; exact hP, va_K.moved hW.alike hK, xM_warm hW hM⟩⟩ rfl rfl hl.1 rfl (lv_room (Nat.le_of_ble_eq_true rfl)) dX9_nearest_32 ⟨hRc, hRs⟩) hS (fun q _ h => fA_le hS.1 q h) (fA_le hS.1) (fun r9 u9 t9 H1 locs ht9 hvm9 hw9 hB9 hz9 hk9 hS => ?_)
        obtain ⟨μl, rl⟩ := u9
        obtain ⟨hP, -⟩ := hB9
        rw [ht9] at hP
        generalize H1 = H at hP hS ⊢
        obtain ⟨e9, hw9⟩ := hw9
        have e9 : r9 = iZ rl := e9
        subst e9
        simp only at hP hw9
        have hμl := hw9; clear hw9
        obtain ⟨c0_, f1_, r1_⟩ := hμl
        have r1_ : rl = cNr Ws (pg).toNat (i).toNat ∧ 0 ≤ rl ∧ rl ≤ 2000 := r1_
        have cz_ := CI_r12 hc9 c0_ (fr_mono f1_ (fun x y h => by omega))
        refine lv_istore (lv' := [(5, .int (iZ (rl))), (4, .int (iZ (i))), (3, .int (iZ (le))), (2, .int (iZ (be))), (1, .int (iZ (pg))), (0, .ref h0)]) hx hb dX9_nearest_35 hl (by decide) rfl (fun ls hl => ?_)
        refine lv_iload hx hb dX9_nearest_37 (lv_at hl 0 rfl) ?_
        refine lv_iload_n hx hb dX9_nearest_39 rfl (lv_at hl 2 rfl) ?_
        refine fz_icmp_ge (tgt := 49) (by first | assumption | (constructor <;> omega) | decide) (by first | assumption | (constructor <;> omega) | decide) hx hb dX9_nearest_40 (by decide) (fun c40_ => ?_) (fun c40_ => ?_)
        · refine lv_iinc (v := iZ (i + 1)) (lv' := [(4, .int (iZ (i + 1))), (5, .int (iZ (rl))), (3, .int (iZ (le))), (2, .int (iZ (be))), (1, .int (iZ (pg))), (0, .ref h0)]) hx hb dX9_nearest_49 hl (k := 1) rfl (iZ_add _ _) (by decide) rfl (fun ls hl => ?_)
          refine lv_goto (tgt := 13) hx hb dX9_nearest_52 (by decide) ?_
          exact ih (i + 1) (le) (be) μl H locs ls (by omega) (by exact cz_.1) (by exact fr_trans hf f1_) (by rw [ei, nr9_k (Or.inr (by rw [← hs9.2, ← r1_.1]; omega))]; exact hs9) (by omega) hP hS (lv_sub hl [0, 2, 3, 4, 5] rfl)
        · refine lv_iload hx hb dX9_nearest_43 (lv_at hl 0 rfl) ?_
          refine lv_istore_n (lv' := [(3, .int (iZ (rl))), (5, .int (iZ (rl))), (4, .int (iZ (i))), (2, .int (iZ (be))), (1, .int (iZ (pg))), (0, .ref h0)]) hx hb dX9_nearest_45 rfl hl (by decide) rfl (fun ls hl => ?_)
          refine lv_iload hx hb dX9_nearest_46 (lv_at hl 2 rfl) ?_
          refine lv_istore_n (lv' := [(2, .int (iZ (i))), (3, .int (iZ (rl))), (5, .int (iZ (rl))), (4, .int (iZ (i))), (1, .int (iZ (pg))), (0, .ref h0)]) hx hb dX9_nearest_48 rfl hl (by decide) rfl (fun ls hl => ?_)
          refine lv_iinc (v := iZ (i + 1)) (lv' := [(4, .int (iZ (i + 1))), (2, .int (iZ (i))), (3, .int (iZ (rl))), (5, .int (iZ (rl))), (1, .int (iZ (pg))), (0, .ref h0)]) hx hb dX9_nearest_49 hl (k := 3) rfl (iZ_add _ _) (by decide) rfl (fun ls hl => ?_)
          refine lv_goto (tgt := 13) hx hb dX9_nearest_52 (by decide) ?_
          exact ih (i + 1) (rl) (i) μl H locs ls (by omega) (by exact cz_.1) (by exact fr_trans hf f1_) (by rw [ei, nr9_s (by omega) (by rw [← hs9.2, ← r1_.1]; omega)]; exact ⟨by show i = ((i.toNat : Nat) : Int); omega, r1_.1⟩) (by omega) hP hS (lv_sub hl [0, 2, 1, 4, 5] rfl)
set_option maxHeartbeats 4000000 in
set_option maxRecDepth 100000 in
theorem t_nearest (l : Launch) (hfl : l.stackTraces = false) (dC : Nat → ClassId) (dI : Nat → Nat → Nat) (cI cZ cII cIII : ClassId) (h0 sz : Nat) (μ : va_M) (pg : Int) (T : List Tk) (Ws : Nat → Rw) (hI : CI T μ) (h_pg : inR pg) (hWs : WsC μ Ws) : vx_Met l yX9_nearest (Cond.code yX9_nearest cX9_nearest 6 (some .int) :: wsG) ({ frames := 8, cells := 1, slots := 6, locals := 161 } : Room) (va_Pc [.ref h0, .int (iZ (pg))] (fun U => U.heap.size = sz ∧ va_P (dC, dI) vwCl (fw (sE cI cZ cII cIII h0) h0 233 μ) U.heap ∧ va_K (dC, dI) vwCl (sT cI cZ cII cIII) U ∧ xM U ∧ xX (fA h0 233 sz) U)) (va_Qi (fun (r9 : Int32) (u : va_M × Int) => r9 = iZ u.2 ∧ (fun (u : va_M) (r : Int) => CI T u ∧ SZ μ u ∧ (0 ≤ pg ∧ pg < μ 0 2) ∧ r = (nr9 (cNr Ws (pg).toNat) (pg).toNat (μ 0 2).toNat).1) u.1 u.2) (fun u t => va_P (dC, dI) vwCl (fw (sE cI cZ cII cIII h0) h0 233 u.1) t.heap ∧ va_K (dC, dI) vwCl (sT cI cZ cII cIII) t) (fA h0 233 sz)) (vx_X (fun (u : va_M) => CI T u ∧ SZ μ u) (fun E u t => E ∈ (["java/util/NoSuchElementException"] : List String) ∧ va_P (dC, dI) vwCl (fw (sE cI cZ cII cIII h0) h0 233 u) t.heap ∧ va_K (dC, dI) vwCl (sT cI cZ cII cIII) t ∧ ((E = "java/util/NoSuchElementException" → cd2 (0 ≤ pg ∧ pg < μ 0 2) (True) = 1) ∧ (E = "-" → cd2 (0 ≤ pg ∧ pg < μ 0 2) (True) = 2))) (fA h0 233 sz)) 1 6 (fA h0 233 sz) := by
  refine vx_ofW (cc := cX9_nearest) (maxL := 6) (ret := (some .int)) (by decide) rfl ?_
  intro p e s m args below meth c s₁ B hml hnt hv
  obtain ⟨rfl, hsz, hP, hK, hM, hEx⟩ := hv
  have hx := B.exec
  have hb := B.bytes
  have hr := B.returns
  have hts : ∀ w ∈ wsG, w.before _ s = true := hG_of (atoms_spec (ws := (Cond.code yX9_nearest cX9_nearest 6 (some .int) :: wsG)) B.pre)
  have hown : s.vm.findClass RX9 = some m.cls := findClass_of_methodNamed B.named
  have hlocks := B.notSynchronized
  subst hsz
  have hS : va_S (fA h0 233 s.heap.size) s.heap s.heap [] := va_S.rf
  have hl := lv_entry ([.ref h0, .int (iZ (pg))]) (n := 6) (Nat.le_of_ble_eq_true rfl)
  rw [lg_entry_eq]
  generalize (lg_sl ([.ref h0, .int (iZ (pg))]) ++ List.replicate (6 - (lg_sl ([.ref h0, .int (iZ (pg))])).length) Slot.unset).toArray = ls at hl ⊢
  have hl : lv_has ls 6 [(0, .ref h0), (1, .int (iZ (pg)))] := hl
  have hlc := CI_lc hI
  have h66 := CI_n6 hI
  refine lv_aload_n hx hb dX9_nearest_0 rfl (lv_at hl 0 rfl) ?_
  refine lv_iload_n hx hb dX9_nearest_1 rfl (lv_at hl 1 rfl) ?_
  by_cases hn2_ : 0 ≤ pg ∧ pg < μ 0 2
  · refine va_callv (va_runV (As := [.int (iZ (pg))]) (rest := []) ⟨hx, hb, hml, hown, hts⟩ (s_needPage l dC dI cI cZ cII cIII h0 s.heap.size μ (pg) (by first | assumption | omega | exact CI_lc hI | exact CI_cn hI | exact (CI_n6 hI).1 | decide) (by first | assumption | omega | exact CI_lc hI | exact CI_cn hI | exact (CI_n6 hI).1 | decide) (by exact hn2_)) (cwV 1 hts (gV_G k735 k737 ks_yX9_needPage k1 k738) rfl rfl rfl (by decide +kernel) ⟨Nat.le_of_ble_eq_true rfl, Nat.le_of_ble_eq_true rfl⟩) ⟨fun a U g mk q => by obtain ⟨q0, q1, qP, qK, qM⟩ := q; exact ⟨q0, q1, qP, va_K.moved (u := U) (U := U.calling g mk a) (Vm.Alike.refl U.vm) qK, qM⟩, va_recv hK hP (ci := 9) (q0 := 0) rfl ((fw_get (by decide)).trans (by rw [sE_0]; rfl)), fun U hU hW => ⟨rfl, by rw [hU], by rw [hU]; exact hP, va_K.moved hW.alike hK, xM_warm hW hM⟩⟩ rfl rfl hl.1 rfl (lv_room (Nat.le_of_ble_eq_true rfl)) dX9_nearest_2 ⟨Nat.le_of_ble_eq_true rfl, Nat.le_of_ble_eq_true rfl⟩) hS (fun q _ h => fA_le hS.1 q h) (fA_le hS.1) (fun u9 t9 H1 locs ht9 hvm9 hw9 hB9 hz9 hk9 hS => ?_)
    obtain ⟨hP, -⟩ := hB9
    rw [ht9] at hP
    generalize H1 = H at hP hS ⊢
    obtain ⟨μ1, eμ1⟩ : ∃ x : va_M, x = u9 := ⟨_, rfl⟩
    rw [← eμ1] at hP hw9
    have hμ1 := hw9; clear hw9
    rw [hμ1] at hP
    refine lv_iconst (v := iZ (-1)) hx hb dX9_nearest_5 rfl ?_
    refine lv_istore_n (lv' := [(2, .int (iZ ((-1)))), (0, .ref h0), (1, .int (iZ (pg)))]) hx hb dX9_nearest_6 rfl hl (by decide) rfl (fun ls hl => ?_)
    refine lv_ldc (v := iZ 1000000) hx hb hown (hts _ k1037) dX9_nearest_7 ?_
    refine lv_istore_n (lv' := [(3, .int (iZ (1000000))), (2, .int (iZ ((-1)))), (0, .ref h0), (1, .int (iZ (pg)))]) hx hb dX9_nearest_9 rfl hl (by decide) rfl (fun ls hl => ?_)
    refine lv_iconst (v := iZ 0) hx hb dX9_nearest_10 rfl ?_
    refine lv_istore (lv' := [(4, .int (iZ (0))), (3, .int (iZ (1000000))), (2, .int (iZ ((-1)))), (0, .ref h0), (1, .int (iZ (pg)))]) hx hb dX9_nearest_11 hl (by decide) rfl (fun ls hl => ?_)
    refine LX9_nearest_13v hx hb hml hown hts hK hM (Nat.le_of_ble_eq_true rfl) (Nat.le_of_ble_eq_true rfl) (Nat.le_of_ble_eq_true rfl) (Nat.le_of_ble_eq_true rfl) (μ) (T) (pg) (Ws) (by exact hI) (by omega) (by exact hWs) ?_ _ (0) (1000000) ((-1)) μ H locs ls (by omega) (by exact hI) (by exact fr_rfl) (by exact ⟨rfl, rfl⟩) (Nat.lt_succ_self _) hP hS (lv_sub hl [0, 1, 2, 4, 3] rfl)
    · intro i_2 le_2 be_2 μ2_ H locs ls q1_2 q2_2 q3_2 hP hS hl
      have hl : lv_has ls 6 [(2, .int (iZ (be_2)))] := hl
      refine lv_iload_n hx hb dX9_nearest_55 rfl (lv_at hl 0 rfl) ?_
      exact W_widen (Nat.le_of_ble_eq_true rfl) (Nat.le_of_ble_eq_true rfl) (vx_ret (W.iret (v := iZ (be_2)) hx hb hr (fun t9 ht9 hW9 => ⟨⟨iZ (be_2), (μ2_, be_2), rfl, ⟨rfl, (by
                    dsimp only
                    exact ⟨q1_2, fun x y q => q2_2 _ _ (by omega), ⟨by omega, by omega⟩, q3_2⟩)⟩, by rw [ht9]; exact hP, va_K.moved hW9.alike hK⟩, hS.F ht9⟩) hS.2.2 dX9_nearest_56))
  · refine vx_callv (vx_runV (As := [.int (iZ (pg))]) (rest := []) ⟨hx, hb, hml, hown, hts⟩ (x_needPage l hfl dC dI cI cZ cII cIII h0 s.heap.size μ (pg) (by first | assumption | omega | exact CI_lc hI | exact CI_cn hI | exact (CI_n6 hI).1 | decide) (by first | assumption | omega | exact CI_lc hI | exact CI_cn hI | exact (CI_n6 hI).1 | decide) (hn2_)) (cwV 1 hts (gV_G k735 k737 ks_yX9_needPage k1 k738) rfl rfl rfl (by decide +kernel) ⟨Nat.le_of_ble_eq_true rfl, Nat.le_of_ble_eq_true rfl⟩) ⟨fun a U g mk q => by obtain ⟨q0, q1, qP, qK, qM, qE⟩ := q; exact ⟨q0, q1, qP, va_K.moved (u := U) (U := U.calling g mk a) (Vm.Alike.refl U.vm) qK, qM, xX_call qE⟩, va_recv hK hP (ci := 9) (q0 := 0) rfl ((fw_get (by decide)).trans (by rw [sE_0]; rfl)), fun U hU hW => ⟨rfl, by rw [hU], by rw [hU]; exact hP, va_K.moved hW.alike hK, xM_warm hW hM, xX_at hEx hS (fun q h => fA_le hS.1 q h) hU hW⟩⟩ rfl rfl hl.1 rfl (lv_room (Nat.le_of_ble_eq_true rfl)) dX9_nearest_2 ⟨Nat.le_of_ble_eq_true rfl, Nat.le_of_ble_eq_true rfl⟩) hS (fun q _ h => fA_le hS.1 q h) (fA_le hS.1) (fun q _ h => fA_le hS.1 q h) (fun E9 ce9 q9 u9 t9 H1 locs ht9 hvm9 hpx9 hBX9 hz9 hk9 hS hce9 hcv9 hcl9 => ?_) (fun u9 t9 H1 locs ht9 hvm9 hw9 hB9 hz9 hk9 hS => hw9.elim)
    obtain ⟨hE9, hP9, hK9⟩ := hBX9
    exact vx_out (fun x hx9 => (hnt x hx9).elim) hlocks hce9 hcv9 hcl9 (fun t8 ht8 hW8 => ⟨u9, (by
                show CI T u9 ∧ SZ μ u9
                exact CZ_thr hI hpx9), ⟨hE9, by rw [ht8, ← ht9]; exact hP9, va_K.moved hW8 hK, (by have hE8 := List.mem_singleton.mp hE9; rw [hE8]; exact ⟨fun _ => cd2_1 (by omega), fun h => absurd h (by decide +kernel)⟩)⟩, hS.F ht8⟩) hS.2.2 (Nat.le_of_ble_eq_true rfl) (Nat.le_of_ble_eq_true rfl)

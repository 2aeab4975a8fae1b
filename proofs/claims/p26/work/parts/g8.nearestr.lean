
/-! nearest of the reference, told whole -/
set_option maxHeartbeats 4000000 in
set_option maxRecDepth 100000 in
theorem LX10_nearest_37v {p : Program} {l : Launch} {e : Env} {R : Room} {s : State} {m : MethodId} {args : Array Value} {below : List Frame} {meth : Method} {c : Code} {cells slots : Nat} {Q : State → Prop} {dC : Nat → ClassId} {dI : Nat → Nat → Nat} {h0 : Nat} {cI cZ cII cIII : ClassId} (hx : p.tables.exec = Jvm.exec) (hb : c.code = cX10_nearest) (hml : c.maxLocals = 6) (hown : s.vm.findClass RX10 = some m.cls) (hts : ∀ w ∈ wsG, w.before args s = true) (hK : va_K (dC, dI) vwCl (mT cI cZ cII cIII) s) (hRf : 70 ≤ R.frames) (hRl : 2377 ≤ R.locals) (hRc : cells ≤ R.cells) (hRs : slots ≤ R.slots) (μ0 : va_M) (pp : Int) (J : Rw → Prop) (Ws : Nat → Rw) (hpp : 0 ≤ pp ∧ pp < μ0 0 10) (hJK : JOK J) (h10 : 0 ≤ μ0 0 10 ∧ μ0 0 10 ≤ 8) (hWs : WsM μ0 Ws) (hexit87 : ∀ (q : Int) (f9 : Int) (b9 : Int) (μ : va_M) (H : Heap) (locs : List Loc) (ls : Array Slot), (fr (LPq 53) μ0 μ) → (f9 = (nr9 (cNr Ws pp.toNat) pp.toNat (μ0 0 10).toNat).1) → va_P (dC, dI) vwCl (fw (mE cI cZ cII cIII h0) h0 6325 μ) H → va_S (fA h0 6325 s.heap.size) s.heap H locs → lv_has ls 6 [(2, .int (iZ (f9)))] → W p l e R s m args below meth c H locs cells slots Q (F0 m 87 ls [])) :
    ∀ (n9 : Nat) (q : Int) (f9 : Int) (b9 : Int) (μ : va_M) (H : Heap) (locs : List Loc) (ls : Array Slot), (fr (LPq 53) μ0 μ) → (0 ≤ q ∧ q ≤ μ0 0 10) → (0 ≤ b9 ∧ b9 ≤ 1000000) → (f9 = (nr9 (cNr Ws pp.toNat) pp.toNat q.toNat).1 ∧ b9 = (nr9 (cNr Ws pp.toNat) pp.toNat q.toNat).2) → (10 - q).toNat < n9 → va_P (dC, dI) vwCl (fw (mE cI cZ cII cIII h0) h0 6325 μ) H → va_S (fA h0 6325 s.heap.size) s.heap H locs → lv_has ls 6 [(4, .int (iZ (q))), (3, .int (iZ (b9))), (2, .int (iZ (f9))), (1, .int (iZ (pp))), (0, .ref h0)] → W p l e R s m args below meth c H locs cells slots Q (F0 m 37 ls []) := by
  intro n9
  induction n9 with
  | zero => intro q f9 b9 μ H locs ls hf hq hb1 hs9 hm9 hP hS hl; exact absurd hm9 (Nat.not_lt_zero _)
  | succ n9 ih =>
    intro q f9 b9 μ H locs ls hf hq hb1 hs9 hm9 hP hS hl
    have e10z := hf 0 10 (by unfold LPq LD PT; omega)
    have eq9 : (q + 1).toNat = q.toNat + 1 := by omega
    refine lv_iload hx hb dX10_nearest_37 (lv_at hl 0 rfl) ?_
    refine lv_aload_n hx hb dX10_nearest_39 rfl (lv_at hl 4 rfl) ?_
    refine fz_get (D := (dC, dI)) (ci := 10) (v := .int (iZ (μ 0 10))) (C := RX10) (T := TX10) (N := 53) hx hb hts inG10 hown hK hP (k := 0) (by decide) (F := mF h0) mE_obj rfl 10 (by decide) (hts _ k1176) (fun _ h9 => h9) rfl dX10_nearest_40 ?_
    refine fz_icmp_ge (tgt := 87) (by constructor <;> omega) (by constructor <;> omega) hx hb dX10_nearest_43 (by decide) (fun c43_ => ?_) (fun c43_ => ?_)
    · exact hexit87 (q) (f9) (b9) μ H locs ls (by exact hf) (by rw [show (μ0 0 10).toNat = q.toNat by omega]; exact hs9.1) hP hS (lv_sub hl [2] rfl)
    · refine lv_iload hx hb dX10_nearest_46 (lv_at hl 0 rfl) ?_
      refine lv_iload_n hx hb dX10_nearest_48 rfl (lv_at hl 3 rfl) ?_
      refine fz_icmp_ne (tgt := 57) (by constructor <;> omega) (by constructor <;> omega) hx hb dX10_nearest_49 (by decide) (fun c49_ => ?_) (fun c49_ => ?_)
      · obtain ⟨pw3, pw1, pw2⟩ := hWs pp.toNat (by omega)
        obtain ⟨rv3, rv1, rv2⟩ := hWs q.toNat (by omega)
        have rJ := hJK.2.2.1 _ rv1 rv2
        have lJ := (hJK.2.2.2.1 _ _ rJ pw1 pw2).1.2.1
        refine lv_aload_n hx hb dX10_nearest_57 rfl (lv_at hl 4 rfl) ?_
        refine lv_iload_n hx hb dX10_nearest_58 rfl (lv_at hl 3 rfl) ?_
        refine lv_iload hx hb dX10_nearest_59 (lv_at hl 0 rfl) ?_
        refine va_calli (va_runV (As := [.int (iZ (pp)), .int (iZ (q))]) (rest := []) ⟨hx, hb, hml, hown, hts⟩ (m_far2 l dC dI cI cZ cII cIII h0 H.size μ (pp) (q) (Ws q.toNat) (Ws pp.toNat) (by omega) (by omega) (by rw [show (17 + q).toNat = 17 + q.toNat by omega]; exact TR_fr rv3 hf (fun x => by unfold LPq LD PT; omega) (by unfold LPq LD PT; omega)) (by exact rv1) (by rw [show (17 + pp).toNat = 17 + pp.toNat by omega]; exact TR_fr pw3 hf (fun x => by unfold LPq LD PT; omega) (by unfold LPq LD PT; omega)) (by exact pw1) (by exact lJ)) (cwV 2 hts (gV_G k1703 k1705 ks_yX10_far k13 k1706) rfl rfl rfl (by decide +kernel) ⟨by show 69 + 1 ≤ _; omega, by show 8 + (3 + 11) + (2355) ≤ _; omega⟩) ⟨fun a U g mk q => by obtain ⟨q0, q1, qP, qK⟩ := q; exact ⟨q0, q1, qP, va_K.moved (u := U) (U := U.calling g mk a) (Vm.Alike.refl U.vm) qK⟩, va_recv hK hP (ci := 10) (q0 := 0) rfl ((fw_get (by decide)).trans (by rw [mE_obj]; rfl)), fun U hU hW => ⟨rfl, by rw [hU], by rw [hU]; exact hP, va_K.moved hW.alike hK⟩⟩ rfl rfl hl.1 rfl (lv_room (Nat.le_of_ble_eq_true rfl)) dX10_nearest_61 ⟨hRc, hRs⟩) hS (fun q _ h => fA_le hS.1 q h) (fA_le hS.1) (fun r9 u9 t9 H1 locs ht9 hvm9 hw9 hB9 hz9 hk9 hS => ?_)
        obtain ⟨μz, rz⟩ := u9
        obtain ⟨hP, -⟩ := hB9
        rw [ht9] at hP
        generalize H1 = H at hP hS ⊢
        obtain ⟨e9, hw9⟩ := hw9
        have e9 : r9 = iZ rz := e9
        subst e9
        simp only at hP hw9
        have hμz := hw9; clear hw9
        obtain ⟨y2, y3, y4⟩ := hμz
        have y3 : rz = cNr Ws pp.toNat q.toNat := y3
        have hf := fr_trans hf y2
        refine lv_istore (lv' := [(5, .int (iZ (rz))), (4, .int (iZ (q))), (3, .int (iZ (b9))), (2, .int (iZ (f9))), (1, .int (iZ (pp))), (0, .ref h0)]) hx hb dX10_nearest_64 hl (by decide) rfl (fun ls hl => ?_)
        refine lv_iload hx hb dX10_nearest_66 (lv_at hl 0 rfl) ?_
        refine lv_iload_n hx hb dX10_nearest_68 rfl (lv_at hl 2 rfl) ?_
        refine fz_icmp_lt (tgt := 75) (by constructor <;> omega) (by constructor <;> omega) hx hb dX10_nearest_69 (by decide) (fun c69_ => ?_) (fun c69_ => ?_)
        · refine lv_iload hx hb dX10_nearest_75 (lv_at hl 1 rfl) ?_
          refine lv_istore_n (lv' := [(2, .int (iZ (q))), (5, .int (iZ (rz))), (4, .int (iZ (q))), (3, .int (iZ (b9))), (1, .int (iZ (pp))), (0, .ref h0)]) hx hb dX10_nearest_77 rfl hl (by decide) rfl (fun ls hl => ?_)
          refine lv_iload hx hb dX10_nearest_78 (lv_at hl 1 rfl) ?_
          refine lv_istore_n (lv' := [(3, .int (iZ (rz))), (2, .int (iZ (q))), (5, .int (iZ (rz))), (4, .int (iZ (q))), (1, .int (iZ (pp))), (0, .ref h0)]) hx hb dX10_nearest_80 rfl hl (by decide) rfl (fun ls hl => ?_)
          refine lv_iinc (v := iZ (q + 1)) (lv' := [(4, .int (iZ (q + 1))), (3, .int (iZ (rz))), (2, .int (iZ (q))), (5, .int (iZ (rz))), (1, .int (iZ (pp))), (0, .ref h0)]) hx hb dX10_nearest_81 hl (k := 3) rfl (iZ_add _ _) (by decide) rfl (fun ls hl => ?_)
          refine lv_goto (tgt := 37) hx hb dX10_nearest_84 (by decide) ?_
          exact ih (q + 1) (q) (rz) μz H locs ls (by exact hf) (by omega) (by omega) (by rw [eq9, nr9_s (by omega) (by rw [← hs9.2, ← y3]; omega)]; exact ⟨by show q = ((q.toNat : Nat) : Int); omega, y3⟩) (by omega) hP hS (lv_sub hl [0, 1, 2, 4, 5] rfl)
        · refine lv_goto (tgt := 81) hx hb dX10_nearest_72 (by decide) ?_
          refine lv_iinc (v := iZ (q + 1)) (lv' := [(4, .int (iZ (q + 1))), (5, .int (iZ (rz))), (3, .int (iZ (b9))), (2, .int (iZ (f9))), (1, .int (iZ (pp))), (0, .ref h0)]) hx hb dX10_nearest_81 hl (k := 1) rfl (iZ_add _ _) (by decide) rfl (fun ls hl => ?_)
          refine lv_goto (tgt := 37) hx hb dX10_nearest_84 (by decide) ?_
          exact ih (q + 1) (f9) (b9) μz H locs ls (by exact hf) (by omega) (by omega) (by rw [eq9, nr9_k (Or.inr (by rw [← hs9.2, ← y3]; omega))]; exact hs9) (by omega) hP hS (lv_sub hl [0, 2, 3, 4, 5] rfl)
      · refine lv_ldc (v := iZ 1000000) hx hb hown (hts _ k1551) dX10_nearest_52 ?_
        refine lv_goto (tgt := 64) hx hb dX10_nearest_54 (by decide) ?_
        refine lv_istore (lv' := [(5, .int (iZ (1000000))), (4, .int (iZ (q))), (3, .int (iZ (b9))), (2, .int (iZ (f9))), (1, .int (iZ (pp))), (0, .ref h0)]) hx hb dX10_nearest_64 hl (by decide) rfl (fun ls hl => ?_)
        refine lv_iload hx hb dX10_nearest_66 (lv_at hl 0 rfl) ?_
        refine lv_iload_n hx hb dX10_nearest_68 rfl (lv_at hl 2 rfl) ?_
        refine fz_icmp_lt (tgt := 75) (by decide) (by constructor <;> omega) hx hb dX10_nearest_69 (by decide) (fun c69_ => ?_) (fun c69_ => ?_)
        · refine lv_iload hx hb dX10_nearest_75 (lv_at hl 1 rfl) ?_
          refine lv_istore_n (lv' := [(2, .int (iZ (q))), (5, .int (iZ (1000000))), (4, .int (iZ (q))), (3, .int (iZ (b9))), (1, .int (iZ (pp))), (0, .ref h0)]) hx hb dX10_nearest_77 rfl hl (by decide) rfl (fun ls hl => ?_)
          refine lv_iload hx hb dX10_nearest_78 (lv_at hl 1 rfl) ?_
          refine lv_istore_n (lv' := [(3, .int (iZ (1000000))), (2, .int (iZ (q))), (5, .int (iZ (1000000))), (4, .int (iZ (q))), (1, .int (iZ (pp))), (0, .ref h0)]) hx hb dX10_nearest_80 rfl hl (by decide) rfl (fun ls hl => ?_)
          refine lv_iinc (v := iZ (q + 1)) (lv' := [(4, .int (iZ (q + 1))), (3, .int (iZ (1000000))), (2, .int (iZ (q))), (5, .int (iZ (1000000))), (1, .int (iZ (pp))), (0, .ref h0)]) hx hb dX10_nearest_81 hl (k := 3) rfl (iZ_add _ _) (by decide) rfl (fun ls hl => ?_)
          refine lv_goto (tgt := 37) hx hb dX10_nearest_84 (by decide) ?_
          exact ih (q + 1) (q) (1000000) μ H locs ls (by exact hf) (by omega) (by omega) (by
                            exfalso
                            omega) (by omega) hP hS (lv_sub hl [0, 1, 2, 4, 5] rfl)
        · refine lv_goto (tgt := 81) hx hb dX10_nearest_72 (by decide) ?_
          refine lv_iinc (v := iZ (q + 1)) (lv' := [(4, .int (iZ (q + 1))), (5, .int (iZ (1000000))), (3, .int (iZ (b9))), (2, .int (iZ (f9))), (1, .int (iZ (pp))), (0, .ref h0)]) hx hb dX10_nearest_81 hl (k := 1) rfl (iZ_add _ _) (by decide) rfl (fun ls hl => ?_)
          refine lv_goto (tgt := 37) hx hb dX10_nearest_84 (by decide) ?_
          exact ih (q + 1) (f9) (b9) μ H locs ls (by exact hf) (by omega) (by omega) (by rw [eq9, nr9_k (Or.inl (by omega))]; exact hs9) (by omega) hP hS (lv_sub hl [0, 2, 3, 4, 5] rfl)
set_option maxHeartbeats 4000000 in
set_option maxRecDepth 100000 in
theorem f_nearest (l : Launch) (dC : Nat → ClassId) (dI : Nat → Nat → Nat) (cI cZ cII cIII : ClassId) (h0 sz : Nat) (μ : va_M) (pp : Int) (J : Rw → Prop) (Ws : Nat → Rw) (hR : RI J μ) (hJK : JOK J) (hp : inR pp) (hWs : WsM μ Ws) : Met l yX10_nearest (Cond.code yX10_nearest cX10_nearest 6 (some .int) :: wsG) ({ frames := 70, cells := 0, slots := 0, locals := 2377 } : Room) (va_Pc [.ref h0, .int (iZ (pp))] (fun U => U.heap.size = sz ∧ va_P (dC, dI) vwCl (fw (mE cI cZ cII cIII h0) h0 6325 μ) U.heap ∧ va_K (dC, dI) vwCl (mT cI cZ cII cIII) U)) (va_Qi (fun (r9 : Int32) (u : va_M × Int) => r9 = iZ u.2 ∧ (fun (u : va_M) (r : Int) => (fr PS μ u ∧ (u 0 0 = 0 ∨ u 0 0 = 1 ∨ u 0 0 = 2)) ∧ u 0 0 = cd2 (0 ≤ pp ∧ pp < μ 0 10) True ∧ (cd2 (0 ≤ pp ∧ pp < μ 0 10) True = 0 → r = (nr9 (cNr Ws pp.toNat) pp.toNat (μ 0 10).toNat).1)) u.1 u.2) (fun u t => va_P (dC, dI) vwCl (fw (mE cI cZ cII cIII h0) h0 6325 u.1) t.heap ∧ va_K (dC, dI) vwCl (mT cI cZ cII cIII) t) (fA h0 6325 sz)) 0 0 (fA h0 6325 sz) := by
  refine Met.ofW (cc := cX10_nearest) (maxL := 6) (ret := (some .int)) (by decide) rfl ?_
  intro p e s m args below meth c s₁ B hml hv
  obtain ⟨rfl, hsz, hP, hK⟩ := hv
  have hx := B.exec
  have hb := B.bytes
  have hr := B.returns
  have hts : ∀ w ∈ wsG, w.before _ s = true := hG_of (atoms_spec (ws := (Cond.code yX10_nearest cX10_nearest 6 (some .int) :: wsG)) B.pre)
  have hown : s.vm.findClass RX10 = some m.cls := findClass_of_methodNamed B.named
  have hlocks := B.notSynchronized
  subst hsz
  have hS : va_S (fA h0 6325 s.heap.size) s.heap s.heap [] := va_S.rf
  have hl := lv_entry ([.ref h0, .int (iZ (pp))]) (n := 6) (Nat.le_of_ble_eq_true rfl)
  rw [lg_entry_eq]
  generalize (lg_sl ([.ref h0, .int (iZ (pp))]) ++ List.replicate (6 - (lg_sl ([.ref h0, .int (iZ (pp))])).length) Slot.unset).toArray = ls at hl ⊢
  have hl : lv_has ls 6 [(0, .ref h0), (1, .int (iZ (pp)))] := hl
  have hQ := hR.1
  refine lv_aload_n hx hb dX10_nearest_0 rfl (lv_at hl 0 rfl) ?_
  refine lv_iconst (v := iZ 0) hx hb dX10_nearest_1 rfl ?_
  refine fz_put (D := (dC, dI)) (ci := 10) (ty := .int) (z := 0) (C := RX10) (T := TX10) (N := 53) hx hb hts inG10 tyX10 tyX10_ok nmX10 hown hK hP fA_in hS (k := 0) (by decide) (F := mF h0) mE_obj rfl 0 (by decide) (hts _ k1166) (fun _ h9 => h9) rfl (by decide +kernel) rfl rfl (fun _ => Nat.le_of_ble_eq_true rfl) (fun _ _ => rfl) dX10_nearest_2 (fun H locs hP hS => ?_)
  obtain ⟨μ1, eμ1⟩ : ∃ x : va_M, x = uz μ 0 0 (0) := ⟨_, rfl⟩
  rw [← eμ1] at hP
  have hfr : fr PS μ μ1 := by rw [eμ1]; exact fr_uz fr_rfl (by unfold PS; omega)
  have ht0 : μ1 0 0 = 0 := by rw [eμ1, uz_s]
  have e10 := hfr 0 10 (PS_n (by omega))
  have e9 := hfr 0 9 (PS_n (by omega))
  have e71 := hfr 719 0 (PS_n (by omega))
  have hQ1 := RQ_fr hQ hfr
  have hQc := hQ
  obtain ⟨f10, ⟨fT, fTb, fTw⟩, fS3, fPg, fw9, fwB, fwT⟩ := hQc
  obtain ⟨g10, ⟨gT, gTb, gTw⟩, gS3, gPg, gw, gwB, gwT⟩ := hQ1
  have gtk := TR_tok gwT gwB.1 gwB.2.1
  have gt1 := gtk.1
  have gt2 := gtk.2.1
  refine lv_aload_n hx hb dX10_nearest_5 rfl (lv_at hl 0 rfl) ?_
  refine lv_aload_n hx hb dX10_nearest_6 rfl (lv_at hl 0 rfl) ?_
  refine lv_iload_n hx hb dX10_nearest_7 rfl (lv_at hl 1 rfl) ?_
  refine va_calli (va_runV (As := [.int (iZ (pp))]) (rest := [.ref h0]) ⟨hx, hb, hml, hown, hts⟩ (m_isPage l dC dI cI cZ cII cIII h0 H.size μ1 (pp) (by first | assumption | omega | exact ⟨by omega, by omega⟩) (by first | assumption | omega | exact ⟨by omega, by omega⟩)) (cwV 1 hts (gV_G k1588 k1590 ks_yX10_isPage k13 k1591) rfl rfl rfl (by decide +kernel) ⟨Nat.le_of_ble_eq_true rfl, Nat.le_of_ble_eq_true rfl⟩) ⟨fun a U g mk q => by obtain ⟨q0, q1, qP, qK⟩ := q; exact ⟨q0, q1, qP, va_K.moved (u := U) (U := U.calling g mk a) (Vm.Alike.refl U.vm) qK⟩, va_recv hK hP (ci := 10) (q0 := 0) rfl ((fw_get (by decide)).trans (by rw [mE_obj]; rfl)), fun U hU hW => ⟨rfl, by rw [hU], by rw [hU]; exact hP, va_K.moved hW.alike hK⟩⟩ rfl rfl hl.1 rfl (lv_room (Nat.le_of_ble_eq_true rfl)) dX10_nearest_8 ⟨Nat.le_of_ble_eq_true rfl, Nat.le_of_ble_eq_true rfl⟩) hS (fun q _ h => fA_le hS.1 q h) (fA_le hS.1) (fun r9 u9 t9 H1 locs ht9 hvm9 hw9 hB9 hz9 hk9 hS => ?_)
  obtain ⟨μ2, r3⟩ := u9
  obtain ⟨hP, -⟩ := hB9
  rw [ht9] at hP
  generalize H1 = H at hP hS ⊢
  obtain ⟨e9, hw9⟩ := hw9
  have e9 : r9 = iZ r3 := e9
  subst e9
  simp only at hP hw9
  have hμ2 := hw9; clear hw9
  rw [hμ2.1] at hP; have hμ2 := hμ2.2
  have hip := hμ2
  have hip2 := if_01 hμ2
  refine fz_if_ne (tgt := 18) (by constructor <;> omega) hx hb dX10_nearest_11 (by decide) (fun c11_ => ?_) (fun c11_ => ?_)
  · have hpp := if_get hip (by omega)
    refine lv_iconst (v := iZ 0) hx hb dX10_nearest_18 rfl ?_
    refine lv_iconst (v := iZ 1) hx hb dX10_nearest_19 rfl ?_
    refine lv_iconst (v := iZ 0) hx hb dX10_nearest_20 rfl ?_
    refine va_calli (va_runV (As := [.int (iZ (0)), .int (iZ (1)), .int (iZ (0))]) (rest := []) ⟨hx, hb, hml, hown, hts⟩ (m_bad2 l dC dI cI cZ cII cIII h0 H.size μ1 (0) (1) (0) (by first | assumption | omega | exact ⟨by omega, by omega⟩) (by first | assumption | omega | exact ⟨by omega, by omega⟩) (by first | assumption | omega | exact ⟨by omega, by omega⟩) (by first | assumption | omega | exact ⟨by omega, by omega⟩)) (cwV 3 hts (gV_G k1342 k1344 ks_yX10_bad k13 k1345) rfl rfl rfl (by decide +kernel) ⟨Nat.le_of_ble_eq_true rfl, Nat.le_of_ble_eq_true rfl⟩) ⟨fun a U g mk q => by obtain ⟨q0, q1, qP, qK⟩ := q; exact ⟨q0, q1, qP, va_K.moved (u := U) (U := U.calling g mk a) (Vm.Alike.refl U.vm) qK⟩, va_recv hK hP (ci := 10) (q0 := 0) rfl ((fw_get (by decide)).trans (by rw [mE_obj]; rfl)), fun U hU hW => ⟨rfl, by rw [hU], by rw [hU]; exact hP, va_K.moved hW.alike hK⟩⟩ rfl rfl hl.1 rfl (lv_room (Nat.le_of_ble_eq_true rfl)) dX10_nearest_21 ⟨Nat.le_of_ble_eq_true rfl, Nat.le_of_ble_eq_true rfl⟩) hS (fun q _ h => fA_le hS.1 q h) (fA_le hS.1) (fun r9 u9 t9 H1 locs ht9 hvm9 hw9 hB9 hz9 hk9 hS => ?_)
    obtain ⟨μ4, r5⟩ := u9
    obtain ⟨hP, -⟩ := hB9
    rw [ht9] at hP
    generalize H1 = H at hP hS ⊢
    obtain ⟨e9, hw9⟩ := hw9
    have e9 : r9 = iZ r5 := e9
    subst e9
    simp only at hP hw9
    have hμ4 := hw9; clear hw9
    have hfr := fr_trans hfr (badP_fr hμ4)
    have hrb := badP_r hμ4
    obtain rfl : r5 = 0 := by omega
    refine fz_if_eq (tgt := 29) (by decide) hx hb dX10_nearest_24 (by decide) (fun c24_ => ?_) (fun h9 => absurd h9 (by decide))
    have hQ2 := RQ_fr hQ hfr
    obtain ⟨k10, ⟨kT, kTb, kTw⟩, kS3, kPg, kw, kwB, kwT⟩ := hQ2
    have e10k := hfr 0 10 (PS_n (by omega))
    have e9k := hfr 0 9 (PS_n (by omega))
    have e71k := hfr 719 0 (PS_n (by omega))
    have ktk := TR_tok kwT kwB.1 kwB.2.1
    have kt1 := ktk.1
    have kt2 := ktk.2.1
    have hW9 : WsM μ4 Ws := fun i hi => by
      obtain ⟨z1, z2⟩ := hWs i (by omega)
      exact ⟨TR_PS z1 hfr (by omega), z2⟩
    refine lv_iconst (v := iZ (-1)) hx hb dX10_nearest_29 rfl ?_
    refine lv_istore_n (lv' := [(2, .int (iZ ((-1)))), (0, .ref h0), (1, .int (iZ (pp)))]) hx hb dX10_nearest_30 rfl hl (by decide) rfl (fun ls hl => ?_)
    refine lv_ldc (v := iZ 1000000) hx hb hown (hts _ k1551) dX10_nearest_31 ?_
    refine lv_istore_n (lv' := [(3, .int (iZ (1000000))), (2, .int (iZ ((-1)))), (0, .ref h0), (1, .int (iZ (pp)))]) hx hb dX10_nearest_33 rfl hl (by decide) rfl (fun ls hl => ?_)
    refine lv_iconst (v := iZ 0) hx hb dX10_nearest_34 rfl ?_
    refine lv_istore (lv' := [(4, .int (iZ (0))), (3, .int (iZ (1000000))), (2, .int (iZ ((-1)))), (0, .ref h0), (1, .int (iZ (pp)))]) hx hb dX10_nearest_35 hl (by decide) rfl (fun ls hl => ?_)
    refine LX10_nearest_37v hx hb hml hown hts hK (Nat.le_of_ble_eq_true rfl) (Nat.le_of_ble_eq_true rfl) (Nat.le_of_ble_eq_true rfl) (Nat.le_of_ble_eq_true rfl) (μ4) (pp) (J) (Ws) (by omega) (by assumption) (by omega) (by exact hW9) ?_ _ (0) ((-1)) (1000000) μ4 H locs ls (by exact fr_rfl) (by omega) (by omega) (by exact ⟨rfl, rfl⟩) (Nat.lt_succ_self _) hP hS (lv_sub hl [0, 1, 2, 4, 3] rfl)
    · intro q_6 f9_6 b9_6 μ6_ H locs ls q1_6 q3_6 hP hS hl
      have hl : lv_has ls 6 [(2, .int (iZ (f9_6)))] := hl
      refine lv_iload_n hx hb dX10_nearest_87 rfl (lv_at hl 0 rfl) ?_
      exact W.iret (v := iZ (f9_6)) hx hb hr (fun t9 ht9 hW9 => ⟨⟨iZ (f9_6), (μ6_, f9_6), rfl, ⟨rfl, (by
                    dsimp only
                    have h00z := q1_6 0 0 (by unfold LPq LD PT; omega)
                    have cd9 : cd2 (0 ≤ pp ∧ pp < μ 0 10) True = 0 := cd2_0 (by omega) trivial
                    exact ⟨⟨fr_trans hfr (fr_mono q1_6 (fun x y h => LPq_PS h)), by omega⟩, by omega, fun _ => by rw [← e10k]; exact q3_6⟩)⟩, by rw [ht9]; exact hP, va_K.moved hW9.alike hK⟩, hS.F ht9⟩) hS.2.2 dX10_nearest_88
  · have hpn := if_not hip (by omega)
    refine lv_iconst (v := iZ 1) hx hb dX10_nearest_14 rfl ?_
    refine lv_goto (tgt := 19) hx hb dX10_nearest_15 (by decide) ?_
    refine lv_iconst (v := iZ 1) hx hb dX10_nearest_19 rfl ?_
    refine lv_iconst (v := iZ 0) hx hb dX10_nearest_20 rfl ?_
    refine va_calli (va_runV (As := [.int (iZ (1)), .int (iZ (1)), .int (iZ (0))]) (rest := []) ⟨hx, hb, hml, hown, hts⟩ (m_bad2 l dC dI cI cZ cII cIII h0 H.size μ1 (1) (1) (0) (by first | assumption | omega | exact ⟨by omega, by omega⟩) (by first | assumption | omega | exact ⟨by omega, by omega⟩) (by first | assumption | omega | exact ⟨by omega, by omega⟩) (by first | assumption | omega | exact ⟨by omega, by omega⟩)) (cwV 3 hts (gV_G k1342 k1344 ks_yX10_bad k13 k1345) rfl rfl rfl (by decide +kernel) ⟨Nat.le_of_ble_eq_true rfl, Nat.le_of_ble_eq_true rfl⟩) ⟨fun a U g mk q => by obtain ⟨q0, q1, qP, qK⟩ := q; exact ⟨q0, q1, qP, va_K.moved (u := U) (U := U.calling g mk a) (Vm.Alike.refl U.vm) qK⟩, va_recv hK hP (ci := 10) (q0 := 0) rfl ((fw_get (by decide)).trans (by rw [mE_obj]; rfl)), fun U hU hW => ⟨rfl, by rw [hU], by rw [hU]; exact hP, va_K.moved hW.alike hK⟩⟩ rfl rfl hl.1 rfl (lv_room (Nat.le_of_ble_eq_true rfl)) dX10_nearest_21 ⟨Nat.le_of_ble_eq_true rfl, Nat.le_of_ble_eq_true rfl⟩) hS (fun q _ h => fA_le hS.1 q h) (fA_le hS.1) (fun r9 u9 t9 H1 locs ht9 hvm9 hw9 hB9 hz9 hk9 hS => ?_)
    obtain ⟨μ7, r8⟩ := u9
    obtain ⟨hP, -⟩ := hB9
    rw [ht9] at hP
    generalize H1 = H at hP hS ⊢
    obtain ⟨e9, hw9⟩ := hw9
    have e9 : r9 = iZ r8 := e9
    subst e9
    simp only at hP hw9
    have hμ7 := hw9; clear hw9
    have hfr := fr_trans hfr (badP_fr hμ7)
    have hrb := badP_r hμ7
    obtain rfl : r8 = 1 := by omega
    refine fz_if_eq (tgt := 29) (by decide) hx hb dX10_nearest_24 (by decide) (fun h9 => absurd h9 (by decide)) (fun c24_ => ?_)
    refine lv_iconst (v := iZ 0) hx hb dX10_nearest_27 rfl ?_
    exact W.iret (v := iZ (0)) hx hb hr (fun t9 ht9 hW9 => ⟨⟨iZ (0), (μ7, 0), rfl, ⟨rfl, (by
                dsimp only
                have cd9 : cd2 (0 ≤ pp ∧ pp < μ 0 10) True = 1 := cd2_1 (by omega)
                exact ⟨⟨hfr, by omega⟩, by omega, fun hc => absurd (cd9.symm.trans hc) (by decide)⟩)⟩, by rw [ht9]; exact hP, va_K.moved hW9.alike hK⟩, hS.F ht9⟩) hS.2.2 dX10_nearest_28


/-! ways, fits of the reference, told whole; the walk of a page -/
theorem wF_st {μ : va_M} {x c : Nat} {tk : Nat → Int} (h : μ (4416 + x) c = wF μ x c (tk x)) : stW μ (wEi 0) tk (fun y => μ (4416 + y) c) x := by
  have e : ∀ v w : Int, wEi 0 v w = min 1000000000 (v + w) := fun v w => by unfold wEi; rw [if_pos rfl]; omega
  unfold stW
  rw [e, e]
  exact h
theorem wy_ref {u : va_M} {Wk : Rw} {n pp : Nat} (hT : TR u 0 Wk) (hw : rWF Wk) (h39 : u 0 39 = rS Wk) (hs : RS u Wk 0 0) (hA : AL (kR u) Wk) (htk : ∀ c : Nat, c < n → 0 ≤ u (7 + pp) c ∧ u (7 + pp) c < 200) (h : ∀ c : Nat, c ≤ n → cFix u n pp c) : wkR (wEi 0) (lfY (fun c => cdR u (u (7 + pp) c)) n) (enY n) n Wk (fun c x => u (4416 + x) c) := by
  have e39 : u 0 39 = (sL Wk : Int) := by rw [h39, rS_sL]
  intro c hc
  obtain ⟨h1, h2, h3⟩ := h c hc
  obtain ⟨i1, i2⟩ := st_EQ (ei := wEi 0) (tk := fun x => tkv u n pp c x) (f := fun y => u (4416 + y) c) Wk 0 0 hw hT.2 hs (fun x _ hx => wF_st (h3 x (by omega)))
  have hp := LPw_2 (Q3 := fun x k v => k < 3 ∧ (nod u x = k ∧ u 578 (u 4412 x).toNat = v)) (fun x k v a b => ⟨a, b⟩) Wk 0 (LPw_k Wk 0) (LPw_RS Wk 0 0 hw hT.2 hs)
  have hp2 := LPw_2 (Q3 := fun x k v => (k < 2 → kR u k v) ∧ (k < 2 → v < 200)) (fun x k v a b => ⟨a, b⟩) Wk 0 (LPw_AL Wk 0 hA) (LPw_AL Wk 0 (AL_v Wk hw))
  refine ⟨fun x => tkv u n pp c x, LPw_2 (fun x k v a b => ?_) Wk 0 hp hp2, i1, i2, ?_⟩
  · show tkv u n pp c x = lfY (fun c => cdR u (u (7 + pp) c)) n c x k v (fun x => u (4416 + x) (c + 1))
    unfold tkv lfY
    by_cases hn : c < n
    · have e := tk_kR (e := u (7 + pp) c) a.1 a.2.1 a.2.2 b.1 (htk c hn) b.2
      rw [e]
      by_cases ht : tkI (sG k v) (cdR u (u (7 + pp) c)) = 1
      · rw [if_pos ⟨by rw [a.2.1]; omega, by omega, ht⟩, if_pos ⟨hn, ht⟩]
      · rw [if_neg (fun h9 => ht h9.2.2), if_neg (fun h9 => ht h9.2)]
    · rw [if_neg (fun h9 => hn (by omega)), if_neg (fun h9 => hn h9.1)]
  · rw [e39, Int.toNat_natCast] at h2
    rw [h2]
    unfold enY
    by_cases hn : c = n
    · rw [if_pos (by omega), if_pos hn]
    · rw [if_neg (by omega), if_neg hn]
/-- a page's tokens, and the skeleton, as the reference holds them -/
def wyP (μ : va_M) (Wk : Rw) : Prop := (TR μ 0 Wk ∧ rWF Wk ∧ rN Wk ≤ 900) ∧ AL (kR μ) Wk ∧ μ 0 10 ≤ 8 ∧ ∀ i : Int, 0 ≤ i ∧ i < μ 0 10 → ∀ c : Nat, c < (μ 15 i.toNat).toNat → 0 ≤ μ (7 + i.toNat) c ∧ μ (7 + i.toNat) c < 200
def cdP (μ : va_M) (i : Int) : Nat → Int := fun c => cdR μ (μ (7 + i.toNat) c)
/-- what laying the ways of a page leaves -/
def fitR2 (μ u : va_M) (Wk : Rw) (pp : Int) : Prop := fr SW μ u ∧ (u 0 39 = rS Wk ∧ RS u Wk 0 0) ∧ (∀ c : Nat, (c : Int) ≤ μ 15 pp.toNat → cFix u (μ 15 pp.toNat) pp.toNat c) ∧ wkR (wEi 0) (lfY (cdP μ pp) (μ 15 pp.toNat).toNat) (enY (μ 15 pp.toNat).toNat) (μ 15 pp.toNat).toNat Wk (fun c x => u (4416 + x) c)
theorem fit_of {μ u : va_M} {Wk : Rw} {pp : Int} (hP : wyP μ Wk) (hpp : 0 ≤ pp ∧ pp < μ 0 10) (h15 : 0 ≤ μ 15 pp.toNat) (a1 : fr SW μ u) (a2 : u 0 39 = rS Wk) (a3 : RS u Wk 0 0) (a4 : ∀ c : Nat, (c : Int) ≤ μ 15 pp.toNat → cFix u (μ 15 pp.toNat) pp.toNat c) : fitR2 μ u Wk pp := by
  obtain ⟨⟨p1, p2, p3⟩, p4, p6, p5⟩ := hP
  have f9 := fr_mono (P2 := PS) a1 (fun _ _ h => SW_PS h)
  have f3 : ∀ j, u 3 j = μ 3 j := fun j => a1 3 j (by unfold SW SF CF; omega)
  have f7 : ∀ j, u (7 + pp.toNat) j = μ (7 + pp.toNat) j := fun j => f9 _ j (by unfold PS; omega)
  have f09 : u 0 9 = μ 0 9 := a1 0 9 (by unfold SW SF CF; omega)
  have hA9 : AL (kR u) Wk := AL_mono (fun k v h => by unfold kR at h ⊢; rw [f3, f09]; exact h) Wk p4
  have en : μ 15 pp.toNat = ((μ 15 pp.toNat).toNat : Int) := by omega
  refine ⟨a1, ⟨a2, a3⟩, a4, ?_⟩
  have h9 := wy_ref (pp := pp.toNat) (n := (μ 15 pp.toNat).toNat) (TR_PS p1 f9 (by omega)) p2 a2 a3 hA9 (fun c hc => by rw [f7]; exact p5 pp hpp c hc) (fun c hc => by rw [← en]; exact a4 c (by omega))
  rw [show (fun c => cdR u (u (7 + pp.toNat) c)) = cdP μ pp from funext fun c => by unfold cdP cdR; rw [f7, f3]] at h9
  exact h9
theorem wyP_PS {μ u : va_M} {Wk : Rw} (h : wyP μ Wk) (hf : fr PS μ u) : wyP u Wk := by
  obtain ⟨⟨p1, p2, p3⟩, p4, p6, p5⟩ := h
  have f10 : u 0 10 = μ 0 10 := hf _ _ (by unfold PS; omega)
  have f09 : u 0 9 = μ 0 9 := hf _ _ (by unfold PS; omega)
  have f3 : ∀ j, u 3 j = μ 3 j := fun j => hf 3 j (by unfold PS; omega)
  have f15 : ∀ j, u 15 j = μ 15 j := fun j => hf 15 j (by unfold PS; omega)
  refine ⟨⟨TR_PS p1 hf (by omega), p2, p3⟩, AL_mono (fun k v h => by unfold kR at h ⊢; rw [f3, f09]; exact h) Wk p4, by omega, fun i hi c hc => ?_⟩
  rw [f10] at hi
  rw [f15] at hc
  rw [hf (7 + i.toNat) c (by unfold PS; omega)]
  exact p5 i hi c hc
theorem cdP_PS {μ u : va_M} {i : Int} (hf : fr PS μ u) (h8 : i.toNat < 500) : cdP u i = cdP μ i := funext fun c => by
  unfold cdP cdR
  rw [hf (7 + i.toNat) c (by unfold PS; omega), hf 3 _ (by unfold PS; omega)]
set_option maxHeartbeats 4000000 in
set_option maxRecDepth 100000 in
theorem m_isFit2 (l : Launch) (dC : Nat → ClassId) (dI : Nat → Nat → Nat) (cI cZ cII cIII : ClassId) (h0 sz : Nat) (μ : va_M) (pp : Int) (Wk : Rw) (hQ : RQ μ) (hpp : 0 ≤ pp ∧ pp < μ 0 10) (hWP : wyP μ Wk) : Met l yX10_isFit (Cond.code yX10_isFit cX10_isFit 2 (some .boolean) :: wsG) ({ frames := 6, cells := 0, slots := 0, locals := 146 } : Room) (va_Pc [.ref h0, .int (iZ (pp))] (fun U => U.heap.size = sz ∧ va_P (dC, dI) vwCl (fw (mE cI cZ cII cIII h0) h0 6325 μ) U.heap ∧ va_K (dC, dI) vwCl (mT cI cZ cII cIII) U)) (va_Qi (fun (r9 : Int32) (u : va_M × Int) => r9 = iZ u.2 ∧ (fun (u : va_M) (r : Int) => fitR2 μ u Wk pp ∧ (r = 0 ∨ r = 1) ∧ 0 ≤ u (4416 + 0) 0 ∧ (r = 1 → 0 < u (4416 + 0) 0) ∧ (r = 0 → u (4416 + 0) 0 = 0)) u.1 u.2) (fun u t => va_P (dC, dI) vwCl (fw (mE cI cZ cII cIII h0) h0 6325 u.1) t.heap ∧ va_K (dC, dI) vwCl (mT cI cZ cII cIII) t) (fA h0 6325 sz)) 0 0 (fA h0 6325 sz) := by
  refine Met.ofW (cc := cX10_isFit) (maxL := 2) (ret := (some .boolean)) (by decide) rfl ?_
  intro p e s m args below meth c s₁ B hml hv
  obtain ⟨rfl, hsz, hP, hK⟩ := hv
  have hx := B.exec
  have hb := B.bytes
  have hr := B.returns
  have hts : ∀ w ∈ wsG, w.before _ s = true := hG_of (atoms_spec (ws := (Cond.code yX10_isFit cX10_isFit 2 (some .boolean) :: wsG)) B.pre)
  have hown : s.vm.findClass RX10 = some m.cls := findClass_of_methodNamed B.named
  have hlocks := B.notSynchronized
  subst hsz
  have hS : va_S (fA h0 6325 s.heap.size) s.heap s.heap [] := va_S.rf
  have hl := lv_entry ([.ref h0, .int (iZ (pp))]) (n := 2) (Nat.le_of_ble_eq_true rfl)
  rw [lg_entry_eq]
  generalize (lg_sl ([.ref h0, .int (iZ (pp))]) ++ List.replicate (2 - (lg_sl ([.ref h0, .int (iZ (pp))])).length) Slot.unset).toArray = ls at hl ⊢
  have hl : lv_has ls 2 [(0, .ref h0), (1, .int (iZ (pp)))] := hl
  have hQc := hQ
  obtain ⟨k10, ⟨kT, kTb, kTw⟩, kS3, kPg, kw, kwB, kwT⟩ := hQc
  obtain ⟨p1, p2, p3, pw, pw1, pw2, pw3⟩ := kPg pp.toNat (by omega)
  have kT1 := kTb.1
  have kT2 := kTb.2.1
  refine lv_aload_n hx hb dX10_isFit_0 rfl (lv_at hl 0 rfl) ?_
  refine lv_iload_n hx hb dX10_isFit_1 rfl (lv_at hl 1 rfl) ?_
  refine va_callv (va_runV (As := [.int (iZ (pp))]) (rest := []) ⟨hx, hb, hml, hown, hts⟩ (m_laysWays l dC dI cI cZ cII cIII h0 s.heap.size μ (pp) (Wk) (by exact hWP.1.1) (by exact hWP.1.2.1) (by exact hWP.1.2.2) (by omega) (by omega) (by intro k hk; have := p3 k hk; omega) (by exact kS3)) (cwV 1 hts (gV_G k1500 k1502 ks_yX10_laysWays k13 k1503) rfl rfl rfl (by decide +kernel) ⟨Nat.le_of_ble_eq_true rfl, Nat.le_of_ble_eq_true rfl⟩) ⟨fun a U g mk q => by obtain ⟨q0, q1, qP, qK⟩ := q; exact ⟨q0, q1, qP, va_K.moved (u := U) (U := U.calling g mk a) (Vm.Alike.refl U.vm) qK⟩, va_recv hK hP (ci := 10) (q0 := 0) rfl ((fw_get (by decide)).trans (by rw [mE_obj]; rfl)), fun U hU hW => ⟨rfl, by rw [hU], by rw [hU]; exact hP, va_K.moved hW.alike hK⟩⟩ rfl rfl hl.1 rfl (lv_room (Nat.le_of_ble_eq_true rfl)) dX10_isFit_2 ⟨Nat.le_of_ble_eq_true rfl, Nat.le_of_ble_eq_true rfl⟩) hS (fun q _ h => fA_le hS.1 q h) (fA_le hS.1) (fun u9 t9 H1 locs ht9 hvm9 hw9 hB9 hz9 hk9 hS => ?_)
  obtain ⟨hP, -⟩ := hB9
  rw [ht9] at hP
  generalize H1 = H at hP hS ⊢
  obtain ⟨μa, eμa⟩ : ∃ x : va_M, x = u9 := ⟨_, rfl⟩
  rw [← eμa] at hP hw9
  have hμa := hw9; clear hw9
  obtain ⟨a1, a2, a3, a4⟩ := hμa
  have a40 := (a4 0 (by omega)).1 0 (by rw [a2]; omega)
  have a40 : 0 ≤ μa (4416 + 0) 0 ∧ μa (4416 + 0) 0 ≤ 1000000000 := a40
  refine lv_aload_n hx hb dX10_isFit_5 rfl (lv_at hl 0 rfl) ?_
  refine fz_get (D := (dC, dI)) (ci := 10) (v := .ref (h0 + 4415)) (C := RX10) (T := TX10) (N := 53) hx hb hts inG10 hown hK hP (k := 0) (by decide) (F := mF h0) mE_obj rfl 43 (by decide) (hts _ k1209) (fun _ h9 => h9) rfl dX10_isFit_6 ?_
  refine lv_iconst (v := iZ 0) hx hb dX10_isFit_9 rfl ?_
  refine fz_ald (k := 4415) (n := 1900) (k2 := (4416 + 0)) hx hb hK hP 2 rfl (by decide) mE_can rfl ⟨by omega, by omega⟩ (by decide) (if_pos (by omega)) dX10_isFit_10 ?_
  refine lv_iconst (v := iZ 0) hx hb dX10_isFit_11 rfl ?_
  refine fz_ld (k := (4416 + 0)) (n := 62) hx hb hK hP 0 (by omega) (mE_canR (by omega)) rfl ⟨by omega, by omega⟩ (by decide) dX10_isFit_12 ?_
  rw [show (0 : Int).toNat = 0 from rfl]
  refine fz_if_le (tgt := 20) (by constructor <;> omega) hx hb dX10_isFit_13 (by decide) (fun c13_ => ?_) (fun c13_ => ?_)
  · refine lv_iconst (v := iZ 0) hx hb dX10_isFit_20 rfl ?_
    exact W.zret (v := iZ (0)) hx hb hr (by decide +kernel) (fun t9 ht9 hW9 => ⟨⟨iZ (0), (μa, 0), rfl, ⟨rfl, (by
                dsimp only
                exact ⟨fit_of hWP hpp (by omega) a1 a2 a3 a4, by omega, a40.1, fun h => by show 0 < μa (4416 + 0) 0; omega, fun h => by show μa (4416 + 0) 0 = 0; omega⟩)⟩, by rw [ht9]; exact hP, va_K.moved hW9.alike hK⟩, hS.F ht9⟩) hS.2.2 dX10_isFit_21
  · refine lv_iconst (v := iZ 1) hx hb dX10_isFit_16 rfl ?_
    refine lv_goto (tgt := 21) hx hb dX10_isFit_17 (by decide) ?_
    exact W.zret (v := iZ (1)) hx hb hr (by decide +kernel) (fun t9 ht9 hW9 => ⟨⟨iZ (1), (μa, 1), rfl, ⟨rfl, (by
                dsimp only
                exact ⟨fit_of hWP hpp (by omega) a1 a2 a3 a4, by omega, a40.1, fun h => by show 0 < μa (4416 + 0) 0; omega, fun h => by show μa (4416 + 0) 0 = 0; omega⟩)⟩, by rw [ht9]; exact hP, va_K.moved hW9.alike hK⟩, hS.F ht9⟩) hS.2.2 dX10_isFit_21
set_option maxHeartbeats 4000000 in
set_option maxRecDepth 100000 in
theorem f_ways (l : Launch) (dC : Nat → ClassId) (dI : Nat → Nat → Nat) (cI cZ cII cIII : ClassId) (h0 sz : Nat) (μ : va_M) (pp : Int) (Wk : Rw) (hQ : RQ μ) (hp : inR pp) (hWP : wyP μ Wk) : Met l yX10_ways (Cond.code yX10_ways cX10_ways 2 (some .int) :: wsG) ({ frames := 6, cells := 0, slots := 0, locals := 146 } : Room) (va_Pc [.ref h0, .int (iZ (pp))] (fun U => U.heap.size = sz ∧ va_P (dC, dI) vwCl (fw (mE cI cZ cII cIII h0) h0 6325 μ) U.heap ∧ va_K (dC, dI) vwCl (mT cI cZ cII cIII) U)) (va_Qi (fun (r9 : Int32) (u : va_M × Int) => r9 = iZ u.2 ∧ (fun (u : va_M) (r : Int) => (fr PS μ u ∧ (u 0 0 = 0 ∨ u 0 0 = 1 ∨ u 0 0 = 2)) ∧ u 0 0 = cd2 (0 ≤ pp ∧ pp < μ 0 10) True ∧ (cd2 (0 ≤ pp ∧ pp < μ 0 10) True = 0 → wyR Wk (cdP μ pp) (μ 15 pp.toNat).toNat r)) u.1 u.2) (fun u t => va_P (dC, dI) vwCl (fw (mE cI cZ cII cIII h0) h0 6325 u.1) t.heap ∧ va_K (dC, dI) vwCl (mT cI cZ cII cIII) t) (fA h0 6325 sz)) 0 0 (fA h0 6325 sz) := by
  refine Met.ofW (cc := cX10_ways) (maxL := 2) (ret := (some .int)) (by decide) rfl ?_
  intro p e s m args below meth c s₁ B hml hv
  obtain ⟨rfl, hsz, hP, hK⟩ := hv
  have hx := B.exec
  have hb := B.bytes
  have hr := B.returns
  have hts : ∀ w ∈ wsG, w.before _ s = true := hG_of (atoms_spec (ws := (Cond.code yX10_ways cX10_ways 2 (some .int) :: wsG)) B.pre)
  have hown : s.vm.findClass RX10 = some m.cls := findClass_of_methodNamed B.named
  have hlocks := B.notSynchronized
  subst hsz
  have hS : va_S (fA h0 6325 s.heap.size) s.heap s.heap [] := va_S.rf
  have hl := lv_entry ([.ref h0, .int (iZ (pp))]) (n := 2) (Nat.le_of_ble_eq_true rfl)
  rw [lg_entry_eq]
  generalize (lg_sl ([.ref h0, .int (iZ (pp))]) ++ List.replicate (2 - (lg_sl ([.ref h0, .int (iZ (pp))])).length) Slot.unset).toArray = ls at hl ⊢
  have hl : lv_has ls 2 [(0, .ref h0), (1, .int (iZ (pp)))] := hl
  refine lv_aload_n hx hb dX10_ways_0 rfl (lv_at hl 0 rfl) ?_
  refine lv_iconst (v := iZ 0) hx hb dX10_ways_1 rfl ?_
  refine fz_put (D := (dC, dI)) (ci := 10) (ty := .int) (z := 0) (C := RX10) (T := TX10) (N := 53) hx hb hts inG10 tyX10 tyX10_ok nmX10 hown hK hP fA_in hS (k := 0) (by decide) (F := mF h0) mE_obj rfl 0 (by decide) (hts _ k1166) (fun _ h9 => h9) rfl (by decide +kernel) rfl rfl (fun _ => Nat.le_of_ble_eq_true rfl) (fun _ _ => rfl) dX10_ways_2 (fun H locs hP hS => ?_)
  obtain ⟨μ1, eμ1⟩ : ∃ x : va_M, x = uz μ 0 0 (0) := ⟨_, rfl⟩
  rw [← eμ1] at hP
  have hfr : fr PS μ μ1 := by rw [eμ1]; exact fr_uz fr_rfl (by unfold PS; omega)
  have ht0 : μ1 0 0 = 0 := by rw [eμ1, uz_s]
  have e10 := hfr 0 10 (PS_n (by omega))
  have e9 := hfr 0 9 (PS_n (by omega))
  have e71 := hfr 719 0 (PS_n (by omega))
  have hQ1 := RQ_fr hQ hfr
  have hQc := hQ
  obtain ⟨f10, ⟨fT, fTb, fTw⟩, fS3, fPg, fw9, fwB, fwT⟩ := hQc
  obtain ⟨g10, ⟨gT, gTb, gTw⟩, gS3, gPg, gw, gwB, gwT⟩ := hQ1
  have gtk := TR_tok gwT gwB.1 gwB.2.1
  have gt1 := gtk.1
  have gt2 := gtk.2.1
  refine lv_aload_n hx hb dX10_ways_5 rfl (lv_at hl 0 rfl) ?_
  refine lv_aload_n hx hb dX10_ways_6 rfl (lv_at hl 0 rfl) ?_
  refine lv_iload_n hx hb dX10_ways_7 rfl (lv_at hl 1 rfl) ?_
  refine va_calli (va_runV (As := [.int (iZ (pp))]) (rest := [.ref h0]) ⟨hx, hb, hml, hown, hts⟩ (m_isPage l dC dI cI cZ cII cIII h0 H.size μ1 (pp) (by first | assumption | omega | exact ⟨by omega, by omega⟩) (by first | assumption | omega | exact ⟨by omega, by omega⟩)) (cwV 1 hts (gV_G k1584 k1586 ks_yX10_isPage k13 k1587) rfl rfl rfl (by decide +kernel) ⟨Nat.le_of_ble_eq_true rfl, Nat.le_of_ble_eq_true rfl⟩) ⟨fun a U g mk q => by obtain ⟨q0, q1, qP, qK⟩ := q; exact ⟨q0, q1, qP, va_K.moved (u := U) (U := U.calling g mk a) (Vm.Alike.refl U.vm) qK⟩, va_recv hK hP (ci := 10) (q0 := 0) rfl ((fw_get (by decide)).trans (by rw [mE_obj]; rfl)), fun U hU hW => ⟨rfl, by rw [hU], by rw [hU]; exact hP, va_K.moved hW.alike hK⟩⟩ rfl rfl hl.1 rfl (lv_room (Nat.le_of_ble_eq_true rfl)) dX10_ways_8 ⟨Nat.le_of_ble_eq_true rfl, Nat.le_of_ble_eq_true rfl⟩) hS (fun q _ h => fA_le hS.1 q h) (fA_le hS.1) (fun r9 u9 t9 H1 locs ht9 hvm9 hw9 hB9 hz9 hk9 hS => ?_)
  obtain ⟨μ2, r3⟩ := u9
  obtain ⟨hP, -⟩ := hB9
  rw [ht9] at hP
  generalize H1 = H at hP hS ⊢
  obtain ⟨e9, hw9⟩ := hw9
  have e9 : r9 = iZ r3 := e9
  subst e9
  simp only at hP hw9
  have hμ2 := hw9; clear hw9
  rw [hμ2.1] at hP; have hμ2 := hμ2.2
  have hip := hμ2
  have hip2 := if_01 hμ2
  refine fz_if_ne (tgt := 18) (by constructor <;> omega) hx hb dX10_ways_11 (by decide) (fun c11_ => ?_) (fun c11_ => ?_)
  · have hpp := if_get hip (by omega)
    refine lv_iconst (v := iZ 0) hx hb dX10_ways_18 rfl ?_
    refine lv_iconst (v := iZ 1) hx hb dX10_ways_19 rfl ?_
    refine lv_iconst (v := iZ 0) hx hb dX10_ways_20 rfl ?_
    refine va_calli (va_runV (As := [.int (iZ (0)), .int (iZ (1)), .int (iZ (0))]) (rest := []) ⟨hx, hb, hml, hown, hts⟩ (m_bad2 l dC dI cI cZ cII cIII h0 H.size μ1 (0) (1) (0) (by first | assumption | omega | exact ⟨by omega, by omega⟩) (by first | assumption | omega | exact ⟨by omega, by omega⟩) (by first | assumption | omega | exact ⟨by omega, by omega⟩) (by first | assumption | omega | exact ⟨by omega, by omega⟩)) (cwV 3 hts (gV_G k1338 k1340 ks_yX10_bad k13 k1341) rfl rfl rfl (by decide +kernel) ⟨Nat.le_of_ble_eq_true rfl, Nat.le_of_ble_eq_true rfl⟩) ⟨fun a U g mk q => by obtain ⟨q0, q1, qP, qK⟩ := q; exact ⟨q0, q1, qP, va_K.moved (u := U) (U := U.calling g mk a) (Vm.Alike.refl U.vm) qK⟩, va_recv hK hP (ci := 10) (q0 := 0) rfl ((fw_get (by decide)).trans (by rw [mE_obj]; rfl)), fun U hU hW => ⟨rfl, by rw [hU], by rw [hU]; exact hP, va_K.moved hW.alike hK⟩⟩ rfl rfl hl.1 rfl (lv_room (Nat.le_of_ble_eq_true rfl)) dX10_ways_21 ⟨Nat.le_of_ble_eq_true rfl, Nat.le_of_ble_eq_true rfl⟩) hS (fun q _ h => fA_le hS.1 q h) (fA_le hS.1) (fun r9 u9 t9 H1 locs ht9 hvm9 hw9 hB9 hz9 hk9 hS => ?_)
    obtain ⟨μ4, r5⟩ := u9
    obtain ⟨hP, -⟩ := hB9
    rw [ht9] at hP
    generalize H1 = H at hP hS ⊢
    obtain ⟨e9, hw9⟩ := hw9
    have e9 : r9 = iZ r5 := e9
    subst e9
    simp only at hP hw9
    have hμ4 := hw9; clear hw9
    have hfr := fr_trans hfr (badP_fr hμ4)
    have hrb := badP_r hμ4
    obtain rfl : r5 = 0 := by omega
    refine fz_if_eq (tgt := 29) (by decide) hx hb dX10_ways_24 (by decide) (fun c24_ => ?_) (fun h9 => absurd h9 (by decide))
    have hQ2 := RQ_fr hQ hfr
    obtain ⟨k10, ⟨kT, kTb, kTw⟩, kS3, kPg, kw, kwB, kwT⟩ := hQ2
    have e10k := hfr 0 10 (PS_n (by omega))
    have e9k := hfr 0 9 (PS_n (by omega))
    have e71k := hfr 719 0 (PS_n (by omega))
    have ktk := TR_tok kwT kwB.1 kwB.2.1
    have kt1 := ktk.1
    have kt2 := ktk.2.1
    obtain ⟨p1, p2, p3, pw, pw1, pw2, pw3⟩ := kPg pp.toNat (by omega)
    have kT1 := kTb.1
    have kT2 := kTb.2.1
    have tW_ := TR_PS hWP.1.1 hfr (by omega)
    refine lv_aload_n hx hb dX10_ways_29 rfl (lv_at hl 0 rfl) ?_
    refine lv_iload_n hx hb dX10_ways_30 rfl (lv_at hl 1 rfl) ?_
    refine va_callv (va_runV (As := [.int (iZ (pp))]) (rest := []) ⟨hx, hb, hml, hown, hts⟩ (m_laysWays l dC dI cI cZ cII cIII h0 H.size μ4 (pp) (Wk) (by exact tW_) (by exact hWP.1.2.1) (by exact hWP.1.2.2) (by omega) (by omega) (by intro k hk; have := p3 k hk; omega) (by exact kS3)) (cwV 1 hts (gV_G k1500 k1502 ks_yX10_laysWays k13 k1503) rfl rfl rfl (by decide +kernel) ⟨Nat.le_of_ble_eq_true rfl, Nat.le_of_ble_eq_true rfl⟩) ⟨fun a U g mk q => by obtain ⟨q0, q1, qP, qK⟩ := q; exact ⟨q0, q1, qP, va_K.moved (u := U) (U := U.calling g mk a) (Vm.Alike.refl U.vm) qK⟩, va_recv hK hP (ci := 10) (q0 := 0) rfl ((fw_get (by decide)).trans (by rw [mE_obj]; rfl)), fun U hU hW => ⟨rfl, by rw [hU], by rw [hU]; exact hP, va_K.moved hW.alike hK⟩⟩ rfl rfl hl.1 rfl (lv_room (Nat.le_of_ble_eq_true rfl)) dX10_ways_31 ⟨Nat.le_of_ble_eq_true rfl, Nat.le_of_ble_eq_true rfl⟩) hS (fun q _ h => fA_le hS.1 q h) (fA_le hS.1) (fun u9 t9 H1 locs ht9 hvm9 hw9 hB9 hz9 hk9 hS => ?_)
    obtain ⟨hP, -⟩ := hB9
    rw [ht9] at hP
    generalize H1 = H at hP hS ⊢
    obtain ⟨μ6, eμ6⟩ : ∃ x : va_M, x = u9 := ⟨_, rfl⟩
    rw [← eμ6] at hP hw9
    have hμ6 := hw9; clear hw9
    refine lv_aload_n hx hb dX10_ways_34 rfl (lv_at hl 0 rfl) ?_
    refine fz_get (D := (dC, dI)) (ci := 10) (v := .ref (h0 + 4415)) (C := RX10) (T := TX10) (N := 53) hx hb hts inG10 hown hK hP (k := 0) (by decide) (F := mF h0) mE_obj rfl 43 (by decide) (hts _ k1209) (fun _ h9 => h9) rfl dX10_ways_35 ?_
    refine lv_iconst (v := iZ 0) hx hb dX10_ways_38 rfl ?_
    refine fz_ald (k := 4415) (n := 1900) (k2 := (4416 + 0)) hx hb hK hP 2 rfl (by decide) mE_can rfl ⟨by omega, by omega⟩ (by decide) (if_pos (by omega)) dX10_ways_39 ?_
    refine lv_iconst (v := iZ 0) hx hb dX10_ways_40 rfl ?_
    refine fz_ld (k := (4416 + 0)) (n := 62) hx hb hK hP 0 (by omega) (mE_canR (by omega)) rfl ⟨by omega, by omega⟩ (by decide) dX10_ways_41 ?_
    rw [show (0 : Int).toNat = 0 from rfl]
    exact W.iret (v := iZ (μ6 (4416 + 0) 0)) hx hb hr (fun t9 ht9 hW9 => ⟨⟨iZ (μ6 (4416 + 0) 0), (μ6, μ6 (4416 + 0) 0), rfl, ⟨rfl, (by
                dsimp only
                obtain ⟨a1, a2, a3, a4⟩ := hμ6
                have cd9 : cd2 (0 ≤ pp ∧ pp < μ 0 10) True = 0 := cd2_0 (by omega) trivial
                have e00 := a1 0 0 (by unfold SW SF CF; omega)
                have h9 := fit_of (wyP_PS hWP hfr) (by omega) (by omega) a1 a2 a3 a4
                have x15 := hfr 15 pp.toNat (PS_n (by omega))
                have h8 := h9.2.2.2
                rw [cdP_PS hfr (by omega), x15] at h8
                exact ⟨⟨fr_trans hfr (fr_mono a1 (fun _ _ h => SW_PS h)), by omega⟩, by omega, fun _ => ⟨_, h8, rfl⟩⟩)⟩, by rw [ht9]; exact hP, va_K.moved hW9.alike hK⟩, hS.F ht9⟩) hS.2.2 dX10_ways_42
  · have hpn := if_not hip (by omega)
    refine lv_iconst (v := iZ 1) hx hb dX10_ways_14 rfl ?_
    refine lv_goto (tgt := 19) hx hb dX10_ways_15 (by decide) ?_
    refine lv_iconst (v := iZ 1) hx hb dX10_ways_19 rfl ?_
    refine lv_iconst (v := iZ 0) hx hb dX10_ways_20 rfl ?_
    refine va_calli (va_runV (As := [.int (iZ (1)), .int (iZ (1)), .int (iZ (0))]) (rest := []) ⟨hx, hb, hml, hown, hts⟩ (m_bad2 l dC dI cI cZ cII cIII h0 H.size μ1 (1) (1) (0) (by first | assumption | omega | exact ⟨by omega, by omega⟩) (by first | assumption | omega | exact ⟨by omega, by omega⟩) (by first | assumption | omega | exact ⟨by omega, by omega⟩) (by first | assumption | omega | exact ⟨by omega, by omega⟩)) (cwV 3 hts (gV_G k1338 k1340 ks_yX10_bad k13 k1341) rfl rfl rfl (by decide +kernel) ⟨Nat.le_of_ble_eq_true rfl, Nat.le_of_ble_eq_true rfl⟩) ⟨fun a U g mk q => by obtain ⟨q0, q1, qP, qK⟩ := q; exact ⟨q0, q1, qP, va_K.moved (u := U) (U := U.calling g mk a) (Vm.Alike.refl U.vm) qK⟩, va_recv hK hP (ci := 10) (q0 := 0) rfl ((fw_get (by decide)).trans (by rw [mE_obj]; rfl)), fun U hU hW => ⟨rfl, by rw [hU], by rw [hU]; exact hP, va_K.moved hW.alike hK⟩⟩ rfl rfl hl.1 rfl (lv_room (Nat.le_of_ble_eq_true rfl)) dX10_ways_21 ⟨Nat.le_of_ble_eq_true rfl, Nat.le_of_ble_eq_true rfl⟩) hS (fun q _ h => fA_le hS.1 q h) (fA_le hS.1) (fun r9 u9 t9 H1 locs ht9 hvm9 hw9 hB9 hz9 hk9 hS => ?_)
    obtain ⟨μ7, r8⟩ := u9
    obtain ⟨hP, -⟩ := hB9
    rw [ht9] at hP
    generalize H1 = H at hP hS ⊢
    obtain ⟨e9, hw9⟩ := hw9
    have e9 : r9 = iZ r8 := e9
    subst e9
    simp only at hP hw9
    have hμ7 := hw9; clear hw9
    have hfr := fr_trans hfr (badP_fr hμ7)
    have hrb := badP_r hμ7
    obtain rfl : r8 = 1 := by omega
    refine fz_if_eq (tgt := 29) (by decide) hx hb dX10_ways_24 (by decide) (fun h9 => absurd h9 (by decide)) (fun c24_ => ?_)
    refine lv_iconst (v := iZ 0) hx hb dX10_ways_27 rfl ?_
    exact W.iret (v := iZ (0)) hx hb hr (fun t9 ht9 hW9 => ⟨⟨iZ (0), (μ7, 0), rfl, ⟨rfl, (by
                dsimp only
                have cd9 : cd2 (0 ≤ pp ∧ pp < μ 0 10) True = 1 := cd2_1 (by omega)
                exact ⟨⟨hfr, by omega⟩, by omega, fun hc => absurd (cd9.symm.trans hc) (by decide)⟩)⟩, by rw [ht9]; exact hP, va_K.moved hW9.alike hK⟩, hS.F ht9⟩) hS.2.2 dX10_ways_28
set_option maxHeartbeats 4000000 in
set_option maxRecDepth 100000 in
theorem f_fits (l : Launch) (dC : Nat → ClassId) (dI : Nat → Nat → Nat) (cI cZ cII cIII : ClassId) (h0 sz : Nat) (μ : va_M) (pp : Int) (Wk : Rw) (hQ : RQ μ) (hp : inR pp) (hWP : wyP μ Wk) : Met l yX10_fits (Cond.code yX10_fits cX10_fits 2 (some .boolean) :: wsG) ({ frames := 7, cells := 0, slots := 0, locals := 167 } : Room) (va_Pc [.ref h0, .int (iZ (pp))] (fun U => U.heap.size = sz ∧ va_P (dC, dI) vwCl (fw (mE cI cZ cII cIII h0) h0 6325 μ) U.heap ∧ va_K (dC, dI) vwCl (mT cI cZ cII cIII) U)) (va_Qi (fun (r9 : Int32) (u : va_M × Int) => r9 = iZ u.2 ∧ (fun (u : va_M) (r : Int) => (fr PS μ u ∧ (u 0 0 = 0 ∨ u 0 0 = 1 ∨ u 0 0 = 2)) ∧ u 0 0 = cd2 (0 ≤ pp ∧ pp < μ 0 10) True ∧ (cd2 (0 ≤ pp ∧ pp < μ 0 10) True = 0 → ∃ z : Int, wyR Wk (cdP μ pp) (μ 15 pp.toNat).toNat z ∧ r = if 0 < z then 1 else 0)) u.1 u.2) (fun u t => va_P (dC, dI) vwCl (fw (mE cI cZ cII cIII h0) h0 6325 u.1) t.heap ∧ va_K (dC, dI) vwCl (mT cI cZ cII cIII) t) (fA h0 6325 sz)) 0 0 (fA h0 6325 sz) := by
  refine Met.ofW (cc := cX10_fits) (maxL := 2) (ret := (some .boolean)) (by decide) rfl ?_
  intro p e s m args below meth c s₁ B hml hv
  obtain ⟨rfl, hsz, hP, hK⟩ := hv
  have hx := B.exec
  have hb := B.bytes
  have hr := B.returns
  have hts : ∀ w ∈ wsG, w.before _ s = true := hG_of (atoms_spec (ws := (Cond.code yX10_fits cX10_fits 2 (some .boolean) :: wsG)) B.pre)
  have hown : s.vm.findClass RX10 = some m.cls := findClass_of_methodNamed B.named
  have hlocks := B.notSynchronized
  subst hsz
  have hS : va_S (fA h0 6325 s.heap.size) s.heap s.heap [] := va_S.rf
  have hl := lv_entry ([.ref h0, .int (iZ (pp))]) (n := 2) (Nat.le_of_ble_eq_true rfl)
  rw [lg_entry_eq]
  generalize (lg_sl ([.ref h0, .int (iZ (pp))]) ++ List.replicate (2 - (lg_sl ([.ref h0, .int (iZ (pp))])).length) Slot.unset).toArray = ls at hl ⊢
  have hl : lv_has ls 2 [(0, .ref h0), (1, .int (iZ (pp)))] := hl
  refine lv_aload_n hx hb dX10_fits_0 rfl (lv_at hl 0 rfl) ?_
  refine lv_iconst (v := iZ 0) hx hb dX10_fits_1 rfl ?_
  refine fz_put (D := (dC, dI)) (ci := 10) (ty := .int) (z := 0) (C := RX10) (T := TX10) (N := 53) hx hb hts inG10 tyX10 tyX10_ok nmX10 hown hK hP fA_in hS (k := 0) (by decide) (F := mF h0) mE_obj rfl 0 (by decide) (hts _ k1166) (fun _ h9 => h9) rfl (by decide +kernel) rfl rfl (fun _ => Nat.le_of_ble_eq_true rfl) (fun _ _ => rfl) dX10_fits_2 (fun H locs hP hS => ?_)
  obtain ⟨μ1, eμ1⟩ : ∃ x : va_M, x = uz μ 0 0 (0) := ⟨_, rfl⟩
  rw [← eμ1] at hP
  have hfr : fr PS μ μ1 := by rw [eμ1]; exact fr_uz fr_rfl (by unfold PS; omega)
  have ht0 : μ1 0 0 = 0 := by rw [eμ1, uz_s]
  have e10 := hfr 0 10 (PS_n (by omega))
  have e9 := hfr 0 9 (PS_n (by omega))
  have e71 := hfr 719 0 (PS_n (by omega))
  have hQ1 := RQ_fr hQ hfr
  have hQc := hQ
  obtain ⟨f10, ⟨fT, fTb, fTw⟩, fS3, fPg, fw9, fwB, fwT⟩ := hQc
  obtain ⟨g10, ⟨gT, gTb, gTw⟩, gS3, gPg, gw, gwB, gwT⟩ := hQ1
  have gtk := TR_tok gwT gwB.1 gwB.2.1
  have gt1 := gtk.1
  have gt2 := gtk.2.1
  refine lv_aload_n hx hb dX10_fits_5 rfl (lv_at hl 0 rfl) ?_
  refine lv_aload_n hx hb dX10_fits_6 rfl (lv_at hl 0 rfl) ?_
  refine lv_iload_n hx hb dX10_fits_7 rfl (lv_at hl 1 rfl) ?_
  refine va_calli (va_runV (As := [.int (iZ (pp))]) (rest := [.ref h0]) ⟨hx, hb, hml, hown, hts⟩ (m_isPage l dC dI cI cZ cII cIII h0 H.size μ1 (pp) (by first | assumption | omega | exact ⟨by omega, by omega⟩) (by first | assumption | omega | exact ⟨by omega, by omega⟩)) (cwV 1 hts (gV_G k1584 k1586 ks_yX10_isPage k13 k1587) rfl rfl rfl (by decide +kernel) ⟨Nat.le_of_ble_eq_true rfl, Nat.le_of_ble_eq_true rfl⟩) ⟨fun a U g mk q => by obtain ⟨q0, q1, qP, qK⟩ := q; exact ⟨q0, q1, qP, va_K.moved (u := U) (U := U.calling g mk a) (Vm.Alike.refl U.vm) qK⟩, va_recv hK hP (ci := 10) (q0 := 0) rfl ((fw_get (by decide)).trans (by rw [mE_obj]; rfl)), fun U hU hW => ⟨rfl, by rw [hU], by rw [hU]; exact hP, va_K.moved hW.alike hK⟩⟩ rfl rfl hl.1 rfl (lv_room (Nat.le_of_ble_eq_true rfl)) dX10_fits_8 ⟨Nat.le_of_ble_eq_true rfl, Nat.le_of_ble_eq_true rfl⟩) hS (fun q _ h => fA_le hS.1 q h) (fA_le hS.1) (fun r9 u9 t9 H1 locs ht9 hvm9 hw9 hB9 hz9 hk9 hS => ?_)
  obtain ⟨μ2, r3⟩ := u9
  obtain ⟨hP, -⟩ := hB9
  rw [ht9] at hP
  generalize H1 = H at hP hS ⊢
  obtain ⟨e9, hw9⟩ := hw9
  have e9 : r9 = iZ r3 := e9
  subst e9
  simp only at hP hw9
  have hμ2 := hw9; clear hw9
  rw [hμ2.1] at hP; have hμ2 := hμ2.2
  have hip := hμ2
  have hip2 := if_01 hμ2
  refine fz_if_ne (tgt := 18) (by constructor <;> omega) hx hb dX10_fits_11 (by decide) (fun c11_ => ?_) (fun c11_ => ?_)
  · have hpp := if_get hip (by omega)
    refine lv_iconst (v := iZ 0) hx hb dX10_fits_18 rfl ?_
    refine lv_iconst (v := iZ 1) hx hb dX10_fits_19 rfl ?_
    refine lv_iconst (v := iZ 0) hx hb dX10_fits_20 rfl ?_
    refine va_calli (va_runV (As := [.int (iZ (0)), .int (iZ (1)), .int (iZ (0))]) (rest := []) ⟨hx, hb, hml, hown, hts⟩ (m_bad2 l dC dI cI cZ cII cIII h0 H.size μ1 (0) (1) (0) (by first | assumption | omega | exact ⟨by omega, by omega⟩) (by first | assumption | omega | exact ⟨by omega, by omega⟩) (by first | assumption | omega | exact ⟨by omega, by omega⟩) (by first | assumption | omega | exact ⟨by omega, by omega⟩)) (cwV 3 hts (gV_G k1338 k1340 ks_yX10_bad k13 k1341) rfl rfl rfl (by decide +kernel) ⟨Nat.le_of_ble_eq_true rfl, Nat.le_of_ble_eq_true rfl⟩) ⟨fun a U g mk q => by obtain ⟨q0, q1, qP, qK⟩ := q; exact ⟨q0, q1, qP, va_K.moved (u := U) (U := U.calling g mk a) (Vm.Alike.refl U.vm) qK⟩, va_recv hK hP (ci := 10) (q0 := 0) rfl ((fw_get (by decide)).trans (by rw [mE_obj]; rfl)), fun U hU hW => ⟨rfl, by rw [hU], by rw [hU]; exact hP, va_K.moved hW.alike hK⟩⟩ rfl rfl hl.1 rfl (lv_room (Nat.le_of_ble_eq_true rfl)) dX10_fits_21 ⟨Nat.le_of_ble_eq_true rfl, Nat.le_of_ble_eq_true rfl⟩) hS (fun q _ h => fA_le hS.1 q h) (fA_le hS.1) (fun r9 u9 t9 H1 locs ht9 hvm9 hw9 hB9 hz9 hk9 hS => ?_)
    obtain ⟨μ4, r5⟩ := u9
    obtain ⟨hP, -⟩ := hB9
    rw [ht9] at hP
    generalize H1 = H at hP hS ⊢
    obtain ⟨e9, hw9⟩ := hw9
    have e9 : r9 = iZ r5 := e9
    subst e9
    simp only at hP hw9
    have hμ4 := hw9; clear hw9
    have hfr := fr_trans hfr (badP_fr hμ4)
    have hrb := badP_r hμ4
    obtain rfl : r5 = 0 := by omega
    refine fz_if_eq (tgt := 29) (by decide) hx hb dX10_fits_24 (by decide) (fun c24_ => ?_) (fun h9 => absurd h9 (by decide))
    have hQ2 := RQ_fr hQ hfr
    obtain ⟨k10, ⟨kT, kTb, kTw⟩, kS3, kPg, kw, kwB, kwT⟩ := hQ2
    have e10k := hfr 0 10 (PS_n (by omega))
    have e9k := hfr 0 9 (PS_n (by omega))
    have e71k := hfr 719 0 (PS_n (by omega))
    have ktk := TR_tok kwT kwB.1 kwB.2.1
    have kt1 := ktk.1
    have kt2 := ktk.2.1
    refine lv_aload_n hx hb dX10_fits_29 rfl (lv_at hl 0 rfl) ?_
    refine lv_iload_n hx hb dX10_fits_30 rfl (lv_at hl 1 rfl) ?_
    refine va_calli (va_runV (As := [.int (iZ (pp))]) (rest := []) ⟨hx, hb, hml, hown, hts⟩ (m_isFit2 l dC dI cI cZ cII cIII h0 H.size μ4 (pp) (Wk) (by exact RQ_fr hQ hfr) (by omega) (by exact wyP_PS hWP hfr)) (cwV 1 hts (gV_G k1496 k1498 ks_yX10_isFit k13 k1499) rfl rfl rfl (by decide +kernel) ⟨Nat.le_of_ble_eq_true rfl, Nat.le_of_ble_eq_true rfl⟩) ⟨fun a U g mk q => by obtain ⟨q0, q1, qP, qK⟩ := q; exact ⟨q0, q1, qP, va_K.moved (u := U) (U := U.calling g mk a) (Vm.Alike.refl U.vm) qK⟩, va_recv hK hP (ci := 10) (q0 := 0) rfl ((fw_get (by decide)).trans (by rw [mE_obj]; rfl)), fun U hU hW => ⟨rfl, by rw [hU], by rw [hU]; exact hP, va_K.moved hW.alike hK⟩⟩ rfl rfl hl.1 rfl (lv_room (Nat.le_of_ble_eq_true rfl)) dX10_fits_31 ⟨Nat.le_of_ble_eq_true rfl, Nat.le_of_ble_eq_true rfl⟩) hS (fun q _ h => fA_le hS.1 q h) (fA_le hS.1) (fun r9 u9 t9 H1 locs ht9 hvm9 hw9 hB9 hz9 hk9 hS => ?_)
    obtain ⟨μ6, r7⟩ := u9
    obtain ⟨hP, -⟩ := hB9
    rw [ht9] at hP
    generalize H1 = H at hP hS ⊢
    obtain ⟨e9, hw9⟩ := hw9
    have e9 : r9 = iZ r7 := e9
    subst e9
    simp only at hP hw9
    have hμ6 := hw9; clear hw9
    obtain ⟨a1, a2, a3, a4, a5⟩ := hμ6
    have e00 := a1.1 0 0 (by unfold SW SF CF; omega)
    exact W.zret (v := iZ (r7)) hx hb hr (by exact fz_narZ a2) (fun t9 ht9 hW9 => ⟨⟨iZ (r7), (μ6, r7), rfl, ⟨rfl, (by
                dsimp only
                have cd9 : cd2 (0 ≤ pp ∧ pp < μ 0 10) True = 0 := cd2_0 (by omega) trivial
                have x15 := hfr 15 pp.toNat (PS_n (by omega))
                have h8 := a1.2.2.2
                rw [cdP_PS hfr (by omega), x15] at h8
                refine ⟨⟨fr_trans hfr (fr_mono a1.1 (fun _ _ h => SW_PS h)), by omega⟩, by omega, fun _ => ⟨_, ⟨_, h8, rfl⟩, ?_⟩⟩
                rcases a2 with e9 | e9
                · rw [if_neg (by have := a5 e9; show ¬ 0 < μ6 (4416 + 0) 0; omega)]; exact e9
                · rw [if_pos (a4 e9)]; exact e9)⟩, by rw [ht9]; exact hP, va_K.moved hW9.alike hK⟩, hS.F ht9⟩) hS.2.2 dX10_fits_34
  · have hpn := if_not hip (by omega)
    refine lv_iconst (v := iZ 1) hx hb dX10_fits_14 rfl ?_
    refine lv_goto (tgt := 19) hx hb dX10_fits_15 (by decide) ?_
    refine lv_iconst (v := iZ 1) hx hb dX10_fits_19 rfl ?_
    refine lv_iconst (v := iZ 0) hx hb dX10_fits_20 rfl ?_
    refine va_calli (va_runV (As := [.int (iZ (1)), .int (iZ (1)), .int (iZ (0))]) (rest := []) ⟨hx, hb, hml, hown, hts⟩ (m_bad2 l dC dI cI cZ cII cIII h0 H.size μ1 (1) (1) (0) (by first | assumption | omega | exact ⟨by omega, by omega⟩) (by first | assumption | omega | exact ⟨by omega, by omega⟩) (by first | assumption | omega | exact ⟨by omega, by omega⟩) (by first | assumption | omega | exact ⟨by omega, by omega⟩)) (cwV 3 hts (gV_G k1338 k1340 ks_yX10_bad k13 k1341) rfl rfl rfl (by decide +kernel) ⟨Nat.le_of_ble_eq_true rfl, Nat.le_of_ble_eq_true rfl⟩) ⟨fun a U g mk q => by obtain ⟨q0, q1, qP, qK⟩ := q; exact ⟨q0, q1, qP, va_K.moved (u := U) (U := U.calling g mk a) (Vm.Alike.refl U.vm) qK⟩, va_recv hK hP (ci := 10) (q0 := 0) rfl ((fw_get (by decide)).trans (by rw [mE_obj]; rfl)), fun U hU hW => ⟨rfl, by rw [hU], by rw [hU]; exact hP, va_K.moved hW.alike hK⟩⟩ rfl rfl hl.1 rfl (lv_room (Nat.le_of_ble_eq_true rfl)) dX10_fits_21 ⟨Nat.le_of_ble_eq_true rfl, Nat.le_of_ble_eq_true rfl⟩) hS (fun q _ h => fA_le hS.1 q h) (fA_le hS.1) (fun r9 u9 t9 H1 locs ht9 hvm9 hw9 hB9 hz9 hk9 hS => ?_)
    obtain ⟨μ8, r10⟩ := u9
    obtain ⟨hP, -⟩ := hB9
    rw [ht9] at hP
    generalize H1 = H at hP hS ⊢
    obtain ⟨e9, hw9⟩ := hw9
    have e9 : r9 = iZ r10 := e9
    subst e9
    simp only at hP hw9
    have hμ8 := hw9; clear hw9
    have hfr := fr_trans hfr (badP_fr hμ8)
    have hrb := badP_r hμ8
    obtain rfl : r10 = 1 := by omega
    refine fz_if_eq (tgt := 29) (by decide) hx hb dX10_fits_24 (by decide) (fun h9 => absurd h9 (by decide)) (fun c24_ => ?_)
    refine lv_iconst (v := iZ 0) hx hb dX10_fits_27 rfl ?_
    exact W.zret (v := iZ (0)) hx hb hr (by decide +kernel) (fun t9 ht9 hW9 => ⟨⟨iZ (0), (μ8, 0), rfl, ⟨rfl, (by
                dsimp only
                have cd9 : cd2 (0 ≤ pp ∧ pp < μ 0 10) True = 1 := cd2_1 (by omega)
                exact ⟨⟨hfr, by omega⟩, by omega, fun hc => absurd (cd9.symm.trans hc) (by decide)⟩)⟩, by rw [ht9]; exact hP, va_K.moved hW9.alike hK⟩, hS.F ht9⟩) hS.2.2 dX10_fits_28

theorem dX10_walks_283 : decode cX10_walks 283 = .ok (.aload_n 0, 1) := by decide +kernel
theorem dX10_walks_284 : decode cX10_walks 284 = .ok (.iload 12, 2) := by decide +kernel
theorem dX10_walks_286 : decode cX10_walks 286 = .ok (.iload 10, 2) := by decide +kernel
theorem dX10_walks_288 : decode cX10_walks 288 = .ok (.iload_n 2, 1) := by decide +kernel
theorem dX10_walks_289 : decode cX10_walks 289 = .ok (.invokevirtual 200, 3) := by decide +kernel
theorem dX10_walks_352 : decode cX10_walks 352 = .ok (.iconst 0, 1) := by decide +kernel
theorem dX10_walks_353 : decode cX10_walks 353 = .ok (.goto 4, 3) := by decide +kernel
set_option maxHeartbeats 40000000 in
set_option maxRecDepth 100000 in
theorem LX10_walks_w5 {p : Program} {l : Launch} {e : Env} {R : Room} {s : State} {m : MethodId} {args : Array Value} {below : List Frame} {meth : Method} {c : Code} {cells slots : Nat} {Q : State → Prop} {dC : Nat → ClassId} {dI : Nat → Nat → Nat} {h0 : Nat} {cI cZ cII cIII : ClassId} {d9 : Nat} (hx : p.tables.exec = Jvm.exec) (hb : c.code = cX10_walks) (hml : c.maxLocals = 14) (hown : s.vm.findClass RX10 = some m.cls) (hts : ∀ w ∈ wsG, w.before args s = true) (hK : va_K (dC, dI) vwCl (mT cI cZ cII cIII) s) (hRf : 5 * d9 + 32 + 1 + 1 + 1 + 1 ≤ R.frames) (hRl : 200 * d9 + 900 + 40 + 40 + 40 + 40 ≤ R.locals) (hRc : cells ≤ R.cells) (hRs : slots ≤ R.slots) (μ0 : va_M) (n : Int) (o1 : Int) (t : Int) (u1 : Int) (wS : Rw) (wP : Rw) (ps : Int) (pq : Int) (hLR : ∀ (sz : Nat) (μ : va_M) (n : Int) (t : Int) (a1 : Int) (a2 : Int) (u1 : Int) (b1 : Int) (b2 : Int) (o1 : Int) (wS : Rw) (wP : Rw), (0 ≤ n ∧ n + rH wP ≤ 13) → (0 ≤ t ∧ t < 70) → (0 ≤ u1 ∧ u1 < 70) → (0 ≤ a1 ∧ a2 = a1 + rN wS ∧ a2 ≤ 900) → (0 ≤ b1 ∧ b2 = b1 + rN wP ∧ b2 ≤ 900) → (RA μ t.toNat wS a1.toNat) → (RA μ u1.toNat wP b1.toNat) → (rWF wS) → (rWF wP) → (rL wS ≤ 259 ∧ rL wP ≤ 60 ∧ rH wS ≤ 20) → (-1 ≤ o1 ∧ o1 < 70 ∧ o1 ≠ t ∧ o1 ≠ u1) → (capI2 o1 (μ 719 o1.toNat) (rN (lrow wS wP))) → (rH wP < d9) → Met l yX10_laysRow (Cond.code yX10_laysRow cX10_laysRow 13 (some .int) :: wsG) ({ frames := 5 * d9 + 32, cells := 0, slots := 0, locals := 200 * d9 + 900 } : Room) (va_Pc [.ref h0, .int (iZ (n)), .int (iZ (t)), .int (iZ (a1)), .int (iZ (a2)), .int (iZ (u1)), .int (iZ (b1)), .int (iZ (b2)), .int (iZ (o1))] (fun U => U.heap.size = sz ∧ va_P (dC, dI) vwCl (fw (mE cI cZ cII cIII h0) h0 6325 μ) U.heap ∧ va_K (dC, dI) vwCl (mT cI cZ cII cIII) U)) (va_Qi (fun (r9 : Int32) (u : va_M × Int) => r9 = iZ u.2 ∧ (fun (u : va_M) (r : Int) => r = (lay wS wP).1 ∧ u 0 33 = (if (lay wS wP).2 = true then 1 else 0) ∧ layO μ u n.toNat o1 (lrow wS wP)) u.1 u.2) (fun u t => va_P (dC, dI) vwCl (fw (mE cI cZ cII cIII h0) h0 6325 u.1) t.heap ∧ va_K (dC, dI) vwCl (mT cI cZ cII cIII) t) (fA h0 6325 sz)) 0 0 (fA h0 6325 sz)) (hn : 0 ≤ n ∧ n + rH wP ≤ 13) (hL : lvS μ0 n.toNat t u1 wS wP ps pq) (ht : 0 ≤ t ∧ t < 70) (hu : 0 ≤ u1 ∧ u1 < 70) (htu : t ≠ -1 ∧ u1 ≠ -1) (hps : 0 ≤ ps ∧ ps + rN wS ≤ 900) (hpq : 0 ≤ pq ∧ pq + rN wP ≤ 900) (hwS : rWF wS) (hwP : rWF wP) (h260 : rL wS ≤ 259 ∧ rL wP ≤ 60 ∧ rH wS ≤ 20) (hd : rH wP ≤ d9) (hle : leB μ0 n.toNat wS wP 0 0) (ho : -1 ≤ o1 ∧ o1 < 70 ∧ o1 ≠ t ∧ o1 ≠ u1) (hcap : capI2 o1 (μ0 719 o1.toNat) (rN (lrow wS wP))) (n9 : Nat) (i : Int) (j : Int) (o : Int) (y : Int) (al : Int) (μ : va_M) (x67_0 : Int) (x93_0 : Int) (hwc : wSt μ0 μ n.toNat o1 (μ0 719 o1.toNat) (lrow wS wP) o y (wk o.toNat (rdrop i.toNat wS) (rdrop j.toNat wP)).1 (wk o.toNat (rdrop i.toNat wS) (rdrop j.toNat wP)).2) (hLc : lvS μ n.toNat t u1 wS wP ps pq) (hmn : wmin lay (rdrop i.toNat wS) (rdrop j.toNat wP) < 1000000) (hne9 : hsd (rdrop i.toNat wS) = true ∨ hsd (rdrop j.toNat wP) = true) (hj35_0 : i < (rI wS : Int) ∨ j < (rI wP : Int)) (hj67_0 : i < (rI wS : Int) → x67_0 = ps + (rO wS i.toNat : Int)) (hj93_0 : j < (rI wP : Int) → x93_0 = pq + (rO wP j.toNat : Int)) (hi : 0 ≤ i ∧ i ≤ rI wS) (hj : 0 ≤ j ∧ j ≤ rI wP) (ho9 : o = 0 ∨ o = 4 ∨ o = 5) (hal : alI al (rdrop i.toNat wS) (rdrop j.toNat wP) wS wP) (hwy : (wayOf (rdrop i.toNat wS) (rdrop j.toNat wP) : Int) = 5) (hm9 : (rI wS - i + (rI wP - j)).toNat < n9 + 1) (ih : ∀ (i : Int) (j : Int) (o : Int) (y : Int) (al : Int) (μ : va_M) (H : Heap) (locs : List Loc) (ls : Array Slot), (wSt μ0 μ n.toNat o1 (μ0 719 o1.toNat) (lrow wS wP) o y (wk o.toNat (rdrop i.toNat wS) (rdrop j.toNat wP)).1 (wk o.toNat (rdrop i.toNat wS) (rdrop j.toNat wP)).2) → (0 ≤ i ∧ i ≤ rI wS) → (0 ≤ j ∧ j ≤ rI wP) → (o = 0 ∨ o = 4 ∨ o = 5) → (alI al (rdrop i.toNat wS) (rdrop j.toNat wP) wS wP) → (rI wS - i + (rI wP - j)).toNat < n9 → va_P (dC, dI) vwCl (fw (mE cI cZ cII cIII h0) h0 6325 μ) H → va_S (fA h0 6325 s.heap.size) s.heap H locs → lv_has ls 14 [(7, .int (iZ (al))), (6, .int (iZ (y))), (5, .int (iZ (o))), (4, .int (iZ (j))), (3, .int (iZ (i))), (2, .int (iZ (o1))), (1, .int (iZ (n))), (0, .ref h0)] → W p l e R s m args below meth c H locs cells slots Q (F0 m 14 ls [])) :
    ∀ (H : Heap) (locs : List Loc) (ls : Array Slot), va_P (dC, dI) vwCl (fw (mE cI cZ cII cIII h0) h0 6325 μ) H → va_S (fA h0 6325 s.heap.size) s.heap H locs → lv_has ls 14 [(12, .int (iZ (u1))), (11, .int (iZ (t))), (10, .int (iZ (x93_0))), (9, .int (iZ (x67_0))), (8, .int (iZ (5))), (7, .int (iZ (al))), (6, .int (iZ (y))), (5, .int (iZ (o))), (4, .int (iZ (j))), (3, .int (iZ (i))), (2, .int (iZ (o1))), (1, .int (iZ (n))), (0, .ref h0)] → W p l e R s m args below meth c H locs cells slots Q (F0 m 111 ls []) := by
  intro H locs ls hP hS hl
  have hIS := rI_L wS hwS
  have hIP := rI_L wP hwP
  have hLx0 := hLc
  have hwy : wayOf (rdrop i.toNat wS) (rdrop j.toNat wP) = 5 := by omega
  have hy9 : wayOf (rdrop i.toNat wS) (rdrop j.toNat wP) = 5 := by omega
  have hh9 := way_hsd.2.2 hy9
  have hj9 : j < (rI wP : Int) := by
    have h9 := hsd_I.mp hh9
    rw [rdrop_I] at h9
    omega
  have p_0 := rdrop_I j.toNat wP
  have p_1 := rdrop_N j.toNat wP
  have p_9 := rdrop_H j.toNat wP
  have p_3 := rdrop_WF j.toNat wP hwP
  obtain ⟨zp, kp, vp, lb, rb, hep⟩ := rI_pos (w := rdrop j.toNat wP) (by omega)
  rw [hep] at p_0 p_1 p_3 p_9 hy9 hmn hwc hal
  rw [rN_in] at p_1
  rw [rI_in] at p_0
  rw [rH_in] at p_9
  have pF : iWF kp vp lb := ⟨p_3.1, p_3.2.1, p_3.2.2.1, p_3.2.2.2.1, p_3.2.2.2.2.1, p_3.2.2.2.2.2.1, p_3.2.2.2.2.2.2.1⟩
  have pFk : kp ≤ 4 := p_3.1
  clear p_3
  have pS := rdrop_S hep
  have pSI := rI_N2 lb
  have pSL : rL lb ≤ rL wP := Nat.le_trans (by rw [hep]; exact rL_l) (rdrop_L j.toNat wP)
  have hx_p_ : x93_0 = pq + (rO wP j.toNat : Int) := hj93_0 hj9
  rw [wk_5 hy9] at hwc
  clear hne9 hj35_0 hj67_0 hj93_0
  rcases (show o = 0 ∨ o = 4 ∨ o = 5 from by exact ho9) with rfl | rfl | rfl
  · clear ho9
    refine lv_iload hx hb dX10_walks_111 (lv_at hl 4 rfl) ?_
    refine lv_iconst (v := iZ 5) hx hb dX10_walks_113 rfl ?_
    refine fz_icmp_eq (tgt := 137) (by decide) (by decide) hx hb dX10_walks_114 (by decide) (fun c114_ => ?_) (fun h9 => absurd h9 (by decide))
    rw [if_neg (by decide)] at hwc
    dsimp only at hwc
    refine lv_iconst (v := iZ 1) hx hb dX10_walks_137 rfl ?_
    refine lv_goto (tgt := 142) hx hb dX10_walks_138 (by decide) ?_
    refine lv_istore (lv' := [(13, .int (iZ (1))), (12, .int (iZ (u1))), (11, .int (iZ (t))), (10, .int (iZ (x93_0))), (9, .int (iZ (x67_0))), (8, .int (iZ (5))), (7, .int (iZ (al))), (6, .int (iZ (y))), (5, .int (iZ (0))), (4, .int (iZ (j))), (3, .int (iZ (i))), (2, .int (iZ (o1))), (1, .int (iZ (n))), (0, .ref h0)]) hx hb dX10_walks_142 hl (by decide) rfl (fun ls hl => ?_)
    refine lv_iload hx hb dX10_walks_144 (lv_at hl 8 rfl) ?_
    refine fz_if_le (tgt := 171) (by decide) hx hb dX10_walks_146 (by decide) (fun c146_ => ?_) (fun h9 => absurd h9 (by decide))
    have hC := hwc
    have hLx := lvS_wSt hL hC (by omega) ht hu ho
    have pIA : IA μ u1.toNat x93_0.toNat kp vp lb := by rw [hx_p_]; exact IA_P hLx (by omega) hep
    refine lv_iload hx hb dX10_walks_171 (lv_at hl 0 rfl) ?_
    refine fz_if_eq (tgt := 194) (by decide) hx hb dX10_walks_173 (by decide) (fun h9 => absurd h9 (by decide)) (fun c173_ => ?_)
    refine lv_iload hx hb dX10_walks_176 (lv_at hl 8 rfl) ?_
    refine fz_if_ne (tgt := 194) (by decide) hx hb dX10_walks_178 (by decide) (fun h9 => absurd h9 (by decide)) (fun c178_ => ?_)
    refine lv_aload_n hx hb dX10_walks_181 rfl (lv_at hl 13 rfl) ?_
    refine lv_iload_n hx hb dX10_walks_182 rfl (lv_at hl 11 rfl) ?_
    refine lv_iconst (v := iZ 3) hx hb dX10_walks_183 rfl ?_
    refine lv_iconst (v := iZ (-1)) hx hb dX10_walks_184 rfl ?_
    refine va_calli (va_runV (As := [.int (iZ (o1)), .int (iZ (3)), .int (iZ ((-1)))]) (rest := []) ⟨hx, hb, hml, hown, hts⟩ (m_adds l dC dI cI cZ cII cIII h0 H.size μ (o1) (3) ((-1)) (by first | assumption | omega | exact ⟨by omega, by omega⟩) (by intro h; have h9 := wSt_cap hC hcap h; rw [rN_in] at h9; omega)) (cwV 3 hts (gV_G k1377 k1379 ks_yX10_adds k13 k1380) rfl rfl rfl (by decide +kernel) ⟨by show 1 + 1 ≤ _; omega, by show 8 + (5 + 11) + (14) ≤ _; omega⟩) ⟨fun a U g mk q => by obtain ⟨q0, q1, qP, qK⟩ := q; exact ⟨q0, q1, qP, va_K.moved (u := U) (U := U.calling g mk a) (Vm.Alike.refl U.vm) qK⟩, va_recv hK hP (ci := 10) (q0 := 0) rfl ((fw_get (by decide)).trans (by rw [mE_obj]; rfl)), fun U hU hW => ⟨rfl, by rw [hU], by rw [hU]; exact hP, va_K.moved hW.alike hK⟩⟩ rfl rfl hl.1 rfl (lv_room (Nat.le_of_ble_eq_true rfl)) dX10_walks_185 ⟨hRc, hRs⟩) hS (fun q _ h => fA_le hS.1 q h) (fA_le hS.1) (fun r9 u9 t9 H1 locs ht9 hvm9 hw9 hB9 hz9 hk9 hS => ?_)
    obtain ⟨μa, ya⟩ := u9
    obtain ⟨hP, -⟩ := hB9
    rw [ht9] at hP
    generalize H1 = H at hP hS ⊢
    obtain ⟨e9, hw9⟩ := hw9
    have e9 : r9 = iZ ya := e9
    subst e9
    simp only at hP hw9
    have hμa := hw9; clear hw9
    have hO := wSt_open hC (by omega) hμa (q := 5) (by omega)
    have hLo := lvS_wSt hL hO (by omega) ht hu ho
    have pIo : IA μa u1.toNat x93_0.toNat kp vp lb := by rw [hx_p_]; exact IA_P hLo (by omega) hep
    refine lv_istore (lv' := [(6, .int (iZ (ya))), (13, .int (iZ (1))), (12, .int (iZ (u1))), (11, .int (iZ (t))), (10, .int (iZ (x93_0))), (9, .int (iZ (x67_0))), (8, .int (iZ (5))), (7, .int (iZ (al))), (5, .int (iZ (0))), (4, .int (iZ (j))), (3, .int (iZ (i))), (2, .int (iZ (o1))), (1, .int (iZ (n))), (0, .ref h0)]) hx hb dX10_walks_188 hl (by decide) rfl (fun ls hl => ?_)
    refine lv_iload hx hb dX10_walks_190 (lv_at hl 6 rfl) ?_
    refine lv_istore (lv' := [(5, .int (iZ (5))), (6, .int (iZ (ya))), (13, .int (iZ (1))), (12, .int (iZ (u1))), (11, .int (iZ (t))), (10, .int (iZ (x93_0))), (9, .int (iZ (x67_0))), (8, .int (iZ (5))), (7, .int (iZ (al))), (4, .int (iZ (j))), (3, .int (iZ (i))), (2, .int (iZ (o1))), (1, .int (iZ (n))), (0, .ref h0)]) hx hb dX10_walks_192 hl (by decide) rfl (fun ls hl => ?_)
    refine lv_iload hx hb dX10_walks_194 (lv_at hl 7 rfl) ?_
    refine lv_iconst (v := iZ 1) hx hb dX10_walks_196 rfl ?_
    refine fz_icmp_ne (tgt := 211) (by decide) (by decide) hx hb dX10_walks_197 (by decide) (fun c197_ => ?_) (fun h9 => absurd h9 (by decide))
    refine lv_iload hx hb dX10_walks_211 (lv_at hl 7 rfl) ?_
    refine lv_iconst (v := iZ 2) hx hb dX10_walks_213 rfl ?_
    refine fz_icmp_ne (tgt := 237) (by decide) (by decide) hx hb dX10_walks_214 (by decide) (fun c214_ => ?_) (fun h9 => absurd h9 (by decide))
    refine lv_iload hx hb dX10_walks_237 (lv_at hl 7 rfl) ?_
    refine lv_iconst (v := iZ 3) hx hb dX10_walks_239 rfl ?_
    refine fz_icmp_ne (tgt := 262) (by decide) (by decide) hx hb dX10_walks_240 (by decide) (fun c240_ => ?_) (fun h9 => absurd h9 (by decide))
    refine lv_iload hx hb dX10_walks_262 (lv_at hl 7 rfl) ?_
    refine lv_iconst (v := iZ 4) hx hb dX10_walks_264 rfl ?_
    refine fz_icmp_ne (tgt := 277) (by decide) (by decide) hx hb dX10_walks_265 (by decide) (fun c265_ => ?_) (fun h9 => absurd h9 (by decide))
    refine lv_iload hx hb dX10_walks_277 (lv_at hl 7 rfl) ?_
    refine lv_iconst (v := iZ 5) hx hb dX10_walks_279 rfl ?_
    refine fz_icmp_ne (tgt := 292) (by decide) (by decide) hx hb dX10_walks_280 (by decide) (fun h9 => absurd h9 (by decide)) (fun c280_ => ?_)
    refine lv_aload_n hx hb dX10_walks_283 rfl (lv_at hl 13 rfl) ?_
    refine lv_iload hx hb dX10_walks_284 (lv_at hl 3 rfl) ?_
    refine lv_iload hx hb dX10_walks_286 (lv_at hl 5 rfl) ?_
    refine lv_iload_n hx hb dX10_walks_288 rfl (lv_at hl 11 rfl) ?_
    refine va_callv (va_runV (As := [.int (iZ (u1)), .int (iZ (x93_0)), .int (iZ (o1))]) (rest := []) ⟨hx, hb, hml, hown, hts⟩ (m_copies l dC dI cI cZ cII cIII h0 H.size μa (u1) (x93_0) (o1) (1 + (rN lb : Int)) (by first | assumption | omega | exact ⟨by omega, by omega⟩) (by first | assumption | omega | exact ⟨by omega, by omega⟩) (by first | assumption | omega | exact ⟨by omega, by omega⟩) (by intro h; omega) (by intro h; have h9 := wSt_cap hO hcap h; rw [rN_in] at h9; omega) (by intro h; exact pIo.2.2.1)) (cwV 3 hts (gV_G k1412 k1414 ks_yX10_copies k13 k1415) rfl rfl rfl (by decide +kernel) ⟨by show 2 + 1 ≤ _; omega, by show 8 + (6 + 11) + (38) ≤ _; omega⟩) ⟨fun a U g mk q => by obtain ⟨q0, q1, qP, qK⟩ := q; exact ⟨q0, q1, qP, va_K.moved (u := U) (U := U.calling g mk a) (Vm.Alike.refl U.vm) qK⟩, va_recv hK hP (ci := 10) (q0 := 0) rfl ((fw_get (by decide)).trans (by rw [mE_obj]; rfl)), fun U hU hW => ⟨rfl, by rw [hU], by rw [hU]; exact hP, va_K.moved hW.alike hK⟩⟩ rfl rfl hl.1 rfl (lv_room (Nat.le_of_ble_eq_true rfl)) dX10_walks_289 ⟨hRc, hRs⟩) hS (fun q _ h => fA_le hS.1 q h) (fA_le hS.1) (fun u9 t9 H1 locs ht9 hvm9 hw9 hB9 hz9 hk9 hS => ?_)
    obtain ⟨hP, -⟩ := hB9
    rw [ht9] at hP
    generalize H1 = H at hP hS ⊢
    obtain ⟨μp, eμp⟩ : ∃ x : va_M, x = u9 := ⟨_, rfl⟩
    rw [← eμp] at hP hw9
    have hμp := hw9; clear hw9
    have hN := wSt_it1 hO (by omega) (by omega) (layO_cp hμp pIo rfl)
    refine lv_iload hx hb dX10_walks_292 (lv_at hl 8 rfl) ?_
    refine lv_iload hx hb dX10_walks_294 (lv_at hl 7 rfl) ?_
    refine lv_iconst (v := iZ 3) hx hb dX10_walks_296 rfl ?_
    refine fz_icmp_gt (tgt := 320) (by decide) (by decide) hx hb dX10_walks_297 (by decide) (fun c297_ => ?_) (fun h9 => absurd h9 (by decide))
    refine lv_iconst (v := iZ 1) hx hb dX10_walks_320 rfl ?_
    refine lv_goto (tgt := 325) hx hb dX10_walks_321 (by decide) ?_
    refine lv_iand hx hb dX10_walks_325 ?_
    refine lv_topi (fun x9 ex9 => ?_)
    obtain ⟨z1, rfl, hz1⟩ := iZ_ex x9
    have ez1 := ex9; clear ex9
    refine lv_istore (lv' := [(7, .int (iZ (z1))), (5, .int (iZ (5))), (6, .int (iZ (ya))), (13, .int (iZ (1))), (12, .int (iZ (u1))), (11, .int (iZ (t))), (10, .int (iZ (x93_0))), (9, .int (iZ (x67_0))), (8, .int (iZ (5))), (4, .int (iZ (j))), (3, .int (iZ (i))), (2, .int (iZ (o1))), (1, .int (iZ (n))), (0, .ref h0)]) hx hb dX10_walks_326 hl (by decide) rfl (fun ls hl => ?_)
    refine lv_iload_n hx hb dX10_walks_328 rfl (lv_at hl 10 rfl) ?_
    refine lv_iload hx hb dX10_walks_329 (lv_at hl 8 rfl) ?_
    refine lv_iconst (v := iZ 3) hx hb dX10_walks_331 rfl ?_
    refine fz_icmp_ne (tgt := 346) (by decide) (by decide) hx hb dX10_walks_332 (by decide) (fun c332_ => ?_) (fun h9 => absurd h9 (by decide))
    refine lv_iload hx hb dX10_walks_346 (lv_at hl 8 rfl) ?_
    refine lv_iconst (v := iZ 5) hx hb dX10_walks_348 rfl ?_
    refine fz_icmp_ne (tgt := 356) (by decide) (by decide) hx hb dX10_walks_349 (by decide) (fun h9 => absurd h9 (by decide)) (fun c349_ => ?_)
    refine lv_iconst (v := iZ 0) hx hb dX10_walks_352 rfl ?_
    refine lv_goto (tgt := 357) hx hb dX10_walks_353 (by decide) ?_
    refine lv_iadd hx hb dX10_walks_357 ?_
    refine lv_topi (fun x9 ex9 => ?_)
    obtain rfl : x9 = iZ (i + 0) := ex9.trans (iZ_add _ _)
    refine lv_istore_n (lv' := [(3, .int (iZ (i + 0))), (7, .int (iZ (z1))), (5, .int (iZ (5))), (6, .int (iZ (ya))), (13, .int (iZ (1))), (12, .int (iZ (u1))), (11, .int (iZ (t))), (10, .int (iZ (x93_0))), (9, .int (iZ (x67_0))), (8, .int (iZ (5))), (4, .int (iZ (j))), (2, .int (iZ (o1))), (1, .int (iZ (n))), (0, .ref h0)]) hx hb dX10_walks_358 rfl hl (by decide) rfl (fun ls hl => ?_)
    refine lv_iload hx hb dX10_walks_359 (lv_at hl 10 rfl) ?_
    refine lv_iload hx hb dX10_walks_361 (lv_at hl 9 rfl) ?_
    refine lv_iconst (v := iZ 2) hx hb dX10_walks_363 rfl ?_
    refine fz_icmp_ne (tgt := 378) (by decide) (by decide) hx hb dX10_walks_364 (by decide) (fun c364_ => ?_) (fun h9 => absurd h9 (by decide))
    refine lv_iload hx hb dX10_walks_378 (lv_at hl 9 rfl) ?_
    refine lv_iconst (v := iZ 4) hx hb dX10_walks_380 rfl ?_
    refine fz_icmp_ne (tgt := 388) (by decide) (by decide) hx hb dX10_walks_381 (by decide) (fun c381_ => ?_) (fun h9 => absurd h9 (by decide))
    refine lv_iconst (v := iZ 1) hx hb dX10_walks_388 rfl ?_
    refine lv_iadd hx hb dX10_walks_389 ?_
    refine lv_topi (fun x9 ex9 => ?_)
    obtain rfl : x9 = iZ (j + 1) := ex9.trans (iZ_add _ _)
    refine lv_istore (lv' := [(4, .int (iZ (j + 1))), (3, .int (iZ (i + 0))), (7, .int (iZ (z1))), (5, .int (iZ (5))), (6, .int (iZ (ya))), (13, .int (iZ (1))), (12, .int (iZ (u1))), (11, .int (iZ (t))), (10, .int (iZ (x93_0))), (9, .int (iZ (x67_0))), (8, .int (iZ (5))), (2, .int (iZ (o1))), (1, .int (iZ (n))), (0, .ref h0)]) hx hb dX10_walks_390 hl (by decide) rfl (fun ls hl => ?_)
    refine lv_goto (tgt := 14) hx hb dX10_walks_392 (by decide) ?_
    exact ih (i + 0) (j + 1) (5) (ya) (z1) μp H locs ls (by
                rw [show (i + 0).toNat = i.toNat by omega, show (j + 1).toNat = j.toNat + 1 by omega, pS]
                exact hN) (by omega) (by omega) (by first | exact Or.inl rfl | exact Or.inr (Or.inl rfl) | exact Or.inr (Or.inr rfl)) (by
                rw [show (i + 0).toNat = i.toNat by omega, show (j + 1).toNat = j.toNat + 1 by omega, pS]
                obtain ⟨a1_, a2_, a3_, a4_, a5_⟩ := al_is (Or.inr rfl) hmn
                refine alI_and1 hz1 ez1 hal ((a5_ hy9).trans ?_)
                show tl5 lay (rdrop i.toNat wS) _ = _
                cases rdrop i.toNat wS <;> rfl) (by omega) hP hS (lv_sub hl [2, 4, 3, 0, 1, 11, 12, 13] rfl)
  · clear ho9
    refine lv_iload hx hb dX10_walks_111 (lv_at hl 4 rfl) ?_
    refine lv_iconst (v := iZ 5) hx hb dX10_walks_113 rfl ?_
    refine fz_icmp_eq (tgt := 137) (by decide) (by decide) hx hb dX10_walks_114 (by decide) (fun c114_ => ?_) (fun h9 => absurd h9 (by decide))
    rw [if_neg (by decide)] at hwc
    dsimp only at hwc
    refine lv_iconst (v := iZ 1) hx hb dX10_walks_137 rfl ?_
    refine lv_goto (tgt := 142) hx hb dX10_walks_138 (by decide) ?_
    refine lv_istore (lv' := [(13, .int (iZ (1))), (12, .int (iZ (u1))), (11, .int (iZ (t))), (10, .int (iZ (x93_0))), (9, .int (iZ (x67_0))), (8, .int (iZ (5))), (7, .int (iZ (al))), (6, .int (iZ (y))), (5, .int (iZ (4))), (4, .int (iZ (j))), (3, .int (iZ (i))), (2, .int (iZ (o1))), (1, .int (iZ (n))), (0, .ref h0)]) hx hb dX10_walks_142 hl (by decide) rfl (fun ls hl => ?_)
    refine lv_iload hx hb dX10_walks_144 (lv_at hl 8 rfl) ?_
    refine fz_if_le (tgt := 171) (by decide) hx hb dX10_walks_146 (by decide) (fun h9 => absurd h9 (by decide)) (fun c146_ => ?_)
    refine lv_iload hx hb dX10_walks_149 (lv_at hl 0 rfl) ?_
    refine fz_if_eq (tgt := 161) (by decide) hx hb dX10_walks_151 (by decide) (fun h9 => absurd h9 (by decide)) (fun c151_ => ?_)
    refine lv_iload hx hb dX10_walks_154 (lv_at hl 8 rfl) ?_
    refine lv_iload hx hb dX10_walks_156 (lv_at hl 5 rfl) ?_
    refine fz_icmp_eq (tgt := 171) (by decide) (by decide) hx hb dX10_walks_158 (by decide) (fun h9 => absurd h9 (by decide)) (fun c158_ => ?_)
    refine lv_aload_n hx hb dX10_walks_161 rfl (lv_at hl 13 rfl) ?_
    refine lv_iload_n hx hb dX10_walks_162 rfl (lv_at hl 11 rfl) ?_
    refine lv_iload hx hb dX10_walks_163 (lv_at hl 7 rfl) ?_
    refine va_callv (va_runV (As := [.int (iZ (o1)), .int (iZ (y))]) (rest := []) ⟨hx, hb, hml, hown, hts⟩ (m_closes l dC dI cI cZ cII cIII h0 H.size μ (o1) (y) (by first | assumption | omega | exact ⟨by omega, by omega⟩) (by intro h; exact (wSt_cap hwc hcap h).2.2 (by omega))) (cwV 2 hts (gV_G k1420 k1422 ks_yX10_closes k13 k1423) rfl rfl rfl (by decide +kernel) ⟨by show 1 + 1 ≤ _; omega, by show 8 + (3 + 11) + (14) ≤ _; omega⟩) ⟨fun a U g mk q => by obtain ⟨q0, q1, qP, qK⟩ := q; exact ⟨q0, q1, qP, va_K.moved (u := U) (U := U.calling g mk a) (Vm.Alike.refl U.vm) qK⟩, va_recv hK hP (ci := 10) (q0 := 0) rfl ((fw_get (by decide)).trans (by rw [mE_obj]; rfl)), fun U hU hW => ⟨rfl, by rw [hU], by rw [hU]; exact hP, va_K.moved hW.alike hK⟩⟩ rfl rfl hl.1 rfl (lv_room (Nat.le_of_ble_eq_true rfl)) dX10_walks_165 ⟨hRc, hRs⟩) hS (fun q _ h => fA_le hS.1 q h) (fA_le hS.1) (fun u9 t9 H1 locs ht9 hvm9 hw9 hB9 hz9 hk9 hS => ?_)
    obtain ⟨hP, -⟩ := hB9
    rw [ht9] at hP
    generalize H1 = H at hP hS ⊢
    obtain ⟨μd, eμd⟩ : ∃ x : va_M, x = u9 := ⟨_, rfl⟩
    rw [← eμd] at hP hw9
    have hμd := hw9; clear hw9
    have hC := wSt_close hwc (by omega) (by omega) hμd y
    refine lv_iconst (v := iZ 0) hx hb dX10_walks_168 rfl ?_
    refine lv_istore (lv' := [(5, .int (iZ (0))), (13, .int (iZ (1))), (12, .int (iZ (u1))), (11, .int (iZ (t))), (10, .int (iZ (x93_0))), (9, .int (iZ (x67_0))), (8, .int (iZ (5))), (7, .int (iZ (al))), (6, .int (iZ (y))), (4, .int (iZ (j))), (3, .int (iZ (i))), (2, .int (iZ (o1))), (1, .int (iZ (n))), (0, .ref h0)]) hx hb dX10_walks_169 hl (by decide) rfl (fun ls hl => ?_)
    have hLx := lvS_wSt hL hC (by omega) ht hu ho
    have pIA : IA μd u1.toNat x93_0.toNat kp vp lb := by rw [hx_p_]; exact IA_P hLx (by omega) hep
    refine lv_iload hx hb dX10_walks_171 (lv_at hl 1 rfl) ?_
    refine fz_if_eq (tgt := 194) (by decide) hx hb dX10_walks_173 (by decide) (fun h9 => absurd h9 (by decide)) (fun c173_ => ?_)
    refine lv_iload hx hb dX10_walks_176 (lv_at hl 0 rfl) ?_
    refine fz_if_ne (tgt := 194) (by decide) hx hb dX10_walks_178 (by decide) (fun h9 => absurd h9 (by decide)) (fun c178_ => ?_)
    refine lv_aload_n hx hb dX10_walks_181 rfl (lv_at hl 13 rfl) ?_
    refine lv_iload_n hx hb dX10_walks_182 rfl (lv_at hl 11 rfl) ?_
    refine lv_iconst (v := iZ 3) hx hb dX10_walks_183 rfl ?_
    refine lv_iconst (v := iZ (-1)) hx hb dX10_walks_184 rfl ?_
    refine va_calli (va_runV (As := [.int (iZ (o1)), .int (iZ (3)), .int (iZ ((-1)))]) (rest := []) ⟨hx, hb, hml, hown, hts⟩ (m_adds l dC dI cI cZ cII cIII h0 H.size μd (o1) (3) ((-1)) (by first | assumption | omega | exact ⟨by omega, by omega⟩) (by intro h; have h9 := wSt_cap hC hcap h; rw [rN_in] at h9; omega)) (cwV 3 hts (gV_G k1377 k1379 ks_yX10_adds k13 k1380) rfl rfl rfl (by decide +kernel) ⟨by show 1 + 1 ≤ _; omega, by show 8 + (5 + 11) + (14) ≤ _; omega⟩) ⟨fun a U g mk q => by obtain ⟨q0, q1, qP, qK⟩ := q; exact ⟨q0, q1, qP, va_K.moved (u := U) (U := U.calling g mk a) (Vm.Alike.refl U.vm) qK⟩, va_recv hK hP (ci := 10) (q0 := 0) rfl ((fw_get (by decide)).trans (by rw [mE_obj]; rfl)), fun U hU hW => ⟨rfl, by rw [hU], by rw [hU]; exact hP, va_K.moved hW.alike hK⟩⟩ rfl rfl hl.1 rfl (lv_room (Nat.le_of_ble_eq_true rfl)) dX10_walks_185 ⟨hRc, hRs⟩) hS (fun q _ h => fA_le hS.1 q h) (fA_le hS.1) (fun r9 u9 t9 H1 locs ht9 hvm9 hw9 hB9 hz9 hk9 hS => ?_)
    obtain ⟨μa, ya⟩ := u9
    obtain ⟨hP, -⟩ := hB9
    rw [ht9] at hP
    generalize H1 = H at hP hS ⊢
    obtain ⟨e9, hw9⟩ := hw9
    have e9 : r9 = iZ ya := e9
    subst e9
    simp only at hP hw9
    have hμa := hw9; clear hw9
    have hO := wSt_open hC (by omega) hμa (q := 5) (by omega)
    have hLo := lvS_wSt hL hO (by omega) ht hu ho
    have pIo : IA μa u1.toNat x93_0.toNat kp vp lb := by rw [hx_p_]; exact IA_P hLo (by omega) hep
    refine lv_istore (lv' := [(6, .int (iZ (ya))), (5, .int (iZ (0))), (13, .int (iZ (1))), (12, .int (iZ (u1))), (11, .int (iZ (t))), (10, .int (iZ (x93_0))), (9, .int (iZ (x67_0))), (8, .int (iZ (5))), (7, .int (iZ (al))), (4, .int (iZ (j))), (3, .int (iZ (i))), (2, .int (iZ (o1))), (1, .int (iZ (n))), (0, .ref h0)]) hx hb dX10_walks_188 hl (by decide) rfl (fun ls hl => ?_)
    refine lv_iload hx hb dX10_walks_190 (lv_at hl 7 rfl) ?_
    refine lv_istore (lv' := [(5, .int (iZ (5))), (6, .int (iZ (ya))), (13, .int (iZ (1))), (12, .int (iZ (u1))), (11, .int (iZ (t))), (10, .int (iZ (x93_0))), (9, .int (iZ (x67_0))), (8, .int (iZ (5))), (7, .int (iZ (al))), (4, .int (iZ (j))), (3, .int (iZ (i))), (2, .int (iZ (o1))), (1, .int (iZ (n))), (0, .ref h0)]) hx hb dX10_walks_192 hl (by decide) rfl (fun ls hl => ?_)
    refine lv_iload hx hb dX10_walks_194 (lv_at hl 7 rfl) ?_
    refine lv_iconst (v := iZ 1) hx hb dX10_walks_196 rfl ?_
    refine fz_icmp_ne (tgt := 211) (by decide) (by decide) hx hb dX10_walks_197 (by decide) (fun c197_ => ?_) (fun h9 => absurd h9 (by decide))
    refine lv_iload hx hb dX10_walks_211 (lv_at hl 7 rfl) ?_
    refine lv_iconst (v := iZ 2) hx hb dX10_walks_213 rfl ?_
    refine fz_icmp_ne (tgt := 237) (by decide) (by decide) hx hb dX10_walks_214 (by decide) (fun c214_ => ?_) (fun h9 => absurd h9 (by decide))
    refine lv_iload hx hb dX10_walks_237 (lv_at hl 7 rfl) ?_
    refine lv_iconst (v := iZ 3) hx hb dX10_walks_239 rfl ?_
    refine fz_icmp_ne (tgt := 262) (by decide) (by decide) hx hb dX10_walks_240 (by decide) (fun c240_ => ?_) (fun h9 => absurd h9 (by decide))
    refine lv_iload hx hb dX10_walks_262 (lv_at hl 7 rfl) ?_
    refine lv_iconst (v := iZ 4) hx hb dX10_walks_264 rfl ?_
    refine fz_icmp_ne (tgt := 277) (by decide) (by decide) hx hb dX10_walks_265 (by decide) (fun c265_ => ?_) (fun h9 => absurd h9 (by decide))
    refine lv_iload hx hb dX10_walks_277 (lv_at hl 7 rfl) ?_
    refine lv_iconst (v := iZ 5) hx hb dX10_walks_279 rfl ?_
    refine fz_icmp_ne (tgt := 292) (by decide) (by decide) hx hb dX10_walks_280 (by decide) (fun h9 => absurd h9 (by decide)) (fun c280_ => ?_)
    refine lv_aload_n hx hb dX10_walks_283 rfl (lv_at hl 13 rfl) ?_
    refine lv_iload hx hb dX10_walks_284 (lv_at hl 3 rfl) ?_
    refine lv_iload hx hb dX10_walks_286 (lv_at hl 5 rfl) ?_
    refine lv_iload_n hx hb dX10_walks_288 rfl (lv_at hl 11 rfl) ?_
    refine va_callv (va_runV (As := [.int (iZ (u1)), .int (iZ (x93_0)), .int (iZ (o1))]) (rest := []) ⟨hx, hb, hml, hown, hts⟩ (m_copies l dC dI cI cZ cII cIII h0 H.size μa (u1) (x93_0) (o1) (1 + (rN lb : Int)) (by first | assumption | omega | exact ⟨by omega, by omega⟩) (by first | assumption | omega | exact ⟨by omega, by omega⟩) (by first | assumption | omega | exact ⟨by omega, by omega⟩) (by intro h; omega) (by intro h; have h9 := wSt_cap hO hcap h; rw [rN_in] at h9; omega) (by intro h; exact pIo.2.2.1)) (cwV 3 hts (gV_G k1412 k1414 ks_yX10_copies k13 k1415) rfl rfl rfl (by decide +kernel) ⟨by show 2 + 1 ≤ _; omega, by show 8 + (6 + 11) + (38) ≤ _; omega⟩) ⟨fun a U g mk q => by obtain ⟨q0, q1, qP, qK⟩ := q; exact ⟨q0, q1, qP, va_K.moved (u := U) (U := U.calling g mk a) (Vm.Alike.refl U.vm) qK⟩, va_recv hK hP (ci := 10) (q0 := 0) rfl ((fw_get (by decide)).trans (by rw [mE_obj]; rfl)), fun U hU hW => ⟨rfl, by rw [hU], by rw [hU]; exact hP, va_K.moved hW.alike hK⟩⟩ rfl rfl hl.1 rfl (lv_room (Nat.le_of_ble_eq_true rfl)) dX10_walks_289 ⟨hRc, hRs⟩) hS (fun q _ h => fA_le hS.1 q h) (fA_le hS.1) (fun u9 t9 H1 locs ht9 hvm9 hw9 hB9 hz9 hk9 hS => ?_)
    obtain ⟨hP, -⟩ := hB9
    rw [ht9] at hP
    generalize H1 = H at hP hS ⊢
    obtain ⟨μp, eμp⟩ : ∃ x : va_M, x = u9 := ⟨_, rfl⟩
    rw [← eμp] at hP hw9
    have hμp := hw9; clear hw9
    have hN := wSt_it1 hO (by omega) (by omega) (layO_cp hμp pIo rfl)
    refine lv_iload hx hb dX10_walks_292 (lv_at hl 8 rfl) ?_
    refine lv_iload hx hb dX10_walks_294 (lv_at hl 7 rfl) ?_
    refine lv_iconst (v := iZ 3) hx hb dX10_walks_296 rfl ?_
    refine fz_icmp_gt (tgt := 320) (by decide) (by decide) hx hb dX10_walks_297 (by decide) (fun c297_ => ?_) (fun h9 => absurd h9 (by decide))
    refine lv_iconst (v := iZ 1) hx hb dX10_walks_320 rfl ?_
    refine lv_goto (tgt := 325) hx hb dX10_walks_321 (by decide) ?_
    refine lv_iand hx hb dX10_walks_325 ?_
    refine lv_topi (fun x9 ex9 => ?_)
    obtain ⟨z2, rfl, hz2⟩ := iZ_ex x9
    have ez2 := ex9; clear ex9
    refine lv_istore (lv' := [(7, .int (iZ (z2))), (5, .int (iZ (5))), (6, .int (iZ (ya))), (13, .int (iZ (1))), (12, .int (iZ (u1))), (11, .int (iZ (t))), (10, .int (iZ (x93_0))), (9, .int (iZ (x67_0))), (8, .int (iZ (5))), (4, .int (iZ (j))), (3, .int (iZ (i))), (2, .int (iZ (o1))), (1, .int (iZ (n))), (0, .ref h0)]) hx hb dX10_walks_326 hl (by decide) rfl (fun ls hl => ?_)
    refine lv_iload_n hx hb dX10_walks_328 rfl (lv_at hl 10 rfl) ?_
    refine lv_iload hx hb dX10_walks_329 (lv_at hl 8 rfl) ?_
    refine lv_iconst (v := iZ 3) hx hb dX10_walks_331 rfl ?_
    refine fz_icmp_ne (tgt := 346) (by decide) (by decide) hx hb dX10_walks_332 (by decide) (fun c332_ => ?_) (fun h9 => absurd h9 (by decide))
    refine lv_iload hx hb dX10_walks_346 (lv_at hl 8 rfl) ?_
    refine lv_iconst (v := iZ 5) hx hb dX10_walks_348 rfl ?_
    refine fz_icmp_ne (tgt := 356) (by decide) (by decide) hx hb dX10_walks_349 (by decide) (fun h9 => absurd h9 (by decide)) (fun c349_ => ?_)
    refine lv_iconst (v := iZ 0) hx hb dX10_walks_352 rfl ?_
    refine lv_goto (tgt := 357) hx hb dX10_walks_353 (by decide) ?_
    refine lv_iadd hx hb dX10_walks_357 ?_
    refine lv_topi (fun x9 ex9 => ?_)
    obtain rfl : x9 = iZ (i + 0) := ex9.trans (iZ_add _ _)
    refine lv_istore_n (lv' := [(3, .int (iZ (i + 0))), (7, .int (iZ (z2))), (5, .int (iZ (5))), (6, .int (iZ (ya))), (13, .int (iZ (1))), (12, .int (iZ (u1))), (11, .int (iZ (t))), (10, .int (iZ (x93_0))), (9, .int (iZ (x67_0))), (8, .int (iZ (5))), (4, .int (iZ (j))), (2, .int (iZ (o1))), (1, .int (iZ (n))), (0, .ref h0)]) hx hb dX10_walks_358 rfl hl (by decide) rfl (fun ls hl => ?_)
    refine lv_iload hx hb dX10_walks_359 (lv_at hl 10 rfl) ?_
    refine lv_iload hx hb dX10_walks_361 (lv_at hl 9 rfl) ?_
    refine lv_iconst (v := iZ 2) hx hb dX10_walks_363 rfl ?_
    refine fz_icmp_ne (tgt := 378) (by decide) (by decide) hx hb dX10_walks_364 (by decide) (fun c364_ => ?_) (fun h9 => absurd h9 (by decide))
    refine lv_iload hx hb dX10_walks_378 (lv_at hl 9 rfl) ?_
    refine lv_iconst (v := iZ 4) hx hb dX10_walks_380 rfl ?_
    refine fz_icmp_ne (tgt := 388) (by decide) (by decide) hx hb dX10_walks_381 (by decide) (fun c381_ => ?_) (fun h9 => absurd h9 (by decide))
    refine lv_iconst (v := iZ 1) hx hb dX10_walks_388 rfl ?_
    refine lv_iadd hx hb dX10_walks_389 ?_
    refine lv_topi (fun x9 ex9 => ?_)
    obtain rfl : x9 = iZ (j + 1) := ex9.trans (iZ_add _ _)
    refine lv_istore (lv' := [(4, .int (iZ (j + 1))), (3, .int (iZ (i + 0))), (7, .int (iZ (z2))), (5, .int (iZ (5))), (6, .int (iZ (ya))), (13, .int (iZ (1))), (12, .int (iZ (u1))), (11, .int (iZ (t))), (10, .int (iZ (x93_0))), (9, .int (iZ (x67_0))), (8, .int (iZ (5))), (2, .int (iZ (o1))), (1, .int (iZ (n))), (0, .ref h0)]) hx hb dX10_walks_390 hl (by decide) rfl (fun ls hl => ?_)
    refine lv_goto (tgt := 14) hx hb dX10_walks_392 (by decide) ?_
    exact ih (i + 0) (j + 1) (5) (ya) (z2) μp H locs ls (by
                rw [show (i + 0).toNat = i.toNat by omega, show (j + 1).toNat = j.toNat + 1 by omega, pS]
                exact hN) (by omega) (by omega) (by first | exact Or.inl rfl | exact Or.inr (Or.inl rfl) | exact Or.inr (Or.inr rfl)) (by
                rw [show (i + 0).toNat = i.toNat by omega, show (j + 1).toNat = j.toNat + 1 by omega, pS]
                obtain ⟨a1_, a2_, a3_, a4_, a5_⟩ := al_is (Or.inr rfl) hmn
                refine alI_and1 hz2 ez2 hal ((a5_ hy9).trans ?_)
                show tl5 lay (rdrop i.toNat wS) _ = _
                cases rdrop i.toNat wS <;> rfl) (by omega) hP hS (lv_sub hl [2, 4, 3, 0, 1, 11, 12, 13] rfl)
  · clear ho9
    refine lv_iload hx hb dX10_walks_111 (lv_at hl 4 rfl) ?_
    refine lv_iconst (v := iZ 5) hx hb dX10_walks_113 rfl ?_
    refine fz_icmp_eq (tgt := 137) (by decide) (by decide) hx hb dX10_walks_114 (by decide) (fun c114_ => ?_) (fun h9 => absurd h9 (by decide))
    rw [if_pos (show Int.toNat 5 = 5 from rfl)] at hwc
    dsimp only at hwc
    refine lv_iconst (v := iZ 1) hx hb dX10_walks_137 rfl ?_
    refine lv_goto (tgt := 142) hx hb dX10_walks_138 (by decide) ?_
    refine lv_istore (lv' := [(13, .int (iZ (1))), (12, .int (iZ (u1))), (11, .int (iZ (t))), (10, .int (iZ (x93_0))), (9, .int (iZ (x67_0))), (8, .int (iZ (5))), (7, .int (iZ (al))), (6, .int (iZ (y))), (5, .int (iZ (5))), (4, .int (iZ (j))), (3, .int (iZ (i))), (2, .int (iZ (o1))), (1, .int (iZ (n))), (0, .ref h0)]) hx hb dX10_walks_142 hl (by decide) rfl (fun ls hl => ?_)
    refine lv_iload hx hb dX10_walks_144 (lv_at hl 8 rfl) ?_
    refine fz_if_le (tgt := 171) (by decide) hx hb dX10_walks_146 (by decide) (fun h9 => absurd h9 (by decide)) (fun c146_ => ?_)
    refine lv_iload hx hb dX10_walks_149 (lv_at hl 0 rfl) ?_
    refine fz_if_eq (tgt := 161) (by decide) hx hb dX10_walks_151 (by decide) (fun h9 => absurd h9 (by decide)) (fun c151_ => ?_)
    refine lv_iload hx hb dX10_walks_154 (lv_at hl 8 rfl) ?_
    refine lv_iload hx hb dX10_walks_156 (lv_at hl 5 rfl) ?_
    refine fz_icmp_eq (tgt := 171) (by decide) (by decide) hx hb dX10_walks_158 (by decide) (fun c158_ => ?_) (fun h9 => absurd h9 (by decide))
    have hC := hwc
    have hLx := lvS_wSt hL hC (by omega) ht hu ho
    have pIA : IA μ u1.toNat x93_0.toNat kp vp lb := by rw [hx_p_]; exact IA_P hLx (by omega) hep
    refine lv_iload hx hb dX10_walks_171 (lv_at hl 0 rfl) ?_
    refine fz_if_eq (tgt := 194) (by decide) hx hb dX10_walks_173 (by decide) (fun h9 => absurd h9 (by decide)) (fun c173_ => ?_)
    refine lv_iload hx hb dX10_walks_176 (lv_at hl 8 rfl) ?_
    refine fz_if_ne (tgt := 194) (by decide) hx hb dX10_walks_178 (by decide) (fun c178_ => ?_) (fun h9 => absurd h9 (by decide))
    refine lv_iload hx hb dX10_walks_194 (lv_at hl 5 rfl) ?_
    refine lv_iconst (v := iZ 1) hx hb dX10_walks_196 rfl ?_
    refine fz_icmp_ne (tgt := 211) (by decide) (by decide) hx hb dX10_walks_197 (by decide) (fun c197_ => ?_) (fun h9 => absurd h9 (by decide))
    refine lv_iload hx hb dX10_walks_211 (lv_at hl 5 rfl) ?_
    refine lv_iconst (v := iZ 2) hx hb dX10_walks_213 rfl ?_
    refine fz_icmp_ne (tgt := 237) (by decide) (by decide) hx hb dX10_walks_214 (by decide) (fun c214_ => ?_) (fun h9 => absurd h9 (by decide))
    refine lv_iload hx hb dX10_walks_237 (lv_at hl 5 rfl) ?_
    refine lv_iconst (v := iZ 3) hx hb dX10_walks_239 rfl ?_
    refine fz_icmp_ne (tgt := 262) (by decide) (by decide) hx hb dX10_walks_240 (by decide) (fun c240_ => ?_) (fun h9 => absurd h9 (by decide))
    refine lv_iload hx hb dX10_walks_262 (lv_at hl 5 rfl) ?_
    refine lv_iconst (v := iZ 4) hx hb dX10_walks_264 rfl ?_
    refine fz_icmp_ne (tgt := 277) (by decide) (by decide) hx hb dX10_walks_265 (by decide) (fun c265_ => ?_) (fun h9 => absurd h9 (by decide))
    refine lv_iload hx hb dX10_walks_277 (lv_at hl 5 rfl) ?_
    refine lv_iconst (v := iZ 5) hx hb dX10_walks_279 rfl ?_
    refine fz_icmp_ne (tgt := 292) (by decide) (by decide) hx hb dX10_walks_280 (by decide) (fun h9 => absurd h9 (by decide)) (fun c280_ => ?_)
    refine lv_aload_n hx hb dX10_walks_283 rfl (lv_at hl 13 rfl) ?_
    refine lv_iload hx hb dX10_walks_284 (lv_at hl 1 rfl) ?_
    refine lv_iload hx hb dX10_walks_286 (lv_at hl 3 rfl) ?_
    refine lv_iload_n hx hb dX10_walks_288 rfl (lv_at hl 11 rfl) ?_
    refine va_callv (va_runV (As := [.int (iZ (u1)), .int (iZ (x93_0)), .int (iZ (o1))]) (rest := []) ⟨hx, hb, hml, hown, hts⟩ (m_copies l dC dI cI cZ cII cIII h0 H.size μ (u1) (x93_0) (o1) (1 + (rN lb : Int)) (by first | assumption | omega | exact ⟨by omega, by omega⟩) (by first | assumption | omega | exact ⟨by omega, by omega⟩) (by first | assumption | omega | exact ⟨by omega, by omega⟩) (by intro h; omega) (by intro h; have h9 := wSt_cap hC hcap h; rw [rN_in] at h9; omega) (by intro h; exact pIA.2.2.1)) (cwV 3 hts (gV_G k1412 k1414 ks_yX10_copies k13 k1415) rfl rfl rfl (by decide +kernel) ⟨by show 2 + 1 ≤ _; omega, by show 8 + (6 + 11) + (38) ≤ _; omega⟩) ⟨fun a U g mk q => by obtain ⟨q0, q1, qP, qK⟩ := q; exact ⟨q0, q1, qP, va_K.moved (u := U) (U := U.calling g mk a) (Vm.Alike.refl U.vm) qK⟩, va_recv hK hP (ci := 10) (q0 := 0) rfl ((fw_get (by decide)).trans (by rw [mE_obj]; rfl)), fun U hU hW => ⟨rfl, by rw [hU], by rw [hU]; exact hP, va_K.moved hW.alike hK⟩⟩ rfl rfl hl.1 rfl (lv_room (Nat.le_of_ble_eq_true rfl)) dX10_walks_289 ⟨hRc, hRs⟩) hS (fun q _ h => fA_le hS.1 q h) (fA_le hS.1) (fun u9 t9 H1 locs ht9 hvm9 hw9 hB9 hz9 hk9 hS => ?_)
    obtain ⟨hP, -⟩ := hB9
    rw [ht9] at hP
    generalize H1 = H at hP hS ⊢
    obtain ⟨μp, eμp⟩ : ∃ x : va_M, x = u9 := ⟨_, rfl⟩
    rw [← eμp] at hP hw9
    have hμp := hw9; clear hw9
    have hN := wSt_it1 hC (by omega) (by omega) (layO_cp hμp pIA rfl)
    refine lv_iload hx hb dX10_walks_292 (lv_at hl 6 rfl) ?_
    refine lv_iload hx hb dX10_walks_294 (lv_at hl 5 rfl) ?_
    refine lv_iconst (v := iZ 3) hx hb dX10_walks_296 rfl ?_
    refine fz_icmp_gt (tgt := 320) (by decide) (by decide) hx hb dX10_walks_297 (by decide) (fun c297_ => ?_) (fun h9 => absurd h9 (by decide))
    refine lv_iconst (v := iZ 1) hx hb dX10_walks_320 rfl ?_
    refine lv_goto (tgt := 325) hx hb dX10_walks_321 (by decide) ?_
    refine lv_iand hx hb dX10_walks_325 ?_
    refine lv_topi (fun x9 ex9 => ?_)
    obtain ⟨z3, rfl, hz3⟩ := iZ_ex x9
    have ez3 := ex9; clear ex9
    refine lv_istore (lv' := [(7, .int (iZ (z3))), (13, .int (iZ (1))), (12, .int (iZ (u1))), (11, .int (iZ (t))), (10, .int (iZ (x93_0))), (9, .int (iZ (x67_0))), (8, .int (iZ (5))), (6, .int (iZ (y))), (5, .int (iZ (5))), (4, .int (iZ (j))), (3, .int (iZ (i))), (2, .int (iZ (o1))), (1, .int (iZ (n))), (0, .ref h0)]) hx hb dX10_walks_326 hl (by decide) rfl (fun ls hl => ?_)
    refine lv_iload_n hx hb dX10_walks_328 rfl (lv_at hl 10 rfl) ?_
    refine lv_iload hx hb dX10_walks_329 (lv_at hl 6 rfl) ?_
    refine lv_iconst (v := iZ 3) hx hb dX10_walks_331 rfl ?_
    refine fz_icmp_ne (tgt := 346) (by decide) (by decide) hx hb dX10_walks_332 (by decide) (fun c332_ => ?_) (fun h9 => absurd h9 (by decide))
    refine lv_iload hx hb dX10_walks_346 (lv_at hl 6 rfl) ?_
    refine lv_iconst (v := iZ 5) hx hb dX10_walks_348 rfl ?_
    refine fz_icmp_ne (tgt := 356) (by decide) (by decide) hx hb dX10_walks_349 (by decide) (fun h9 => absurd h9 (by decide)) (fun c349_ => ?_)
    refine lv_iconst (v := iZ 0) hx hb dX10_walks_352 rfl ?_
    refine lv_goto (tgt := 357) hx hb dX10_walks_353 (by decide) ?_
    refine lv_iadd hx hb dX10_walks_357 ?_
    refine lv_topi (fun x9 ex9 => ?_)
    obtain rfl : x9 = iZ (i + 0) := ex9.trans (iZ_add _ _)
    refine lv_istore_n (lv' := [(3, .int (iZ (i + 0))), (7, .int (iZ (z3))), (13, .int (iZ (1))), (12, .int (iZ (u1))), (11, .int (iZ (t))), (10, .int (iZ (x93_0))), (9, .int (iZ (x67_0))), (8, .int (iZ (5))), (6, .int (iZ (y))), (5, .int (iZ (5))), (4, .int (iZ (j))), (2, .int (iZ (o1))), (1, .int (iZ (n))), (0, .ref h0)]) hx hb dX10_walks_358 rfl hl (by decide) rfl (fun ls hl => ?_)
    refine lv_iload hx hb dX10_walks_359 (lv_at hl 10 rfl) ?_
    refine lv_iload hx hb dX10_walks_361 (lv_at hl 7 rfl) ?_
    refine lv_iconst (v := iZ 2) hx hb dX10_walks_363 rfl ?_
    refine fz_icmp_ne (tgt := 378) (by decide) (by decide) hx hb dX10_walks_364 (by decide) (fun c364_ => ?_) (fun h9 => absurd h9 (by decide))
    refine lv_iload hx hb dX10_walks_378 (lv_at hl 7 rfl) ?_
    refine lv_iconst (v := iZ 4) hx hb dX10_walks_380 rfl ?_
    refine fz_icmp_ne (tgt := 388) (by decide) (by decide) hx hb dX10_walks_381 (by decide) (fun c381_ => ?_) (fun h9 => absurd h9 (by decide))
    refine lv_iconst (v := iZ 1) hx hb dX10_walks_388 rfl ?_
    refine lv_iadd hx hb dX10_walks_389 ?_
    refine lv_topi (fun x9 ex9 => ?_)
    obtain rfl : x9 = iZ (j + 1) := ex9.trans (iZ_add _ _)
    refine lv_istore (lv' := [(4, .int (iZ (j + 1))), (3, .int (iZ (i + 0))), (7, .int (iZ (z3))), (13, .int (iZ (1))), (12, .int (iZ (u1))), (11, .int (iZ (t))), (10, .int (iZ (x93_0))), (9, .int (iZ (x67_0))), (8, .int (iZ (5))), (6, .int (iZ (y))), (5, .int (iZ (5))), (2, .int (iZ (o1))), (1, .int (iZ (n))), (0, .ref h0)]) hx hb dX10_walks_390 hl (by decide) rfl (fun ls hl => ?_)
    refine lv_goto (tgt := 14) hx hb dX10_walks_392 (by decide) ?_
    exact ih (i + 0) (j + 1) (5) (y) (z3) μp H locs ls (by
                rw [show (i + 0).toNat = i.toNat by omega, show (j + 1).toNat = j.toNat + 1 by omega, pS]
                exact hN) (by omega) (by omega) (by first | exact Or.inl rfl | exact Or.inr (Or.inl rfl) | exact Or.inr (Or.inr rfl)) (by
                rw [show (i + 0).toNat = i.toNat by omega, show (j + 1).toNat = j.toNat + 1 by omega, pS]
                obtain ⟨a1_, a2_, a3_, a4_, a5_⟩ := al_is (Or.inr rfl) hmn
                refine alI_and1 hz3 ez3 hal ((a5_ hy9).trans ?_)
                show tl5 lay (rdrop i.toNat wS) _ = _
                cases rdrop i.toNat wS <;> rfl) (by omega) hP hS (lv_sub hl [2, 9, 10, 0, 1, 11, 12, 13] rfl)

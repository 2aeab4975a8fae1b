set_option maxRecDepth 100000 in
theorem k1560 : (Cond.methodLink "PageSkeletonModel" (277 : Nat) ({ cls := "PageSkeletonModel", name := "firstWay", desc := "(III)I" } : MethodName)) ∈ wsG := wsG_a7 120 rfl rfl
set_option maxRecDepth 100000 in
theorem k1562 : (Cond.instanceMethod ({ cls := "PageSkeletonModel", name := "firstWay", desc := "(III)I" } : MethodName)) ∈ wsG := wsG_a7 122 rfl rfl
set_option maxRecDepth 100000 in
theorem k1563 : (Cond.code ({ cls := "PageSkeletonModel", name := "firstWay", desc := "(III)I" } : MethodName) prog_12_method_39_code (5 : Nat) (Option.some FieldType.int)) ∈ wsG := wsG_a7 123 rfl rfl
set_option maxRecDepth 100000 in
theorem ks_yX10_firstWay : Cond.selects RX10 yX10_firstWay yX10_firstWay ∈ wsG := wsG_p 96 rfl rfl
theorem dX10_walks_0 : decode cX10_walks 0 = .ok (.iconst 0, 1) := by decide +kernel
theorem dX10_walks_1 : decode cX10_walks 1 = .ok (.istore_n 3, 1) := by decide +kernel
theorem dX10_walks_2 : decode cX10_walks 2 = .ok (.iconst 0, 1) := by decide +kernel
theorem dX10_walks_3 : decode cX10_walks 3 = .ok (.istore 4, 2) := by decide +kernel
theorem dX10_walks_5 : decode cX10_walks 5 = .ok (.iconst 0, 1) := by decide +kernel
theorem dX10_walks_6 : decode cX10_walks 6 = .ok (.istore 5, 2) := by decide +kernel
theorem dX10_walks_8 : decode cX10_walks 8 = .ok (.iconst 0, 1) := by decide +kernel
theorem dX10_walks_9 : decode cX10_walks 9 = .ok (.istore 6, 2) := by decide +kernel
theorem dX10_walks_11 : decode cX10_walks 11 = .ok (.iconst 1, 1) := by decide +kernel
theorem dX10_walks_12 : decode cX10_walks 12 = .ok (.istore 7, 2) := by decide +kernel
theorem dX10_walks_14 : decode cX10_walks 14 = .ok (.iload_n 3, 1) := by decide +kernel
theorem dX10_walks_15 : decode cX10_walks 15 = .ok (.aload_n 0, 1) := by decide +kernel
theorem dX10_walks_16 : decode cX10_walks 16 = .ok (.getfield 82, 3) := by decide +kernel
theorem dX10_walks_19 : decode cX10_walks 19 = .ok (.iload_n 1, 1) := by decide +kernel
theorem dX10_walks_20 : decode cX10_walks 20 = .ok (.iaload, 1) := by decide +kernel
theorem dX10_walks_21 : decode cX10_walks 21 = .ok (.if_icmp .lt 14, 3) := by decide +kernel
theorem dX10_walks_24 : decode cX10_walks 24 = .ok (.iload 4, 2) := by decide +kernel
theorem dX10_walks_26 : decode cX10_walks 26 = .ok (.aload_n 0, 1) := by decide +kernel
theorem dX10_walks_27 : decode cX10_walks 27 = .ok (.getfield 85, 3) := by decide +kernel
theorem dX10_walks_30 : decode cX10_walks 30 = .ok (.iload_n 1, 1) := by decide +kernel
theorem dX10_walks_31 : decode cX10_walks 31 = .ok (.iaload, 1) := by decide +kernel
theorem dX10_walks_32 : decode cX10_walks 32 = .ok (.if_icmp .ge 363, 3) := by decide +kernel
theorem dX10_walks_35 : decode cX10_walks 35 = .ok (.aload_n 0, 1) := by decide +kernel
theorem dX10_walks_36 : decode cX10_walks 36 = .ok (.iload_n 1, 1) := by decide +kernel
theorem dX10_walks_37 : decode cX10_walks 37 = .ok (.iload_n 3, 1) := by decide +kernel
theorem dX10_walks_38 : decode cX10_walks 38 = .ok (.iload 4, 2) := by decide +kernel
theorem dX10_walks_40 : decode cX10_walks 40 = .ok (.invokevirtual 277, 3) := by decide +kernel
theorem dX10_walks_43 : decode cX10_walks 43 = .ok (.istore 8, 2) := by decide +kernel
theorem dX10_walks_45 : decode cX10_walks 45 = .ok (.iload_n 3, 1) := by decide +kernel
theorem dX10_walks_46 : decode cX10_walks 46 = .ok (.aload_n 0, 1) := by decide +kernel
theorem dX10_walks_47 : decode cX10_walks 47 = .ok (.getfield 82, 3) := by decide +kernel
theorem dX10_walks_50 : decode cX10_walks 50 = .ok (.iload_n 1, 1) := by decide +kernel
theorem dX10_walks_51 : decode cX10_walks 51 = .ok (.iaload, 1) := by decide +kernel
theorem dX10_walks_52 : decode cX10_walks 52 = .ok (.if_icmp .ge 14, 3) := by decide +kernel
theorem dX10_walks_55 : decode cX10_walks 55 = .ok (.aload_n 0, 1) := by decide +kernel
theorem dX10_walks_56 : decode cX10_walks 56 = .ok (.getfield 64, 3) := by decide +kernel
theorem dX10_walks_59 : decode cX10_walks 59 = .ok (.iload_n 1, 1) := by decide +kernel
theorem dX10_walks_60 : decode cX10_walks 60 = .ok (.aaload, 1) := by decide +kernel
theorem dX10_walks_61 : decode cX10_walks 61 = .ok (.iload_n 3, 1) := by decide +kernel
theorem dX10_walks_62 : decode cX10_walks 62 = .ok (.iaload, 1) := by decide +kernel
theorem dX10_walks_63 : decode cX10_walks 63 = .ok (.goto 4, 3) := by decide +kernel
theorem dX10_walks_66 : decode cX10_walks 66 = .ok (.iconst (-1), 1) := by decide +kernel
theorem dX10_walks_67 : decode cX10_walks 67 = .ok (.istore 9, 2) := by decide +kernel
theorem dX10_walks_69 : decode cX10_walks 69 = .ok (.iload 4, 2) := by decide +kernel
theorem dX10_walks_71 : decode cX10_walks 71 = .ok (.aload_n 0, 1) := by decide +kernel
theorem dX10_walks_72 : decode cX10_walks 72 = .ok (.getfield 85, 3) := by decide +kernel
theorem dX10_walks_75 : decode cX10_walks 75 = .ok (.iload_n 1, 1) := by decide +kernel
theorem dX10_walks_76 : decode cX10_walks 76 = .ok (.iaload, 1) := by decide +kernel
theorem dX10_walks_77 : decode cX10_walks 77 = .ok (.if_icmp .ge 15, 3) := by decide +kernel
theorem dX10_walks_80 : decode cX10_walks 80 = .ok (.aload_n 0, 1) := by decide +kernel
theorem dX10_walks_81 : decode cX10_walks 81 = .ok (.getfield 67, 3) := by decide +kernel
theorem dX10_walks_84 : decode cX10_walks 84 = .ok (.iload_n 1, 1) := by decide +kernel
theorem dX10_walks_85 : decode cX10_walks 85 = .ok (.aaload, 1) := by decide +kernel
theorem dX10_walks_86 : decode cX10_walks 86 = .ok (.iload 4, 2) := by decide +kernel
theorem dX10_walks_88 : decode cX10_walks 88 = .ok (.iaload, 1) := by decide +kernel
theorem dX10_walks_89 : decode cX10_walks 89 = .ok (.goto 4, 3) := by decide +kernel
theorem dX10_walks_92 : decode cX10_walks 92 = .ok (.iconst (-1), 1) := by decide +kernel
theorem dX10_walks_93 : decode cX10_walks 93 = .ok (.istore 10, 2) := by decide +kernel
theorem dX10_walks_95 : decode cX10_walks 95 = .ok (.aload_n 0, 1) := by decide +kernel
theorem dX10_walks_96 : decode cX10_walks 96 = .ok (.getfield 76, 3) := by decide +kernel
theorem dX10_walks_99 : decode cX10_walks 99 = .ok (.iload_n 1, 1) := by decide +kernel
theorem dX10_walks_100 : decode cX10_walks 100 = .ok (.iaload, 1) := by decide +kernel
theorem dX10_walks_101 : decode cX10_walks 101 = .ok (.istore 11, 2) := by decide +kernel
theorem dX10_walks_103 : decode cX10_walks 103 = .ok (.aload_n 0, 1) := by decide +kernel
theorem dX10_walks_104 : decode cX10_walks 104 = .ok (.getfield 79, 3) := by decide +kernel
theorem dX10_walks_107 : decode cX10_walks 107 = .ok (.iload_n 1, 1) := by decide +kernel
theorem dX10_walks_108 : decode cX10_walks 108 = .ok (.iaload, 1) := by decide +kernel
theorem dX10_walks_109 : decode cX10_walks 109 = .ok (.istore 12, 2) := by decide +kernel
theorem dX10_walks_395 : decode cX10_walks 395 = .ok (.iload 5, 2) := by decide +kernel
theorem dX10_walks_397 : decode cX10_walks 397 = .ok (.ifCond .le 10, 3) := by decide +kernel
theorem dX10_walks_400 : decode cX10_walks 400 = .ok (.aload_n 0, 1) := by decide +kernel
theorem dX10_walks_401 : decode cX10_walks 401 = .ok (.iload_n 2, 1) := by decide +kernel
theorem dX10_walks_402 : decode cX10_walks 402 = .ok (.iload 6, 2) := by decide +kernel
theorem dX10_walks_404 : decode cX10_walks 404 = .ok (.invokevirtual 219, 3) := by decide +kernel
theorem dX10_walks_407 : decode cX10_walks 407 = .ok (.aload_n 0, 1) := by decide +kernel
theorem dX10_walks_408 : decode cX10_walks 408 = .ok (.iload 7, 2) := by decide +kernel
theorem dX10_walks_410 : decode cX10_walks 410 = .ok (.putfield 264, 3) := by decide +kernel
theorem dX10_walks_413 : decode cX10_walks 413 = .ok (.return_, 1) := by decide +kernel
set_option maxHeartbeats 40000000 in
set_option maxRecDepth 100000 in
theorem LX10_walks_14 {p : Program} {l : Launch} {e : Env} {R : Room} {s : State} {m : MethodId} {args : Array Value} {below : List Frame} {meth : Method} {c : Code} {cells slots : Nat} {Q : State → Prop} {dC : Nat → ClassId} {dI : Nat → Nat → Nat} {h0 : Nat} {cI cZ cII cIII : ClassId} {d9 : Nat} (hx : p.tables.exec = Jvm.exec) (hb : c.code = cX10_walks) (hml : c.maxLocals = 14) (hown : s.vm.findClass RX10 = some m.cls) (hts : ∀ w ∈ wsG, w.before args s = true) (hK : va_K (dC, dI) vwCl (mT cI cZ cII cIII) s) (hRf : 5 * d9 + 32 + 1 + 1 + 1 + 1 ≤ R.frames) (hRl : 200 * d9 + 900 + 40 + 40 + 40 + 40 ≤ R.locals) (hRc : cells ≤ R.cells) (hRs : slots ≤ R.slots) (μ0 : va_M) (n : Int) (o1 : Int) (t : Int) (u1 : Int) (wS : Rw) (wP : Rw) (ps : Int) (pq : Int) (hLR : ∀ (sz : Nat) (μ : va_M) (n : Int) (t : Int) (a1 : Int) (a2 : Int) (u1 : Int) (b1 : Int) (b2 : Int) (o1 : Int) (wS : Rw) (wP : Rw), (0 ≤ n ∧ n + rH wP ≤ 13) → (0 ≤ t ∧ t < 70) → (0 ≤ u1 ∧ u1 < 70) → (0 ≤ a1 ∧ a2 = a1 + rN wS ∧ a2 ≤ 900) → (0 ≤ b1 ∧ b2 = b1 + rN wP ∧ b2 ≤ 900) → (RA μ t.toNat wS a1.toNat) → (RA μ u1.toNat wP b1.toNat) → (rWF wS) → (rWF wP) → (rL wS ≤ 259 ∧ rL wP ≤ 60 ∧ rH wS ≤ 20) → (-1 ≤ o1 ∧ o1 < 70 ∧ o1 ≠ t ∧ o1 ≠ u1) → (capI2 o1 (μ 719 o1.toNat) (rN (lrow wS wP))) → (rH wP < d9) → Met l yX10_laysRow (Cond.code yX10_laysRow cX10_laysRow 13 (some .int) :: wsG) ({ frames := 5 * d9 + 32, cells := 0, slots := 0, locals := 200 * d9 + 900 } : Room) (va_Pc [.ref h0, .int (iZ (n)), .int (iZ (t)), .int (iZ (a1)), .int (iZ (a2)), .int (iZ (u1)), .int (iZ (b1)), .int (iZ (b2)), .int (iZ (o1))] (fun U => U.heap.size = sz ∧ va_P (dC, dI) vwCl (fw (mE cI cZ cII cIII h0) h0 6325 μ) U.heap ∧ va_K (dC, dI) vwCl (mT cI cZ cII cIII) U)) (va_Qi (fun (r9 : Int32) (u : va_M × Int) => r9 = iZ u.2 ∧ (fun (u : va_M) (r : Int) => r = (lay wS wP).1 ∧ u 0 33 = (if (lay wS wP).2 = true then 1 else 0) ∧ layO μ u n.toNat o1 (lrow wS wP)) u.1 u.2) (fun u t => va_P (dC, dI) vwCl (fw (mE cI cZ cII cIII h0) h0 6325 u.1) t.heap ∧ va_K (dC, dI) vwCl (mT cI cZ cII cIII) t) (fA h0 6325 sz)) 0 0 (fA h0 6325 sz)) (hn : 0 ≤ n ∧ n + rH wP ≤ 13) (hL : lvS μ0 n.toNat t u1 wS wP ps pq) (ht : 0 ≤ t ∧ t < 70) (hu : 0 ≤ u1 ∧ u1 < 70) (htu : t ≠ -1 ∧ u1 ≠ -1) (hps : 0 ≤ ps ∧ ps + rN wS ≤ 900) (hpq : 0 ≤ pq ∧ pq + rN wP ≤ 900) (hwS : rWF wS) (hwP : rWF wP) (h260 : rL wS ≤ 259 ∧ rL wP ≤ 60 ∧ rH wS ≤ 20) (hd : rH wP ≤ d9) (hle : leB μ0 n.toNat wS wP 0 0) (ho : -1 ≤ o1 ∧ o1 < 70 ∧ o1 ≠ t ∧ o1 ≠ u1) (hcap : capI2 o1 (μ0 719 o1.toNat) (rN (lrow wS wP))) (hexit395 : ∀ (i : Int) (j : Int) (o : Int) (y : Int) (al : Int) (μ : va_M) (H : Heap) (locs : List Loc) (ls : Array Slot), (wSt μ0 μ n.toNat o1 (μ0 719 o1.toNat) (lrow wS wP) o y .leaf .leaf) → (o = 0 ∨ o = 4 ∨ o = 5) → (alI al .leaf .leaf wS wP) → va_P (dC, dI) vwCl (fw (mE cI cZ cII cIII h0) h0 6325 μ) H → va_S (fA h0 6325 s.heap.size) s.heap H locs → lv_has ls 14 [(7, .int (iZ (al))), (6, .int (iZ (y))), (5, .int (iZ (o))), (2, .int (iZ (o1))), (1, .int (iZ (n))), (0, .ref h0)] → W p l e R s m args below meth c H locs cells slots Q (F0 m 395 ls [])) :
    ∀ (n9 : Nat) (i : Int) (j : Int) (o : Int) (y : Int) (al : Int) (μ : va_M) (H : Heap) (locs : List Loc) (ls : Array Slot), (wSt μ0 μ n.toNat o1 (μ0 719 o1.toNat) (lrow wS wP) o y (wk o.toNat (rdrop i.toNat wS) (rdrop j.toNat wP)).1 (wk o.toNat (rdrop i.toNat wS) (rdrop j.toNat wP)).2) → (0 ≤ i ∧ i ≤ rI wS) → (0 ≤ j ∧ j ≤ rI wP) → (o = 0 ∨ o = 4 ∨ o = 5) → (alI al (rdrop i.toNat wS) (rdrop j.toNat wP) wS wP) → (rI wS - i + (rI wP - j)).toNat < n9 → va_P (dC, dI) vwCl (fw (mE cI cZ cII cIII h0) h0 6325 μ) H → va_S (fA h0 6325 s.heap.size) s.heap H locs → lv_has ls 14 [(7, .int (iZ (al))), (6, .int (iZ (y))), (5, .int (iZ (o))), (4, .int (iZ (j))), (3, .int (iZ (i))), (2, .int (iZ (o1))), (1, .int (iZ (n))), (0, .ref h0)] → W p l e R s m args below meth c H locs cells slots Q (F0 m 14 ls []) := by
  intro n9
  induction n9 with
  | zero => intro i j o y al μ H locs ls hw hi hj ho9 hal hm9 hP hS hl; exact absurd hm9 (Nat.not_lt_zero _)
  | succ n9 ih =>
    intro i j o y al μ H locs ls hw hi hj ho9 hal hm9 hP hS hl
    have hIS := rI_L wS hwS
    have hIP := rI_L wP hwP
    have hL9 := lvS_wSt hL hw (by show_term (have zq0 : True := trivial; omega)) ht hu ho
    have hl9_ := leB_wSt hle hw (by show_term (have zq1 : True := trivial; omega)) (by show_term (have zq2 : True := trivial; omega)) (by show_term (have zq3 : True := trivial; omega)) i.toNat j.toNat
    have j35_ : (i < (rI wS : Int) ∨ j < (rI wP : Int)) → W p l e R s m args below meth c H locs cells slots Q (F0 m 35 ls []) := by
      intro  hj35_0
      refine lv_aload_n hx hb dX10_walks_35 rfl (lv_at hl 7 rfl) ?_
      refine lv_iload_n hx hb dX10_walks_36 rfl (lv_at hl 6 rfl) ?_
      refine lv_iload_n hx hb dX10_walks_37 rfl (lv_at hl 4 rfl) ?_
      refine lv_iload hx hb dX10_walks_38 (lv_at hl 3 rfl) ?_
      refine va_calli (va_runV (As := [.int (iZ (n)), .int (iZ (i)), .int (iZ (j))]) (rest := []) ⟨hx, hb, hml, hown, hts⟩ (m_firstWay l dC dI cI cZ cII cIII h0 (d9) H.size μ (n) (i) (j) (t) (u1) (wS) (wP) (ps) (pq) (by exact hLR) (by first | assumption | show_term (have zq4 : True := trivial; omega) | exact ⟨by show_term (have zq5 : True := trivial; omega), by show_term (have zq6 : True := trivial; omega)⟩) (by exact hL9) (by first | assumption | show_term (have zq7 : True := trivial; omega) | exact ⟨by show_term (have zq8 : True := trivial; omega), by show_term (have zq9 : True := trivial; omega)⟩) (by first | assumption | show_term (have zq10 : True := trivial; omega) | exact ⟨by show_term (have zq11 : True := trivial; omega), by show_term (have zq12 : True := trivial; omega)⟩) (by first | assumption | show_term (have zq13 : True := trivial; omega) | exact ⟨by show_term (have zq14 : True := trivial; omega), by show_term (have zq15 : True := trivial; omega)⟩) (by first | assumption | show_term (have zq16 : True := trivial; omega) | exact ⟨by show_term (have zq17 : True := trivial; omega), by show_term (have zq18 : True := trivial; omega)⟩) (by first | assumption | show_term (have zq19 : True := trivial; omega) | exact ⟨by show_term (have zq20 : True := trivial; omega), by show_term (have zq21 : True := trivial; omega)⟩) (by first | assumption | show_term (have zq22 : True := trivial; omega) | exact ⟨by show_term (have zq23 : True := trivial; omega), by show_term (have zq24 : True := trivial; omega)⟩) (by first | assumption | show_term (have zq25 : True := trivial; omega) | exact ⟨by show_term (have zq26 : True := trivial; omega), by show_term (have zq27 : True := trivial; omega)⟩) (by first | assumption | show_term (have zq28 : True := trivial; omega) | exact ⟨by show_term (have zq29 : True := trivial; omega), by show_term (have zq30 : True := trivial; omega)⟩) (by first | assumption | show_term (have zq31 : True := trivial; omega) | exact ⟨by show_term (have zq32 : True := trivial; omega), by show_term (have zq33 : True := trivial; omega)⟩) (by exact hl9_) (by first | assumption | show_term (have zq34 : True := trivial; omega) | exact ⟨by show_term (have zq35 : True := trivial; omega), by show_term (have zq36 : True := trivial; omega)⟩) (by first | assumption | show_term (have zq37 : True := trivial; omega) | exact ⟨by show_term (have zq38 : True := trivial; omega), by show_term (have zq39 : True := trivial; omega)⟩) (by exact hj35_0)) (cwV 3 hts (gV_G k1560 k1562 ks_yX10_firstWay k13 k1563) rfl rfl rfl (by decide +kernel) ⟨by show 5 * d9 + 32 + 1 + 1 + 1 + 1 ≤ _; show_term (have zq40 : True := trivial; omega), by show 8 + (5 + 11) + (200 * d9 + 900 + 40 + 40 + 40) ≤ _; show_term (have zq41 : True := trivial; omega)⟩) ⟨fun a U g mk q => by obtain ⟨q0, q1, qP, qK⟩ := q; exact ⟨q0, q1, qP, va_K.moved (u := U) (U := U.calling g mk a) (Vm.Alike.refl U.vm) qK⟩, va_recv hK hP (ci := 10) (q0 := 0) rfl ((fw_get (by decide)).trans (by rw [mE_obj]; rfl)), fun U hU hW => ⟨rfl, by rw [hU], by rw [hU]; exact hP, va_K.moved hW.alike hK⟩⟩ rfl rfl hl.1 rfl (lv_room (Nat.le_of_ble_eq_true rfl)) dX10_walks_40 ⟨hRc, hRs⟩) hS (fun q _ h => fA_le hS.1 q h) (fA_le hS.1) (fun r9 u9 t9 H1 locs ht9 hvm9 hw9 hB9 hz9 hk9 hS => ?_)
      obtain ⟨μc, rq⟩ := u9
      obtain ⟨hP, -⟩ := hB9
      rw [ht9] at hP
      generalize H1 = H at hP hS ⊢
      obtain ⟨e9, hw9⟩ := hw9
      have e9 : r9 = iZ rq := e9
      subst e9
      simp only at hP hw9
      have hμc := hw9; clear hw9
      obtain ⟨z1, z2⟩ := hμc
      have hwc := wSt_LD hw z2 (by show_term (have zq42 : True := trivial; omega))
      have hLc := lvS_wSt hL hwc (by show_term (have zq43 : True := trivial; omega)) ht hu ho
      have hmn : wmin lay (rdrop i.toNat wS) (rdrop j.toNat wP) < 1000000 := wmin_lt (by
        have h4 := rdrop_N2 i.toNat wS
        have h5 := rdrop_N2 j.toNat wP
        show_term (have zq44 : True := trivial; omega))
      have hne9 : hsd (rdrop i.toNat wS) = true ∨ hsd (rdrop j.toNat wP) = true := by
        rw [hsd_I, hsd_I, rdrop_I, rdrop_I]
        show_term (have zq45 : True := trivial; omega)
      have hrr := (way_is hne9 hmn).1
      have hrr2 := (way_is hne9 hmn).2.1
      refine lv_istore (lv' := [(8, .int (iZ (rq))), (7, .int (iZ (al))), (6, .int (iZ (y))), (5, .int (iZ (o))), (4, .int (iZ (j))), (3, .int (iZ (i))), (2, .int (iZ (o1))), (1, .int (iZ (n))), (0, .ref h0)]) hx hb dX10_walks_43 hl (by decide) rfl (fun ls hl => ?_)
      have j67_ : ∀ (x67_0 : Int), (i < (rI wS : Int) → x67_0 = ps + (rO wS i.toNat : Int)) → W p l e R s m args below meth c H locs cells slots Q (F0 m 67 ls [.int (iZ (x67_0))]) := by
        intro x67_0 hj67_0
        refine lv_istore (lv' := [(9, .int (iZ (x67_0))), (8, .int (iZ (rq))), (7, .int (iZ (al))), (6, .int (iZ (y))), (5, .int (iZ (o))), (4, .int (iZ (j))), (3, .int (iZ (i))), (2, .int (iZ (o1))), (1, .int (iZ (n))), (0, .ref h0)]) hx hb dX10_walks_67 hl (by decide) rfl (fun ls hl => ?_)
        have j93_ : ∀ (x93_0 : Int), (j < (rI wP : Int) → x93_0 = pq + (rO wP j.toNat : Int)) → W p l e R s m args below meth c H locs cells slots Q (F0 m 93 ls [.int (iZ (x93_0))]) := by
          intro x93_0 hj93_0
          refine lv_istore (lv' := [(10, .int (iZ (x93_0))), (9, .int (iZ (x67_0))), (8, .int (iZ (rq))), (7, .int (iZ (al))), (6, .int (iZ (y))), (5, .int (iZ (o))), (4, .int (iZ (j))), (3, .int (iZ (i))), (2, .int (iZ (o1))), (1, .int (iZ (n))), (0, .ref h0)]) hx hb dX10_walks_93 hl (by decide) rfl (fun ls hl => ?_)
          refine lv_aload_n hx hb dX10_walks_95 rfl (lv_at hl 10 rfl) ?_
          refine fz_get (D := (dC, dI)) (ci := 10) (v := .ref (h0 + 4408)) (C := RX10) (T := TX10) (N := 53) hx hb hts inG10 hown hK hP (k := 0) (by decide) (F := mF h0) mE_obj rfl 34 (by decide) (hts _ k1200) (fun _ h9 => h9) rfl dX10_walks_96 ?_
          refine lv_iload_n hx hb dX10_walks_99 rfl (lv_at hl 9 rfl) ?_
          refine fz_ld (k := 4408) (n := 14) hx hb hK hP 0 (by decide) mE_treeS rfl ⟨by show_term (have zq46 : True := trivial; omega), by show_term (have zq47 : True := trivial; omega)⟩ (by decide) dX10_walks_100 ?_
          rw [show μc 4408 (n).toNat = t from (by exact hLc.1)]
          refine lv_istore (lv' := [(11, .int (iZ (t))), (10, .int (iZ (x93_0))), (9, .int (iZ (x67_0))), (8, .int (iZ (rq))), (7, .int (iZ (al))), (6, .int (iZ (y))), (5, .int (iZ (o))), (4, .int (iZ (j))), (3, .int (iZ (i))), (2, .int (iZ (o1))), (1, .int (iZ (n))), (0, .ref h0)]) hx hb dX10_walks_101 hl (by decide) rfl (fun ls hl => ?_)
          refine lv_aload_n hx hb dX10_walks_103 rfl (lv_at hl 11 rfl) ?_
          refine fz_get (D := (dC, dI)) (ci := 10) (v := .ref (h0 + 4409)) (C := RX10) (T := TX10) (N := 53) hx hb hts inG10 hown hK hP (k := 0) (by decide) (F := mF h0) mE_obj rfl 35 (by decide) (hts _ k1201) (fun _ h9 => h9) rfl dX10_walks_104 ?_
          refine lv_iload_n hx hb dX10_walks_107 rfl (lv_at hl 10 rfl) ?_
          refine fz_ld (k := 4409) (n := 14) hx hb hK hP 0 (by decide) mE_treeP rfl ⟨by show_term (have zq48 : True := trivial; omega), by show_term (have zq49 : True := trivial; omega)⟩ (by decide) dX10_walks_108 ?_
          rw [show μc 4409 (n).toNat = u1 from (by exact hLc.2.1)]
          refine lv_istore (lv' := [(12, .int (iZ (u1))), (11, .int (iZ (t))), (10, .int (iZ (x93_0))), (9, .int (iZ (x67_0))), (8, .int (iZ (rq))), (7, .int (iZ (al))), (6, .int (iZ (y))), (5, .int (iZ (o))), (4, .int (iZ (j))), (3, .int (iZ (i))), (2, .int (iZ (o1))), (1, .int (iZ (n))), (0, .ref h0)]) hx hb dX10_walks_109 hl (by decide) rfl (fun ls hl => ?_)
          rcases (show rq = 1 ∨ rq = 2 ∨ rq = 3 ∨ rq = 4 ∨ rq = 5 from by show_term (have zq50 : True := trivial; omega)) with rfl | rfl | rfl | rfl | rfl
          · exact LX10_walks_w1 hx hb hml hown hts hK hRf hRl hRc hRs μ0 n o1 t u1 wS wP ps pq hLR hn hL ht hu htu hps hpq hwS hwP h260 hd hle ho hcap n9 i j o y al μc x67_0 x93_0 hwc hLc hmn hne9 hj35_0 hj67_0 hj93_0 hi hj ho9 hal (by show_term (have zq51 : True := trivial; omega)) hm9 ih H locs ls hP hS hl
          · exact LX10_walks_w2 hx hb hml hown hts hK hRf hRl hRc hRs μ0 n o1 t u1 wS wP ps pq hLR hn hL ht hu htu hps hpq hwS hwP h260 hd hle ho hcap n9 i j o y al μc x67_0 x93_0 hwc hLc hmn hne9 hj35_0 hj67_0 hj93_0 hi hj ho9 hal (by show_term (have zq52 : True := trivial; omega)) hm9 ih H locs ls hP hS hl
          · exact LX10_walks_w3 hx hb hml hown hts hK hRf hRl hRc hRs μ0 n o1 t u1 wS wP ps pq hLR hn hL ht hu htu hps hpq hwS hwP h260 hd hle ho hcap n9 i j o y al μc x67_0 x93_0 hwc hLc hmn hne9 hj35_0 hj67_0 hj93_0 hi hj ho9 hal (by show_term (have zq53 : True := trivial; omega)) hm9 ih H locs ls hP hS hl
          · exact LX10_walks_w4 hx hb hml hown hts hK hRf hRl hRc hRs μ0 n o1 t u1 wS wP ps pq hLR hn hL ht hu htu hps hpq hwS hwP h260 hd hle ho hcap n9 i j o y al μc x67_0 x93_0 hwc hLc hmn hne9 hj35_0 hj67_0 hj93_0 hi hj ho9 hal (by show_term (have zq54 : True := trivial; omega)) hm9 ih H locs ls hP hS hl
          · exact LX10_walks_w5 hx hb hml hown hts hK hRf hRl hRc hRs μ0 n o1 t u1 wS wP ps pq hLR hn hL ht hu htu hps hpq hwS hwP h260 hd hle ho hcap n9 i j o y al μc x67_0 x93_0 hwc hLc hmn hne9 hj35_0 hj67_0 hj93_0 hi hj ho9 hal (by show_term (have zq55 : True := trivial; omega)) hm9 ih H locs ls hP hS hl
        refine lv_iload hx hb dX10_walks_69 (lv_at hl 5 rfl) ?_
        refine lv_aload_n hx hb dX10_walks_71 rfl (lv_at hl 9 rfl) ?_
        refine fz_get (D := (dC, dI)) (ci := 10) (v := .ref (h0 + 4411)) (C := RX10) (T := TX10) (N := 53) hx hb hts inG10 hown hK hP (k := 0) (by decide) (F := mF h0) mE_obj rfl 37 (by decide) (hts _ k1203) (fun _ h9 => h9) rfl dX10_walks_72 ?_
        refine lv_iload_n hx hb dX10_walks_75 rfl (lv_at hl 8 rfl) ?_
        refine fz_ld (k := 4411) (n := 14) hx hb hK hP 0 (by decide) mE_manyP rfl ⟨by show_term (have zq56 : True := trivial; omega), by show_term (have zq57 : True := trivial; omega)⟩ (by decide) dX10_walks_76 ?_
        rw [show μc 4411 (n).toNat = (rI wP : Int) from (by exact hLc.2.2.2.1)]
        refine fz_icmp_ge (tgt := 92) (by constructor <;> show_term (have zq58 : True := trivial; omega)) (by constructor <;> show_term (have zq59 : True := trivial; omega)) hx hb dX10_walks_77 (by decide) (fun c77_ => ?_) (fun c77_ => ?_)
        · refine lv_iconst (v := iZ (-1)) hx hb dX10_walks_92 rfl ?_
          exact j93_ ((-1)) (by intro h; show_term (have zq60 : True := trivial; omega))
        · refine lv_aload_n hx hb dX10_walks_80 rfl (lv_at hl 9 rfl) ?_
          refine fz_get (D := (dC, dI)) (ci := 10) (v := .ref (h0 + 737)) (C := RX10) (T := TX10) (N := 53) hx hb hts inG10 hown hK hP (k := 0) (by decide) (F := mF h0) mE_obj rfl 30 (by decide) (hts _ k1196) (fun _ h9 => h9) rfl dX10_walks_81 ?_
          refine lv_iload_n hx hb dX10_walks_84 rfl (lv_at hl 8 rfl) ?_
          refine fz_ald (k := 737) (n := 14) (k2 := (738 + (n).toNat)) hx hb hK hP 2 rfl (by decide) mE_rowP rfl ⟨by show_term (have zq61 : True := trivial; omega), by show_term (have zq62 : True := trivial; omega)⟩ (by decide) (if_pos (by show_term (have zq63 : True := trivial; omega))) dX10_walks_85 ?_
          refine lv_iload hx hb dX10_walks_86 (lv_at hl 5 rfl) ?_
          refine fz_ld (k := (738 + (n).toNat)) (n := 260) hx hb hK hP 0 (by show_term (have zq64 : True := trivial; omega)) (mE_rowPR (by show_term (have zq65 : True := trivial; omega))) rfl ⟨by show_term (have zq66 : True := trivial; omega), by show_term (have zq67 : True := trivial; omega)⟩ (by decide) dX10_walks_88 ?_
          rw [show μc (738 + (n).toNat) (j).toNat = (pq + (rO wP j.toNat : Int)) from (by exact hLc.2.2.2.2.2.1 j.toNat (by show_term (have zq68 : True := trivial; omega)))]
          refine lv_goto (tgt := 93) hx hb dX10_walks_89 (by decide) ?_
          exact j93_ ((pq + (rO wP j.toNat : Int))) (by intro h; show_term (have zq69 : True := trivial; omega))
      refine lv_iload_n hx hb dX10_walks_45 rfl (lv_at hl 5 rfl) ?_
      refine lv_aload_n hx hb dX10_walks_46 rfl (lv_at hl 8 rfl) ?_
      refine fz_get (D := (dC, dI)) (ci := 10) (v := .ref (h0 + 4410)) (C := RX10) (T := TX10) (N := 53) hx hb hts inG10 hown hK hP (k := 0) (by decide) (F := mF h0) mE_obj rfl 36 (by decide) (hts _ k1202) (fun _ h9 => h9) rfl dX10_walks_47 ?_
      refine lv_iload_n hx hb dX10_walks_50 rfl (lv_at hl 7 rfl) ?_
      refine fz_ld (k := 4410) (n := 14) hx hb hK hP 0 (by decide) mE_manyS rfl ⟨by show_term (have zq70 : True := trivial; omega), by show_term (have zq71 : True := trivial; omega)⟩ (by decide) dX10_walks_51 ?_
      rw [show μc 4410 (n).toNat = (rI wS : Int) from (by exact hLc.2.2.1)]
      refine fz_icmp_ge (tgt := 66) (by constructor <;> show_term (have zq72 : True := trivial; omega)) (by constructor <;> show_term (have zq73 : True := trivial; omega)) hx hb dX10_walks_52 (by decide) (fun c52_ => ?_) (fun c52_ => ?_)
      · refine lv_iconst (v := iZ (-1)) hx hb dX10_walks_66 rfl ?_
        exact j67_ ((-1)) (by intro h; show_term (have zq74 : True := trivial; omega))
      · refine lv_aload_n hx hb dX10_walks_55 rfl (lv_at hl 8 rfl) ?_
        refine fz_get (D := (dC, dI)) (ci := 10) (v := .ref (h0 + 722)) (C := RX10) (T := TX10) (N := 53) hx hb hts inG10 hown hK hP (k := 0) (by decide) (F := mF h0) mE_obj rfl 29 (by decide) (hts _ k1195) (fun _ h9 => h9) rfl dX10_walks_56 ?_
        refine lv_iload_n hx hb dX10_walks_59 rfl (lv_at hl 7 rfl) ?_
        refine fz_ald (k := 722) (n := 14) (k2 := (723 + (n).toNat)) hx hb hK hP 2 rfl (by decide) mE_rowS rfl ⟨by show_term (have zq75 : True := trivial; omega), by show_term (have zq76 : True := trivial; omega)⟩ (by decide) (if_pos (by show_term (have zq77 : True := trivial; omega))) dX10_walks_60 ?_
        refine lv_iload_n hx hb dX10_walks_61 rfl (lv_at hl 5 rfl) ?_
        refine fz_ld (k := (723 + (n).toNat)) (n := 260) hx hb hK hP 0 (by show_term (have zq78 : True := trivial; omega)) (mE_rowSR (by show_term (have zq79 : True := trivial; omega))) rfl ⟨by show_term (have zq80 : True := trivial; omega), by show_term (have zq81 : True := trivial; omega)⟩ (by decide) dX10_walks_62 ?_
        rw [show μc (723 + (n).toNat) (i).toNat = (ps + (rO wS i.toNat : Int)) from (by exact hLc.2.2.2.2.1 i.toNat (by show_term (have zq82 : True := trivial; omega)))]
        refine lv_goto (tgt := 67) hx hb dX10_walks_63 (by decide) ?_
        exact j67_ ((ps + (rO wS i.toNat : Int))) (by intro h; show_term (have zq83 : True := trivial; omega))
    refine lv_iload_n hx hb dX10_walks_14 rfl (lv_at hl 4 rfl) ?_
    refine lv_aload_n hx hb dX10_walks_15 rfl (lv_at hl 7 rfl) ?_
    refine fz_get (D := (dC, dI)) (ci := 10) (v := .ref (h0 + 4410)) (C := RX10) (T := TX10) (N := 53) hx hb hts inG10 hown hK hP (k := 0) (by decide) (F := mF h0) mE_obj rfl 36 (by decide) (hts _ k1202) (fun _ h9 => h9) rfl dX10_walks_16 ?_
    refine lv_iload_n hx hb dX10_walks_19 rfl (lv_at hl 6 rfl) ?_
    refine fz_ld (k := 4410) (n := 14) hx hb hK hP 0 (by decide) mE_manyS rfl ⟨by show_term (have zq84 : True := trivial; omega), by show_term (have zq85 : True := trivial; omega)⟩ (by decide) dX10_walks_20 ?_
    rw [show μ 4410 (n).toNat = (rI wS : Int) from (by exact hL9.2.2.1)]
    refine fz_icmp_lt (tgt := 35) (by constructor <;> show_term (have zq86 : True := trivial; omega)) (by constructor <;> show_term (have zq87 : True := trivial; omega)) hx hb dX10_walks_21 (by decide) (fun c21_ => ?_) (fun c21_ => ?_)
    · exact j35_  (by show_term (have zq88 : True := trivial; omega))
    · refine lv_iload hx hb dX10_walks_24 (lv_at hl 3 rfl) ?_
      refine lv_aload_n hx hb dX10_walks_26 rfl (lv_at hl 7 rfl) ?_
      refine fz_get (D := (dC, dI)) (ci := 10) (v := .ref (h0 + 4411)) (C := RX10) (T := TX10) (N := 53) hx hb hts inG10 hown hK hP (k := 0) (by decide) (F := mF h0) mE_obj rfl 37 (by decide) (hts _ k1203) (fun _ h9 => h9) rfl dX10_walks_27 ?_
      refine lv_iload_n hx hb dX10_walks_30 rfl (lv_at hl 6 rfl) ?_
      refine fz_ld (k := 4411) (n := 14) hx hb hK hP 0 (by decide) mE_manyP rfl ⟨by show_term (have zq89 : True := trivial; omega), by show_term (have zq90 : True := trivial; omega)⟩ (by decide) dX10_walks_31 ?_
      rw [show μ 4411 (n).toNat = (rI wP : Int) from (by exact hL9.2.2.2.1)]
      refine fz_icmp_ge (tgt := 395) (by constructor <;> show_term (have zq91 : True := trivial; omega)) (by constructor <;> show_term (have zq92 : True := trivial; omega)) hx hb dX10_walks_32 (by decide) (fun c32_ => ?_) (fun c32_ => ?_)
      · exact hexit395 (i) (j) (o) (y) (al) μ H locs ls (by
                        have e1_ : rdrop i.toNat wS = .leaf := rdrop_0 (by show_term (have zq93 : True := trivial; omega))
                        have e2_ : rdrop j.toNat wP = .leaf := rdrop_0 (by show_term (have zq94 : True := trivial; omega))
                        rw [e1_, e2_, wk_0] at hw
                        exact hw) (by exact ho9) (by
                        have e1_ : rdrop i.toNat wS = .leaf := rdrop_0 (by show_term (have zq95 : True := trivial; omega))
                        have e2_ : rdrop j.toNat wP = .leaf := rdrop_0 (by show_term (have zq96 : True := trivial; omega))
                        rw [e1_, e2_] at hal
                        exact hal) hP hS (lv_sub hl [0, 1, 2, 5, 6, 7] rfl)
      · exact j35_  (by show_term (have zq97 : True := trivial; omega))
set_option maxHeartbeats 40000000 in
set_option maxRecDepth 100000 in
theorem m_walks (l : Launch) (dC : Nat → ClassId) (dI : Nat → Nat → Nat) (cI cZ cII cIII : ClassId) (h0 : Nat) : ∀ (d : Nat), ∀ (sz : Nat) (μ : va_M) (n : Int) (o1 : Int) (t : Int) (u1 : Int) (wS : Rw) (wP : Rw) (ps : Int) (pq : Int), (∀ (sz : Nat) (μ : va_M) (n : Int) (t : Int) (a1 : Int) (a2 : Int) (u1 : Int) (b1 : Int) (b2 : Int) (o1 : Int) (wS : Rw) (wP : Rw), (0 ≤ n ∧ n + rH wP ≤ 13) → (0 ≤ t ∧ t < 70) → (0 ≤ u1 ∧ u1 < 70) → (0 ≤ a1 ∧ a2 = a1 + rN wS ∧ a2 ≤ 900) → (0 ≤ b1 ∧ b2 = b1 + rN wP ∧ b2 ≤ 900) → (RA μ t.toNat wS a1.toNat) → (RA μ u1.toNat wP b1.toNat) → (rWF wS) → (rWF wP) → (rL wS ≤ 259 ∧ rL wP ≤ 60 ∧ rH wS ≤ 20) → (-1 ≤ o1 ∧ o1 < 70 ∧ o1 ≠ t ∧ o1 ≠ u1) → (capI2 o1 (μ 719 o1.toNat) (rN (lrow wS wP))) → (rH wP < d) → Met l yX10_laysRow (Cond.code yX10_laysRow cX10_laysRow 13 (some .int) :: wsG) ({ frames := 5 * d + 32, cells := 0, slots := 0, locals := 200 * d + 900 } : Room) (va_Pc [.ref h0, .int (iZ (n)), .int (iZ (t)), .int (iZ (a1)), .int (iZ (a2)), .int (iZ (u1)), .int (iZ (b1)), .int (iZ (b2)), .int (iZ (o1))] (fun U => U.heap.size = sz ∧ va_P (dC, dI) vwCl (fw (mE cI cZ cII cIII h0) h0 6325 μ) U.heap ∧ va_K (dC, dI) vwCl (mT cI cZ cII cIII) U)) (va_Qi (fun (r9 : Int32) (u : va_M × Int) => r9 = iZ u.2 ∧ (fun (u : va_M) (r : Int) => r = (lay wS wP).1 ∧ u 0 33 = (if (lay wS wP).2 = true then 1 else 0) ∧ layO μ u n.toNat o1 (lrow wS wP)) u.1 u.2) (fun u t => va_P (dC, dI) vwCl (fw (mE cI cZ cII cIII h0) h0 6325 u.1) t.heap ∧ va_K (dC, dI) vwCl (mT cI cZ cII cIII) t) (fA h0 6325 sz)) 0 0 (fA h0 6325 sz)) → (0 ≤ n ∧ n + rH wP ≤ 13) → (lvS μ n.toNat t u1 wS wP ps pq) → (0 ≤ t ∧ t < 70) → (0 ≤ u1 ∧ u1 < 70) → (t ≠ -1 ∧ u1 ≠ -1) → (0 ≤ ps ∧ ps + rN wS ≤ 900) → (0 ≤ pq ∧ pq + rN wP ≤ 900) → (rWF wS) → (rWF wP) → (rL wS ≤ 259 ∧ rL wP ≤ 60 ∧ rH wS ≤ 20) → (rH wP ≤ d) → (leB μ n.toNat wS wP 0 0) → (-1 ≤ o1 ∧ o1 < 70 ∧ o1 ≠ t ∧ o1 ≠ u1) → (capI2 o1 (μ 719 o1.toNat) (rN (lrow wS wP))) → Met l yX10_walks (Cond.code yX10_walks cX10_walks 14 none :: wsG) ({ frames := 5 * d + 32 + 1 + 1 + 1 + 1, cells := 0, slots := 0, locals := 200 * d + 900 + 40 + 40 + 40 + 40 } : Room) (va_Pc [.ref h0, .int (iZ (n)), .int (iZ (o1))] (fun U => U.heap.size = sz ∧ va_P (dC, dI) vwCl (fw (mE cI cZ cII cIII h0) h0 6325 μ) U.heap ∧ va_K (dC, dI) vwCl (mT cI cZ cII cIII) U)) (va_Qv (fun (u : va_M) => u 0 33 = (if (lay wS wP).2 = true then 1 else 0) ∧ layO μ u (n.toNat + 1) o1 (lrow wS wP)) (fun u t => va_P (dC, dI) vwCl (fw (mE cI cZ cII cIII h0) h0 6325 u) t.heap ∧ va_K (dC, dI) vwCl (mT cI cZ cII cIII) t) (fA h0 6325 sz)) 0 0 (fA h0 6325 sz) := by
  intro d
  induction d using Nat.strongRecOn with
  | _ d ih =>
  intro sz μ n o1 t u1 wS wP ps pq hLR hn hL ht hu htu hps hpq hwS hwP h260 hd hle ho hcap
  refine Met.ofW (cc := cX10_walks) (maxL := 14) (ret := none) (by decide) rfl ?_
  intro p e s m args below meth c s₁ B hml hv
  obtain ⟨rfl, hsz, hP, hK⟩ := hv
  have hx := B.exec
  have hb := B.bytes
  have hr := B.returns
  have hts : ∀ w ∈ wsG, w.before _ s = true := hG_of (atoms_spec (ws := (Cond.code yX10_walks cX10_walks 14 none :: wsG)) B.pre)
  have hown : s.vm.findClass RX10 = some m.cls := findClass_of_methodNamed B.named
  have hlocks := B.notSynchronized
  subst hsz
  have hS : va_S (fA h0 6325 s.heap.size) s.heap s.heap [] := va_S.rf
  have hl := lv_entry ([.ref h0, .int (iZ (n)), .int (iZ (o1))]) (n := 14) (Nat.le_of_ble_eq_true rfl)
  rw [lg_entry_eq]
  generalize (lg_sl ([.ref h0, .int (iZ (n)), .int (iZ (o1))]) ++ List.replicate (14 - (lg_sl ([.ref h0, .int (iZ (n)), .int (iZ (o1))])).length) Slot.unset).toArray = ls at hl ⊢
  have hl : lv_has ls 14 [(0, .ref h0), (1, .int (iZ (n))), (2, .int (iZ (o1)))] := hl
  have hn0 : 0 ≤ o1 → 0 ≤ μ 719 o1.toNat := fun h => (hcap h).1
  refine lv_iconst (v := iZ 0) hx hb dX10_walks_0 rfl ?_
  refine lv_istore_n (lv' := [(3, .int (iZ (0))), (0, .ref h0), (1, .int (iZ (n))), (2, .int (iZ (o1)))]) hx hb dX10_walks_1 rfl hl (by decide) rfl (fun ls hl => ?_)
  refine lv_iconst (v := iZ 0) hx hb dX10_walks_2 rfl ?_
  refine lv_istore (lv' := [(4, .int (iZ (0))), (3, .int (iZ (0))), (0, .ref h0), (1, .int (iZ (n))), (2, .int (iZ (o1)))]) hx hb dX10_walks_3 hl (by decide) rfl (fun ls hl => ?_)
  refine lv_iconst (v := iZ 0) hx hb dX10_walks_5 rfl ?_
  refine lv_istore (lv' := [(5, .int (iZ (0))), (4, .int (iZ (0))), (3, .int (iZ (0))), (0, .ref h0), (1, .int (iZ (n))), (2, .int (iZ (o1)))]) hx hb dX10_walks_6 hl (by decide) rfl (fun ls hl => ?_)
  refine lv_iconst (v := iZ 0) hx hb dX10_walks_8 rfl ?_
  refine lv_istore (lv' := [(6, .int (iZ (0))), (5, .int (iZ (0))), (4, .int (iZ (0))), (3, .int (iZ (0))), (0, .ref h0), (1, .int (iZ (n))), (2, .int (iZ (o1)))]) hx hb dX10_walks_9 hl (by decide) rfl (fun ls hl => ?_)
  refine lv_iconst (v := iZ 1) hx hb dX10_walks_11 rfl ?_
  refine lv_istore (lv' := [(7, .int (iZ (1))), (6, .int (iZ (0))), (5, .int (iZ (0))), (4, .int (iZ (0))), (3, .int (iZ (0))), (0, .ref h0), (1, .int (iZ (n))), (2, .int (iZ (o1)))]) hx hb dX10_walks_12 hl (by decide) rfl (fun ls hl => ?_)
  refine LX10_walks_14 (d9 := d) hx hb hml hown hts hK (Nat.le_refl _) (Nat.le_refl _) (Nat.le_of_ble_eq_true rfl) (Nat.le_of_ble_eq_true rfl) (μ) (n) (o1) (t) (u1) (wS) (wP) (ps) (pq) (by assumption) (by assumption) (by assumption) (by assumption) (by assumption) (by assumption) (by assumption) (by assumption) (by assumption) (by assumption) (by assumption) (by assumption) (by assumption) (by assumption) (by assumption) ?_ _ (0) (0) (0) (0) (1) μ s.heap [] ls (by
            show wSt μ μ n.toNat o1 (μ 719 o1.toNat) (lrow wS wP) 0 0 (wk 0 wS wP).1 (lrow wS wP)
            rw [wk_01]
            exact wSt_0 hn0) (by show_term (have zq98 : True := trivial; omega)) (by show_term (have zq99 : True := trivial; omega)) (by exact Or.inl rfl) (by exact Or.inl ⟨rfl, rfl⟩) (Nat.lt_succ_self _) hP hS (lv_sub hl [0, 1, 2, 3, 4, 7, 6, 5] rfl)
  · intro i_1 j_1 o_1 y_1 al_1 μ1_ H locs ls q1_1 q2_1 q3_1 hP hS hl
    have hl : lv_has ls 14 [(7, .int (iZ (al_1))), (6, .int (iZ (y_1))), (5, .int (iZ (o_1))), (2, .int (iZ (o1))), (1, .int (iZ (n))), (0, .ref h0)] := hl
    have hal1 := alI_01 q3_1
    have hae := alI_end q3_1
    refine lv_iload hx hb dX10_walks_395 (lv_at hl 2 rfl) ?_
    refine fz_if_le (tgt := 407) (by constructor <;> show_term (have zq100 : True := trivial; omega)) hx hb dX10_walks_397 (by decide) (fun c397_ => ?_) (fun c397_ => ?_)
    · have hF := q1_1
      rw [show o_1 = 0 by show_term (have zq101 : True := trivial; omega)] at hF
      refine lv_aload_n hx hb dX10_walks_407 rfl (lv_at hl 5 rfl) ?_
      refine lv_iload hx hb dX10_walks_408 (lv_at hl 0 rfl) ?_
      refine fz_put (D := (dC, dI)) (ci := 10) (ty := .boolean) (z := al_1) (C := RX10) (T := TX10) (N := 53) hx hb hts inG10 tyX10 tyX10_ok nmX10 hown hK hP fA_in hS (k := 0) (by decide) (F := mF h0) mE_obj rfl 33 (by decide) (hts _ k1199) (fun _ h9 => h9) rfl (by decide +kernel) (fz_narZ (by show_term (have zq102 : True := trivial; omega))) (fits_b (by show_term (have zq103 : True := trivial; omega))) (fun _ => Nat.le_of_ble_eq_true rfl) (fun _ _ => rfl) dX10_walks_410 (fun H locs hP hS => ?_)
      obtain ⟨μ2, eμ2⟩ : ∃ x : va_M, x = uz μ1_ 0 33 (al_1) := ⟨_, rfl⟩
      rw [← eμ2] at hP
      exact W.vret hx hb hr (fun t9 ht9 hW9 => ⟨⟨μ2, rfl, (by
                    try dsimp only
                    rw [eμ2]
                    exact ⟨by rw [uz_s]; exact hae, wSt_end (wSt_LD hF (fr_uz fr_rfl (by unfold LD; show_term (have zq104 : True := trivial; omega))) (by show_term (have zq105 : True := trivial; omega)))⟩), by rw [ht9]; exact hP, va_K.moved hW9.alike hK⟩, hS.F ht9⟩) hS.2.2 dX10_walks_413
    · refine lv_aload_n hx hb dX10_walks_400 rfl (lv_at hl 5 rfl) ?_
      refine lv_iload_n hx hb dX10_walks_401 rfl (lv_at hl 3 rfl) ?_
      refine lv_iload hx hb dX10_walks_402 (lv_at hl 1 rfl) ?_
      refine va_callv (va_runV (As := [.int (iZ (o1)), .int (iZ (y_1))]) (rest := []) ⟨hx, hb, hml, hown, hts⟩ (m_closes l dC dI cI cZ cII cIII h0 H.size μ1_ (o1) (y_1) (by first | assumption | show_term (have zq106 : True := trivial; omega) | exact ⟨by show_term (have zq107 : True := trivial; omega), by show_term (have zq108 : True := trivial; omega)⟩) (by intro h; exact (wSt_cap q1_1 hcap h).2.2 (by show_term (have zq109 : True := trivial; omega)))) (cwV 2 hts (gV_G k1420 k1422 ks_yX10_closes k13 k1423) rfl rfl rfl (by decide +kernel) ⟨by show 1 + 1 ≤ 5 * d + 32 + 1 + 1 + 1 + 1; show_term (have zq110 : True := trivial; omega), by show 8 + (3 + 11) + (14) ≤ 200 * d + 900 + 40 + 40 + 40 + 40; show_term (have zq111 : True := trivial; omega)⟩) ⟨fun a U g mk q => by obtain ⟨q0, q1, qP, qK⟩ := q; exact ⟨q0, q1, qP, va_K.moved (u := U) (U := U.calling g mk a) (Vm.Alike.refl U.vm) qK⟩, va_recv hK hP (ci := 10) (q0 := 0) rfl ((fw_get (by decide)).trans (by rw [mE_obj]; rfl)), fun U hU hW => ⟨rfl, by rw [hU], by rw [hU]; exact hP, va_K.moved hW.alike hK⟩⟩ rfl rfl hl.1 rfl (lv_room (Nat.le_of_ble_eq_true rfl)) dX10_walks_404 ⟨Nat.le_of_ble_eq_true rfl, Nat.le_of_ble_eq_true rfl⟩) hS (fun q _ h => fA_le hS.1 q h) (fA_le hS.1) (fun u9 t9 H1 locs ht9 hvm9 hw9 hB9 hz9 hk9 hS => ?_)
      obtain ⟨hP, -⟩ := hB9
      rw [ht9] at hP
      generalize H1 = H at hP hS ⊢
      obtain ⟨μz, eμz⟩ : ∃ x : va_M, x = u9 := ⟨_, rfl⟩
      rw [← eμz] at hP hw9
      have hμz := hw9; clear hw9
      have hF := wSt_close q1_1 (by show_term (have zq112 : True := trivial; omega)) (by show_term (have zq113 : True := trivial; omega)) hμz y_1
      refine lv_aload_n hx hb dX10_walks_407 rfl (lv_at hl 5 rfl) ?_
      refine lv_iload hx hb dX10_walks_408 (lv_at hl 0 rfl) ?_
      refine fz_put (D := (dC, dI)) (ci := 10) (ty := .boolean) (z := al_1) (C := RX10) (T := TX10) (N := 53) hx hb hts inG10 tyX10 tyX10_ok nmX10 hown hK hP fA_in hS (k := 0) (by decide) (F := mF h0) mE_obj rfl 33 (by decide) (hts _ k1199) (fun _ h9 => h9) rfl (by decide +kernel) (fz_narZ (by show_term (have zq114 : True := trivial; omega))) (fits_b (by show_term (have zq115 : True := trivial; omega))) (fun _ => Nat.le_of_ble_eq_true rfl) (fun _ _ => rfl) dX10_walks_410 (fun H locs hP hS => ?_)
      obtain ⟨μ3, eμ3⟩ : ∃ x : va_M, x = uz μz 0 33 (al_1) := ⟨_, rfl⟩
      rw [← eμ3] at hP
      exact W.vret hx hb hr (fun t9 ht9 hW9 => ⟨⟨μ3, rfl, (by
                    try dsimp only
                    rw [eμ3]
                    exact ⟨by rw [uz_s]; exact hae, wSt_end (wSt_LD hF (fr_uz fr_rfl (by unfold LD; show_term (have zq116 : True := trivial; omega))) (by show_term (have zq117 : True := trivial; omega)))⟩), by rw [ht9]; exact hP, va_K.moved hW9.alike hK⟩, hS.F ht9⟩) hS.2.2 dX10_walks_413

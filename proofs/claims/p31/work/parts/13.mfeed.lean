set_option maxRecDepth 100000 in
theorem k1166 : (Cond.fieldLink "PageSkeletonModel" (127 : Nat) "PageSkeletonModel" "thrown" "I") ∈ wsG := wsG_a5 206 rfl rfl
set_option maxRecDepth 100000 in
theorem k1168 : (Cond.fieldLink "PageSkeletonModel" (130 : Nat) "PageSkeletonModel" "tape" "I") ∈ wsG := wsG_a5 208 rfl rfl
theorem dX10_bad_0 : decode cX10_bad 0 = .ok (.iload_n 1, 1) := by decide +kernel
theorem dX10_bad_1 : decode cX10_bad 1 = .ok (.ifCond .eq 25, 3) := by decide +kernel
theorem dX10_bad_4 : decode cX10_bad 4 = .ok (.aload_n 0, 1) := by decide +kernel
theorem dX10_bad_5 : decode cX10_bad 5 = .ok (.getfield 127, 3) := by decide +kernel
theorem dX10_bad_8 : decode cX10_bad 8 = .ok (.ifCond .ne 18, 3) := by decide +kernel
theorem dX10_bad_11 : decode cX10_bad 11 = .ok (.aload_n 0, 1) := by decide +kernel
theorem dX10_bad_12 : decode cX10_bad 12 = .ok (.iload_n 2, 1) := by decide +kernel
theorem dX10_bad_13 : decode cX10_bad 13 = .ok (.putfield 127, 3) := by decide +kernel
theorem dX10_bad_16 : decode cX10_bad 16 = .ok (.aload_n 0, 1) := by decide +kernel
theorem dX10_bad_17 : decode cX10_bad 17 = .ok (.getfield 7, 3) := by decide +kernel
theorem dX10_bad_20 : decode cX10_bad 20 = .ok (.iload_n 3, 1) := by decide +kernel
theorem dX10_bad_21 : decode cX10_bad 21 = .ok (.dup2, 1) := by decide +kernel
theorem dX10_bad_22 : decode cX10_bad 22 = .ok (.iaload, 1) := by decide +kernel
theorem dX10_bad_23 : decode cX10_bad 23 = .ok (.iconst 1, 1) := by decide +kernel
theorem dX10_bad_24 : decode cX10_bad 24 = .ok (.iadd, 1) := by decide +kernel
theorem dX10_bad_25 : decode cX10_bad 25 = .ok (.iastore, 1) := by decide +kernel
theorem dX10_bad_26 : decode cX10_bad 26 = .ok (.aload_n 0, 1) := by decide +kernel
theorem dX10_bad_27 : decode cX10_bad 27 = .ok (.getfield 127, 3) := by decide +kernel
theorem dX10_bad_30 : decode cX10_bad 30 = .ok (.ifCond .eq 7, 3) := by decide +kernel
theorem dX10_bad_33 : decode cX10_bad 33 = .ok (.iconst 1, 1) := by decide +kernel
theorem dX10_bad_34 : decode cX10_bad 34 = .ok (.goto 4, 3) := by decide +kernel
theorem dX10_bad_37 : decode cX10_bad 37 = .ok (.iconst 0, 1) := by decide +kernel
theorem dX10_bad_38 : decode cX10_bad 38 = .ok (.ireturn, 1) := by decide +kernel
theorem dX10_feed_0 : decode cX10_feed 0 = .ok (.aload_n 0, 1) := by decide +kernel
theorem dX10_feed_1 : decode cX10_feed 1 = .ok (.iconst 0, 1) := by decide +kernel
theorem dX10_feed_2 : decode cX10_feed 2 = .ok (.putfield 127, 3) := by decide +kernel
theorem dX10_feed_5 : decode cX10_feed 5 = .ok (.aload_n 0, 1) := by decide +kernel
theorem dX10_feed_6 : decode cX10_feed 6 = .ok (.getfield 130, 3) := by decide +kernel
theorem dX10_feed_9 : decode cX10_feed 9 = .ok (.bipush 20, 2) := by decide +kernel
theorem dX10_feed_11 : decode cX10_feed 11 = .ok (.iadd, 1) := by decide +kernel
theorem dX10_feed_12 : decode cX10_feed 12 = .ok (.sipush 400, 3) := by decide +kernel
theorem dX10_feed_15 : decode cX10_feed 15 = .ok (.if_icmp .le 5, 3) := by decide +kernel
theorem dX10_feed_18 : decode cX10_feed 18 = .ok (.iconst (-1), 1) := by decide +kernel
theorem dX10_feed_19 : decode cX10_feed 19 = .ok (.ireturn, 1) := by decide +kernel
theorem dX10_feed_20 : decode cX10_feed 20 = .ok (.iconst 0, 1) := by decide +kernel
theorem dX10_feed_21 : decode cX10_feed 21 = .ok (.istore 6, 2) := by decide +kernel
theorem dX10_feed_23 : decode cX10_feed 23 = .ok (.iload 6, 2) := by decide +kernel
theorem dX10_feed_25 : decode cX10_feed 25 = .ok (.bipush 20, 2) := by decide +kernel
theorem dX10_feed_27 : decode cX10_feed 27 = .ok (.if_icmp .ge 93, 3) := by decide +kernel
theorem dX10_feed_30 : decode cX10_feed 30 = .ok (.iload 6, 2) := by decide +kernel
theorem dX10_feed_32 : decode cX10_feed 32 = .ok (.iconst 4, 1) := by decide +kernel
theorem dX10_feed_33 : decode cX10_feed 33 = .ok (.if_icmp .ge 7, 3) := by decide +kernel
theorem dX10_feed_36 : decode cX10_feed 36 = .ok (.iload_n 1, 1) := by decide +kernel
theorem dX10_feed_37 : decode cX10_feed 37 = .ok (.goto 39, 3) := by decide +kernel
theorem dX10_feed_40 : decode cX10_feed 40 = .ok (.iload 6, 2) := by decide +kernel
theorem dX10_feed_42 : decode cX10_feed 42 = .ok (.bipush 8, 2) := by decide +kernel
theorem dX10_feed_44 : decode cX10_feed 44 = .ok (.if_icmp .ge 7, 3) := by decide +kernel
theorem dX10_feed_47 : decode cX10_feed 47 = .ok (.iload_n 2, 1) := by decide +kernel
theorem dX10_feed_48 : decode cX10_feed 48 = .ok (.goto 28, 3) := by decide +kernel
theorem dX10_feed_51 : decode cX10_feed 51 = .ok (.iload 6, 2) := by decide +kernel
theorem dX10_feed_53 : decode cX10_feed 53 = .ok (.bipush 12, 2) := by decide +kernel
theorem dX10_feed_55 : decode cX10_feed 55 = .ok (.if_icmp .ge 7, 3) := by decide +kernel
theorem dX10_feed_58 : decode cX10_feed 58 = .ok (.iload_n 3, 1) := by decide +kernel
theorem dX10_feed_59 : decode cX10_feed 59 = .ok (.goto 17, 3) := by decide +kernel
theorem dX10_feed_62 : decode cX10_feed 62 = .ok (.iload 6, 2) := by decide +kernel
theorem dX10_feed_64 : decode cX10_feed 64 = .ok (.bipush 16, 2) := by decide +kernel
theorem dX10_feed_66 : decode cX10_feed 66 = .ok (.if_icmp .ge 8, 3) := by decide +kernel
theorem dX10_feed_69 : decode cX10_feed 69 = .ok (.iload 4, 2) := by decide +kernel
theorem dX10_feed_71 : decode cX10_feed 71 = .ok (.goto 5, 3) := by decide +kernel
theorem dX10_feed_74 : decode cX10_feed 74 = .ok (.iload 5, 2) := by decide +kernel
theorem dX10_feed_76 : decode cX10_feed 76 = .ok (.istore 7, 2) := by decide +kernel
theorem dX10_feed_78 : decode cX10_feed 78 = .ok (.aload_n 0, 1) := by decide +kernel
theorem dX10_feed_79 : decode cX10_feed 79 = .ok (.getfield 17, 3) := by decide +kernel
theorem dX10_feed_82 : decode cX10_feed 82 = .ok (.aload_n 0, 1) := by decide +kernel
theorem dX10_feed_83 : decode cX10_feed 83 = .ok (.getfield 130, 3) := by decide +kernel
theorem dX10_feed_86 : decode cX10_feed 86 = .ok (.iload 7, 2) := by decide +kernel
theorem dX10_feed_88 : decode cX10_feed 88 = .ok (.bipush 24, 2) := by decide +kernel
theorem dX10_feed_90 : decode cX10_feed 90 = .ok (.bipush 8, 2) := by decide +kernel
theorem dX10_feed_92 : decode cX10_feed 92 = .ok (.iload 6, 2) := by decide +kernel
theorem dX10_feed_94 : decode cX10_feed 94 = .ok (.iconst 4, 1) := by decide +kernel
theorem dX10_feed_95 : decode cX10_feed 95 = .ok (.irem, 1) := by decide +kernel
theorem dX10_feed_96 : decode cX10_feed 96 = .ok (.imul, 1) := by decide +kernel
theorem dX10_feed_97 : decode cX10_feed 97 = .ok (.isub, 1) := by decide +kernel
theorem dX10_feed_98 : decode cX10_feed 98 = .ok (.ishr, 1) := by decide +kernel
theorem dX10_feed_99 : decode cX10_feed 99 = .ok (.sipush 255, 3) := by decide +kernel
theorem dX10_feed_102 : decode cX10_feed 102 = .ok (.iand, 1) := by decide +kernel
theorem dX10_feed_103 : decode cX10_feed 103 = .ok (.iastore, 1) := by decide +kernel
theorem dX10_feed_104 : decode cX10_feed 104 = .ok (.aload_n 0, 1) := by decide +kernel
theorem dX10_feed_105 : decode cX10_feed 105 = .ok (.dup, 1) := by decide +kernel
theorem dX10_feed_106 : decode cX10_feed 106 = .ok (.getfield 130, 3) := by decide +kernel
theorem dX10_feed_109 : decode cX10_feed 109 = .ok (.iconst 1, 1) := by decide +kernel
theorem dX10_feed_110 : decode cX10_feed 110 = .ok (.iadd, 1) := by decide +kernel
theorem dX10_feed_111 : decode cX10_feed 111 = .ok (.putfield 130, 3) := by decide +kernel
theorem dX10_feed_114 : decode cX10_feed 114 = .ok (.iinc 6 1, 3) := by decide +kernel
theorem dX10_feed_117 : decode cX10_feed 117 = .ok (.goto (-94), 3) := by decide +kernel
theorem dX10_feed_120 : decode cX10_feed 120 = .ok (.aload_n 0, 1) := by decide +kernel
theorem dX10_feed_121 : decode cX10_feed 121 = .ok (.getfield 130, 3) := by decide +kernel
theorem dX10_feed_124 : decode cX10_feed 124 = .ok (.ireturn, 1) := by decide +kernel
/-- all but the named places is as it was -/
def fr (P : Nat → Nat → Prop) (μ u : va_M) : Prop := ∀ a b : Nat, ¬ P a b → u a b = μ a b
theorem fr_rfl {P : Nat → Nat → Prop} {μ : va_M} : fr P μ μ := fun _ _ _ => rfl
theorem fr_uz {P : Nat → Nat → Prop} {μ u : va_M} {k j : Nat} {z : Int} (h : fr P μ u) (hp : P k j) : fr P μ (uz u k j z) := fun a b hab => by
  rw [uz_n (fun q => hab (by rw [q.1, q.2]; exact hp))]
  exact h a b hab
theorem fr_trans {P : Nat → Nat → Prop} {μ u v : va_M} (h1 : fr P μ u) (h2 : fr P u v) : fr P μ v := fun a b hab => (h2 a b hab).trans (h1 a b hab)
theorem fr_mono {P P2 : Nat → Nat → Prop} {μ u : va_M} (h : fr P μ u) (hp : ∀ a b, P a b → P2 a b) : fr P2 μ u := fun a b hab => h a b (fun q => hab (hp a b q))
/-- the j-th byte of a number, the highest first -/
def bz (x j : Int) : Int := ((iZ x >>> (iZ (24 - 8 * j) &&& 31)) &&& iZ 255).toInt
def argO (a1 a2 a3 a4 a5 k : Int) : Int := if k < 4 then a1 else if k < 8 then a2 else if k < 12 then a3 else if k < 16 then a4 else a5
set_option maxHeartbeats 4000000 in
set_option maxRecDepth 100000 in
theorem m_bad (l : Launch) (dC : Nat → ClassId) (dI : Nat → Nat → Nat) (cI cZ cII cIII : ClassId) (h0 sz : Nat) (μ : va_M) (q1 : Int) (w : Int) (q3 : Int) (h1 : q1 = 0 ∨ q1 = 1) (hw : w = 1 ∨ w = 2) (h3 : 0 ≤ q3 ∧ q3 ≤ 2) (ht : μ 0 0 = 0) : Met l yX10_bad (Cond.code yX10_bad cX10_bad 4 (some .boolean) :: wsG) ({ frames := 1, cells := 0, slots := 0, locals := 14 } : Room) (va_Pc [.ref h0, .int (iZ (q1)), .int (iZ (w)), .int (iZ (q3))] (fun U => U.heap.size = sz ∧ va_P (dC, dI) vwCl (fw (mE cI cZ cII cIII h0) h0 6325 μ) U.heap ∧ va_K (dC, dI) vwCl (mT cI cZ cII cIII) U)) (va_Qi (fun (r9 : Int32) (u : va_M × Int) => r9 = iZ u.2 ∧ (fun (u : va_M) (r : Int) => if q1 = 0 then u = μ ∧ r = 0 else u = uz (uz μ 0 0 w) 1 q3.toNat (μ 1 q3.toNat + 1) ∧ r = 1) u.1 u.2) (fun u t => va_P (dC, dI) vwCl (fw (mE cI cZ cII cIII h0) h0 6325 u.1) t.heap ∧ va_K (dC, dI) vwCl (mT cI cZ cII cIII) t) (fA h0 6325 sz)) 0 0 (fA h0 6325 sz) := by
  refine Met.ofW (cc := cX10_bad) (maxL := 4) (ret := (some .boolean)) (by decide) rfl ?_
  intro p e s m args below meth c s₁ B hml hv
  obtain ⟨rfl, hsz, hP, hK⟩ := hv
  have hx := B.exec
  have hb := B.bytes
  have hr := B.returns
  have hts : ∀ w ∈ wsG, w.before _ s = true := hG_of (atoms_spec (ws := (Cond.code yX10_bad cX10_bad 4 (some .boolean) :: wsG)) B.pre)
  have hown : s.vm.findClass RX10 = some m.cls := findClass_of_methodNamed B.named
  have hlocks := B.notSynchronized
  subst hsz
  have hS : va_S (fA h0 6325 s.heap.size) s.heap s.heap [] := va_S.rf
  have hl := lv_entry ([.ref h0, .int (iZ (q1)), .int (iZ (w)), .int (iZ (q3))]) (n := 4) (Nat.le_of_ble_eq_true rfl)
  rw [lg_entry_eq]
  generalize (lg_sl ([.ref h0, .int (iZ (q1)), .int (iZ (w)), .int (iZ (q3))]) ++ List.replicate (4 - (lg_sl ([.ref h0, .int (iZ (q1)), .int (iZ (w)), .int (iZ (q3))])).length) Slot.unset).toArray = ls at hl ⊢
  have hl : lv_has ls 4 [(0, .ref h0), (1, .int (iZ (q1))), (2, .int (iZ (w))), (3, .int (iZ (q3)))] := hl
  refine lv_iload_n hx hb dX10_bad_0 rfl (lv_at hl 1 rfl) ?_
  refine fz_if_eq (tgt := 26) (by constructor <;> omega) hx hb dX10_bad_1 (by decide) (fun c1_ => ?_) (fun c1_ => ?_)
  · refine lv_aload_n hx hb dX10_bad_26 rfl (lv_at hl 0 rfl) ?_
    refine fz_get (D := (dC, dI)) (ci := 10) (v := .int (iZ (μ 0 0))) (C := RX10) (T := TX10) (N := 53) hx hb hts inG10 hown hK hP (k := 0) (by decide) (F := mF h0) mE_obj rfl 0 (by decide) (hts _ k1166) (fun _ h9 => h9) rfl dX10_bad_27 ?_
    refine fz_if_eq (tgt := 37) (by constructor <;> omega) hx hb dX10_bad_30 (by decide) (fun c30_ => ?_) (fun h9 => (by omega))
    refine lv_iconst (v := iZ 0) hx hb dX10_bad_37 rfl ?_
    exact W.zret (v := iZ (0)) hx hb hr (by decide +kernel) (fun t9 ht9 hW9 => ⟨⟨iZ (0), (μ, 0), rfl, ⟨rfl, (by
                dsimp only
                first | (rw [if_pos (by omega)]; exact ⟨rfl, rfl⟩) | (rw [if_neg (by omega)]; subst_vars; exact ⟨rfl, rfl⟩))⟩, by rw [ht9]; exact hP, va_K.moved hW9.alike hK⟩, hS.F ht9⟩) hS.2.2 dX10_bad_38
  · refine lv_aload_n hx hb dX10_bad_4 rfl (lv_at hl 0 rfl) ?_
    refine fz_get (D := (dC, dI)) (ci := 10) (v := .int (iZ (μ 0 0))) (C := RX10) (T := TX10) (N := 53) hx hb hts inG10 hown hK hP (k := 0) (by decide) (F := mF h0) mE_obj rfl 0 (by decide) (hts _ k1166) (fun _ h9 => h9) rfl dX10_bad_5 ?_
    refine fz_if_ne (tgt := 26) (by constructor <;> omega) hx hb dX10_bad_8 (by decide) (fun h9 => (by omega)) (fun c8_ => ?_)
    refine lv_aload_n hx hb dX10_bad_11 rfl (lv_at hl 0 rfl) ?_
    refine lv_iload_n hx hb dX10_bad_12 rfl (lv_at hl 2 rfl) ?_
    refine fz_put (D := (dC, dI)) (ci := 10) (ty := .int) (z := w) (C := RX10) (T := TX10) (N := 53) hx hb hts inG10 tyX10 tyX10_ok nmX10 hown hK hP fA_in hS (k := 0) (by decide) (F := mF h0) mE_obj rfl 0 (by decide) (hts _ k1166) (fun _ h9 => h9) rfl (by decide +kernel) rfl rfl (fun _ => Nat.le_of_ble_eq_true rfl) (fun _ _ => rfl) dX10_bad_13 (fun H locs hP hS => ?_)
    obtain ⟨μ1, eμ1⟩ : ∃ x : va_M, x = uz μ 0 0 (w) := ⟨_, rfl⟩
    rw [← eμ1] at hP
    refine lv_aload_n hx hb dX10_bad_16 rfl (lv_at hl 0 rfl) ?_
    refine fz_get (D := (dC, dI)) (ci := 10) (v := .ref (h0 + 1)) (C := RX10) (T := TX10) (N := 53) hx hb hts inG10 hown hK hP (k := 0) (by decide) (F := mF h0) mE_obj rfl 1 (by decide) (hts _ k1167) (fun _ h9 => h9) rfl dX10_bad_17 ?_
    refine lv_iload_n hx hb dX10_bad_20 rfl (lv_at hl 3 rfl) ?_
    refine lv_dup2_11 hx hb dX10_bad_21 rfl rfl ?_
    refine fz_ld (k := 1) (n := 3) hx hb hK hP 0 (by decide) mE_refused rfl ⟨by omega, by omega⟩ (by decide) dX10_bad_22 ?_
    rw [show μ1 1 (q3).toNat = μ 1 (q3).toNat from by rw [eμ1, uz_n (by omega)]]
    refine lv_iconst (v := iZ 1) hx hb dX10_bad_23 rfl ?_
    refine lv_iadd hx hb dX10_bad_24 ?_
    refine lv_topi (fun x9 ex9 => ?_)
    obtain rfl : x9 = iZ ((μ 1 (q3).toNat) + 1) := ex9.trans (iZ_add _ _)
    refine fz_st (k := 1) (n := 3) (i := q3) (z := ((μ 1 (q3).toNat) + 1)) hx hb hK hP fA_in hS 0 (by decide) mE_refused rfl ⟨by omega, by omega⟩ (by decide) dX10_bad_25 (fun H locs hP hS => ?_)
    obtain ⟨μ2, eμ2⟩ : ∃ x : va_M, x = uz μ1 1 (q3).toNat ((μ 1 (q3).toNat) + 1) := ⟨_, rfl⟩
    rw [← eμ2] at hP
    refine lv_aload_n hx hb dX10_bad_26 rfl (lv_at hl 0 rfl) ?_
    refine fz_get (D := (dC, dI)) (ci := 10) (v := .int (iZ (μ2 0 0))) (C := RX10) (T := TX10) (N := 53) hx hb hts inG10 hown hK hP (k := 0) (by decide) (F := mF h0) mE_obj rfl 0 (by decide) (hts _ k1166) (fun _ h9 => h9) rfl dX10_bad_27 ?_
    rw [show μ2 0 0 = w from by rw [eμ2, uz_n (by omega), eμ1, uz_s]]
    refine fz_if_eq (tgt := 37) (by constructor <;> omega) hx hb dX10_bad_30 (by decide) (fun h9 => (by omega)) (fun c30_ => ?_)
    refine lv_iconst (v := iZ 1) hx hb dX10_bad_33 rfl ?_
    refine lv_goto (tgt := 38) hx hb dX10_bad_34 (by decide) ?_
    exact W.zret (v := iZ (1)) hx hb hr (by decide +kernel) (fun t9 ht9 hW9 => ⟨⟨iZ (1), (μ2, 1), rfl, ⟨rfl, (by
                dsimp only
                first | (rw [if_pos (by omega)]; exact ⟨rfl, rfl⟩) | (rw [if_neg (by omega)]; subst_vars; exact ⟨rfl, rfl⟩))⟩, by rw [ht9]; exact hP, va_K.moved hW9.alike hK⟩, hS.F ht9⟩) hS.2.2 dX10_bad_38
set_option maxHeartbeats 4000000 in
set_option maxRecDepth 100000 in
theorem LX10_feed_23 {p : Program} {l : Launch} {e : Env} {R : Room} {s : State} {m : MethodId} {args : Array Value} {below : List Frame} {meth : Method} {c : Code} {cells slots : Nat} {Q : State → Prop} {dC : Nat → ClassId} {dI : Nat → Nat → Nat} {h0 : Nat} {cI cZ cII cIII : ClassId} (hx : p.tables.exec = Jvm.exec) (hb : c.code = cX10_feed) (hml : c.maxLocals = 8) (hown : s.vm.findClass RX10 = some m.cls) (hts : ∀ w ∈ wsG, w.before args s = true) (hK : va_K (dC, dI) vwCl (mT cI cZ cII cIII) s) (hRf : 1 ≤ R.frames) (hRl : 14 ≤ R.locals) (hRc : cells ≤ R.cells) (hRs : slots ≤ R.slots) (μ0 : va_M) (t0 : Int) (a1 : Int) (a2 : Int) (a3 : Int) (a4 : Int) (a5 : Int) (ht0 : 0 ≤ t0 ∧ t0 + 20 ≤ 400) (hexit120 : ∀ (k : Int) (μ : va_M) (H : Heap) (locs : List Loc) (ls : Array Slot), (μ 0 2 = t0 + 20) → (fr (fun x y => (x = 0 ∧ y = 2) ∨ x = 2) μ0 μ) → (∀ j : Nat, j < 400 → μ 2 j = if t0 ≤ j ∧ (j : Int) < t0 + 20 then bz (argO a1 a2 a3 a4 a5 (j - t0)) ((j - t0) % 4) else μ0 2 j) → va_P (dC, dI) vwCl (fw (mE cI cZ cII cIII h0) h0 6325 μ) H → va_S (fA h0 6325 s.heap.size) s.heap H locs → lv_has ls 8 [(0, .ref h0)] → W p l e R s m args below meth c H locs cells slots Q (F0 m 120 ls [])) :
    ∀ (n9 : Nat) (k : Int) (μ : va_M) (H : Heap) (locs : List Loc) (ls : Array Slot), (0 ≤ k ∧ k ≤ 20) → (μ 0 2 = t0 + k) → (fr (fun x y => (x = 0 ∧ y = 2) ∨ x = 2) μ0 μ) → (∀ j : Nat, j < 400 → μ 2 j = if t0 ≤ j ∧ (j : Int) < t0 + k then bz (argO a1 a2 a3 a4 a5 (j - t0)) ((j - t0) % 4) else μ0 2 j) → (20 - k).toNat < n9 → va_P (dC, dI) vwCl (fw (mE cI cZ cII cIII h0) h0 6325 μ) H → va_S (fA h0 6325 s.heap.size) s.heap H locs → lv_has ls 8 [(6, .int (iZ (k))), (0, .ref h0), (1, .int (iZ (a1))), (2, .int (iZ (a2))), (3, .int (iZ (a3))), (4, .int (iZ (a4))), (5, .int (iZ (a5)))] → W p l e R s m args below meth c H locs cells slots Q (F0 m 23 ls []) := by
  intro n9
  induction n9 with
  | zero => intro k μ H locs ls hk ht hfr hfed hm9 hP hS hl; exact absurd hm9 (Nat.not_lt_zero _)
  | succ n9 ih =>
    intro k μ H locs ls hk ht hfr hfed hm9 hP hS hl
    refine lv_iload hx hb dX10_feed_23 (lv_at hl 0 rfl) ?_
    refine lv_bipush (v := iZ 20) hx hb dX10_feed_25 rfl ?_
    refine fz_icmp_ge (tgt := 120) (by constructor <;> omega) (by decide) hx hb dX10_feed_27 (by decide) (fun c27_ => ?_) (fun c27_ => ?_)
    · exact hexit120 (k) μ H locs ls (by omega) (by exact hfr) (by
                    obtain rfl : k = 20 := (by omega)
                    exact hfed) hP hS (lv_sub hl [1] rfl)
    · have j76_ : ∀ (x76_0 : Int), (x76_0 = argO a1 a2 a3 a4 a5 k) → W p l e R s m args below meth c H locs cells slots Q (F0 m 76 ls [.int (iZ (x76_0))]) := by
        intro x76_0 hj76_0
        refine lv_istore (lv' := [(7, .int (iZ (x76_0))), (6, .int (iZ (k))), (0, .ref h0), (1, .int (iZ (a1))), (2, .int (iZ (a2))), (3, .int (iZ (a3))), (4, .int (iZ (a4))), (5, .int (iZ (a5)))]) hx hb dX10_feed_76 hl (by decide) rfl (fun ls hl => ?_)
        refine lv_aload_n hx hb dX10_feed_78 rfl (lv_at hl 2 rfl) ?_
        refine fz_get (D := (dC, dI)) (ci := 10) (v := .ref (h0 + 2)) (C := RX10) (T := TX10) (N := 53) hx hb hts inG10 hown hK hP (k := 0) (by decide) (F := mF h0) mE_obj rfl 8 (by decide) (hts _ k1174) (fun _ h9 => h9) rfl dX10_feed_79 ?_
        refine lv_aload_n hx hb dX10_feed_82 rfl (lv_at hl 2 rfl) ?_
        refine fz_get (D := (dC, dI)) (ci := 10) (v := .int (iZ (μ 0 2))) (C := RX10) (T := TX10) (N := 53) hx hb hts inG10 hown hK hP (k := 0) (by decide) (F := mF h0) mE_obj rfl 2 (by decide) (hts _ k1168) (fun _ h9 => h9) rfl dX10_feed_83 ?_
        refine lv_iload hx hb dX10_feed_86 (lv_at hl 0 rfl) ?_
        refine lv_bipush (v := iZ 24) hx hb dX10_feed_88 rfl ?_
        refine lv_bipush (v := iZ 8) hx hb dX10_feed_90 rfl ?_
        refine lv_iload hx hb dX10_feed_92 (lv_at hl 1 rfl) ?_
        refine lv_iconst (v := iZ 4) hx hb dX10_feed_94 rfl ?_
        refine lv_irem hx hb dX10_feed_95 (by decide +kernel) ?_
        refine lv_topi (fun x9 ex9 => ?_)
        obtain rfl : x9 = iZ (k % 4) := ex9.trans (iZ_remP (by constructor <;> omega) (by decide) (by omega) (by omega))
        refine lv_imul hx hb dX10_feed_96 ?_
        refine lv_topi (fun x9 ex9 => ?_)
        obtain rfl : x9 = iZ (8 * (k % 4)) := ex9.trans (iZ_mul _ _)
        refine lv_isub hx hb dX10_feed_97 ?_
        refine lv_topi (fun x9 ex9 => ?_)
        obtain rfl : x9 = iZ (24 - (8 * (k % 4))) := ex9.trans (iZ_sub _ _)
        refine lv_ishr hx hb dX10_feed_98 ?_
        refine lv_topi (fun x9 ex9 => ?_)
        obtain ⟨z1, rfl, hz1⟩ := iZ_ex x9
        have ez1 := ex9; clear ex9
        refine lv_sipush (v := iZ 255) hx hb dX10_feed_99 rfl ?_
        refine lv_iand hx hb dX10_feed_102 ?_
        refine lv_topi (fun x9 ex9 => ?_)
        obtain ⟨z2, rfl, hz2⟩ := iZ_ex x9
        have ez2 := ex9; clear ex9
        refine fz_st (k := 2) (n := 400) (i := (μ 0 2)) (z := z2) hx hb hK hP fA_in hS 0 (by decide) mE_fed rfl ⟨by omega, by omega⟩ (by decide) dX10_feed_103 (fun H locs hP hS => ?_)
        obtain ⟨μ3, eμ3⟩ : ∃ x : va_M, x = uz μ 2 (μ 0 2).toNat (z2) := ⟨_, rfl⟩
        rw [← eμ3] at hP
        refine lv_aload_n hx hb dX10_feed_104 rfl (lv_at hl 2 rfl) ?_
        refine lv_dup hx hb dX10_feed_105 rfl ?_
        refine fz_get (D := (dC, dI)) (ci := 10) (v := .int (iZ (μ3 0 2))) (C := RX10) (T := TX10) (N := 53) hx hb hts inG10 hown hK hP (k := 0) (by decide) (F := mF h0) mE_obj rfl 2 (by decide) (hts _ k1168) (fun _ h9 => h9) rfl dX10_feed_106 ?_
        rw [show μ3 0 2 = μ 0 2 from by rw [eμ3, uz_n (by omega)]]
        refine lv_iconst (v := iZ 1) hx hb dX10_feed_109 rfl ?_
        refine lv_iadd hx hb dX10_feed_110 ?_
        refine lv_topi (fun x9 ex9 => ?_)
        obtain rfl : x9 = iZ ((μ 0 2) + 1) := ex9.trans (iZ_add _ _)
        refine fz_put (D := (dC, dI)) (ci := 10) (ty := .int) (z := ((μ 0 2) + 1)) (C := RX10) (T := TX10) (N := 53) hx hb hts inG10 tyX10 tyX10_ok nmX10 hown hK hP fA_in hS (k := 0) (by decide) (F := mF h0) mE_obj rfl 2 (by decide) (hts _ k1168) (fun _ h9 => h9) rfl (by decide +kernel) rfl rfl (fun _ => Nat.le_of_ble_eq_true rfl) (fun _ _ => rfl) dX10_feed_111 (fun H locs hP hS => ?_)
        obtain ⟨μ4, eμ4⟩ : ∃ x : va_M, x = uz μ3 0 2 ((μ 0 2) + 1) := ⟨_, rfl⟩
        rw [← eμ4] at hP
        refine lv_iinc (v := iZ (k + 1)) (lv' := [(6, .int (iZ (k + 1))), (7, .int (iZ (x76_0))), (0, .ref h0), (1, .int (iZ (a1))), (2, .int (iZ (a2))), (3, .int (iZ (a3))), (4, .int (iZ (a4))), (5, .int (iZ (a5)))]) hx hb dX10_feed_114 hl (k := 1) rfl (iZ_add _ _) (by decide) rfl (fun ls hl => ?_)
        refine lv_goto (tgt := 23) hx hb dX10_feed_117 (by decide) ?_
        exact ih (k + 1) μ4 H locs ls (by omega) (by subst eμ4 eμ3; rw [uz_s]; omega) (by subst eμ4 eμ3; exact fr_uz (fr_uz hfr (Or.inr rfl)) (Or.inl ⟨rfl, rfl⟩)) (by
                        intro j hj
                        subst eμ4 eμ3
                        rw [uz_n (by omega)]
                        by_cases hj2 : j = (μ 0 2).toNat
                        · have hjz : (j : Int) = t0 + k := by omega
                          rw [← hj2, uz_s, if_pos (by omega), hjz, show t0 + k - t0 = k by omega, ← hj76_0]
                          unfold bz
                          rw [← ez1, ← ez2, iZ_toInt hz2]
                        · rw [uz_n (by omega), hfed j hj]
                          have h5 : (t0 ≤ (j : Int) ∧ (j : Int) < t0 + (k + 1)) ↔ (t0 ≤ (j : Int) ∧ (j : Int) < t0 + k) := by omega
                          simp only [h5]) (by omega) hP hS (lv_sub hl [0, 2, 3, 4, 5, 6, 7] rfl)
      refine lv_iload hx hb dX10_feed_30 (lv_at hl 0 rfl) ?_
      refine lv_iconst (v := iZ 4) hx hb dX10_feed_32 rfl ?_
      refine fz_icmp_ge (tgt := 40) (by constructor <;> omega) (by decide) hx hb dX10_feed_33 (by decide) (fun c33_ => ?_) (fun c33_ => ?_)
      · refine lv_iload hx hb dX10_feed_40 (lv_at hl 0 rfl) ?_
        refine lv_bipush (v := iZ 8) hx hb dX10_feed_42 rfl ?_
        refine fz_icmp_ge (tgt := 51) (by constructor <;> omega) (by decide) hx hb dX10_feed_44 (by decide) (fun c44_ => ?_) (fun c44_ => ?_)
        · refine lv_iload hx hb dX10_feed_51 (lv_at hl 0 rfl) ?_
          refine lv_bipush (v := iZ 12) hx hb dX10_feed_53 rfl ?_
          refine fz_icmp_ge (tgt := 62) (by constructor <;> omega) (by decide) hx hb dX10_feed_55 (by decide) (fun c55_ => ?_) (fun c55_ => ?_)
          · refine lv_iload hx hb dX10_feed_62 (lv_at hl 0 rfl) ?_
            refine lv_bipush (v := iZ 16) hx hb dX10_feed_64 rfl ?_
            refine fz_icmp_ge (tgt := 74) (by constructor <;> omega) (by decide) hx hb dX10_feed_66 (by decide) (fun c66_ => ?_) (fun c66_ => ?_)
            · refine lv_iload hx hb dX10_feed_74 (lv_at hl 6 rfl) ?_
              exact j76_ (a5) (by unfold argO; repeat (first | rw [if_pos (by omega)] | rw [if_neg (by omega)]))
            · refine lv_iload hx hb dX10_feed_69 (lv_at hl 5 rfl) ?_
              refine lv_goto (tgt := 76) hx hb dX10_feed_71 (by decide) ?_
              exact j76_ (a4) (by unfold argO; repeat (first | rw [if_pos (by omega)] | rw [if_neg (by omega)]))
          · refine lv_iload_n hx hb dX10_feed_58 rfl (lv_at hl 4 rfl) ?_
            refine lv_goto (tgt := 76) hx hb dX10_feed_59 (by decide) ?_
            exact j76_ (a3) (by unfold argO; repeat (first | rw [if_pos (by omega)] | rw [if_neg (by omega)]))
        · refine lv_iload_n hx hb dX10_feed_47 rfl (lv_at hl 3 rfl) ?_
          refine lv_goto (tgt := 76) hx hb dX10_feed_48 (by decide) ?_
          exact j76_ (a2) (by unfold argO; repeat (first | rw [if_pos (by omega)] | rw [if_neg (by omega)]))
      · refine lv_iload_n hx hb dX10_feed_36 rfl (lv_at hl 2 rfl) ?_
        refine lv_goto (tgt := 76) hx hb dX10_feed_37 (by decide) ?_
        exact j76_ (a1) (by unfold argO; repeat (first | rw [if_pos (by omega)] | rw [if_neg (by omega)]))
set_option maxHeartbeats 4000000 in
set_option maxRecDepth 100000 in
theorem m_feed (l : Launch) (dC : Nat → ClassId) (dI : Nat → Nat → Nat) (cI cZ cII cIII : ClassId) (h0 sz : Nat) (μ : va_M) (a1 : Int) (a2 : Int) (a3 : Int) (a4 : Int) (a5 : Int) (hra1 : inR a1) (hra2 : inR a2) (hra3 : inR a3) (hra4 : inR a4) (hra5 : inR a5) (htp : 0 ≤ μ 0 2 ∧ μ 0 2 ≤ 400) : Met l yX10_feed (Cond.code yX10_feed cX10_feed 8 (some .int) :: wsG) ({ frames := 1, cells := 0, slots := 0, locals := 14 } : Room) (va_Pc [.ref h0, .int (iZ (a1)), .int (iZ (a2)), .int (iZ (a3)), .int (iZ (a4)), .int (iZ (a5))] (fun U => U.heap.size = sz ∧ va_P (dC, dI) vwCl (fw (mE cI cZ cII cIII h0) h0 6325 μ) U.heap ∧ va_K (dC, dI) vwCl (mT cI cZ cII cIII) U)) (va_Qi (fun (r9 : Int32) (u : va_M × Int) => r9 = iZ u.2 ∧ (fun (u : va_M) (r : Int) => (μ 0 2 + 20 > 400 → u = uz μ 0 0 0 ∧ r = -1) ∧ (μ 0 2 + 20 ≤ 400 → u 0 2 = μ 0 2 + 20 ∧ r = μ 0 2 + 20 ∧ u 0 0 = 0 ∧ fr (fun x y => (x = 0 ∧ (y = 0 ∨ y = 2)) ∨ x = 2) μ u ∧ ∀ j : Nat, j < 400 → u 2 j = if μ 0 2 ≤ j ∧ (j : Int) < μ 0 2 + 20 then bz (argO a1 a2 a3 a4 a5 (j - μ 0 2)) ((j - μ 0 2) % 4) else μ 2 j)) u.1 u.2) (fun u t => va_P (dC, dI) vwCl (fw (mE cI cZ cII cIII h0) h0 6325 u.1) t.heap ∧ va_K (dC, dI) vwCl (mT cI cZ cII cIII) t) (fA h0 6325 sz)) 0 0 (fA h0 6325 sz) := by
  refine Met.ofW (cc := cX10_feed) (maxL := 8) (ret := (some .int)) (by decide) rfl ?_
  intro p e s m args below meth c s₁ B hml hv
  obtain ⟨rfl, hsz, hP, hK⟩ := hv
  have hx := B.exec
  have hb := B.bytes
  have hr := B.returns
  have hts : ∀ w ∈ wsG, w.before _ s = true := hG_of (atoms_spec (ws := (Cond.code yX10_feed cX10_feed 8 (some .int) :: wsG)) B.pre)
  have hown : s.vm.findClass RX10 = some m.cls := findClass_of_methodNamed B.named
  have hlocks := B.notSynchronized
  subst hsz
  have hS : va_S (fA h0 6325 s.heap.size) s.heap s.heap [] := va_S.rf
  have hl := lv_entry ([.ref h0, .int (iZ (a1)), .int (iZ (a2)), .int (iZ (a3)), .int (iZ (a4)), .int (iZ (a5))]) (n := 8) (Nat.le_of_ble_eq_true rfl)
  rw [lg_entry_eq]
  generalize (lg_sl ([.ref h0, .int (iZ (a1)), .int (iZ (a2)), .int (iZ (a3)), .int (iZ (a4)), .int (iZ (a5))]) ++ List.replicate (8 - (lg_sl ([.ref h0, .int (iZ (a1)), .int (iZ (a2)), .int (iZ (a3)), .int (iZ (a4)), .int (iZ (a5))])).length) Slot.unset).toArray = ls at hl ⊢
  have hl : lv_has ls 8 [(0, .ref h0), (1, .int (iZ (a1))), (2, .int (iZ (a2))), (3, .int (iZ (a3))), (4, .int (iZ (a4))), (5, .int (iZ (a5)))] := hl
  refine lv_aload_n hx hb dX10_feed_0 rfl (lv_at hl 0 rfl) ?_
  refine lv_iconst (v := iZ 0) hx hb dX10_feed_1 rfl ?_
  refine fz_put (D := (dC, dI)) (ci := 10) (ty := .int) (z := 0) (C := RX10) (T := TX10) (N := 53) hx hb hts inG10 tyX10 tyX10_ok nmX10 hown hK hP fA_in hS (k := 0) (by decide) (F := mF h0) mE_obj rfl 0 (by decide) (hts _ k1166) (fun _ h9 => h9) rfl (by decide +kernel) rfl rfl (fun _ => Nat.le_of_ble_eq_true rfl) (fun _ _ => rfl) dX10_feed_2 (fun H locs hP hS => ?_)
  obtain ⟨μ5, eμ5⟩ : ∃ x : va_M, x = uz μ 0 0 (0) := ⟨_, rfl⟩
  rw [← eμ5] at hP
  refine lv_aload_n hx hb dX10_feed_5 rfl (lv_at hl 0 rfl) ?_
  refine fz_get (D := (dC, dI)) (ci := 10) (v := .int (iZ (μ5 0 2))) (C := RX10) (T := TX10) (N := 53) hx hb hts inG10 hown hK hP (k := 0) (by decide) (F := mF h0) mE_obj rfl 2 (by decide) (hts _ k1168) (fun _ h9 => h9) rfl dX10_feed_6 ?_
  rw [show μ5 0 2 = μ 0 2 from by rw [eμ5, uz_n (by omega)]]
  refine lv_bipush (v := iZ 20) hx hb dX10_feed_9 rfl ?_
  refine lv_iadd hx hb dX10_feed_11 ?_
  refine lv_topi (fun x9 ex9 => ?_)
  obtain rfl : x9 = iZ ((μ 0 2) + 20) := ex9.trans (iZ_add _ _)
  refine lv_sipush (v := iZ 400) hx hb dX10_feed_12 rfl ?_
  refine fz_icmp_le (tgt := 20) (by constructor <;> omega) (by decide) hx hb dX10_feed_15 (by decide) (fun c15_ => ?_) (fun c15_ => ?_)
  · refine lv_iconst (v := iZ 0) hx hb dX10_feed_20 rfl ?_
    refine lv_istore (lv' := [(6, .int (iZ (0))), (0, .ref h0), (1, .int (iZ (a1))), (2, .int (iZ (a2))), (3, .int (iZ (a3))), (4, .int (iZ (a4))), (5, .int (iZ (a5)))]) hx hb dX10_feed_21 hl (by decide) rfl (fun ls hl => ?_)
    refine LX10_feed_23 hx hb hml hown hts hK (Nat.le_of_ble_eq_true rfl) (Nat.le_of_ble_eq_true rfl) (Nat.le_of_ble_eq_true rfl) (Nat.le_of_ble_eq_true rfl) (μ5) (μ 0 2) (a1) (a2) (a3) (a4) (a5) (by omega) ?_ _ (0) μ5 H locs ls (by decide) (by subst eμ5; rw [uz_n (by omega)]; omega) (by exact fr_rfl) (by intro j hj; rw [if_neg (by omega)]) (Nat.lt_succ_self _) hP hS (lv_sub hl [0, 1, 2, 3, 4, 5, 6] rfl)
    · intro k_6 μ6_ H locs ls hq1_6 hq2_6 hq3_6 hP hS hl
      have hl : lv_has ls 8 [(0, .ref h0)] := hl
      refine lv_aload_n hx hb dX10_feed_120 rfl (lv_at hl 0 rfl) ?_
      refine fz_get (D := (dC, dI)) (ci := 10) (v := .int (iZ (μ6_ 0 2))) (C := RX10) (T := TX10) (N := 53) hx hb hts inG10 hown hK hP (k := 0) (by decide) (F := mF h0) mE_obj rfl 2 (by decide) (hts _ k1168) (fun _ h9 => h9) rfl dX10_feed_121 ?_
      exact W.iret (v := iZ (μ6_ 0 2)) hx hb hr (fun t9 ht9 hW9 => ⟨⟨iZ (μ6_ 0 2), (μ6_, μ6_ 0 2), rfl, ⟨rfl, (by
                    dsimp only
                    refine ⟨fun h => by omega, fun _ => ⟨by omega, by omega, ?_, ?_, ?_⟩⟩
                    · rw [hq2_6 0 0 (by simp), eμ5, uz_s]
                    · refine fun x y hxy => ?_
                      have hxy : ¬ ((x = 0 ∧ (y = 0 ∨ y = 2)) ∨ x = 2) := hxy
                      rw [hq2_6 x y (by show ¬ ((x = 0 ∧ y = 2) ∨ x = 2); omega), eμ5, uz_n (by omega)]
                    · intro j hj
                      rw [hq3_6 j hj, eμ5, uz_n (by omega)])⟩, by rw [ht9]; exact hP, va_K.moved hW9.alike hK⟩, hS.F ht9⟩) hS.2.2 dX10_feed_124
  · refine lv_iconst (v := iZ (-1)) hx hb dX10_feed_18 rfl ?_
    exact W.iret (v := iZ ((-1))) hx hb hr (fun t9 ht9 hW9 => ⟨⟨iZ ((-1)), (μ5, (-1)), rfl, ⟨rfl, (by
                dsimp only
                subst eμ5; exact ⟨fun _ => ⟨rfl, rfl⟩, fun h => by omega⟩)⟩, by rw [ht9]; exact hP, va_K.moved hW9.alike hK⟩, hS.F ht9⟩) hS.2.2 dX10_feed_19

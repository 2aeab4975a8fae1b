theorem k1548 : (Cond.methodLink "PageSkeletonModel" (268 : Nat) ({ cls := "PageSkeletonModel", name := "costOf", desc := "(IIII)I" } : MethodName)) ∈ wsG := wsG_at 1548 (by decide +kernel) (by decide +kernel)
theorem k1550 : (Cond.instanceMethod ({ cls := "PageSkeletonModel", name := "costOf", desc := "(IIII)I" } : MethodName)) ∈ wsG := wsG_at 1550 (by decide +kernel) (by decide +kernel)
theorem k1551 : (Cond.code ({ cls := "PageSkeletonModel", name := "costOf", desc := "(IIII)I" } : MethodName) prog_12_method_36_code (9 : Nat) (Option.some FieldType.int)) ∈ wsG := wsG_at 1551 (by decide +kernel) (by decide +kernel)
theorem ks_yX10_costOf : Cond.selects RX10 yX10_costOf yX10_costOf ∈ wsG := wsG_mem (by decide +kernel) (by decide +kernel)
theorem dX10_firstWay_0 : decode cX10_firstWay 0 = .ok (.iconst 1, 1) := by decide +kernel
theorem dX10_firstWay_1 : decode cX10_firstWay 1 = .ok (.istore 4, 2) := by decide +kernel
theorem dX10_firstWay_3 : decode cX10_firstWay 3 = .ok (.aload_n 0, 1) := by decide +kernel
theorem dX10_firstWay_4 : decode cX10_firstWay 4 = .ok (.iload 4, 2) := by decide +kernel
theorem dX10_firstWay_6 : decode cX10_firstWay 6 = .ok (.iload_n 1, 1) := by decide +kernel
theorem dX10_firstWay_7 : decode cX10_firstWay 7 = .ok (.iload_n 2, 1) := by decide +kernel
theorem dX10_firstWay_8 : decode cX10_firstWay 8 = .ok (.iload_n 3, 1) := by decide +kernel
theorem dX10_firstWay_9 : decode cX10_firstWay 9 = .ok (.invokevirtual 268, 3) := by decide +kernel
theorem dX10_firstWay_12 : decode cX10_firstWay 12 = .ok (.aload_n 0, 1) := by decide +kernel
theorem dX10_firstWay_13 : decode cX10_firstWay 13 = .ok (.getfield 73, 3) := by decide +kernel
theorem dX10_firstWay_16 : decode cX10_firstWay 16 = .ok (.iload_n 1, 1) := by decide +kernel
theorem dX10_firstWay_17 : decode cX10_firstWay 17 = .ok (.aaload, 1) := by decide +kernel
theorem dX10_firstWay_18 : decode cX10_firstWay 18 = .ok (.iload_n 2, 1) := by decide +kernel
theorem dX10_firstWay_19 : decode cX10_firstWay 19 = .ok (.aaload, 1) := by decide +kernel
theorem dX10_firstWay_20 : decode cX10_firstWay 20 = .ok (.iload_n 3, 1) := by decide +kernel
theorem dX10_firstWay_21 : decode cX10_firstWay 21 = .ok (.iaload, 1) := by decide +kernel
theorem dX10_firstWay_22 : decode cX10_firstWay 22 = .ok (.if_icmp .eq 9, 3) := by decide +kernel
theorem dX10_firstWay_25 : decode cX10_firstWay 25 = .ok (.iinc 4 1, 3) := by decide +kernel
theorem dX10_firstWay_28 : decode cX10_firstWay 28 = .ok (.goto (-25), 3) := by decide +kernel
theorem dX10_firstWay_31 : decode cX10_firstWay 31 = .ok (.iload 4, 2) := by decide +kernel
theorem dX10_firstWay_33 : decode cX10_firstWay 33 = .ok (.ireturn, 1) := by decide +kernel
/-! the first way of least cost -/
def leB (μ : va_M) (n : Nat) (wS wP : Rw) (i j : Nat) : Prop := ∀ i2 j2 : Nat, i ≤ i2 → j ≤ j2 → i2 ≤ rI wS → j2 ≤ rI wP → μ (754 + n * 261 + 1 + i2) j2 = (lay (rdrop i2 wS) (rdrop j2 wP)).1
theorem leB_A {μ : va_M} {n : Nat} {wS wP : Rw} {i j : Nat} (h : leB μ n wS wP i j) : leA μ n wS wP i j := fun i2 j2 h1 h2 _ h4 h5 => h i2 j2 h1 h2 h4 h5
theorem wa_off {w b : Rw} : (hsd w = false ∨ hsd b = false → wa1 lay w b = 1000000 ∧ wa2 lay w b = 1000000 ∧ wa3 lay w b = 1000000) ∧ (hsd w = false → wa4 lay w b = 1000000) ∧ (hsd b = false → wa5 lay w b = 1000000) ∧ (hsd w = true ∨ hsd b = true → wa0 w b = 1000000) := by
  cases w with
  | leaf =>
    cases b with
    | leaf => exact ⟨fun _ => ⟨rfl, rfl, rfl⟩, fun _ => rfl, fun _ => rfl, fun h => h.elim (fun h => (by cases h)) (fun h => (by cases h))⟩
    | inner z k v l r => exact ⟨fun _ => ⟨rfl, rfl, rfl⟩, fun _ => rfl, fun h => (by cases h), fun _ => rfl⟩
  | inner z k v l r =>
    cases b with
    | leaf => exact ⟨fun _ => ⟨rfl, rfl, rfl⟩, fun h => (by cases h), fun _ => rfl, fun _ => rfl⟩
    | inner z2 k2 v2 l2 r2 => exact ⟨fun h => h.elim (fun h => (by cases h)) (fun h => (by cases h)), fun h => (by cases h), fun h => (by cases h), fun _ => rfl⟩
theorem way_is {w b : Rw} (hne : hsd w = true ∨ hsd b = true) (hm : wmin lay w b < 1000000) : 1 ≤ wayOf w b ∧ wayOf w b ≤ 5 ∧ waF (wayOf w b) w b = wmin lay w b ∧ ∀ p : Int, 1 ≤ p → p < wayOf w b → waF p w b ≠ wmin lay w b := by
  obtain ⟨h1, h2, h3, h4⟩ := wa_off (w := w) (b := b)
  have h4 := h4 hne
  have hmd : wmin lay w b = min (min (min (min (min (wa0 w b) (wa1 lay w b)) (wa2 lay w b)) (wa3 lay w b)) (wa4 lay w b)) (wa5 lay w b) := rfl
  have hb3 : hsd w = true → hsd b = true → (hsd w && hsd b) = true := fun a c => by rw [a, c]; rfl
  have hn3 : ¬ (hsd w = true ∧ hsd b = true) → hsd w = false ∨ hsd b = false := fun h => by
    cases hw : hsd w <;> cases hb9 : hsd b <;> simp [hw, hb9] at h ⊢
  by_cases c1 : wa1 lay w b = wmin lay w b
  · have hh : hsd w = true ∧ hsd b = true := Classical.byContradiction fun h => by have := (h1 (hn3 h)).1; omega
    have e : wayOf w b = 1 := by unfold wayOf; rw [hh.1, hh.2, beq_iff_eq.mpr c1]; rfl
    rw [e]
    exact ⟨by omega, by omega, c1, fun p _ _ => by omega⟩
  have f1 : (wa1 lay w b == wmin lay w b) = false := by rw [beq_eq_false_iff_ne]; exact c1
  by_cases c2 : wa2 lay w b = wmin lay w b
  · have hh : hsd w = true ∧ hsd b = true := Classical.byContradiction fun h => by have := (h1 (hn3 h)).2.1; omega
    have e : wayOf w b = 2 := by unfold wayOf; rw [hh.1, hh.2, f1, beq_iff_eq.mpr c2]; rfl
    rw [e]
    refine ⟨by omega, by omega, c2, fun p _ hp => ?_⟩
    obtain rfl : p = 1 := by omega
    exact c1
  have f2 : (wa2 lay w b == wmin lay w b) = false := by rw [beq_eq_false_iff_ne]; exact c2
  by_cases c3 : wa3 lay w b = wmin lay w b
  · have hh : hsd w = true ∧ hsd b = true := Classical.byContradiction fun h => by have := (h1 (hn3 h)).2.2; omega
    have e : wayOf w b = 3 := by unfold wayOf; rw [hh.1, hh.2, f1, f2, beq_iff_eq.mpr c3]; rfl
    rw [e]
    refine ⟨by omega, by omega, c3, fun p _ hp => ?_⟩
    obtain rfl | rfl : p = 1 ∨ p = 2 := by omega
    · exact c1
    · exact c2
  have f3 : (wa3 lay w b == wmin lay w b) = false := by rw [beq_eq_false_iff_ne]; exact c3
  by_cases c4 : wa4 lay w b = wmin lay w b
  · have hh : hsd w = true := by
      cases hw : hsd w with
      | true => rfl
      | false => have := h2 hw; omega
    have e : wayOf w b = 4 := by unfold wayOf; rw [hh, f1, f2, f3, beq_iff_eq.mpr c4]; simp
    rw [e]
    refine ⟨by omega, by omega, c4, fun p _ hp => ?_⟩
    obtain rfl | rfl | rfl : p = 1 ∨ p = 2 ∨ p = 3 := by omega
    · exact c1
    · exact c2
    · exact c3
  have f4 : (wa4 lay w b == wmin lay w b) = false := by rw [beq_eq_false_iff_ne]; exact c4
  have c5 : wa5 lay w b = wmin lay w b := by omega
  have hh : hsd b = true := by
    cases hw : hsd b with
    | true => rfl
    | false => have := h3 hw; omega
  have e : wayOf w b = 5 := by unfold wayOf; rw [hh, f1, f2, f3, f4]; simp
  rw [e]
  refine ⟨by omega, by omega, c5, fun p _ hp => ?_⟩
  obtain rfl | rfl | rfl | rfl : p = 1 ∨ p = 2 ∨ p = 3 ∨ p = 4 := by omega
  · exact c1
  · exact c2
  · exact c3
  · exact c4
theorem hsd_I {w : Rw} : hsd w = true ↔ 0 < rI w := by
  cases w with
  | leaf => exact ⟨fun h => (by cases h), fun h => absurd h (Nat.lt_irrefl 0)⟩
  | inner z k v l r => rw [rI_in]; exact ⟨fun _ => by omega, fun _ => rfl⟩
theorem lvS_fr {μ u : va_M} {P : Nat → Nat → Prop} {n : Nat} {t u1 : Int} {wS wP : Rw} {ps pq : Int} (h : lvS μ n t u1 wS wP ps pq) (hf : fr P μ u) (h1 : ∀ x, 4408 ≤ x → x ≤ 4411 → ¬ P x n) (h2 : ∀ y, ¬ P (723 + n) y) (h3 : ∀ y, ¬ P (738 + n) y) (h4 : ∀ x, ¬ P (507 + t.toNat) x ∧ ¬ P (578 + t.toNat) x ∧ ¬ P (649 + t.toNat) x) (h5 : ∀ x, ¬ P (507 + u1.toNat) x ∧ ¬ P (578 + u1.toNat) x ∧ ¬ P (649 + u1.toNat) x) : lvS u n t u1 wS wP ps pq := by
  obtain ⟨v1, v2, v3, v4, v5, v6, v7, v8⟩ := h
  exact ⟨(hf _ _ (h1 4408 (by omega) (by omega))).trans v1, (hf _ _ (h1 4409 (by omega) (by omega))).trans v2, (hf _ _ (h1 4410 (by omega) (by omega))).trans v3, (hf _ _ (h1 4411 (by omega) (by omega))).trans v4, fun m hm => (hf _ _ (h2 m)).trans (v5 m hm), fun m hm => (hf _ _ (h3 m)).trans (v6 m hm), RA_fr v7 hf h4, RA_fr v8 hf h5⟩
theorem lvS_LD {μ u : va_M} {n : Nat} {t u1 : Int} {wS wP : Rw} {ps pq : Int} (h : lvS μ n t u1 wS wP ps pq) (hf : fr (LD (n + 1)) μ u) (hn : n ≤ 13) (ht : 0 ≤ t ∧ t < 70) (hu : 0 ≤ u1 ∧ u1 < 70) : lvS u n t u1 wS wP ps pq :=
  lvS_fr h hf (fun x h1 h2 => by unfold LD; omega) (fun y => by unfold LD; omega) (fun y => by unfold LD; omega) (fun x => ⟨LD_lt (by omega), LD_lt (by omega), LD_lt (by omega)⟩) (fun x => ⟨LD_lt (by omega), LD_lt (by omega), LD_lt (by omega)⟩)
theorem leB_LD {μ u : va_M} {n : Nat} {wS wP : Rw} {i j : Nat} (h : leB μ n wS wP i j) (hf : fr (LD (n + 1)) μ u) (hS : rI wS ≤ 259) (hn : n ≤ 13) : leB u n wS wP i j := fun i2 j2 a b c d => (hf _ _ (by unfold LD; omega)).trans (h i2 j2 a b c d)
theorem wa_up {w b : Rw} (h1 : rN w ≤ 900) (h2 : rN b ≤ 900) : wa1 lay w b ≤ 1002000 ∧ wa2 lay w b ≤ 1002000 ∧ wa3 lay w b ≤ 1002000 ∧ wa4 lay w b ≤ 1002000 ∧ wa5 lay w b ≤ 1002000 := by
  have hl : ∀ x y : Rw, rN x + rN y ≤ 1800 → (lay x y).1 ≤ 1800 := fun x y h => by
    have g1 := (lay_1 x y).2
    have g2 := rL_N x
    have g3 := rL_N y
    omega
  have hr1 : ∀ (k : Nat) (l : Rw), rL1 k l ≤ 1 + rN l := fun k l => by
    have g2 := rL_N l
    unfold rL1
    split <;> omega
  cases w with
  | leaf =>
    cases b with
    | leaf => rw [wa1, wa2, wa3, wa4, wa5]; omega
    | inner z2 k2 v2 l2 r2 =>
      rw [rN_in] at h2
      have q0 : rN (Std.DTreeMap.Internal.Impl.leaf : Rw) = 0 := rfl
      have q1 := hl .leaf r2 (by omega)
      have q2 := hr1 k2 l2
      rw [wa1, wa2, wa3, wa4, wa5]
      omega
  | inner z k v l r =>
    have e8 : rN (Std.DTreeMap.Internal.Impl.inner z k v l r : Rw) = 1 + rN l + rN r := rN_in
    have q2 := hr1 k l
    cases b with
    | leaf =>
      have q1 := hl r .leaf (by have q0 : rN (Std.DTreeMap.Internal.Impl.leaf : Rw) = 0 := rfl; omega)
      refine ⟨by rw [wa1]; omega, by rw [wa2]; omega, by rw [wa3]; omega, ?_, by rw [wa5]; omega⟩
      rw [wa4]
      split <;> omega
    | inner z2 k2 v2 l2 r2 =>
      have e9 : rN (Std.DTreeMap.Internal.Impl.inner z2 k2 v2 l2 r2 : Rw) = 1 + rN l2 + rN r2 := rN_in
      have q3 := hr1 k2 l2
      have p1 := hl r r2 (by omega)
      have p0 := hl l l2 (by omega)
      have p2 := hl r (rdrop (rI l) (.inner z2 k2 v2 l2 r2)) (by have := rdrop_N2 (rI l) (Std.DTreeMap.Internal.Impl.inner z2 k2 v2 l2 r2 : Rw); omega)
      have p3 := hl (rdrop (rI l2) (.inner z k v l r)) r2 (by have := rdrop_N2 (rI l2) (Std.DTreeMap.Internal.Impl.inner z k v l r : Rw); omega)
      have p4 := hl r (.inner z2 k2 v2 l2 r2) (by omega)
      have p5 := hl (.inner z k v l r) r2 (by omega)
      have c1 := (fC_rng (k := k) (v := v) (k2 := k2) (v2 := v2) (rfC_rng l l2)).2
      have c2 := (rfC_rng l (.inner z2 k2 v2 l2 r2)).2
      have c3 := (rfC_rng l2 (.inner z k v l r)).2
      refine ⟨?_, ?_, ?_, ?_, ?_⟩
      · rw [wa1]
        split
        · split <;> omega
        · split
          · split <;> omega
          · omega
      · rw [wa2]
        split <;> omega
      · rw [wa3]
        split <;> omega
      · rw [wa4]
        split <;> omega
      · rw [wa5]
        omega
theorem waF_rng (q : Int) (w b : Rw) (h1 : rN w ≤ 900) (h2 : rN b ≤ 900) : 0 ≤ waF q w b ∧ waF q w b ≤ 1002000 := by
  have a := wa_pos (g := lay) (w := w) (b := b) (fun w' b' _ => (lay_1 w' b').1)
  have c := wa_up h1 h2
  unfold waF
  split
  · omega
  · split
    · omega
    · split
      · omega
      · split <;> omega
set_option maxHeartbeats 40000000 in
set_option maxRecDepth 100000 in
theorem LX10_firstWay_3 {p : Program} {l : Launch} {e : Env} {R : Room} {s : State} {m : MethodId} {args : Array Value} {below : List Frame} {meth : Method} {c : Code} {cells slots : Nat} {Q : State → Prop} {dC : Nat → ClassId} {dI : Nat → Nat → Nat} {h0 : Nat} {cI cZ cII cIII : ClassId} {d9 : Nat} (hx : p.tables.exec = Jvm.exec) (hb : c.code = cX10_firstWay) (hml : c.maxLocals = 5) (hown : s.vm.findClass RX10 = some m.cls) (hts : ∀ w ∈ wsG, w.before args s = true) (hK : va_K (dC, dI) vwCl (mT cI cZ cII cIII) s) (hRf : 5 * d9 + 32 + 1 + 1 + 1 ≤ R.frames) (hRl : 200 * d9 + 900 + 40 + 40 + 40 ≤ R.locals) (hRc : cells ≤ R.cells) (hRs : slots ≤ R.slots) (μ0 : va_M) (n : Int) (i : Int) (j : Int) (t : Int) (u1 : Int) (wS : Rw) (wP : Rw) (ps : Int) (pq : Int) (hLR : ∀ (sz : Nat) (μ : va_M) (n : Int) (t : Int) (a1 : Int) (a2 : Int) (u1 : Int) (b1 : Int) (b2 : Int) (o1 : Int) (wS : Rw) (wP : Rw), (0 ≤ n ∧ n + rH wP ≤ 13) → (0 ≤ t ∧ t < 70) → (0 ≤ u1 ∧ u1 < 70) → (0 ≤ a1 ∧ a2 = a1 + rN wS ∧ a2 ≤ 900) → (0 ≤ b1 ∧ b2 = b1 + rN wP ∧ b2 ≤ 900) → (RA μ t.toNat wS a1.toNat) → (RA μ u1.toNat wP b1.toNat) → (rWF wS) → (rWF wP) → (rL wS ≤ 259 ∧ rL wP ≤ 60 ∧ rH wS ≤ 20) → (-1 ≤ o1 ∧ o1 < 70 ∧ o1 ≠ t ∧ o1 ≠ u1) → (capI2 o1 (μ 719 o1.toNat) (rN (lrow wS wP))) → (rH wP < d9) → Met l yX10_laysRow (Cond.code yX10_laysRow cX10_laysRow 13 (some .int) :: wsG) ({ frames := 5 * d9 + 32, cells := 0, slots := 0, locals := 200 * d9 + 900 } : Room) (va_Pc [.ref h0, .int (iZ (n)), .int (iZ (t)), .int (iZ (a1)), .int (iZ (a2)), .int (iZ (u1)), .int (iZ (b1)), .int (iZ (b2)), .int (iZ (o1))] (fun U => U.heap.size = sz ∧ va_P (dC, dI) vwCl (fw (mE cI cZ cII cIII h0) h0 6325 μ) U.heap ∧ va_K (dC, dI) vwCl (mT cI cZ cII cIII) U)) (va_Qi (fun (r9 : Int32) (u : va_M × Int) => r9 = iZ u.2 ∧ (fun (u : va_M) (r : Int) => r = (lay wS wP).1 ∧ u 0 33 = (if (lay wS wP).2 = true then 1 else 0) ∧ layO μ u n.toNat o1 (lrow wS wP)) u.1 u.2) (fun u t => va_P (dC, dI) vwCl (fw (mE cI cZ cII cIII h0) h0 6325 u.1) t.heap ∧ va_K (dC, dI) vwCl (mT cI cZ cII cIII) t) (fA h0 6325 sz)) 0 0 (fA h0 6325 sz)) (hn : 0 ≤ n ∧ n + rH wP ≤ 13) (hL : lvS μ0 n.toNat t u1 wS wP ps pq) (ht : 0 ≤ t ∧ t < 70) (hu : 0 ≤ u1 ∧ u1 < 70) (htu : t ≠ -1 ∧ u1 ≠ -1) (hps : 0 ≤ ps ∧ ps + rN wS ≤ 900) (hpq : 0 ≤ pq ∧ pq + rN wP ≤ 900) (hwS : rWF wS) (hwP : rWF wP) (h260 : rL wS ≤ 259 ∧ rL wP ≤ 60 ∧ rH wS ≤ 20) (hd : rH wP ≤ d9) (hle : leB μ0 n.toNat wS wP i.toNat j.toNat) (hi : 0 ≤ i ∧ i ≤ rI wS) (hj : 0 ≤ j ∧ j ≤ rI wP) (hne : i < rI wS ∨ j < rI wP) (hexit31 : ∀ (q : Int) (μ : va_M) (H : Heap) (locs : List Loc) (ls : Array Slot), (fr (LD (n.toNat + 1)) μ0 μ) → (q = wayOf (rdrop i.toNat wS) (rdrop j.toNat wP)) → va_P (dC, dI) vwCl (fw (mE cI cZ cII cIII h0) h0 6325 μ) H → va_S (fA h0 6325 s.heap.size) s.heap H locs → lv_has ls 5 [(4, .int (iZ (q)))] → W p l e R s m args below meth c H locs cells slots Q (F0 m 31 ls [])) :
    ∀ (n9 : Nat) (q : Int) (μ : va_M) (H : Heap) (locs : List Loc) (ls : Array Slot), (fr (LD (n.toNat + 1)) μ0 μ) → (1 ≤ q ∧ q ≤ wayOf (rdrop i.toNat wS) (rdrop j.toNat wP)) → (8 - q).toNat < n9 → va_P (dC, dI) vwCl (fw (mE cI cZ cII cIII h0) h0 6325 μ) H → va_S (fA h0 6325 s.heap.size) s.heap H locs → lv_has ls 5 [(4, .int (iZ (q))), (3, .int (iZ (j))), (2, .int (iZ (i))), (1, .int (iZ (n))), (0, .ref h0)] → W p l e R s m args below meth c H locs cells slots Q (F0 m 3 ls []) := by
  intro n9
  induction n9 with
  | zero => intro q μ H locs ls hf hq hm9 hP hS hl; exact absurd hm9 (Nat.not_lt_zero _)
  | succ n9 ih =>
    intro q μ H locs ls hf hq hm9 hP hS hl
    have hw9 := way_is (w := rdrop i.toNat wS) (b := rdrop j.toNat wP) (by
          rw [hsd_I, hsd_I, rdrop_I, rdrop_I]; omega) (by
          have h1 := lay_1 (rdrop i.toNat wS) (rdrop j.toNat wP)
          rw [lay_c] at h1
          have h2 := rL_N (rdrop i.toNat wS)
          have h3 := rL_N (rdrop j.toNat wP)
          have h4 := rdrop_N2 i.toNat wS
          have h5 := rdrop_N2 j.toNat wP
          omega)
    obtain ⟨w1_, w2_, w3_, w4_⟩ := hw9
    have hIS := rI_L wS hwS
    have hIP := rI_L wP hwP
    have hL9 := lvS_LD hL hf (by omega) ht hu
    have hl9_ := leB_LD hle hf (by omega) (by omega)
    refine lv_aload_n hx hb dX10_firstWay_3 rfl (lv_at hl 4 rfl) ?_
    refine lv_iload hx hb dX10_firstWay_4 (lv_at hl 0 rfl) ?_
    refine lv_iload_n hx hb dX10_firstWay_6 rfl (lv_at hl 3 rfl) ?_
    refine lv_iload_n hx hb dX10_firstWay_7 rfl (lv_at hl 2 rfl) ?_
    refine lv_iload_n hx hb dX10_firstWay_8 rfl (lv_at hl 1 rfl) ?_
    refine va_calli (va_runV (As := [.int (iZ (q)), .int (iZ (n)), .int (iZ (i)), .int (iZ (j))]) (rest := []) ⟨hx, hb, hml, hown, hts⟩ (m_costOf l dC dI cI cZ cII cIII h0 (d9) H.size μ (n) (q) (i) (j) (t) (u1) (wS) (wP) (ps) (pq) (by exact hLR) (by exact hn) (by exact hL9) (by exact leB_A hl9_) (by first | assumption | omega | exact ⟨by omega, by omega⟩) (by exact hi) (by exact hj) (by exact ht) (by exact hu) (by exact htu) (by exact hps) (by exact hpq) (by exact hwS) (by exact hwP) (by exact h260) (by first | assumption | omega | exact ⟨by omega, by omega⟩)) (cwV 4 hts (gV_G k1548 k1550 ks_yX10_costOf k13 k1551) rfl rfl rfl (by decide +kernel) ⟨by show 5 * d9 + 32 + 1 + 1 + 1 ≤ _; omega, by show 8 + (9 + 11) + (200 * d9 + 900 + 40 + 40) ≤ _; omega⟩) ⟨fun a U g mk q => by obtain ⟨q0, q1, qP, qK⟩ := q; exact ⟨q0, q1, qP, va_K.moved (u := U) (U := U.calling g mk a) (Vm.Alike.refl U.vm) qK⟩, va_recv hK hP (ci := 10) (q0 := 0) rfl ((fw_get (by decide)).trans (by rw [mE_obj]; rfl)), fun U hU hW => ⟨rfl, by rw [hU], by rw [hU]; exact hP, va_K.moved hW.alike hK⟩⟩ rfl rfl hl.1 rfl (lv_room (Nat.le_of_ble_eq_true rfl)) dX10_firstWay_9 ⟨hRc, hRs⟩) hS (fun q _ h => fA_le hS.1 q h) (fA_le hS.1) (fun r9 u9 t9 H1 locs ht9 hvm9 hw9 hB9 hz9 hk9 hS => ?_)
    obtain ⟨μc, rc⟩ := u9
    obtain ⟨hP, -⟩ := hB9
    rw [ht9] at hP
    generalize H1 = H at hP hS ⊢
    obtain ⟨e9, hw9⟩ := hw9
    have e9 : r9 = iZ rc := e9
    subst e9
    simp only at hP hw9
    have hμc := hw9; clear hw9
    obtain ⟨z1, z2⟩ := hμc
    have hl8_ := leB_LD hl9_ z2 (by omega) (by omega)
    have hcr := lay_1 (rdrop i.toNat wS) (rdrop j.toNat wP)
    have hr3 := rL_N (rdrop i.toNat wS)
    have hr4 := rL_N (rdrop j.toNat wP)
    have hr5 := rdrop_N2 i.toNat wS
    have hr6 := rdrop_N2 j.toNat wP
    have hlc := lay_c (rdrop i.toNat wS) (rdrop j.toNat wP)
    have hrr : 0 ≤ rc ∧ rc ≤ 1002000 := by rw [z1]; exact waF_rng _ _ _ (by omega) (by omega)
    refine lv_aload_n hx hb dX10_firstWay_12 rfl (lv_at hl 4 rfl) ?_
    refine fz_get (D := (dC, dI)) (ci := 10) (v := .ref (h0 + 753)) (C := RX10) (T := TX10) (N := 53) hx hb hts inG10 hown hK hP (k := 0) (by decide) (F := mF h0) mE_obj rfl 32 (by decide) (hts _ k1198) (fun _ h9 => h9) rfl dX10_firstWay_13 ?_
    refine lv_iload_n hx hb dX10_firstWay_16 rfl (lv_at hl 3 rfl) ?_
    refine fz_ald (k := 753) (n := 14) (k2 := (754 + (n).toNat * 261)) hx hb hK hP 3 rfl (by decide) mE_least rfl ⟨by omega, by omega⟩ (by decide) (if_pos (by omega)) dX10_firstWay_17 ?_
    refine lv_iload_n hx hb dX10_firstWay_18 rfl (lv_at hl 2 rfl) ?_
    refine fz_ald (k := (754 + (n).toNat * 261)) (n := 260) (k2 := (754 + (n).toNat * 261 + 1 + (i).toNat)) hx hb hK hP 2 rfl (by omega) (mE_leastM (by omega)) rfl ⟨by omega, by omega⟩ (by decide) (if_pos (by omega)) dX10_firstWay_19 ?_
    refine lv_iload_n hx hb dX10_firstWay_20 rfl (lv_at hl 1 rfl) ?_
    refine fz_ld (k := (754 + (n).toNat * 261 + 1 + (i).toNat)) (n := 62) hx hb hK hP 0 (by omega) (mE_leastR (by omega) (by omega)) rfl ⟨by omega, by omega⟩ (by decide) dX10_firstWay_21 ?_
    rw [show μc (754 + (n).toNat * 261 + 1 + (i).toNat) (j).toNat = (lay (rdrop i.toNat wS) (rdrop j.toNat wP)).1 from (by exact hl8_ i.toNat j.toNat (Nat.le_refl _) (Nat.le_refl _) (by omega) (by omega))]
    refine fz_icmp_eq (tgt := 31) (by constructor <;> omega) (by constructor <;> omega) hx hb dX10_firstWay_22 (by decide) (fun c22_ => ?_) (fun c22_ => ?_)
    · have he9 : waF q (rdrop i.toNat wS) (rdrop j.toNat wP) = wmin lay (rdrop i.toNat wS) (rdrop j.toNat wP) := by rw [← z1, ← hlc]; omega
      exact hexit31 (q) μc H locs ls (by exact fr_trans hf z2) (by
                    by_cases h9 : q = wayOf (rdrop i.toNat wS) (rdrop j.toNat wP)
                    · exact h9
                    · exact absurd he9 (w4_ q hq.1 (by omega))) hP hS (lv_sub hl [0] rfl)
    · have he9 : ¬ waF q (rdrop i.toNat wS) (rdrop j.toNat wP) = wmin lay (rdrop i.toNat wS) (rdrop j.toNat wP) := by rw [← z1, ← hlc]; omega
      have hq9 : q ≠ wayOf (rdrop i.toNat wS) (rdrop j.toNat wP) := fun h => he9 (by rw [h]; exact w3_)
      refine lv_iinc (v := iZ (q + 1)) (lv' := [(4, .int (iZ (q + 1))), (3, .int (iZ (j))), (2, .int (iZ (i))), (1, .int (iZ (n))), (0, .ref h0)]) hx hb dX10_firstWay_25 hl (k := 0) rfl (iZ_add _ _) (by decide) rfl (fun ls hl => ?_)
      refine lv_goto (tgt := 3) hx hb dX10_firstWay_28 (by decide) ?_
      exact ih (q + 1) μc H locs ls (by exact fr_trans hf z2) (by omega) (by omega) hP hS (lv_sub hl [0, 1, 2, 3, 4] rfl)
set_option maxHeartbeats 40000000 in
set_option maxRecDepth 100000 in
theorem m_firstWay (l : Launch) (dC : Nat → ClassId) (dI : Nat → Nat → Nat) (cI cZ cII cIII : ClassId) (h0 : Nat) : ∀ (d : Nat), ∀ (sz : Nat) (μ : va_M) (n : Int) (i : Int) (j : Int) (t : Int) (u1 : Int) (wS : Rw) (wP : Rw) (ps : Int) (pq : Int), (∀ (sz : Nat) (μ : va_M) (n : Int) (t : Int) (a1 : Int) (a2 : Int) (u1 : Int) (b1 : Int) (b2 : Int) (o1 : Int) (wS : Rw) (wP : Rw), (0 ≤ n ∧ n + rH wP ≤ 13) → (0 ≤ t ∧ t < 70) → (0 ≤ u1 ∧ u1 < 70) → (0 ≤ a1 ∧ a2 = a1 + rN wS ∧ a2 ≤ 900) → (0 ≤ b1 ∧ b2 = b1 + rN wP ∧ b2 ≤ 900) → (RA μ t.toNat wS a1.toNat) → (RA μ u1.toNat wP b1.toNat) → (rWF wS) → (rWF wP) → (rL wS ≤ 259 ∧ rL wP ≤ 60 ∧ rH wS ≤ 20) → (-1 ≤ o1 ∧ o1 < 70 ∧ o1 ≠ t ∧ o1 ≠ u1) → (capI2 o1 (μ 719 o1.toNat) (rN (lrow wS wP))) → (rH wP < d) → Met l yX10_laysRow (Cond.code yX10_laysRow cX10_laysRow 13 (some .int) :: wsG) ({ frames := 5 * d + 32, cells := 0, slots := 0, locals := 200 * d + 900 } : Room) (va_Pc [.ref h0, .int (iZ (n)), .int (iZ (t)), .int (iZ (a1)), .int (iZ (a2)), .int (iZ (u1)), .int (iZ (b1)), .int (iZ (b2)), .int (iZ (o1))] (fun U => U.heap.size = sz ∧ va_P (dC, dI) vwCl (fw (mE cI cZ cII cIII h0) h0 6325 μ) U.heap ∧ va_K (dC, dI) vwCl (mT cI cZ cII cIII) U)) (va_Qi (fun (r9 : Int32) (u : va_M × Int) => r9 = iZ u.2 ∧ (fun (u : va_M) (r : Int) => r = (lay wS wP).1 ∧ u 0 33 = (if (lay wS wP).2 = true then 1 else 0) ∧ layO μ u n.toNat o1 (lrow wS wP)) u.1 u.2) (fun u t => va_P (dC, dI) vwCl (fw (mE cI cZ cII cIII h0) h0 6325 u.1) t.heap ∧ va_K (dC, dI) vwCl (mT cI cZ cII cIII) t) (fA h0 6325 sz)) 0 0 (fA h0 6325 sz)) → (0 ≤ n ∧ n + rH wP ≤ 13) → (lvS μ n.toNat t u1 wS wP ps pq) → (0 ≤ t ∧ t < 70) → (0 ≤ u1 ∧ u1 < 70) → (t ≠ -1 ∧ u1 ≠ -1) → (0 ≤ ps ∧ ps + rN wS ≤ 900) → (0 ≤ pq ∧ pq + rN wP ≤ 900) → (rWF wS) → (rWF wP) → (rL wS ≤ 259 ∧ rL wP ≤ 60 ∧ rH wS ≤ 20) → (rH wP ≤ d) → (leB μ n.toNat wS wP i.toNat j.toNat) → (0 ≤ i ∧ i ≤ rI wS) → (0 ≤ j ∧ j ≤ rI wP) → (i < rI wS ∨ j < rI wP) → Met l yX10_firstWay (Cond.code yX10_firstWay cX10_firstWay 5 (some .int) :: wsG) ({ frames := 5 * d + 32 + 1 + 1 + 1, cells := 0, slots := 0, locals := 200 * d + 900 + 40 + 40 + 40 } : Room) (va_Pc [.ref h0, .int (iZ (n)), .int (iZ (i)), .int (iZ (j))] (fun U => U.heap.size = sz ∧ va_P (dC, dI) vwCl (fw (mE cI cZ cII cIII h0) h0 6325 μ) U.heap ∧ va_K (dC, dI) vwCl (mT cI cZ cII cIII) U)) (va_Qi (fun (r9 : Int32) (u : va_M × Int) => r9 = iZ u.2 ∧ (fun (u : va_M) (r : Int) => r = wayOf (rdrop i.toNat wS) (rdrop j.toNat wP) ∧ fr (LD (n.toNat + 1)) μ u) u.1 u.2) (fun u t => va_P (dC, dI) vwCl (fw (mE cI cZ cII cIII h0) h0 6325 u.1) t.heap ∧ va_K (dC, dI) vwCl (mT cI cZ cII cIII) t) (fA h0 6325 sz)) 0 0 (fA h0 6325 sz) := by
  intro d
  induction d using Nat.strongRecOn with
  | _ d ih =>
  intro sz μ n i j t u1 wS wP ps pq hLR hn hL ht hu htu hps hpq hwS hwP h260 hd hle hi hj hne
  refine Met.ofW (cc := cX10_firstWay) (maxL := 5) (ret := (some .int)) (by decide) rfl ?_
  intro p e s m args below meth c s₁ B hml hv
  obtain ⟨rfl, hsz, hP, hK⟩ := hv
  have hx := B.exec
  have hb := B.bytes
  have hr := B.returns
  have hts : ∀ w ∈ wsG, w.before _ s = true := hG_of (atoms_spec (ws := (Cond.code yX10_firstWay cX10_firstWay 5 (some .int) :: wsG)) B.pre)
  have hown : s.vm.findClass RX10 = some m.cls := findClass_of_methodNamed B.named
  have hlocks := B.notSynchronized
  subst hsz
  have hS : va_S (fA h0 6325 s.heap.size) s.heap s.heap [] := va_S.rf
  have hl := lv_entry ([.ref h0, .int (iZ (n)), .int (iZ (i)), .int (iZ (j))]) (n := 5) (Nat.le_of_ble_eq_true rfl)
  rw [lg_entry_eq]
  generalize (lg_sl ([.ref h0, .int (iZ (n)), .int (iZ (i)), .int (iZ (j))]) ++ List.replicate (5 - (lg_sl ([.ref h0, .int (iZ (n)), .int (iZ (i)), .int (iZ (j))])).length) Slot.unset).toArray = ls at hl ⊢
  have hl : lv_has ls 5 [(0, .ref h0), (1, .int (iZ (n))), (2, .int (iZ (i))), (3, .int (iZ (j)))] := hl
  refine lv_iconst (v := iZ 1) hx hb dX10_firstWay_0 rfl ?_
  refine lv_istore (lv' := [(4, .int (iZ (1))), (0, .ref h0), (1, .int (iZ (n))), (2, .int (iZ (i))), (3, .int (iZ (j)))]) hx hb dX10_firstWay_1 hl (by decide) rfl (fun ls hl => ?_)
  refine LX10_firstWay_3 (d9 := d) hx hb hml hown hts hK (Nat.le_refl _) (Nat.le_refl _) (Nat.le_of_ble_eq_true rfl) (Nat.le_of_ble_eq_true rfl) (μ) (n) (i) (j) (t) (u1) (wS) (wP) (ps) (pq) (by assumption) (by assumption) (by assumption) (by assumption) (by assumption) (by assumption) (by assumption) (by assumption) (by assumption) (by assumption) (by assumption) (by assumption) (by assumption) (by assumption) (by assumption) (by assumption) ?_ _ (1) μ s.heap [] ls (by exact fr_rfl) (by
            have hw9 := way_is (w := rdrop i.toNat wS) (b := rdrop j.toNat wP) (by
              rw [hsd_I, hsd_I, rdrop_I, rdrop_I]; omega) (by
              have h1 := lay_1 (rdrop i.toNat wS) (rdrop j.toNat wP)
              rw [lay_c] at h1
              have h2 := rL_N (rdrop i.toNat wS)
              have h3 := rL_N (rdrop j.toNat wP)
              have h4 := rdrop_N2 i.toNat wS
              have h5 := rdrop_N2 j.toNat wP
              omega)
            omega) (Nat.lt_succ_self _) hP hS (lv_sub hl [0, 4, 3, 2, 1] rfl)
  · intro q_1 μ1_ H locs ls q1_1 q2_1 hP hS hl
    have hl : lv_has ls 5 [(4, .int (iZ (q_1)))] := hl
    refine lv_iload hx hb dX10_firstWay_31 (lv_at hl 0 rfl) ?_
    exact W.iret (v := iZ (q_1)) hx hb hr (fun t9 ht9 hW9 => ⟨⟨iZ (q_1), (μ1_, q_1), rfl, ⟨rfl, (by
                dsimp only
                exact ⟨q2_1, q1_1⟩)⟩, by rw [ht9]; exact hP, va_K.moved hW9.alike hK⟩, hS.F ht9⟩) hS.2.2 dX10_firstWay_33

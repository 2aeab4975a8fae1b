
theorem rN_lw : ∀ w : Rw, rW0 w → rN w ≤ sL w ∧ rL w ≤ sL w
  | .leaf, _ => ⟨Nat.le_refl _, Nat.le_refl _⟩
  | .inner z k v l r, ⟨⟨_, f2, _, _, _⟩, f7, f8⟩ => by
    have h1 := rN_lw l f7
    have h2 := rN_lw r f8
    rw [rN, rL, sL]
    by_cases h : k < 3
    · obtain rfl := f2 h
      rw [if_pos h, if_pos h]
      have e1 : rN (Std.DTreeMap.Internal.Impl.leaf : Rw) = 0 := rfl
      have e2 : rL (Std.DTreeMap.Internal.Impl.leaf : Rw) = 0 := rfl
      omega
    · rw [if_neg h, if_neg h]
      omega
set_option maxHeartbeats 4000000 in
set_option maxRecDepth 100000 in
theorem seal_leaf {p : Program} {l : Launch} {e : Env} {R : Room} {s : State} {m : MethodId} {args : Array Value} {below : List Frame} {meth : Method} {c : Code} {cells slots : Nat} {Q : State → Prop} {dC : Nat → ClassId} {dI : Nat → Nat → Nat} {h0 : Nat} {cI cZ cII cIII : ClassId} (hx : p.tables.exec = Jvm.exec) (hb : c.code = cX4_seal) (hml : c.maxLocals = 5) (hown : s.vm.findClass RX4 = some m.cls) (hts : ∀ w ∈ wsG, w.before args s = true) (hK : va_K (dC, dI) vwCl (sT cI cZ cII cIII) s) (hM : xM s) (hRf : 2 ≤ R.frames) (hRl : 34 ≤ R.locals) (hRc : cells ≤ R.cells) (hRs : slots ≤ R.slots) (q rm : Nat) (hq : rowB q rm) (pp a n : Nat) (o : Int) (μ : va_M) (H : Heap) (locs : List Loc) (ls : Array Slot) (hlen : (pp : Int) < μ q 5) (hlen2 : 0 ≤ μ q 5 ∧ μ q 5 ≤ rm) (hn : n ≤ pp) (ha : a ≤ pp) (h3 : μ (q + 3) pp = a) (h6 : μ q 6 = n) (ho : -1 ≤ o ∧ o < pp) (hom : 0 ≤ o → -1 ≤ μ (q + 2) o.toNat ∧ μ (q + 2) o.toNat ≤ pp) (hs : 0 ≤ μ (q + 1) pp ∧ μ (q + 1) pp ≤ 512) (hP : va_P (dC, dI) vwCl (fw (sE cI cZ cII cIII h0) h0 233 μ) H) (hS : va_S (fA h0 233 s.heap.size) s.heap H locs) (hl : lv_has ls 5 [(2, .int (iZ (pp : Int))), (1, .int (iZ o)), (0, .ref (h0 + q))]) (kk : ∀ (μ1 : va_M) (H : Heap) (locs : List Loc) (ls : Array Slot), fr (SQ q pp (pp + 1) n (n + 1)) μ μ1 → μ1 (q + 2) pp = pp → μ1 (q + 3) pp = a → μ1 (q + 4) pp = n → μ1 (q + 5) n = pp → μ1 (q + 3) (pp + 1) = ((a + 1 : Nat) : Int) → μ1 q 6 = ((n + 1 : Nat) : Int) → va_P (dC, dI) vwCl (fw (sE cI cZ cII cIII h0) h0 233 μ1) H → va_S (fA h0 233 s.heap.size) s.heap H locs → lv_has ls 5 [(2, .int (iZ ((pp + 1 : Nat) : Int))), (1, .int (iZ o)), (0, .ref (h0 + q))] → W p l e R s m args below meth c H locs cells slots Q (F0 m 35 ls [])) : W p l e R s m args below meth c H locs cells slots Q (F0 m 35 ls []) := by
  have hqb := rowB_b hq
  have e6 : (μ q 6).toNat = n := by omega
  refine TX4_seal_35 hx hb hml hown hts hK hM hRf hRl hRc hRs μ (pp : Int) o q rm hq hlen2 (fun i op μ1 H locs ls q1 q2 q3 q4 hP hS hl => ?_) (pp : Int) o μ H locs ls rfl ⟨rfl, by omega, by omega⟩ ⟨rfl, by omega, by omega⟩ ⟨by omega, by omega⟩ ⟨by rw [Int.toNat_natCast]; omega, by rw [Int.toNat_natCast]; omega⟩ ⟨by rw [Int.toNat_natCast]; omega, by rw [Int.toNat_natCast]; omega⟩ (fun h => by have := hom h; omega) hP hS hl
  obtain ⟨eo, ee⟩ := q2 (by rw [Int.toNat_natCast]; omega)
  rw [eo, show i = ((pp + 1 : Nat) : Int) by omega] at hl
  rw [Int.toNat_natCast, show ((pp : Int) + 1).toNat = pp + 1 by omega, e6] at ee
  clear q3 q4 eo q1
  refine kk μ1 H locs ls ?_ ?_ ?_ ?_ ?_ ?_ ?_ hP hS hl
  · rw [ee]
    exact fr_uz (fr_uz (fr_uz (fr_uz (fr_uz fr_rfl (by unfold SQ; omega)) (by unfold SQ; omega)) (by unfold SQ; omega)) (by unfold SQ; omega)) (by unfold SQ; omega)
  · rw [ee, uz_n (by omega), uz_n (by omega), uz_s]
  · rw [ee, uz_n (by omega), uz_n (by omega), uz_n (by omega), uz_n (by omega), uz_n (by omega)]; exact h3
  · rw [ee, uz_n (by omega), uz_n (by omega), uz_n (by omega), uz_s]; omega
  · rw [ee, uz_n (by omega), uz_s]
  · rw [ee, uz_n (by omega), uz_n (by omega), uz_n (by omega), uz_n (by omega), uz_s]; omega
  · rw [ee, uz_s]; omega
set_option maxHeartbeats 4000000 in
set_option maxRecDepth 100000 in
theorem seal_open {p : Program} {l : Launch} {e : Env} {R : Room} {s : State} {m : MethodId} {args : Array Value} {below : List Frame} {meth : Method} {c : Code} {cells slots : Nat} {Q : State → Prop} {dC : Nat → ClassId} {dI : Nat → Nat → Nat} {h0 : Nat} {cI cZ cII cIII : ClassId} (hx : p.tables.exec = Jvm.exec) (hb : c.code = cX4_seal) (hml : c.maxLocals = 5) (hown : s.vm.findClass RX4 = some m.cls) (hts : ∀ w ∈ wsG, w.before args s = true) (hK : va_K (dC, dI) vwCl (sT cI cZ cII cIII) s) (hM : xM s) (hRf : 2 ≤ R.frames) (hRl : 34 ≤ R.locals) (hRc : cells ≤ R.cells) (hRs : slots ≤ R.slots) (q rm : Nat) (hq : rowB q rm) (pp a n : Nat) (o : Int) (μ : va_M) (H : Heap) (locs : List Loc) (ls : Array Slot) (hlen : (pp : Int) < μ q 5) (hlen2 : 0 ≤ μ q 5 ∧ μ q 5 ≤ rm) (hn : n ≤ pp) (ha : a ≤ pp) (h3 : μ (q + 3) pp = a) (h6 : μ q 6 = n) (ho : -1 ≤ o ∧ o < pp) (hom : 0 ≤ o → -1 ≤ μ (q + 2) o.toNat ∧ μ (q + 2) o.toNat ≤ pp) (hs : μ (q + 1) pp = 513 ∨ μ (q + 1) pp = 514) (hP : va_P (dC, dI) vwCl (fw (sE cI cZ cII cIII h0) h0 233 μ) H) (hS : va_S (fA h0 233 s.heap.size) s.heap H locs) (hl : lv_has ls 5 [(2, .int (iZ (pp : Int))), (1, .int (iZ o)), (0, .ref (h0 + q))]) (kk : ∀ (μ1 : va_M) (H : Heap) (locs : List Loc) (ls : Array Slot), fr (SQ q pp (pp + 1) n (n + 1)) μ μ1 → μ1 (q + 2) pp = o → μ1 (q + 3) pp = a → μ1 (q + 4) pp = n → μ1 (q + 5) n = pp → μ1 (q + 3) (pp + 1) = a → μ1 q 6 = ((n + 1 : Nat) : Int) → va_P (dC, dI) vwCl (fw (sE cI cZ cII cIII h0) h0 233 μ1) H → va_S (fA h0 233 s.heap.size) s.heap H locs → lv_has ls 5 [(2, .int (iZ ((pp + 1 : Nat) : Int))), (1, .int (iZ (pp : Int))), (0, .ref (h0 + q))] → W p l e R s m args below meth c H locs cells slots Q (F0 m 35 ls [])) : W p l e R s m args below meth c H locs cells slots Q (F0 m 35 ls []) := by
  have hqb := rowB_b hq
  have e6 : (μ q 6).toNat = n := by omega
  refine TX4_seal_35 hx hb hml hown hts hK hM hRf hRl hRc hRs μ (pp : Int) o q rm hq hlen2 (fun i op μ1 H locs ls q1 q2 q3 q4 hP hS hl => ?_) (pp : Int) o μ H locs ls rfl ⟨rfl, by omega, by omega⟩ ⟨rfl, by omega, by omega⟩ ⟨by omega, by omega⟩ ⟨by rw [Int.toNat_natCast]; omega, by rw [Int.toNat_natCast]; omega⟩ ⟨by rw [Int.toNat_natCast]; omega, by rw [Int.toNat_natCast]; omega⟩ (fun h => by have := hom h; omega) hP hS hl
  obtain ⟨eo, ee⟩ := q3 (by rw [Int.toNat_natCast]; exact hs)
  rw [eo, show i = ((pp + 1 : Nat) : Int) by omega] at hl
  rw [Int.toNat_natCast, show ((pp : Int) + 1).toNat = pp + 1 by omega, e6] at ee
  clear q2 q4 eo q1
  refine kk μ1 H locs ls ?_ ?_ ?_ ?_ ?_ ?_ ?_ hP hS hl
  · rw [ee]
    exact fr_uz (fr_uz (fr_uz (fr_uz (fr_uz (fr_uz fr_rfl (by unfold SQ; omega)) (by unfold SQ; omega)) (by unfold SQ; omega)) (by unfold SQ; omega)) (by unfold SQ; omega)) (by unfold SQ; omega)
  · rw [ee, uz_s]
  · rw [ee, uz_n (by omega), uz_n (by omega), uz_n (by omega), uz_n (by omega), uz_n (by omega), uz_n (by omega)]; exact h3
  · rw [ee, uz_n (by omega), uz_n (by omega), uz_n (by omega), uz_n (by omega), uz_s]; omega
  · rw [ee, uz_n (by omega), uz_n (by omega), uz_s]
  · rw [ee, uz_n (by omega), uz_n (by omega), uz_n (by omega), uz_n (by omega), uz_n (by omega), uz_s]; omega
  · rw [ee, uz_n (by omega), uz_s]; omega
set_option maxHeartbeats 4000000 in
set_option maxRecDepth 100000 in
theorem seal_close {p : Program} {l : Launch} {e : Env} {R : Room} {s : State} {m : MethodId} {args : Array Value} {below : List Frame} {meth : Method} {c : Code} {cells slots : Nat} {Q : State → Prop} {dC : Nat → ClassId} {dI : Nat → Nat → Nat} {h0 : Nat} {cI cZ cII cIII : ClassId} (hx : p.tables.exec = Jvm.exec) (hb : c.code = cX4_seal) (hml : c.maxLocals = 5) (hown : s.vm.findClass RX4 = some m.cls) (hts : ∀ w ∈ wsG, w.before args s = true) (hK : va_K (dC, dI) vwCl (sT cI cZ cII cIII) s) (hM : xM s) (hRf : 2 ≤ R.frames) (hRl : 34 ≤ R.locals) (hRc : cells ≤ R.cells) (hRs : slots ≤ R.slots) (q rm : Nat) (hq : rowB q rm) (pp a n p0 : Nat) (o : Int) (μ : va_M) (H : Heap) (locs : List Loc) (ls : Array Slot) (hlen : (pp : Int) < μ q 5) (hlen2 : 0 ≤ μ q 5 ∧ μ q 5 ≤ rm) (hn : n ≤ pp) (ha : a ≤ pp) (h3 : μ (q + 3) pp = a) (h6 : μ q 6 = n) (hp0 : p0 < pp) (ho : -1 ≤ o ∧ o < pp) (ho2 : μ (q + 2) p0 = o) (hs : μ (q + 1) pp = 515) (hP : va_P (dC, dI) vwCl (fw (sE cI cZ cII cIII h0) h0 233 μ) H) (hS : va_S (fA h0 233 s.heap.size) s.heap H locs) (hl : lv_has ls 5 [(2, .int (iZ (pp : Int))), (1, .int (iZ (p0 : Int))), (0, .ref (h0 + q))]) (kk : ∀ (μ1 : va_M) (H : Heap) (locs : List Loc) (ls : Array Slot), fr (fun x y => (x = q + 2 ∧ (y = p0 ∨ y = pp)) ∨ (x = q + 3 ∧ y = pp + 1) ∨ (x = q + 4 ∧ y = pp)) μ μ1 → μ1 (q + 2) p0 = pp → μ1 (q + 2) pp = p0 → μ1 (q + 4) pp = n → μ1 (q + 3) (pp + 1) = a → va_P (dC, dI) vwCl (fw (sE cI cZ cII cIII h0) h0 233 μ1) H → va_S (fA h0 233 s.heap.size) s.heap H locs → lv_has ls 5 [(2, .int (iZ ((pp + 1 : Nat) : Int))), (1, .int (iZ o)), (0, .ref (h0 + q))] → W p l e R s m args below meth c H locs cells slots Q (F0 m 35 ls [])) : W p l e R s m args below meth c H locs cells slots Q (F0 m 35 ls []) := by
  have hqb := rowB_b hq
  have e6 : (μ q 6).toNat = n := by omega
  refine TX4_seal_35 hx hb hml hown hts hK hM hRf hRl hRc hRs μ (pp : Int) (p0 : Int) q rm hq hlen2 (fun i op μ1 H locs ls q1 q2 q3 q4 hP hS hl => ?_) (pp : Int) (p0 : Int) μ H locs ls rfl ⟨rfl, by omega, by omega⟩ ⟨rfl, by omega, by omega⟩ ⟨by omega, by omega⟩ ⟨by rw [Int.toNat_natCast]; omega, by rw [Int.toNat_natCast]; omega⟩ ⟨by rw [Int.toNat_natCast]; omega, by rw [Int.toNat_natCast]; omega⟩ (fun h => by rw [Int.toNat_natCast, ho2]; omega) hP hS hl
  obtain ⟨eo, ee⟩ := q4 (by rw [Int.toNat_natCast]; exact hs) (by omega)
  rw [Int.toNat_natCast, ho2] at eo
  rw [eo, show i = ((pp + 1 : Nat) : Int) by omega] at hl
  rw [Int.toNat_natCast, Int.toNat_natCast, show ((pp : Int) + 1).toNat = pp + 1 by omega] at ee
  clear q2 q3 eo q1
  refine kk μ1 H locs ls ?_ ?_ ?_ ?_ ?_ hP hS hl
  · rw [ee]
    exact fr_uz (fr_uz (fr_uz (fr_uz (fr_uz fr_rfl (by omega)) (by omega)) (by omega)) (by omega)) (by omega)
  · rw [ee, uz_s]
  · rw [ee, uz_n (by omega), uz_s]
  · rw [ee, uz_n (by omega), uz_n (by omega), uz_n (by omega), uz_s]; omega
  · rw [ee, uz_n (by omega), uz_n (by omega), uz_n (by omega), uz_n (by omega), uz_s]; omega

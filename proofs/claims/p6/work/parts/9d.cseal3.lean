
def omP (μ : va_M) (q : Nat) (o : Int) (pp : Nat) : Prop := 0 ≤ o → -1 ≤ μ (q + 2) o.toNat ∧ μ (q + 2) o.toNat ≤ pp
theorem SQ_mono {q p p2 n n2 a b c d x y : Nat} (h1 : p ≤ a) (h2 : b ≤ p2) (h3 : n ≤ c) (h4 : d ≤ n2) (h : SQ q a b c d x y) : SQ q p p2 n n2 x y := by
  unfold SQ at h ⊢
  rcases h with ⟨e1, e2, e3⟩ | ⟨e1, e2, e3⟩ | ⟨e1, e2, e3⟩ | ⟨e1, e2, e3⟩ | h
  · exact Or.inl ⟨e1, by omega, by omega⟩
  · exact Or.inr (Or.inl ⟨e1, by omega, by omega⟩)
  · exact Or.inr (Or.inr (Or.inl ⟨e1, by omega, by omega⟩))
  · exact Or.inr (Or.inr (Or.inr (Or.inl ⟨e1, by omega, by omega⟩)))
  · exact Or.inr (Or.inr (Or.inr (Or.inr h)))
theorem SQ_cl {q p p2 n n2 P x y : Nat} (h1 : p ≤ P) (h2 : P + 1 ≤ p2) (h : (x = q + 2 ∧ (y = p ∨ y = P)) ∨ (x = q + 3 ∧ y = P + 1) ∨ (x = q + 4 ∧ y = P)) : SQ q p p2 n n2 x y := by
  unfold SQ
  rcases h with ⟨e1, e2⟩ | ⟨e1, e2⟩ | ⟨e1, e2⟩
  · exact Or.inl ⟨e1, by omega, by omega⟩
  · exact Or.inr (Or.inl ⟨e1, by omega, by omega⟩)
  · exact Or.inr (Or.inr (Or.inl ⟨e1, by omega, by omega⟩))
theorem SQ_no {q p p2 n n2 x y : Nat} (h : (x = q + 2 ∧ (y < p ∨ p2 ≤ y)) ∨ (x = q + 3 ∧ (y ≤ p ∨ p2 < y)) ∨ (x = q + 4 ∧ (y < p ∨ p2 ≤ y)) ∨ (x = q + 5 ∧ (y < n ∨ n2 ≤ y)) ∨ x = q + 1 ∨ (x = q ∧ y ≠ 6)) : ¬ SQ q p p2 n n2 x y := by unfold SQ; omega
theorem no2 {q p p2 n n2 y : Nat} (h : y < p ∨ p2 ≤ y) : ¬ SQ q p p2 n n2 (q + 2) y := SQ_no (Or.inl ⟨rfl, h⟩)
theorem no3 {q p p2 n n2 y : Nat} (h : y ≤ p ∨ p2 < y) : ¬ SQ q p p2 n n2 (q + 3) y := SQ_no (Or.inr (Or.inl ⟨rfl, h⟩))
theorem no4 {q p p2 n n2 y : Nat} (h : y < p ∨ p2 ≤ y) : ¬ SQ q p p2 n n2 (q + 4) y := SQ_no (Or.inr (Or.inr (Or.inl ⟨rfl, h⟩)))
theorem no5 {q p p2 n n2 y : Nat} (h : y < n ∨ n2 ≤ y) : ¬ SQ q p p2 n n2 (q + 5) y := SQ_no (Or.inr (Or.inr (Or.inr (Or.inl ⟨rfl, h⟩))))
theorem no1 {q p p2 n n2 y : Nat} : ¬ SQ q p p2 n n2 (q + 1) y := SQ_no (Or.inr (Or.inr (Or.inr (Or.inr (Or.inl rfl)))))
theorem no0 {q p p2 n n2 : Nat} : ¬ SQ q p p2 n n2 q 5 := SQ_no (Or.inr (Or.inr (Or.inr (Or.inr (Or.inr ⟨rfl, by decide⟩)))))
theorem omP_fr {μ u : va_M} {q : Nat} {o : Int} {pp p2 : Nat} (h : omP μ q o pp) (hf : 0 ≤ o → u (q + 2) o.toNat = μ (q + 2) o.toNat) (hp : pp ≤ p2) : omP u q o p2 := fun h0 => by
  have h1 := h h0
  rw [hf h0]
  omega
set_option maxHeartbeats 4000000 in
set_option maxRecDepth 100000 in
theorem walk_leaf {p : Program} {l : Launch} {e : Env} {R : Room} {s : State} {m : MethodId} {args : Array Value} {below : List Frame} {meth : Method} {c : Code} {cells slots : Nat} {Q : State → Prop} {dC : Nat → ClassId} {dI : Nat → Nat → Nat} {h0 : Nat} {cI cZ cII cIII : ClassId} (hx : p.tables.exec = Jvm.exec) (hb : c.code = cX4_seal) (hml : c.maxLocals = 5) (hown : s.vm.findClass RX4 = some m.cls) (hts : ∀ w ∈ wsG, w.before args s = true) (hK : va_K (dC, dI) vwCl (sT cI cZ cII cIII) s) (hM : xM s) (hRf : 2 ≤ R.frames) (hRl : 34 ≤ R.locals) (hRc : cells ≤ R.cells) (hRs : slots ≤ R.slots) (q rm : Nat) (hq : rowB q rm) (z k : Nat) (v : Int) (wl wr : Rw) (h9 : k < 3) (ihr : ∀ (pp a n : Nat) (o : Int) (μ : va_M) (H : Heap) (locs : List Loc) (ls : Array Slot), rW0 wr → SA μ (q + 1) wr pp → ((pp + sL wr : Nat) : Int) ≤ μ q 5 → (0 ≤ μ q 5 ∧ μ q 5 ≤ rm) → n ≤ pp → a ≤ pp → μ (q + 3) pp = a → μ q 6 = n → (-1 ≤ o ∧ o < pp) → omP μ q o pp → va_P (dC, dI) vwCl (fw (sE cI cZ cII cIII h0) h0 233 μ) H → va_S (fA h0 233 s.heap.size) s.heap H locs → lv_has ls 5 [(2, .int (iZ (pp : Int))), (1, .int (iZ o)), (0, .ref (h0 + q))] → (∀ (μ2 : va_M) (H : Heap) (locs : List Loc) (ls : Array Slot), fr (SQ q pp (pp + sL wr) n (n + rN wr)) μ μ2 → SS μ2 q wr pp a n → μ2 (q + 3) (pp + sL wr) = ((a + rL wr : Nat) : Int) → μ2 q 6 = ((n + rN wr : Nat) : Int) → va_P (dC, dI) vwCl (fw (sE cI cZ cII cIII h0) h0 233 μ2) H → va_S (fA h0 233 s.heap.size) s.heap H locs → lv_has ls 5 [(2, .int (iZ ((pp + sL wr : Nat) : Int))), (1, .int (iZ o)), (0, .ref (h0 + q))] → W p l e R s m args below meth c H locs cells slots Q (F0 m 35 ls [])) → W p l e R s m args below meth c H locs cells slots Q (F0 m 35 ls [])) : ∀ (pp a n : Nat) (o : Int) (μ : va_M) (H : Heap) (locs : List Loc) (ls : Array Slot), rW0 (Std.DTreeMap.Internal.Impl.inner z k v wl wr : Rw) → SA μ (q + 1) (Std.DTreeMap.Internal.Impl.inner z k v wl wr : Rw) pp → ((pp + sL (Std.DTreeMap.Internal.Impl.inner z k v wl wr : Rw) : Nat) : Int) ≤ μ q 5 → (0 ≤ μ q 5 ∧ μ q 5 ≤ rm) → n ≤ pp → a ≤ pp → μ (q + 3) pp = a → μ q 6 = n → (-1 ≤ o ∧ o < pp) → omP μ q o pp → va_P (dC, dI) vwCl (fw (sE cI cZ cII cIII h0) h0 233 μ) H → va_S (fA h0 233 s.heap.size) s.heap H locs → lv_has ls 5 [(2, .int (iZ (pp : Int))), (1, .int (iZ o)), (0, .ref (h0 + q))] → (∀ (μ2 : va_M) (H : Heap) (locs : List Loc) (ls : Array Slot), fr (SQ q pp (pp + sL (Std.DTreeMap.Internal.Impl.inner z k v wl wr : Rw)) n (n + rN (Std.DTreeMap.Internal.Impl.inner z k v wl wr : Rw))) μ μ2 → SS μ2 q (Std.DTreeMap.Internal.Impl.inner z k v wl wr : Rw) pp a n → μ2 (q + 3) (pp + sL (Std.DTreeMap.Internal.Impl.inner z k v wl wr : Rw)) = ((a + rL (Std.DTreeMap.Internal.Impl.inner z k v wl wr : Rw) : Nat) : Int) → μ2 q 6 = ((n + rN (Std.DTreeMap.Internal.Impl.inner z k v wl wr : Rw) : Nat) : Int) → va_P (dC, dI) vwCl (fw (sE cI cZ cII cIII h0) h0 233 μ2) H → va_S (fA h0 233 s.heap.size) s.heap H locs → lv_has ls 5 [(2, .int (iZ ((pp + sL (Std.DTreeMap.Internal.Impl.inner z k v wl wr : Rw) : Nat) : Int))), (1, .int (iZ o)), (0, .ref (h0 + q))] → W p l e R s m args below meth c H locs cells slots Q (F0 m 35 ls [])) → W p l e R s m args below meth c H locs cells slots Q (F0 m 35 ls []) := by
  intro pp a n o μ H locs ls hw hA hlen hlen2 hn ha h3 h6 ho hom hP hS hl kk
  have hqb := rowB_b hq
  obtain ⟨⟨f1, f2, f4, f5, f6⟩, f7, f8⟩ := hw
  have hgb := sG_b (k := k) (v := v) (l := wl) ⟨f1, f2, f4, f5, f6⟩
  obtain ⟨a1, a2, a3⟩ := hA
  obtain rfl := f2 h9
  have hg := hgb.1 h9
  rw [if_pos h9] at a3
  clear hgb a2 f2 f6
  have hs : sL (Std.DTreeMap.Internal.Impl.inner z k v .leaf wr : Rw) = 1 + sL wr := by rw [sL, if_pos h9]
  have hN : rN (Std.DTreeMap.Internal.Impl.inner z k v .leaf wr : Rw) = 1 + rN wr := by show 1 + 0 + rN wr = _; omega
  have hL : rL (Std.DTreeMap.Internal.Impl.inner z k v .leaf wr : Rw) = 1 + rL wr := by rw [rL, if_pos h9]; show 1 + 0 + rL wr = _; omega
  rw [hs, hN, hL] at kk
  rw [hs] at hlen
  refine seal_leaf hx hb hml hown hts hK hM hRf hRl hRc hRs q rm hq pp a n o μ H locs ls (by omega) hlen2 hn ha h3 h6 ho hom (by rw [a1]; exact hg) hP hS hl (fun μ1 H locs ls hfr v2 v3p v4 v5 v3 v6 hP hS hl => ?_)
  have e5 := hfr q 5 no0
  refine ihr (pp + 1) (a + 1) (n + 1) o μ1 H locs ls f8 (SA_fr (fun y => hfr _ y no1) wr _ a3) (by omega) (by omega) (by omega) (by omega) v3 v6 (by omega) (omP_fr hom (fun h0 => hfr _ _ (no2 (Or.inl (by omega)))) (by omega)) hP hS hl (fun μ2 H locs ls g1 g2 g3 g4 hP hS hl => ?_)
  rw [Nat.add_assoc] at hl g3
  rw [Nat.add_assoc] at g4
  refine kk μ2 H locs ls (fr_trans (fr_mono hfr (fun x y h => SQ_mono (by omega) (by omega) (by omega) (by omega) h)) (fr_mono g1 (fun x y h => SQ_mono (by omega) (by omega) (by omega) (by omega) h))) ?_ (by rw [g3]; congr 1; omega) g4 hP hS hl
  unfold SS
  rw [if_pos h9, if_pos h9, if_pos h9]
  refine ⟨⟨?_, ?_, ?_, ?_⟩, fun h => absurd h9 (by omega), g2⟩
  · rw [g1 _ _ (no2 (Or.inl (by omega))), v2]
  · rw [g1 _ _ (no3 (Or.inl (by omega))), v3p]
  · rw [g1 _ _ (no4 (Or.inl (by omega))), v4]
  · rw [g1 _ _ (no5 (Or.inl (by omega))), v5]
set_option maxHeartbeats 4000000 in
set_option maxRecDepth 100000 in
theorem walk_group {p : Program} {l : Launch} {e : Env} {R : Room} {s : State} {m : MethodId} {args : Array Value} {below : List Frame} {meth : Method} {c : Code} {cells slots : Nat} {Q : State → Prop} {dC : Nat → ClassId} {dI : Nat → Nat → Nat} {h0 : Nat} {cI cZ cII cIII : ClassId} (hx : p.tables.exec = Jvm.exec) (hb : c.code = cX4_seal) (hml : c.maxLocals = 5) (hown : s.vm.findClass RX4 = some m.cls) (hts : ∀ w ∈ wsG, w.before args s = true) (hK : va_K (dC, dI) vwCl (sT cI cZ cII cIII) s) (hM : xM s) (hRf : 2 ≤ R.frames) (hRl : 34 ≤ R.locals) (hRc : cells ≤ R.cells) (hRs : slots ≤ R.slots) (q rm : Nat) (hq : rowB q rm) (z k : Nat) (v : Int) (wl wr : Rw) (h9 : ¬ k < 3) (ihl : ∀ (pp a n : Nat) (o : Int) (μ : va_M) (H : Heap) (locs : List Loc) (ls : Array Slot), rW0 wl → SA μ (q + 1) wl pp → ((pp + sL wl : Nat) : Int) ≤ μ q 5 → (0 ≤ μ q 5 ∧ μ q 5 ≤ rm) → n ≤ pp → a ≤ pp → μ (q + 3) pp = a → μ q 6 = n → (-1 ≤ o ∧ o < pp) → omP μ q o pp → va_P (dC, dI) vwCl (fw (sE cI cZ cII cIII h0) h0 233 μ) H → va_S (fA h0 233 s.heap.size) s.heap H locs → lv_has ls 5 [(2, .int (iZ (pp : Int))), (1, .int (iZ o)), (0, .ref (h0 + q))] → (∀ (μ2 : va_M) (H : Heap) (locs : List Loc) (ls : Array Slot), fr (SQ q pp (pp + sL wl) n (n + rN wl)) μ μ2 → SS μ2 q wl pp a n → μ2 (q + 3) (pp + sL wl) = ((a + rL wl : Nat) : Int) → μ2 q 6 = ((n + rN wl : Nat) : Int) → va_P (dC, dI) vwCl (fw (sE cI cZ cII cIII h0) h0 233 μ2) H → va_S (fA h0 233 s.heap.size) s.heap H locs → lv_has ls 5 [(2, .int (iZ ((pp + sL wl : Nat) : Int))), (1, .int (iZ o)), (0, .ref (h0 + q))] → W p l e R s m args below meth c H locs cells slots Q (F0 m 35 ls [])) → W p l e R s m args below meth c H locs cells slots Q (F0 m 35 ls [])) (ihr : ∀ (pp a n : Nat) (o : Int) (μ : va_M) (H : Heap) (locs : List Loc) (ls : Array Slot), rW0 wr → SA μ (q + 1) wr pp → ((pp + sL wr : Nat) : Int) ≤ μ q 5 → (0 ≤ μ q 5 ∧ μ q 5 ≤ rm) → n ≤ pp → a ≤ pp → μ (q + 3) pp = a → μ q 6 = n → (-1 ≤ o ∧ o < pp) → omP μ q o pp → va_P (dC, dI) vwCl (fw (sE cI cZ cII cIII h0) h0 233 μ) H → va_S (fA h0 233 s.heap.size) s.heap H locs → lv_has ls 5 [(2, .int (iZ (pp : Int))), (1, .int (iZ o)), (0, .ref (h0 + q))] → (∀ (μ2 : va_M) (H : Heap) (locs : List Loc) (ls : Array Slot), fr (SQ q pp (pp + sL wr) n (n + rN wr)) μ μ2 → SS μ2 q wr pp a n → μ2 (q + 3) (pp + sL wr) = ((a + rL wr : Nat) : Int) → μ2 q 6 = ((n + rN wr : Nat) : Int) → va_P (dC, dI) vwCl (fw (sE cI cZ cII cIII h0) h0 233 μ2) H → va_S (fA h0 233 s.heap.size) s.heap H locs → lv_has ls 5 [(2, .int (iZ ((pp + sL wr : Nat) : Int))), (1, .int (iZ o)), (0, .ref (h0 + q))] → W p l e R s m args below meth c H locs cells slots Q (F0 m 35 ls [])) → W p l e R s m args below meth c H locs cells slots Q (F0 m 35 ls [])) : ∀ (pp a n : Nat) (o : Int) (μ : va_M) (H : Heap) (locs : List Loc) (ls : Array Slot), rW0 (Std.DTreeMap.Internal.Impl.inner z k v wl wr : Rw) → SA μ (q + 1) (Std.DTreeMap.Internal.Impl.inner z k v wl wr : Rw) pp → ((pp + sL (Std.DTreeMap.Internal.Impl.inner z k v wl wr : Rw) : Nat) : Int) ≤ μ q 5 → (0 ≤ μ q 5 ∧ μ q 5 ≤ rm) → n ≤ pp → a ≤ pp → μ (q + 3) pp = a → μ q 6 = n → (-1 ≤ o ∧ o < pp) → omP μ q o pp → va_P (dC, dI) vwCl (fw (sE cI cZ cII cIII h0) h0 233 μ) H → va_S (fA h0 233 s.heap.size) s.heap H locs → lv_has ls 5 [(2, .int (iZ (pp : Int))), (1, .int (iZ o)), (0, .ref (h0 + q))] → (∀ (μ2 : va_M) (H : Heap) (locs : List Loc) (ls : Array Slot), fr (SQ q pp (pp + sL (Std.DTreeMap.Internal.Impl.inner z k v wl wr : Rw)) n (n + rN (Std.DTreeMap.Internal.Impl.inner z k v wl wr : Rw))) μ μ2 → SS μ2 q (Std.DTreeMap.Internal.Impl.inner z k v wl wr : Rw) pp a n → μ2 (q + 3) (pp + sL (Std.DTreeMap.Internal.Impl.inner z k v wl wr : Rw)) = ((a + rL (Std.DTreeMap.Internal.Impl.inner z k v wl wr : Rw) : Nat) : Int) → μ2 q 6 = ((n + rN (Std.DTreeMap.Internal.Impl.inner z k v wl wr : Rw) : Nat) : Int) → va_P (dC, dI) vwCl (fw (sE cI cZ cII cIII h0) h0 233 μ2) H → va_S (fA h0 233 s.heap.size) s.heap H locs → lv_has ls 5 [(2, .int (iZ ((pp + sL (Std.DTreeMap.Internal.Impl.inner z k v wl wr : Rw) : Nat) : Int))), (1, .int (iZ o)), (0, .ref (h0 + q))] → W p l e R s m args below meth c H locs cells slots Q (F0 m 35 ls [])) → W p l e R s m args below meth c H locs cells slots Q (F0 m 35 ls []) := by
  intro pp a n o μ H locs ls hw hA hlen hlen2 hn ha h3 h6 ho hom hP hS hl kk
  have hqb := rowB_b hq
  obtain ⟨⟨f1, f2, f4, f5, f6⟩, f7, f8⟩ := hw
  have hgb := sG_b (k := k) (v := v) (l := wl) ⟨f1, f2, f4, f5, f6⟩
  obtain ⟨a1, a2, a3⟩ := hA
  have hg : sG k v = 513 ∨ sG k v = 514 := by
    rcases (show k = 3 ∨ k = 4 by omega) with h | h
    · exact Or.inl (hgb.2.1 h)
    · exact Or.inr (hgb.2.2 h)
  obtain ⟨b1, b2⟩ := a2 (by omega)
  rw [if_neg h9] at a3
  clear hgb a2 f2 f6
  have hNl := rN_lw wl f7
  have hs : sL (Std.DTreeMap.Internal.Impl.inner z k v wl wr : Rw) = 2 + sL wl + sL wr := by rw [sL, if_neg h9]
  have hN : rN (Std.DTreeMap.Internal.Impl.inner z k v wl wr : Rw) = 1 + rN wl + rN wr := rfl
  have hL : rL (Std.DTreeMap.Internal.Impl.inner z k v wl wr : Rw) = rL wl + rL wr := by rw [rL, if_neg h9]; omega
  rw [hs, hN, hL] at kk
  rw [hs] at hlen
  obtain ⟨P2, hP2⟩ : ∃ x, x = pp + 1 + sL wl := ⟨_, rfl⟩
  refine seal_open hx hb hml hown hts hK hM hRf hRl hRc hRs q rm hq pp a n o μ H locs ls (by omega) hlen2 hn ha h3 h6 ho hom (by rw [a1]; exact hg) hP hS hl (fun μ1 H locs ls hfr v2 v3p v4 v5 v3 v6 hP hS hl => ?_)
  have e5 := hfr q 5 no0
  refine ihl (pp + 1) a (n + 1) (pp : Int) μ1 H locs ls f7 (SA_fr (fun y => hfr _ y no1) wl _ b1) (by omega) (by omega) (by omega) (by omega) v3 v6 (by omega) (fun h => by rw [Int.toNat_natCast, v2]; omega) hP hS hl (fun μ2 H locs ls g1 g2 g3 g4 hP hS hl => ?_)
  rw [← hP2] at b2 g1 g3 hl
  have e5b := g1 q 5 no0
  have c2 : μ2 (q + 1) P2 = 515 := by rw [g1 _ _ no1, hfr _ _ no1]; exact b2
  have u2 : μ2 (q + 2) pp = o := by rw [g1 _ _ (no2 (Or.inl (by omega))), v2]
  have u3 : μ2 (q + 3) pp = a := by rw [g1 _ _ (no3 (Or.inl (by omega))), v3p]
  have u4 : μ2 (q + 4) pp = n := by rw [g1 _ _ (no4 (Or.inl (by omega))), v4]
  have u5 : μ2 (q + 5) n = pp := by rw [g1 _ _ (no5 (Or.inl (by omega))), v5]
  have hom2 : omP μ2 q o (P2 + 1) := omP_fr hom (fun h0 => by rw [g1 _ _ (no2 (Or.inl (by omega))), hfr _ _ (no2 (Or.inl (by omega)))]) (by omega)
  refine seal_close hx hb hml hown hts hK hM hRf hRl hRc hRs q rm hq P2 (a + rL wl) (n + 1 + rN wl) pp o μ2 H locs ls (by omega) (by omega) (by omega) (by omega) g3 g4 (by omega) (by omega) u2 c2 hP hS hl (fun μ3 H locs ls hfr3 w2 w2b w4 w3 hP hS hl => ?_)
  have e5c := hfr3 q 5 (by omega)
  have e6c := hfr3 q 6 (by omega)
  have ePd : pp + (2 + sL wl) = P2 + 1 := by omega
  rw [ePd] at a3
  refine ihr (P2 + 1) (a + rL wl) (n + 1 + rN wl) o μ3 H locs ls f8 (SA_fr (fun y => by rw [hfr3 _ y (by omega), g1 _ y no1, hfr _ y no1]) wr _ a3) (by omega) (by omega) (by omega) (by omega) w3 (by omega) (by omega) (omP_fr hom2 (fun h0 => hfr3 _ _ (by omega)) (Nat.le_refl _)) hP hS hl (fun μ4 H locs ls g5 g6 g7 g8 hP hS hl => ?_)
  have x1 : pp + (2 + sL wl + sL wr) = P2 + 1 + sL wr := by omega
  have x2 : a + (rL wl + rL wr) = a + rL wl + rL wr := by omega
  have x3 : n + (1 + rN wl + rN wr) = n + 1 + rN wl + rN wr := by omega
  rw [x1, x2, x3] at kk
  refine kk μ4 H locs ls (fr_trans (fr_trans (fr_trans (fr_mono hfr (fun x y h => SQ_mono (by omega) (by omega) (by omega) (by omega) h)) (fr_mono g1 (fun x y h => SQ_mono (by omega) (by omega) (by omega) (by omega) h))) (fr_mono hfr3 (fun x y h => SQ_cl (by omega) (by omega) h))) (fr_mono g5 (fun x y h => SQ_mono (by omega) (by omega) (by omega) (by omega) h))) ?_ g7 g8 hP hS hl
  unfold SS
  rw [if_neg h9, if_neg h9, if_neg h9, ePd, ← hP2, Nat.add_zero]
  refine ⟨⟨?_, ?_, ?_, ?_⟩, fun _ => ⟨?_, ?_, ?_, ?_⟩, g6⟩
  · rw [g5 _ _ (no2 (Or.inl (by omega))), w2]
  · rw [g5 _ _ (no3 (Or.inl (by omega))), hfr3 _ _ (by omega), u3]
  · rw [g5 _ _ (no4 (Or.inl (by omega))), hfr3 _ _ (by omega), u4]
  · rw [g5 _ _ (no5 (Or.inl (by omega))), hfr3 _ _ (by omega), u5]
  · exact SS_fr wl _ _ _ g2 (fun y y1 y2 => ⟨by rw [g5 _ _ (no2 (Or.inl (by omega))), hfr3 _ _ (by omega)], by rw [g5 _ _ (no3 (Or.inl (by omega))), hfr3 _ _ (by omega)], by rw [g5 _ _ (no4 (Or.inl (by omega))), hfr3 _ _ (by omega)]⟩) (fun y y1 y2 => by rw [g5 _ _ (no5 (Or.inl (by omega))), hfr3 _ _ (by omega)])
  · rw [g5 _ _ (no2 (Or.inl (by omega))), w2b]
  · rw [g5 _ _ (no3 (Or.inl (by omega))), hfr3 _ _ (by omega), g3]
  · rw [g5 _ _ (no4 (Or.inl (by omega))), w4]
set_option maxHeartbeats 4000000 in
set_option maxRecDepth 100000 in
theorem seal_walk {p : Program} {l : Launch} {e : Env} {R : Room} {s : State} {m : MethodId} {args : Array Value} {below : List Frame} {meth : Method} {c : Code} {cells slots : Nat} {Q : State → Prop} {dC : Nat → ClassId} {dI : Nat → Nat → Nat} {h0 : Nat} {cI cZ cII cIII : ClassId} (hx : p.tables.exec = Jvm.exec) (hb : c.code = cX4_seal) (hml : c.maxLocals = 5) (hown : s.vm.findClass RX4 = some m.cls) (hts : ∀ w ∈ wsG, w.before args s = true) (hK : va_K (dC, dI) vwCl (sT cI cZ cII cIII) s) (hM : xM s) (hRf : 2 ≤ R.frames) (hRl : 34 ≤ R.locals) (hRc : cells ≤ R.cells) (hRs : slots ≤ R.slots) (q rm : Nat) (hq : rowB q rm) : ∀ (w : Rw), ∀ (pp a n : Nat) (o : Int) (μ : va_M) (H : Heap) (locs : List Loc) (ls : Array Slot), rW0 w → SA μ (q + 1) w pp → ((pp + sL w : Nat) : Int) ≤ μ q 5 → (0 ≤ μ q 5 ∧ μ q 5 ≤ rm) → n ≤ pp → a ≤ pp → μ (q + 3) pp = a → μ q 6 = n → (-1 ≤ o ∧ o < pp) → omP μ q o pp → va_P (dC, dI) vwCl (fw (sE cI cZ cII cIII h0) h0 233 μ) H → va_S (fA h0 233 s.heap.size) s.heap H locs → lv_has ls 5 [(2, .int (iZ (pp : Int))), (1, .int (iZ o)), (0, .ref (h0 + q))] → (∀ (μ2 : va_M) (H : Heap) (locs : List Loc) (ls : Array Slot), fr (SQ q pp (pp + sL w) n (n + rN w)) μ μ2 → SS μ2 q w pp a n → μ2 (q + 3) (pp + sL w) = ((a + rL w : Nat) : Int) → μ2 q 6 = ((n + rN w : Nat) : Int) → va_P (dC, dI) vwCl (fw (sE cI cZ cII cIII h0) h0 233 μ2) H → va_S (fA h0 233 s.heap.size) s.heap H locs → lv_has ls 5 [(2, .int (iZ ((pp + sL w : Nat) : Int))), (1, .int (iZ o)), (0, .ref (h0 + q))] → W p l e R s m args below meth c H locs cells slots Q (F0 m 35 ls [])) → W p l e R s m args below meth c H locs cells slots Q (F0 m 35 ls []) := by
  intro w
  induction w with
  | leaf =>
    intro pp a n o μ H locs ls _ _ _ _ _ _ h3 h6 _ _ hP hS hl kk
    exact kk μ H locs ls fr_rfl trivial h3 h6 hP hS hl
  | inner z k v wl wr ihl ihr =>
    by_cases h9 : k < 3
    · exact walk_leaf hx hb hml hown hts hK hM hRf hRl hRc hRs q rm hq z k v wl wr h9 ihr
    · exact walk_group hx hb hml hown hts hK hM hRf hRl hRc hRs q rm hq z k v wl wr h9 ihl ihr


/-! the longest common part of two pages; the class's common, told whole -/
def lcin (c : Nat → Nat) (x : Int) (g : Nat → Int) : Nat → Nat
  | 0 => 0
  | j + 1 => if x = g j then c j + 1 else max (c (j + 1)) (lcin c x g j)
/-- the length of the longest common part of the first i of f and the first j of g -/
def lc9 (f g : Nat → Int) : Nat → Nat → Nat
  | 0 => fun _ => 0
  | i + 1 => lcin (lc9 f g i) (f i) g
theorem lc9_0 {f g : Nat → Int} : ∀ i, lc9 f g i 0 = 0
  | 0 => rfl
  | _ + 1 => rfl
theorem lc9_s {f g : Nat → Int} {i j : Nat} : lc9 f g (i + 1) (j + 1) = if f i = g j then lc9 f g i j + 1 else max (lc9 f g i (j + 1)) (lc9 f g (i + 1) j) := rfl
theorem lc9_ab {f g : Nat → Int} : ∀ i j, (lc9 f g i j ≤ lc9 f g (i + 1) j ∧ lc9 f g (i + 1) j ≤ lc9 f g i j + 1) ∧ lc9 f g i j ≤ lc9 f g i (j + 1) ∧ lc9 f g i (j + 1) ≤ lc9 f g i j + 1
  | 0, 0 => by
    refine ⟨⟨Nat.zero_le _, ?_⟩, Nat.zero_le _, Nat.zero_le _⟩
    rw [lc9_0]
    exact Nat.zero_le _
  | 0, j + 1 => by
    have h := lc9_ab (f := f) (g := g) 0 j
    have e : lc9 f g 0 (j + 1) = 0 := rfl
    have e2 : lc9 f g 0 j = 0 := rfl
    have e3 : lc9 f g 0 (j + 1 + 1) = 0 := rfl
    refine ⟨⟨by omega, ?_⟩, by omega, by omega⟩
    rw [lc9_s]
    split <;> omega
  | i + 1, 0 => by
    have h := lc9_ab (f := f) (g := g) i 0
    have e := lc9_0 (f := f) (g := g) (i + 1)
    have e2 := lc9_0 (f := f) (g := g) (i + 1 + 1)
    refine ⟨by omega, by omega, ?_⟩
    rw [lc9_s]
    split <;> omega
  | i + 1, j + 1 => by
    have h1 := lc9_ab (f := f) (g := g) (i + 1) j
    have h2 := lc9_ab (f := f) (g := g) i (j + 1)
    refine ⟨?_, ?_⟩
    · rw [lc9_s (i := i + 1)]
      split <;> omega
    · rw [lc9_s (j := j + 1)]
      split <;> omega
theorem lc9_le {f g : Nat → Int} : ∀ i j, lc9 f g i j ≤ i
  | 0, _ => Nat.le_refl 0
  | i + 1, j => by
    have h := lc9_ab (f := f) (g := g) i j
    have h2 := lc9_le (f := f) (g := g) i j
    omega
theorem lc9_mi {f g : Nat → Int} {j : Nat} : ∀ i k, lc9 f g i j ≤ lc9 f g (i + k) j
  | _, 0 => Nat.le_refl _
  | i, k + 1 => Nat.le_trans (lc9_mi i k) (lc9_ab (i + k) j).1.1
theorem lc9_mj {f g : Nat → Int} {i : Nat} : ∀ j k, lc9 f g i j ≤ lc9 f g i (j + k)
  | _, 0 => Nat.le_refl _
  | j, k + 1 => Nat.le_trans (lc9_mj j k) (lc9_ab i (j + k)).2.1
theorem lc9_eq {f g f2 g2 : Nat → Int} : ∀ i j, (∀ k, k < i → f k = f2 k) → (∀ k, k < j → g k = g2 k) → lc9 f g i j = lc9 f2 g2 i j
  | 0, _, _, _ => rfl
  | i + 1, 0, _, _ => rfl
  | i + 1, j + 1, h1, h2 => by
    rw [lc9_s, lc9_s, h1 i (by omega), h2 j (by omega), lc9_eq i j (fun k hk => h1 k (by omega)) (fun k hk => h2 k (by omega)), lc9_eq i (j + 1) (fun k hk => h1 k (by omega)) h2, lc9_eq (i + 1) j h1 (fun k hk => h2 k (by omega))]
/-- k places in common, the last one first -/
def cs9 (f g : Nat → Int) : Nat → Nat → Nat → Prop
  | 0 => fun _ _ => True
  | k + 1 => fun n m => ∃ i j, i < n ∧ j < m ∧ f i = g j ∧ cs9 f g k i j
/-- k places in common from a, b on, the first one first -/
def cr9 (f g : Nat → Int) (n m : Nat) : Nat → Nat → Nat → Prop
  | 0 => fun _ _ => True
  | k + 1 => fun a b => ∃ i j, a ≤ i ∧ b ≤ j ∧ i < n ∧ j < m ∧ f i = g j ∧ cr9 f g n m k (i + 1) (j + 1)
theorem cs9_up {f g : Nat → Int} {n m n2 m2 : Nat} (h1 : n ≤ n2) (h2 : m ≤ m2) : ∀ k, cs9 f g k n m → cs9 f g k n2 m2
  | 0, _ => trivial
  | _ + 1, ⟨i, j, a, b, c, d⟩ => ⟨i, j, by omega, by omega, c, d⟩
theorem cr9_dn {f g : Nat → Int} {n m a b a2 b2 : Nat} (h1 : a2 ≤ a) (h2 : b2 ≤ b) : ∀ k, cr9 f g n m k a b → cr9 f g n m k a2 b2
  | 0, _ => trivial
  | _ + 1, ⟨i, j, p, q, r⟩ => ⟨i, j, by omega, by omega, r⟩
theorem cs9_le {f g : Nat → Int} : ∀ k n m, cs9 f g k n m → k ≤ lc9 f g n m
  | 0, _, _, _ => Nat.zero_le _
  | k + 1, n, m, ⟨i, j, a, b, c, d⟩ => by
    have h := cs9_le k i j d
    have e := lc9_s (f := f) (g := g) (i := i) (j := j)
    rw [if_pos c] at e
    have h1 := lc9_mi (f := f) (g := g) (j := j + 1) (i + 1) (n - (i + 1))
    have h2 := lc9_mj (f := f) (g := g) (i := n) (j + 1) (m - (j + 1))
    rw [show i + 1 + (n - (i + 1)) = n by omega] at h1
    rw [show j + 1 + (m - (j + 1)) = m by omega] at h2
    omega
theorem cs9_of {f g : Nat → Int} : ∀ n m, cs9 f g (lc9 f g n m) n m
  | 0, _ => trivial
  | n + 1, 0 => trivial
  | n + 1, m + 1 => by
    rw [lc9_s]
    split
    · next h => exact ⟨n, m, by omega, by omega, h, cs9_of n m⟩
    · rcases Nat.le_total (lc9 f g n (m + 1)) (lc9 f g (n + 1) m) with h | h
      · rw [Nat.max_eq_right h]
        exact cs9_up (Nat.le_refl _) (by omega) _ (cs9_of (n + 1) m)
      · rw [Nat.max_eq_left h]
        exact cs9_up (by omega) (Nat.le_refl _) _ (cs9_of n (m + 1))
theorem cs9_cr {f g : Nat → Int} {n m : Nat} : ∀ (k q i j : Nat), i ≤ n → j ≤ m → cs9 f g k i j → cr9 f g n m q i j → cr9 f g n m (q + k) 0 0
  | 0, q, i, j, _, _, _, h => cr9_dn (Nat.zero_le _) (Nat.zero_le _) q h
  | k + 1, q, i, j, hi, hj, ⟨i2, j2, a, b, c, d⟩, h => by
    have h2 := cs9_cr (n := n) (m := m) k (q + 1) i2 j2 (by omega) (by omega) d ⟨i2, j2, Nat.le_refl _, Nat.le_refl _, by omega, by omega, c, cr9_dn (by omega) (by omega) q h⟩
    rw [show q + (k + 1) = q + 1 + k by omega]
    exact h2
theorem cr9_cs {f g : Nat → Int} {n m : Nat} : ∀ (k a b : Nat), cr9 f g n m k a b → cs9 (fun q => f (n - 1 - q)) (fun q => g (m - 1 - q)) k (n - a) (m - b)
  | 0, _, _, _ => trivial
  | k + 1, a, b, ⟨i, j, h1, h2, h3, h4, h5, h6⟩ => by
    have h := cr9_cs k (i + 1) (j + 1) h6
    refine ⟨n - (i + 1), m - (j + 1), by omega, by omega, ?_, h⟩
    show f (n - 1 - (n - (i + 1))) = g (m - 1 - (m - (j + 1)))
    rw [show n - 1 - (n - (i + 1)) = i by omega, show m - 1 - (m - (j + 1)) = j by omega]
    exact h5
theorem lc9_rev1 {f g : Nat → Int} {n m : Nat} : lc9 f g n m ≤ lc9 (fun q => f (n - 1 - q)) (fun q => g (m - 1 - q)) n m := by
  have h1 := cs9_of (f := f) (g := g) n m
  have h2 := cs9_cr (n := n) (m := m) _ 0 n m (Nat.le_refl _) (Nat.le_refl _) h1 trivial
  rw [Nat.zero_add] at h2
  exact cs9_le _ _ _ (cr9_cs _ 0 0 h2)
/-- read from its end on, it is as long -/
theorem lc9_rev {f g : Nat → Int} {n m : Nat} : lc9 (fun q => f (n - 1 - q)) (fun q => g (m - 1 - q)) n m = lc9 f g n m := by
  refine Nat.le_antisymm ?_ lc9_rev1
  have h := lc9_rev1 (f := fun q => f (n - 1 - q)) (g := fun q => g (m - 1 - q)) (n := n) (m := m)
  rw [lc9_eq (f := fun q => f (n - 1 - (n - 1 - q))) (f2 := f) (g := fun q => g (m - 1 - (m - 1 - q))) (g2 := g) n m (fun k hk => by show f (n - 1 - (n - 1 - k)) = f k; rw [show n - 1 - (n - 1 - k) = k by omega]) (fun k hk => by show g (m - 1 - (m - 1 - k)) = g k; rw [show m - 1 - (m - 1 - k) = k by omega])] at h
  exact h
/-- a row of the table; the first j cells of the next one already -/
def lcO (c f g : Nat → Int) (i m : Nat) : Prop := ∀ k, k ≤ m → c k = lc9 f g i k
def lcI (c f g : Nat → Int) (i j m : Nat) : Prop := (∀ k, k ≤ j → c k = lc9 f g (i + 1) k) ∧ ∀ k, j < k → k ≤ m → c k = lc9 f g i k
theorem lcI_0 {c f g : Nat → Int} {i m : Nat} (h : lcO c f g i m) : lcI c f g i 0 m := ⟨fun k hk => by
  obtain rfl : k = 0 := by omega
  rw [h 0 (Nat.zero_le _), lc9_0, lc9_0], fun k _ h2 => h k h2⟩
theorem lcI_O {c f g : Nat → Int} {i m : Nat} (h : lcI c f g i m m) : lcO c f g (i + 1) m := fun k hk => h.1 k hk
theorem lcI_s {c c2 f g : Nat → Int} {i j m : Nat} {z : Int} (h : lcI c f g i j m) (h1 : c2 (j + 1) = z) (h2 : ∀ k, k ≠ j + 1 → c2 k = c k) (hz : z = lc9 f g (i + 1) (j + 1)) : lcI c2 f g i (j + 1) m := ⟨fun k hk => by
  by_cases e : k = j + 1
  · rw [e, h1, hz]
  · rw [h2 k e]; exact h.1 k (by omega), fun k q1 q2 => by rw [h2 k (by omega)]; exact h.2 k (by omega) q2⟩
theorem lc_z1 {c f g : Nat → Int} {i j m : Nat} {di : Int} (hd : di = lc9 f g i j) (e : f i = g j) : di + 1 = lc9 f g (i + 1) (j + 1) := by
  rw [lc9_s, if_pos e, hd]
  omega
theorem lc_z2 {c f g : Nat → Int} {i j m : Nat} (h : lcI c f g i j m) (hj : j < m) (e : ¬ f i = g j) : max (c (j + 1)) (c j) = lc9 f g (i + 1) (j + 1) := by
  rw [lc9_s, if_neg e, h.1 j (Nat.le_refl _), h.2 (j + 1) (by omega) (by omega)]
  omega
set_option maxHeartbeats 4000000 in
set_option maxRecDepth 100000 in
theorem LX1_longestCommon_23b {p : Program} {l : Launch} {e : Env} {R : Room} {s : State} {m : MethodId} {args : Array Value} {below : List Frame} {meth : Method} {c : Code} {cells slots : Nat} {Q : State → Prop} {dC : Nat → ClassId} {dI : Nat → Nat → Nat} {h0 : Nat} {cI cZ cII cIII : ClassId} (hx : p.tables.exec = Jvm.exec) (hb : c.code = cX1_longestCommon) (hml : c.maxLocals = 6) (hown : s.vm.findClass RX1 = some m.cls) (hts : ∀ w ∈ wsG, w.before args s = true) (hK : va_K (dC, dI) vwCl (sT cI cZ cII cIII) s) (hM : xM s) (hRf : 2 ≤ R.frames) (hRl : 37 ≤ R.locals) (hRc : cells ≤ R.cells) (hRs : slots ≤ R.slots) (μ0 : va_M) (b : Nat) (ii : Nat) (b2 : Nat) (i2 : Nat) (i : Int) (hb9 : b = 113 + ii * 15) (hi9 : ii < 8) (hb2 : b2 = 113 + i2 * 15) (hi2 : i2 < 8) (hn1 : 0 ≤ μ0 b 2 ∧ μ0 b 2 ≤ 60) (hn2 : 0 ≤ μ0 b2 2 ∧ μ0 b2 2 ≤ 60) (ht1 : ∀ j, 0 ≤ μ0 (b + 1) j ∧ μ0 (b + 1) j < 200) (ht2 : ∀ j, 0 ≤ μ0 (b2 + 1) j ∧ μ0 (b2 + 1) j < 200) (hii : 0 ≤ i ∧ i < μ0 b 2) (hexit95 : ∀ (j : Int) (di : Int) (μ : va_M) (H : Heap) (locs : List Loc) (ls : Array Slot), (fr (fun x _ => x = b + 14) μ0 μ) → (∀ k : Nat, k < 61 → 0 ≤ μ (b + 14) k ∧ μ (b + 14) k ≤ i + 1) → (lcO (μ (b + 14)) (μ0 (b + 1)) (μ0 (b2 + 1)) (i.toNat + 1) (μ0 b2 2).toNat) → va_P (dC, dI) vwCl (fw (sE cI cZ cII cIII h0) h0 233 μ) H → va_S (fA h0 233 s.heap.size) s.heap H locs → lv_has ls 6 [(2, .int (iZ (i))), (1, .ref (h0 + b2)), (0, .ref (h0 + b))] → W p l e R s m args below meth c H locs cells slots Q (F0 m 95 ls [])) :
    ∀ (n9 : Nat) (j : Int) (di : Int) (μ : va_M) (H : Heap) (locs : List Loc) (ls : Array Slot), (0 ≤ j ∧ j ≤ μ0 b2 2) → (fr (fun x _ => x = b + 14) μ0 μ) → (∀ k : Nat, k < 61 → 0 ≤ μ (b + 14) k ∧ μ (b + 14) k ≤ i + 1) → (∀ k : Nat, k < 61 → j < k → μ (b + 14) k ≤ i) → (0 ≤ di ∧ di ≤ i) → (lcI (μ (b + 14)) (μ0 (b + 1)) (μ0 (b2 + 1)) i.toNat j.toNat (μ0 b2 2).toNat) → (di = lc9 (μ0 (b + 1)) (μ0 (b2 + 1)) i.toNat j.toNat) → (61 - j).toNat < n9 → va_P (dC, dI) vwCl (fw (sE cI cZ cII cIII h0) h0 233 μ) H → va_S (fA h0 233 s.heap.size) s.heap H locs → lv_has ls 6 [(4, .int (iZ (j))), (3, .int (iZ (di))), (2, .int (iZ (i))), (1, .ref (h0 + b2)), (0, .ref (h0 + b))] → W p l e R s m args below meth c H locs cells slots Q (F0 m 23 ls []) := by
  intro n9
  induction n9 with
  | zero => intro j di μ H locs ls hj hf hv hw hd hx9 hy9 hm9 hP hS hl; exact absurd hm9 (Nat.not_lt_zero _)
  | succ n9 ih =>
    intro j di μ H locs ls hj hf hv hw hd hx9 hy9 hm9 hP hS hl
    have hlb := lf_b hb9 hi9
    have hlb2 := lf_b hb2 hi2
    have xc : μ b 2 = μ0 b 2 := hf _ _ (by omega)
    have xc2 : μ b2 2 = μ0 b2 2 := hf _ _ (by omega)
    refine lv_iload hx hb dX1_longestCommon_23 (lv_at hl 0 rfl) ?_
    refine lv_aload_n hx hb dX1_longestCommon_25 rfl (lv_at hl 3 rfl) ?_
    refine fz_get (D := (dC, dI)) (ci := 1) (v := .int (iZ (μ b2 2))) (C := RX1) (T := TX1) (N := 8) hx hb hts inG1 hown hK hP (k := b2) (by omega) (F := (sLF h0 b2)) (sE_leafO hi2 hb2) rfl 2 (by decide) (hts _ k300) (fun _ h9 => h9) rfl dX1_longestCommon_26 ?_
    refine fz_icmp_ge (tgt := 95) (by constructor <;> omega) (by constructor <;> omega) hx hb dX1_longestCommon_29 (by decide) (fun c29_ => ?_) (fun c29_ => ?_)
    · exact hexit95 (j) (di) μ H locs ls (by exact hf) (by exact hv) (by rw [show (μ0 b2 2).toNat = j.toNat by omega] at hx9 ⊢; exact lcI_O hx9) hP hS (lv_sub hl [2, 3, 4] rfl)
    · have v1 := hv (j + 1).toNat (by omega)
      have v2 := hv j.toNat (by omega)
      have v3 := hw (j + 1).toNat (by omega) (by omega)
      have t1_ : μ (b + 1) i.toNat = μ0 (b + 1) i.toNat := hf _ _ (by omega)
      have t2_ : μ (b2 + 1) j.toNat = μ0 (b2 + 1) j.toNat := hf _ _ (by omega)
      have u1_ := ht1 i.toNat
      have u2_ := ht2 j.toNat
      have ej : (j + 1).toNat = j.toNat + 1 := by omega
      refine lv_aload_n hx hb dX1_longestCommon_32 rfl (lv_at hl 4 rfl) ?_
      refine fz_get (D := (dC, dI)) (ci := 1) (v := .ref (h0 + (b + 14))) (C := RX1) (T := TX1) (N := 8) hx hb hts inG1 hown hK hP (k := b) (by omega) (F := (sLF h0 b)) (sE_leafO hi9 hb9) rfl 7 (by decide) (hts _ k311) (fun _ h9 => h9) rfl dX1_longestCommon_33 ?_
      refine lv_iload hx hb dX1_longestCommon_36 (lv_at hl 0 rfl) ?_
      refine lv_iconst (v := iZ 1) hx hb dX1_longestCommon_38 rfl ?_
      refine lv_iadd hx hb dX1_longestCommon_39 ?_
      refine lv_topi (fun x9 ex9 => ?_)
      obtain rfl : x9 = iZ (j + 1) := ex9.trans (iZ_add _ _)
      refine fz_ld (k := (b + 14)) (n := 61) hx hb hK hP 0 (by omega) (sE_leafA 14 61 hi9 hb9 (by decide)) rfl ⟨by omega, by omega⟩ (by decide) dX1_longestCommon_40 ?_
      refine lv_istore (lv' := [(5, .int (iZ (μ (b + 14) (j + 1).toNat))), (4, .int (iZ (j))), (3, .int (iZ (di))), (2, .int (iZ (i))), (1, .ref (h0 + b2)), (0, .ref (h0 + b))]) hx hb dX1_longestCommon_41 hl (by decide) rfl (fun ls hl => ?_)
      refine lv_aload_n hx hb dX1_longestCommon_43 rfl (lv_at hl 5 rfl) ?_
      refine fz_get (D := (dC, dI)) (ci := 1) (v := .ref (h0 + (b + 14))) (C := RX1) (T := TX1) (N := 8) hx hb hts inG1 hown hK hP (k := b) (by omega) (F := (sLF h0 b)) (sE_leafO hi9 hb9) rfl 7 (by decide) (hts _ k311) (fun _ h9 => h9) rfl dX1_longestCommon_44 ?_
      refine lv_iload hx hb dX1_longestCommon_47 (lv_at hl 1 rfl) ?_
      refine lv_iconst (v := iZ 1) hx hb dX1_longestCommon_49 rfl ?_
      refine lv_iadd hx hb dX1_longestCommon_50 ?_
      refine lv_topi (fun x9 ex9 => ?_)
      obtain rfl : x9 = iZ (j + 1) := ex9.trans (iZ_add _ _)
      refine lv_aload_n hx hb dX1_longestCommon_51 rfl (lv_at hl 5 rfl) ?_
      refine fz_get (D := (dC, dI)) (ci := 1) (v := .ref (h0 + (b + 1))) (C := RX1) (T := TX1) (N := 8) hx hb hts inG1 hown hK hP (k := b) (by omega) (F := (sLF h0 b)) (sE_leafO hi9 hb9) rfl 0 (by decide) (hts _ k296) (fun _ h9 => h9) rfl dX1_longestCommon_52 ?_
      refine lv_iload_n hx hb dX1_longestCommon_55 rfl (lv_at hl 3 rfl) ?_
      refine fz_ld (k := (b + 1)) (n := 60) hx hb hK hP 0 (by omega) (sE_leafA 1 60 hi9 hb9 (by decide)) rfl ⟨by omega, by omega⟩ (by decide) dX1_longestCommon_56 ?_
      refine lv_aload_n hx hb dX1_longestCommon_57 rfl (lv_at hl 4 rfl) ?_
      refine fz_get (D := (dC, dI)) (ci := 1) (v := .ref (h0 + (b2 + 1))) (C := RX1) (T := TX1) (N := 8) hx hb hts inG1 hown hK hP (k := b2) (by omega) (F := (sLF h0 b2)) (sE_leafO hi2 hb2) rfl 0 (by decide) (hts _ k296) (fun _ h9 => h9) rfl dX1_longestCommon_58 ?_
      refine lv_iload hx hb dX1_longestCommon_61 (lv_at hl 1 rfl) ?_
      refine fz_ld (k := (b2 + 1)) (n := 60) hx hb hK hP 0 (by omega) (sE_leafA 1 60 hi2 hb2 (by decide)) rfl ⟨by omega, by omega⟩ (by decide) dX1_longestCommon_63 ?_
      refine fz_icmp_ne (tgt := 73) (by constructor <;> omega) (by constructor <;> omega) hx hb dX1_longestCommon_64 (by decide) (fun c64_ => ?_) (fun c64_ => ?_)
      · refine lv_iload hx hb dX1_longestCommon_73 (lv_at hl 0 rfl) ?_
        refine lv_aload_n hx hb dX1_longestCommon_75 rfl (lv_at hl 5 rfl) ?_
        refine fz_get (D := (dC, dI)) (ci := 1) (v := .ref (h0 + (b + 14))) (C := RX1) (T := TX1) (N := 8) hx hb hts inG1 hown hK hP (k := b) (by omega) (F := (sLF h0 b)) (sE_leafO hi9 hb9) rfl 7 (by decide) (hts _ k311) (fun _ h9 => h9) rfl dX1_longestCommon_76 ?_
        refine lv_iload hx hb dX1_longestCommon_79 (lv_at hl 1 rfl) ?_
        refine fz_ld (k := (b + 14)) (n := 61) hx hb hK hP 0 (by omega) (sE_leafA 14 61 hi9 hb9 (by decide)) rfl ⟨by omega, by omega⟩ (by decide) dX1_longestCommon_81 ?_
        refine va_mmax hx hb (hml.trans hl.1.symm) hown (hts _ k1127) (hts _ k75) (hts _ k4) (hts _ k76) (Nat.le_trans (Nat.le_of_ble_eq_true rfl) hRf) (Nat.le_trans (m := 37) (Nat.le_of_ble_eq_true rfl) hRl) hRc hRs dX1_longestCommon_82 ?_
        refine lv_topi (fun x9 ex9 => ?_)
        obtain rfl : x9 = iZ (max (μ (b + 14) (j + 1).toNat) (μ (b + 14) (j).toNat)) := ex9.trans (iZ_mx (by constructor <;> omega) (by constructor <;> omega))
        refine fz_st (k := (b + 14)) (n := 61) (i := (j + 1)) (z := (max (μ (b + 14) (j + 1).toNat) (μ (b + 14) (j).toNat))) hx hb hK hP fA_in hS 0 (by omega) (sE_leafA 14 61 hi9 hb9 (by decide)) rfl ⟨by omega, by omega⟩ (by decide) dX1_longestCommon_85 (fun H locs hP hS => ?_)
        obtain ⟨μ1, eμ1⟩ : ∃ x : va_M, x = uz μ (b + 14) (j + 1).toNat (max (μ (b + 14) (j + 1).toNat) (μ (b + 14) (j).toNat)) := ⟨_, rfl⟩
        rw [← eμ1] at hP
        refine lv_iload hx hb dX1_longestCommon_86 (lv_at hl 0 rfl) ?_
        refine lv_istore_n (lv' := [(3, .int (iZ (μ (b + 14) (j + 1).toNat))), (5, .int (iZ (μ (b + 14) (j + 1).toNat))), (4, .int (iZ (j))), (2, .int (iZ (i))), (1, .ref (h0 + b2)), (0, .ref (h0 + b))]) hx hb dX1_longestCommon_88 rfl hl (by decide) rfl (fun ls hl => ?_)
        refine lv_iinc (v := iZ (j + 1)) (lv' := [(4, .int (iZ (j + 1))), (3, .int (iZ (μ (b + 14) (j + 1).toNat))), (5, .int (iZ (μ (b + 14) (j + 1).toNat))), (2, .int (iZ (i))), (1, .ref (h0 + b2)), (0, .ref (h0 + b))]) hx hb dX1_longestCommon_89 hl (k := 2) rfl (iZ_add _ _) (by decide) rfl (fun ls hl => ?_)
        refine lv_goto (tgt := 23) hx hb dX1_longestCommon_92 (by decide) ?_
        exact ih (j + 1) (μ (b + 14) (j + 1).toNat) μ1 H locs ls (by omega) (by rw [eμ1]; exact fr_uz hf rfl) (by
                        intro k hk
                        by_cases h9 : k = (j + 1).toNat
                        · rw [h9, eμ1, uz_s]; omega
                        · rw [eμ1, uz_n (by omega)]; exact hv k hk) (by
                        intro k hk hk2
                        rw [eμ1, uz_n (by omega)]; exact hw k hk (by omega)) (by omega) (by
                        rw [ej]
                        refine lcI_s (z := max (μ (b + 14) (j + 1).toNat) (μ (b + 14) (j).toNat)) hx9 ?_ (fun k hk => ?_) ?_
                        · rw [eμ1, ← ej, uz_s]
                        · rw [eμ1, uz_n (by omega)]
                        · rw [ej]; exact lc_z2 hx9 (by omega) (by omega)) (by rw [ej]; exact hx9.2 (j.toNat + 1) (by omega) (by omega)) (by omega) hP hS (lv_sub hl [0, 1, 3, 4, 5] rfl)
      · refine lv_iload_n hx hb dX1_longestCommon_67 rfl (lv_at hl 2 rfl) ?_
        refine lv_iconst (v := iZ 1) hx hb dX1_longestCommon_68 rfl ?_
        refine lv_iadd hx hb dX1_longestCommon_69 ?_
        refine lv_topi (fun x9 ex9 => ?_)
        obtain rfl : x9 = iZ (di + 1) := ex9.trans (iZ_add _ _)
        refine lv_goto (tgt := 85) hx hb dX1_longestCommon_70 (by decide) ?_
        refine fz_st (k := (b + 14)) (n := 61) (i := (j + 1)) (z := (di + 1)) hx hb hK hP fA_in hS 0 (by omega) (sE_leafA 14 61 hi9 hb9 (by decide)) rfl ⟨by omega, by omega⟩ (by decide) dX1_longestCommon_85 (fun H locs hP hS => ?_)
        obtain ⟨μ2, eμ2⟩ : ∃ x : va_M, x = uz μ (b + 14) (j + 1).toNat (di + 1) := ⟨_, rfl⟩
        rw [← eμ2] at hP
        refine lv_iload hx hb dX1_longestCommon_86 (lv_at hl 0 rfl) ?_
        refine lv_istore_n (lv' := [(3, .int (iZ (μ (b + 14) (j + 1).toNat))), (5, .int (iZ (μ (b + 14) (j + 1).toNat))), (4, .int (iZ (j))), (2, .int (iZ (i))), (1, .ref (h0 + b2)), (0, .ref (h0 + b))]) hx hb dX1_longestCommon_88 rfl hl (by decide) rfl (fun ls hl => ?_)
        refine lv_iinc (v := iZ (j + 1)) (lv' := [(4, .int (iZ (j + 1))), (3, .int (iZ (μ (b + 14) (j + 1).toNat))), (5, .int (iZ (μ (b + 14) (j + 1).toNat))), (2, .int (iZ (i))), (1, .ref (h0 + b2)), (0, .ref (h0 + b))]) hx hb dX1_longestCommon_89 hl (k := 2) rfl (iZ_add _ _) (by decide) rfl (fun ls hl => ?_)
        refine lv_goto (tgt := 23) hx hb dX1_longestCommon_92 (by decide) ?_
        exact ih (j + 1) (μ (b + 14) (j + 1).toNat) μ2 H locs ls (by omega) (by rw [eμ2]; exact fr_uz hf rfl) (by
                        intro k hk
                        by_cases h9 : k = (j + 1).toNat
                        · rw [h9, eμ2, uz_s]; omega
                        · rw [eμ2, uz_n (by omega)]; exact hv k hk) (by
                        intro k hk hk2
                        rw [eμ2, uz_n (by omega)]; exact hw k hk (by omega)) (by omega) (by
                        rw [ej]
                        refine lcI_s (z := di + 1) hx9 ?_ (fun k hk => ?_) ?_
                        · rw [eμ2, ← ej, uz_s]
                        · rw [eμ2, uz_n (by omega)]
                        · exact lc_z1 (c := μ (b + 14)) (m := 0) hy9 (by omega)) (by rw [ej]; exact hx9.2 (j.toNat + 1) (by omega) (by omega)) (by omega) hP hS (lv_sub hl [0, 1, 3, 4, 5] rfl)
set_option maxHeartbeats 4000000 in
set_option maxRecDepth 100000 in
theorem LX1_longestCommon_10b {p : Program} {l : Launch} {e : Env} {R : Room} {s : State} {m : MethodId} {args : Array Value} {below : List Frame} {meth : Method} {c : Code} {cells slots : Nat} {Q : State → Prop} {dC : Nat → ClassId} {dI : Nat → Nat → Nat} {h0 : Nat} {cI cZ cII cIII : ClassId} (hx : p.tables.exec = Jvm.exec) (hb : c.code = cX1_longestCommon) (hml : c.maxLocals = 6) (hown : s.vm.findClass RX1 = some m.cls) (hts : ∀ w ∈ wsG, w.before args s = true) (hK : va_K (dC, dI) vwCl (sT cI cZ cII cIII) s) (hM : xM s) (hRf : 2 ≤ R.frames) (hRl : 37 ≤ R.locals) (hRc : cells ≤ R.cells) (hRs : slots ≤ R.slots) (μ0 : va_M) (b : Nat) (ii : Nat) (b2 : Nat) (i2 : Nat) (hb9 : b = 113 + ii * 15) (hi9 : ii < 8) (hb2 : b2 = 113 + i2 * 15) (hi2 : i2 < 8) (hn1 : 0 ≤ μ0 b 2 ∧ μ0 b 2 ≤ 60) (hn2 : 0 ≤ μ0 b2 2 ∧ μ0 b2 2 ≤ 60) (ht1 : ∀ j, 0 ≤ μ0 (b + 1) j ∧ μ0 (b + 1) j < 200) (ht2 : ∀ j, 0 ≤ μ0 (b2 + 1) j ∧ μ0 (b2 + 1) j < 200) (hexit101 : ∀ (i : Int) (μ : va_M) (H : Heap) (locs : List Loc) (ls : Array Slot), (fr (fun x _ => x = b + 14) μ0 μ) → (lcO (μ (b + 14)) (μ0 (b + 1)) (μ0 (b2 + 1)) (μ0 b 2).toNat (μ0 b2 2).toNat) → va_P (dC, dI) vwCl (fw (sE cI cZ cII cIII h0) h0 233 μ) H → va_S (fA h0 233 s.heap.size) s.heap H locs → lv_has ls 6 [(1, .ref (h0 + b2)), (0, .ref (h0 + b))] → W p l e R s m args below meth c H locs cells slots Q (F0 m 101 ls [])) :
    ∀ (n9 : Nat) (i : Int) (μ : va_M) (H : Heap) (locs : List Loc) (ls : Array Slot), (0 ≤ i ∧ i ≤ μ0 b 2) → (fr (fun x _ => x = b + 14) μ0 μ) → (∀ j : Nat, j < 61 → 0 ≤ μ (b + 14) j ∧ μ (b + 14) j ≤ i) → (lcO (μ (b + 14)) (μ0 (b + 1)) (μ0 (b2 + 1)) i.toNat (μ0 b2 2).toNat) → (61 - i).toNat < n9 → va_P (dC, dI) vwCl (fw (sE cI cZ cII cIII h0) h0 233 μ) H → va_S (fA h0 233 s.heap.size) s.heap H locs → lv_has ls 6 [(2, .int (iZ (i))), (1, .ref (h0 + b2)), (0, .ref (h0 + b))] → W p l e R s m args below meth c H locs cells slots Q (F0 m 10 ls []) := by
  intro n9
  induction n9 with
  | zero => intro i μ H locs ls hi hf hv hx9 hm9 hP hS hl; exact absurd hm9 (Nat.not_lt_zero _)
  | succ n9 ih =>
    intro i μ H locs ls hi hf hv hx9 hm9 hP hS hl
    have hlb := lf_b hb9 hi9
    have hlb2 := lf_b hb2 hi2
    have xc : μ b 2 = μ0 b 2 := hf _ _ (by omega)
    have xc2 : μ b2 2 = μ0 b2 2 := hf _ _ (by omega)
    refine lv_iload_n hx hb dX1_longestCommon_10 rfl (lv_at hl 0 rfl) ?_
    refine lv_aload_n hx hb dX1_longestCommon_11 rfl (lv_at hl 2 rfl) ?_
    refine fz_get (D := (dC, dI)) (ci := 1) (v := .int (iZ (μ b 2))) (C := RX1) (T := TX1) (N := 8) hx hb hts inG1 hown hK hP (k := b) (by omega) (F := (sLF h0 b)) (sE_leafO hi9 hb9) rfl 2 (by decide) (hts _ k300) (fun _ h9 => h9) rfl dX1_longestCommon_12 ?_
    refine fz_icmp_ge (tgt := 101) (by constructor <;> omega) (by constructor <;> omega) hx hb dX1_longestCommon_15 (by decide) (fun c15_ => ?_) (fun c15_ => ?_)
    · exact hexit101 (i) μ H locs ls (by exact hf) (by rw [show (μ0 b 2).toNat = i.toNat by omega]; exact hx9) hP hS (lv_sub hl [1, 2] rfl)
    · refine lv_iconst (v := iZ 0) hx hb dX1_longestCommon_18 rfl ?_
      refine lv_istore_n (lv' := [(3, .int (iZ (0))), (2, .int (iZ (i))), (1, .ref (h0 + b2)), (0, .ref (h0 + b))]) hx hb dX1_longestCommon_19 rfl hl (by decide) rfl (fun ls hl => ?_)
      refine lv_iconst (v := iZ 0) hx hb dX1_longestCommon_20 rfl ?_
      refine lv_istore (lv' := [(4, .int (iZ (0))), (3, .int (iZ (0))), (2, .int (iZ (i))), (1, .ref (h0 + b2)), (0, .ref (h0 + b))]) hx hb dX1_longestCommon_21 hl (by decide) rfl (fun ls hl => ?_)
      refine LX1_longestCommon_23b hx hb hml hown hts hK hM hRf hRl hRc hRs (μ0) (b) (ii) (b2) (i2) (i) (by assumption) (by assumption) (by assumption) (by assumption) (by assumption) (by assumption) (by exact ht1) (by exact ht2) (by omega) ?_ _ (0) (0) μ H locs ls (by omega) (by exact hf) (by intro k hk; have := hv k hk; omega) (by intro k hk hk2; exact (hv k hk).2) (by omega) (by exact lcI_0 hx9) (by rw [show (0 : Int).toNat = 0 from rfl, lc9_0]; rfl) (Nat.lt_succ_self _) hP hS (lv_sub hl [0, 1, 2, 3, 4] rfl)
      · intro j_3 di_3 μ3_ H locs ls q1_3 q2_3 q5_3 hP hS hl
        have hl : lv_has ls 6 [(2, .int (iZ (i))), (1, .ref (h0 + b2)), (0, .ref (h0 + b))] := hl
        refine lv_iinc (v := iZ (i + 1)) (lv' := [(2, .int (iZ (i + 1))), (1, .ref (h0 + b2)), (0, .ref (h0 + b))]) hx hb dX1_longestCommon_95 hl (k := 0) rfl (iZ_add _ _) (by decide) rfl (fun ls hl => ?_)
        refine lv_goto (tgt := 10) hx hb dX1_longestCommon_98 (by decide) ?_
        exact ih (i + 1) μ3_ H locs ls (by omega) (by exact q1_3) (by exact q2_3) (by rw [show (i + 1).toNat = i.toNat + 1 by omega]; exact q5_3) (by omega) hP hS (lv_sub hl [0, 1, 2] rfl)
set_option maxHeartbeats 4000000 in
set_option maxRecDepth 100000 in
theorem s_FlongestCommon2 (l : Launch) (dC : Nat → ClassId) (dI : Nat → Nat → Nat) (cI cZ cII cIII : ClassId) (h0 sz : Nat) (μ : va_M) (b : Nat) (ii : Nat) (b2 : Nat) (i2 : Nat) (hb9 : b = 113 + ii * 15) (hi9 : ii < 8) (hb2 : b2 = 113 + i2 * 15) (hi2 : i2 < 8) (hl1 : lfOK μ b) (hl2 : lfOK μ b2) : Met l yX1_longestCommon (Cond.code yX1_longestCommon cX1_longestCommon 6 (some .int) :: wsG) ({ frames := 2, cells := 0, slots := 0, locals := 37 } : Room) (va_Pc [.ref (h0 + b), .ref (h0 + b2)] (fun U => U.heap.size = sz ∧ va_P (dC, dI) vwCl (fw (sE cI cZ cII cIII h0) h0 233 μ) U.heap ∧ va_K (dC, dI) vwCl (sT cI cZ cII cIII) U ∧ xM U)) (va_Qi (fun (r9 : Int32) (u : va_M × Int) => r9 = iZ u.2 ∧ (fun (u : va_M) (r : Int) => fr (fun x _ => x = b + 14) μ u ∧ r = lc9 (μ (b + 1)) (μ (b2 + 1)) (μ b 2).toNat (μ b2 2).toNat) u.1 u.2) (fun u t => va_P (dC, dI) vwCl (fw (sE cI cZ cII cIII h0) h0 233 u.1) t.heap ∧ va_K (dC, dI) vwCl (sT cI cZ cII cIII) t) (fA h0 233 sz)) 0 0 (fA h0 233 sz) := by
  refine Met.ofW (cc := cX1_longestCommon) (maxL := 6) (ret := (some .int)) (by decide) rfl ?_
  intro p e s m args below meth c s₁ B hml hv
  obtain ⟨rfl, hsz, hP, hK, hM⟩ := hv
  have hx := B.exec
  have hb := B.bytes
  have hr := B.returns
  have hts : ∀ w ∈ wsG, w.before _ s = true := hG_of (atoms_spec (ws := (Cond.code yX1_longestCommon cX1_longestCommon 6 (some .int) :: wsG)) B.pre)
  have hown : s.vm.findClass RX1 = some m.cls := findClass_of_methodNamed B.named
  have hlocks := B.notSynchronized
  subst hsz
  have hS : va_S (fA h0 233 s.heap.size) s.heap s.heap [] := va_S.rf
  have hl := lv_entry ([.ref (h0 + b), .ref (h0 + b2)]) (n := 6) (Nat.le_of_ble_eq_true rfl)
  rw [lg_entry_eq]
  generalize (lg_sl ([.ref (h0 + b), .ref (h0 + b2)]) ++ List.replicate (6 - (lg_sl ([.ref (h0 + b), .ref (h0 + b2)])).length) Slot.unset).toArray = ls at hl ⊢
  have hl : lv_has ls 6 [(0, .ref (h0 + b)), (1, .ref (h0 + b2))] := hl
  have hlb := lf_b hb9 hi9
  have hlb2 := lf_b hb2 hi2
  refine lv_aload_n hx hb dX1_longestCommon_0 rfl (lv_at hl 0 rfl) ?_
  refine fz_get (D := (dC, dI)) (ci := 1) (v := .ref (h0 + (b + 14))) (C := RX1) (T := TX1) (N := 8) hx hb hts inG1 hown hK hP (k := b) (by omega) (F := (sLF h0 b)) (sE_leafO hi9 hb9) rfl 7 (by decide) (hts _ k311) (fun _ h9 => h9) rfl dX1_longestCommon_1 ?_
  refine lv_iconst (v := iZ 0) hx hb dX1_longestCommon_4 rfl ?_
  refine va_callv (va_runS (As := [.ref (h0 + (b + 14)), .int (iZ (0))]) (rest := []) ⟨hx, hb, hml, hown, hts⟩ (s_fill l dC dI cI cZ cII cIII h0 s.heap.size μ ((b + 14)) (61) (0) (by omega) ((sE_leafA 14 61 hi9 hb9 (by decide)))) (va_cwS 2 hts (gT_G k1126 k330 k12 k331) rfl rfl rfl (by decide +kernel) ⟨Nat.le_of_ble_eq_true rfl, Nat.le_of_ble_eq_true rfl⟩) ⟨fun a U g mk q => by obtain ⟨q0, q1, qP, qK, qM⟩ := q; exact ⟨q0, q1, qP, va_K.moved (u := U) (U := U.calling g mk a) (Vm.Alike.refl U.vm) qK, qM⟩, fun U hU hW => ⟨rfl, by rw [hU], by rw [hU]; exact hP, va_K.moved hW.alike hK, xM_warm hW hM⟩⟩ rfl rfl hl.1 rfl (lv_room (Nat.le_of_ble_eq_true rfl)) dX1_longestCommon_5 ⟨Nat.le_of_ble_eq_true rfl, Nat.le_of_ble_eq_true rfl⟩) hS (fun q _ h => fA_le hS.1 q h) (fA_le hS.1) (fun u9 t9 H1 locs ht9 hvm9 hw9 hB9 hz9 hk9 hS => ?_)
  obtain ⟨hP, -⟩ := hB9
  rw [ht9] at hP
  generalize H1 = H at hP hS ⊢
  obtain ⟨μf, eμf⟩ : ∃ x : va_M, x = u9 := ⟨_, rfl⟩
  rw [← eμf] at hP hw9
  have hμf := hw9; clear hw9
  obtain ⟨f1_, v1_⟩ := hμf
  refine lv_iconst (v := iZ 0) hx hb dX1_longestCommon_8 rfl ?_
  refine lv_istore_n (lv' := [(2, .int (iZ (0))), (0, .ref (h0 + b)), (1, .ref (h0 + b2))]) hx hb dX1_longestCommon_9 rfl hl (by decide) rfl (fun ls hl => ?_)
  refine LX1_longestCommon_10b hx hb hml hown hts hK hM (Nat.le_of_ble_eq_true rfl) (Nat.le_of_ble_eq_true rfl) (Nat.le_of_ble_eq_true rfl) (Nat.le_of_ble_eq_true rfl) (μ) (b) (ii) (b2) (i2) (by assumption) (by assumption) (by assumption) (by assumption) (by exact hl1.1.1) (by exact hl2.1.1) (by exact hl1.2.1) (by exact hl2.2.1) ?_ _ (0) μf H locs ls (by have := hl1.1.1; omega) (by exact f1_) (by intro j hj; rw [v1_ j hj]; decide) (by intro k hk; rw [v1_ k (by have := hl2.1.1; omega)]; rfl) (Nat.lt_succ_self _) hP hS (lv_sub hl [0, 2, 1] rfl)
  · intro i_4 μ4_ H locs ls q1_4 q4_4 hP hS hl
    have hl : lv_has ls 6 [(1, .ref (h0 + b2)), (0, .ref (h0 + b))] := hl
    have Q1 := q1_4
    have hlb := lf_b hb9 hi9
    have hlb2 := lf_b hb2 hi2
    have xc2 : μ4_ b2 2 = μ b2 2 := Q1 _ _ (by omega)
    have z2 := hl2.1.1
    have Q4 := q4_4 (μ b2 2).toNat (Nat.le_refl _)
    refine lv_aload_n hx hb dX1_longestCommon_101 rfl (lv_at hl 1 rfl) ?_
    refine fz_get (D := (dC, dI)) (ci := 1) (v := .ref (h0 + (b + 14))) (C := RX1) (T := TX1) (N := 8) hx hb hts inG1 hown hK hP (k := b) (by omega) (F := (sLF h0 b)) (sE_leafO hi9 hb9) rfl 7 (by decide) (hts _ k311) (fun _ h9 => h9) rfl dX1_longestCommon_102 ?_
    refine lv_aload_n hx hb dX1_longestCommon_105 rfl (lv_at hl 0 rfl) ?_
    refine fz_get (D := (dC, dI)) (ci := 1) (v := .int (iZ (μ4_ b2 2))) (C := RX1) (T := TX1) (N := 8) hx hb hts inG1 hown hK hP (k := b2) (by omega) (F := (sLF h0 b2)) (sE_leafO hi2 hb2) rfl 2 (by decide) (hts _ k300) (fun _ h9 => h9) rfl dX1_longestCommon_106 ?_
    refine fz_ld (k := (b + 14)) (n := 61) hx hb hK hP 0 (by omega) (sE_leafA 14 61 hi9 hb9 (by decide)) rfl ⟨by omega, by omega⟩ (by decide) dX1_longestCommon_109 ?_
    exact W.iret (v := iZ (μ4_ (b + 14) (μ4_ b2 2).toNat)) hx hb hr (fun t9 ht9 hW9 => ⟨⟨iZ (μ4_ (b + 14) (μ4_ b2 2).toNat), (μ4_, μ4_ (b + 14) (μ4_ b2 2).toNat), rfl, ⟨rfl, (by
                dsimp only
                exact ⟨Q1, by rw [xc2]; exact Q4⟩)⟩, by rw [ht9]; exact hP, va_K.moved hW9.alike hK⟩, hS.F ht9⟩) hS.2.2 dX1_longestCommon_110
set_option maxHeartbeats 4000000 in
set_option maxRecDepth 100000 in
theorem t_common (l : Launch) (hfl : l.stackTraces = false) (dC : Nat → ClassId) (dI : Nat → Nat → Nat) (cI cZ cII cIII : ClassId) (h0 sz : Nat) (μ : va_M) (pg : Int) (ot : Int) (T : List Tk) (hI : CI T μ) (h_pg : inR pg) (h_ot : inR ot) : vx_Met l yX9_common (Cond.code yX9_common cX9_common 3 (some .int) :: wsG) ({ frames := 8, cells := 1, slots := 6, locals := 131 } : Room) (va_Pc [.ref h0, .int (iZ (pg)), .int (iZ (ot))] (fun U => U.heap.size = sz ∧ va_P (dC, dI) vwCl (fw (sE cI cZ cII cIII h0) h0 233 μ) U.heap ∧ va_K (dC, dI) vwCl (sT cI cZ cII cIII) U ∧ xM U ∧ xX (fA h0 233 sz) U)) (va_Qi (fun (r9 : Int32) (u : va_M × Int) => r9 = iZ u.2 ∧ (fun (u : va_M) (r : Int) => CI T u ∧ SZ μ u ∧ ((0 ≤ pg ∧ pg < μ 0 2) ∧ 0 ≤ ot ∧ ot < μ 0 2) ∧ (r = lc9 (μ ((113 + (pg).toNat * 15) + 1)) (μ ((113 + (ot).toNat * 15) + 1)) (μ (113 + (pg).toNat * 15) 2).toNat (μ (113 + (ot).toNat * 15) 2).toNat)) u.1 u.2) (fun u t => va_P (dC, dI) vwCl (fw (sE cI cZ cII cIII h0) h0 233 u.1) t.heap ∧ va_K (dC, dI) vwCl (sT cI cZ cII cIII) t) (fA h0 233 sz)) (vx_X (fun (u : va_M) => CI T u ∧ SZ μ u) (fun E u t => E ∈ (["java/util/NoSuchElementException"] : List String) ∧ va_P (dC, dI) vwCl (fw (sE cI cZ cII cIII h0) h0 233 u) t.heap ∧ va_K (dC, dI) vwCl (sT cI cZ cII cIII) t ∧ ((E = "java/util/NoSuchElementException" → cd2 ((0 ≤ pg ∧ pg < μ 0 2) ∧ 0 ≤ ot ∧ ot < μ 0 2) (True) = 1) ∧ (E = "-" → cd2 ((0 ≤ pg ∧ pg < μ 0 2) ∧ 0 ≤ ot ∧ ot < μ 0 2) (True) = 2))) (fA h0 233 sz)) 1 6 (fA h0 233 sz) := by
  refine vx_ofW (cc := cX9_common) (maxL := 3) (ret := (some .int)) (by decide) rfl ?_
  intro p e s m args below meth c s₁ B hml hnt hv
  obtain ⟨rfl, hsz, hP, hK, hM, hEx⟩ := hv
  have hx := B.exec
  have hb := B.bytes
  have hr := B.returns
  have hts : ∀ w ∈ wsG, w.before _ s = true := hG_of (atoms_spec (ws := (Cond.code yX9_common cX9_common 3 (some .int) :: wsG)) B.pre)
  have hown : s.vm.findClass RX9 = some m.cls := findClass_of_methodNamed B.named
  have hlocks := B.notSynchronized
  subst hsz
  have hS : va_S (fA h0 233 s.heap.size) s.heap s.heap [] := va_S.rf
  have hl := lv_entry ([.ref h0, .int (iZ (pg)), .int (iZ (ot))]) (n := 3) (Nat.le_of_ble_eq_true rfl)
  rw [lg_entry_eq]
  generalize (lg_sl ([.ref h0, .int (iZ (pg)), .int (iZ (ot))]) ++ List.replicate (3 - (lg_sl ([.ref h0, .int (iZ (pg)), .int (iZ (ot))])).length) Slot.unset).toArray = ls at hl ⊢
  have hl : lv_has ls 3 [(0, .ref h0), (1, .int (iZ (pg))), (2, .int (iZ (ot)))] := hl
  have hlc := CI_lc hI
  have h66 := CI_n6 hI
  refine lv_aload_n hx hb dX9_common_0 rfl (lv_at hl 0 rfl) ?_
  refine lv_iload_n hx hb dX9_common_1 rfl (lv_at hl 1 rfl) ?_
  by_cases hn2_ : 0 ≤ pg ∧ pg < μ 0 2
  · refine va_callv (va_runV (As := [.int (iZ (pg))]) (rest := []) ⟨hx, hb, hml, hown, hts⟩ (s_needPage l dC dI cI cZ cII cIII h0 s.heap.size μ (pg) (by first | assumption | omega | exact CI_lc hI | exact CI_cn hI | exact (CI_n6 hI).1 | decide) (by first | assumption | omega | exact CI_lc hI | exact CI_cn hI | exact (CI_n6 hI).1 | decide) (by exact hn2_)) (cwV 1 hts (gV_G k735 k737 ks_yX9_needPage k1 k738) rfl rfl rfl (by decide +kernel) ⟨Nat.le_of_ble_eq_true rfl, Nat.le_of_ble_eq_true rfl⟩) ⟨fun a U g mk q => by obtain ⟨q0, q1, qP, qK, qM⟩ := q; exact ⟨q0, q1, qP, va_K.moved (u := U) (U := U.calling g mk a) (Vm.Alike.refl U.vm) qK, qM⟩, va_recv hK hP (ci := 9) (q0 := 0) rfl ((fw_get (by decide)).trans (by rw [sE_0]; rfl)), fun U hU hW => ⟨rfl, by rw [hU], by rw [hU]; exact hP, va_K.moved hW.alike hK, xM_warm hW hM⟩⟩ rfl rfl hl.1 rfl (lv_room (Nat.le_of_ble_eq_true rfl)) dX9_common_2 ⟨Nat.le_of_ble_eq_true rfl, Nat.le_of_ble_eq_true rfl⟩) hS (fun q _ h => fA_le hS.1 q h) (fA_le hS.1) (fun u9 t9 H1 locs ht9 hvm9 hw9 hB9 hz9 hk9 hS => ?_)
    obtain ⟨hP, -⟩ := hB9
    rw [ht9] at hP
    generalize H1 = H at hP hS ⊢
    obtain ⟨μ1, eμ1⟩ : ∃ x : va_M, x = u9 := ⟨_, rfl⟩
    rw [← eμ1] at hP hw9
    have hμ1 := hw9; clear hw9
    rw [hμ1] at hP
    refine lv_aload_n hx hb dX9_common_5 rfl (lv_at hl 0 rfl) ?_
    refine lv_iload_n hx hb dX9_common_6 rfl (lv_at hl 2 rfl) ?_
    by_cases hn7_ : 0 ≤ ot ∧ ot < μ 0 2
    · refine va_callv (va_runV (As := [.int (iZ (ot))]) (rest := []) ⟨hx, hb, hml, hown, hts⟩ (s_needPage l dC dI cI cZ cII cIII h0 H.size μ (ot) (by first | assumption | omega | exact CI_lc hI | exact CI_cn hI | exact (CI_n6 hI).1 | decide) (by first | assumption | omega | exact CI_lc hI | exact CI_cn hI | exact (CI_n6 hI).1 | decide) (by exact hn7_)) (cwV 1 hts (gV_G k735 k737 ks_yX9_needPage k1 k738) rfl rfl rfl (by decide +kernel) ⟨Nat.le_of_ble_eq_true rfl, Nat.le_of_ble_eq_true rfl⟩) ⟨fun a U g mk q => by obtain ⟨q0, q1, qP, qK, qM⟩ := q; exact ⟨q0, q1, qP, va_K.moved (u := U) (U := U.calling g mk a) (Vm.Alike.refl U.vm) qK, qM⟩, va_recv hK hP (ci := 9) (q0 := 0) rfl ((fw_get (by decide)).trans (by rw [sE_0]; rfl)), fun U hU hW => ⟨rfl, by rw [hU], by rw [hU]; exact hP, va_K.moved hW.alike hK, xM_warm hW hM⟩⟩ rfl rfl hl.1 rfl (lv_room (Nat.le_of_ble_eq_true rfl)) dX9_common_7 ⟨Nat.le_of_ble_eq_true rfl, Nat.le_of_ble_eq_true rfl⟩) hS (fun q _ h => fA_le hS.1 q h) (fA_le hS.1) (fun u9 t9 H1 locs ht9 hvm9 hw9 hB9 hz9 hk9 hS => ?_)
      obtain ⟨hP, -⟩ := hB9
      rw [ht9] at hP
      generalize H1 = H at hP hS ⊢
      obtain ⟨μ2, eμ2⟩ : ∃ x : va_M, x = u9 := ⟨_, rfl⟩
      rw [← eμ2] at hP hw9
      have hμ2 := hw9; clear hw9
      rw [hμ2] at hP
      obtain ⟨hl1, hl2⟩ := CI_lf hI pg (by omega) (by omega)
      obtain ⟨hm1, hm2⟩ := CI_lf hI ot (by omega) (by omega)
      refine lv_aload_n hx hb dX9_common_10 rfl (lv_at hl 0 rfl) ?_
      refine fz_get (D := (dC, dI)) (ci := 9) (v := .ref (h0 + 5)) (C := RX9) (T := TX9) (N := 15) hx hb hts inG9 hown hK hP (k := 0) (by decide) (F := (sF0 h0)) sE_0 rfl 1 (by decide) (hts _ k333) (fun _ h9 => h9) rfl dX9_common_11 ?_
      refine lv_iload_n hx hb dX9_common_14 rfl (lv_at hl 1 rfl) ?_
      refine fz_ald (k := 5) (n := 8) (k2 := (113 + (pg).toNat * 15)) hx hb hK hP 1 rfl (by decide) sE_5 rfl ⟨by omega, by omega⟩ (by decide) (if_pos (by omega)) dX9_common_15 ?_
      refine lv_aload_n hx hb dX9_common_16 rfl (lv_at hl 0 rfl) ?_
      refine fz_get (D := (dC, dI)) (ci := 9) (v := .ref (h0 + 5)) (C := RX9) (T := TX9) (N := 15) hx hb hts inG9 hown hK hP (k := 0) (by decide) (F := (sF0 h0)) sE_0 rfl 1 (by decide) (hts _ k333) (fun _ h9 => h9) rfl dX9_common_17 ?_
      refine lv_iload_n hx hb dX9_common_20 rfl (lv_at hl 2 rfl) ?_
      refine fz_ald (k := 5) (n := 8) (k2 := (113 + (ot).toNat * 15)) hx hb hK hP 1 rfl (by decide) sE_5 rfl ⟨by omega, by omega⟩ (by decide) (if_pos (by omega)) dX9_common_21 ?_
      refine va_calli (va_runV (As := [.ref (h0 + (113 + (ot).toNat * 15))]) (rest := []) ⟨hx, hb, hml, hown, hts⟩ (s_FlongestCommon2 l dC dI cI cZ cII cIII h0 H.size μ ((113 + (pg).toNat * 15)) ((pg).toNat) ((113 + (ot).toNat * 15)) ((ot).toNat) (rfl) ((show (pg).toNat < 8 by omega)) (rfl) ((show (ot).toNat < 8 by omega)) (by exact hl1) (by exact hm1)) (cwV 1 hts (gV_G k1122 k1123 k1124 k10 k1125) rfl rfl rfl (by decide +kernel) ⟨Nat.le_of_ble_eq_true rfl, Nat.le_of_ble_eq_true rfl⟩) ⟨fun a U g mk q => by obtain ⟨q0, q1, qP, qK, qM⟩ := q; exact ⟨q0, q1, qP, va_K.moved (u := U) (U := U.calling g mk a) (Vm.Alike.refl U.vm) qK, qM⟩, va_recv hK hP (ci := 1) (q0 := (113 + (pg).toNat * 15)) rfl ((fw_get (by omega)).trans (by rw [(sE_leafO (show (pg).toNat < 8 by omega) rfl)])), fun U hU hW => ⟨rfl, by rw [hU], by rw [hU]; exact hP, va_K.moved hW.alike hK, xM_warm hW hM⟩⟩ rfl rfl hl.1 rfl (lv_room (Nat.le_of_ble_eq_true rfl)) dX9_common_22 ⟨Nat.le_of_ble_eq_true rfl, Nat.le_of_ble_eq_true rfl⟩) hS (fun q _ h => fA_le hS.1 q h) (fA_le hS.1) (fun r9 u9 t9 H1 locs ht9 hvm9 hw9 hB9 hz9 hk9 hS => ?_)
      obtain ⟨μc, rc⟩ := u9
      obtain ⟨hP, -⟩ := hB9
      rw [ht9] at hP
      generalize H1 = H at hP hS ⊢
      obtain ⟨e9, hw9⟩ := hw9
      have e9 : r9 = iZ rc := e9
      subst e9
      simp only at hP hw9
      have hμc := hw9; clear hw9
      obtain ⟨f1_, f2_⟩ := hμc
      rw [fw_nz] at hP
      obtain ⟨μ3, eμ3⟩ : ∃ x : va_M, x = nz μc := ⟨_, rfl⟩
      rw [← eμ3] at hP
      exact W_widen (Nat.le_of_ble_eq_true rfl) (Nat.le_of_ble_eq_true rfl) (vx_ret (W.iret (v := iZ (rc)) hx hb hr (fun t9 ht9 hW9 => ⟨⟨iZ (rc), (μ3, rc), rfl, ⟨rfl, (by
                    dsimp only
                    rw [eμ3]
                    exact ⟨CI_nz (CI_z hI.1 (fr_mono f1_ (fun x y h => by unfold Zc; omega))), SZ_nz (fun x y q => f1_ _ _ (by omega)), ⟨⟨by omega, by omega⟩, by omega, by omega⟩, f2_⟩)⟩, by rw [ht9]; exact hP, va_K.moved hW9.alike hK⟩, hS.F ht9⟩) hS.2.2 dX9_common_25))
    · refine vx_callv (vx_runV (As := [.int (iZ (ot))]) (rest := []) ⟨hx, hb, hml, hown, hts⟩ (x_needPage l hfl dC dI cI cZ cII cIII h0 H.size μ (ot) (by first | assumption | omega | exact CI_lc hI | exact CI_cn hI | exact (CI_n6 hI).1 | decide) (by first | assumption | omega | exact CI_lc hI | exact CI_cn hI | exact (CI_n6 hI).1 | decide) (hn7_)) (cwV 1 hts (gV_G k735 k737 ks_yX9_needPage k1 k738) rfl rfl rfl (by decide +kernel) ⟨Nat.le_of_ble_eq_true rfl, Nat.le_of_ble_eq_true rfl⟩) ⟨fun a U g mk q => by obtain ⟨q0, q1, qP, qK, qM, qE⟩ := q; exact ⟨q0, q1, qP, va_K.moved (u := U) (U := U.calling g mk a) (Vm.Alike.refl U.vm) qK, qM, xX_call qE⟩, va_recv hK hP (ci := 9) (q0 := 0) rfl ((fw_get (by decide)).trans (by rw [sE_0]; rfl)), fun U hU hW => ⟨rfl, by rw [hU], by rw [hU]; exact hP, va_K.moved hW.alike hK, xM_warm hW hM, xX_at hEx hS (fun q h => fA_le hS.1 q h) hU hW⟩⟩ rfl rfl hl.1 rfl (lv_room (Nat.le_of_ble_eq_true rfl)) dX9_common_7 ⟨Nat.le_of_ble_eq_true rfl, Nat.le_of_ble_eq_true rfl⟩) hS (fun q _ h => fA_le hS.1 q h) (fA_le hS.1) (fun q _ h => fA_le hS.1 q h) (fun E9 ce9 q9 u9 t9 H1 locs ht9 hvm9 hpx9 hBX9 hz9 hk9 hS hce9 hcv9 hcl9 => ?_) (fun u9 t9 H1 locs ht9 hvm9 hw9 hB9 hz9 hk9 hS => hw9.elim)
      obtain ⟨hE9, hP9, hK9⟩ := hBX9
      exact vx_out (fun x hx9 => (hnt x hx9).elim) hlocks hce9 hcv9 hcl9 (fun t8 ht8 hW8 => ⟨u9, (by
                    show CI T u9 ∧ SZ μ u9
                    exact CZ_thr hI hpx9), ⟨hE9, by rw [ht8, ← ht9]; exact hP9, va_K.moved hW8 hK, (by have hE8 := List.mem_singleton.mp hE9; rw [hE8]; exact ⟨fun _ => cd2_1 (by omega), fun h => absurd h (by decide +kernel)⟩)⟩, hS.F ht8⟩) hS.2.2 (Nat.le_of_ble_eq_true rfl) (Nat.le_of_ble_eq_true rfl)
  · refine vx_callv (vx_runV (As := [.int (iZ (pg))]) (rest := []) ⟨hx, hb, hml, hown, hts⟩ (x_needPage l hfl dC dI cI cZ cII cIII h0 s.heap.size μ (pg) (by first | assumption | omega | exact CI_lc hI | exact CI_cn hI | exact (CI_n6 hI).1 | decide) (by first | assumption | omega | exact CI_lc hI | exact CI_cn hI | exact (CI_n6 hI).1 | decide) (hn2_)) (cwV 1 hts (gV_G k735 k737 ks_yX9_needPage k1 k738) rfl rfl rfl (by decide +kernel) ⟨Nat.le_of_ble_eq_true rfl, Nat.le_of_ble_eq_true rfl⟩) ⟨fun a U g mk q => by obtain ⟨q0, q1, qP, qK, qM, qE⟩ := q; exact ⟨q0, q1, qP, va_K.moved (u := U) (U := U.calling g mk a) (Vm.Alike.refl U.vm) qK, qM, xX_call qE⟩, va_recv hK hP (ci := 9) (q0 := 0) rfl ((fw_get (by decide)).trans (by rw [sE_0]; rfl)), fun U hU hW => ⟨rfl, by rw [hU], by rw [hU]; exact hP, va_K.moved hW.alike hK, xM_warm hW hM, xX_at hEx hS (fun q h => fA_le hS.1 q h) hU hW⟩⟩ rfl rfl hl.1 rfl (lv_room (Nat.le_of_ble_eq_true rfl)) dX9_common_2 ⟨Nat.le_of_ble_eq_true rfl, Nat.le_of_ble_eq_true rfl⟩) hS (fun q _ h => fA_le hS.1 q h) (fA_le hS.1) (fun q _ h => fA_le hS.1 q h) (fun E9 ce9 q9 u9 t9 H1 locs ht9 hvm9 hpx9 hBX9 hz9 hk9 hS hce9 hcv9 hcl9 => ?_) (fun u9 t9 H1 locs ht9 hvm9 hw9 hB9 hz9 hk9 hS => hw9.elim)
    obtain ⟨hE9, hP9, hK9⟩ := hBX9
    exact vx_out (fun x hx9 => (hnt x hx9).elim) hlocks hce9 hcv9 hcl9 (fun t8 ht8 hW8 => ⟨u9, (by
                show CI T u9 ∧ SZ μ u9
                exact CZ_thr hI hpx9), ⟨hE9, by rw [ht8, ← ht9]; exact hP9, va_K.moved hW8 hK, (by have hE8 := List.mem_singleton.mp hE9; rw [hE8]; exact ⟨fun _ => cd2_1 (by omega), fun h => absurd h (by decide +kernel)⟩)⟩, hS.F ht8⟩) hS.2.2 (Nat.le_of_ble_eq_true rfl) (Nat.le_of_ble_eq_true rfl)

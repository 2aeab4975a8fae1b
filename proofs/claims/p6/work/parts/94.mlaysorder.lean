theorem dX10_laysOrder_0 : decode cX10_laysOrder 0 = .ok (.iload_n 1, 1) := by decide +kernel
theorem dX10_laysOrder_1 : decode cX10_laysOrder 1 = .ok (.istore_n 3, 1) := by decide +kernel
theorem dX10_laysOrder_2 : decode cX10_laysOrder 2 = .ok (.iconst 0, 1) := by decide +kernel
theorem dX10_laysOrder_3 : decode cX10_laysOrder 3 = .ok (.istore 4, 2) := by decide +kernel
theorem dX10_laysOrder_5 : decode cX10_laysOrder 5 = .ok (.iconst 1, 1) := by decide +kernel
theorem dX10_laysOrder_6 : decode cX10_laysOrder 6 = .ok (.istore 5, 2) := by decide +kernel
theorem dX10_laysOrder_8 : decode cX10_laysOrder 8 = .ok (.iconst 2, 1) := by decide +kernel
theorem dX10_laysOrder_9 : decode cX10_laysOrder 9 = .ok (.istore 6, 2) := by decide +kernel
theorem dX10_laysOrder_11 : decode cX10_laysOrder 11 = .ok (.iload 6, 2) := by decide +kernel
theorem dX10_laysOrder_13 : decode cX10_laysOrder 13 = .ok (.iload_n 2, 1) := by decide +kernel
theorem dX10_laysOrder_14 : decode cX10_laysOrder 14 = .ok (.if_icmp .ge 16, 3) := by decide +kernel
theorem dX10_laysOrder_17 : decode cX10_laysOrder 17 = .ok (.iload 5, 2) := by decide +kernel
theorem dX10_laysOrder_19 : decode cX10_laysOrder 19 = .ok (.iload 6, 2) := by decide +kernel
theorem dX10_laysOrder_21 : decode cX10_laysOrder 21 = .ok (.imul, 1) := by decide +kernel
theorem dX10_laysOrder_22 : decode cX10_laysOrder 22 = .ok (.istore 5, 2) := by decide +kernel
theorem dX10_laysOrder_24 : decode cX10_laysOrder 24 = .ok (.iinc 6 1, 3) := by decide +kernel
theorem dX10_laysOrder_27 : decode cX10_laysOrder 27 = .ok (.goto (-16), 3) := by decide +kernel
theorem dX10_laysOrder_30 : decode cX10_laysOrder 30 = .ok (.iconst 0, 1) := by decide +kernel
theorem dX10_laysOrder_31 : decode cX10_laysOrder 31 = .ok (.istore 6, 2) := by decide +kernel
theorem dX10_laysOrder_33 : decode cX10_laysOrder 33 = .ok (.iload 6, 2) := by decide +kernel
theorem dX10_laysOrder_35 : decode cX10_laysOrder 35 = .ok (.iload_n 2, 1) := by decide +kernel
theorem dX10_laysOrder_36 : decode cX10_laysOrder 36 = .ok (.if_icmp .ge 98, 3) := by decide +kernel
theorem dX10_laysOrder_39 : decode cX10_laysOrder 39 = .ok (.iload_n 3, 1) := by decide +kernel
theorem dX10_laysOrder_40 : decode cX10_laysOrder 40 = .ok (.iload 5, 2) := by decide +kernel
theorem dX10_laysOrder_42 : decode cX10_laysOrder 42 = .ok (.idiv, 1) := by decide +kernel
theorem dX10_laysOrder_43 : decode cX10_laysOrder 43 = .ok (.istore 7, 2) := by decide +kernel
theorem dX10_laysOrder_45 : decode cX10_laysOrder 45 = .ok (.iconst 0, 1) := by decide +kernel
theorem dX10_laysOrder_46 : decode cX10_laysOrder 46 = .ok (.istore 8, 2) := by decide +kernel
theorem dX10_laysOrder_48 : decode cX10_laysOrder 48 = .ok (.iload_n 3, 1) := by decide +kernel
theorem dX10_laysOrder_49 : decode cX10_laysOrder 49 = .ok (.iload 5, 2) := by decide +kernel
theorem dX10_laysOrder_51 : decode cX10_laysOrder 51 = .ok (.irem, 1) := by decide +kernel
theorem dX10_laysOrder_52 : decode cX10_laysOrder 52 = .ok (.istore_n 3, 1) := by decide +kernel
theorem dX10_laysOrder_53 : decode cX10_laysOrder 53 = .ok (.iload 4, 2) := by decide +kernel
theorem dX10_laysOrder_55 : decode cX10_laysOrder 55 = .ok (.iload 8, 2) := by decide +kernel
theorem dX10_laysOrder_57 : decode cX10_laysOrder 57 = .ok (.ishr, 1) := by decide +kernel
theorem dX10_laysOrder_58 : decode cX10_laysOrder 58 = .ok (.iconst 1, 1) := by decide +kernel
theorem dX10_laysOrder_59 : decode cX10_laysOrder 59 = .ok (.iand, 1) := by decide +kernel
theorem dX10_laysOrder_60 : decode cX10_laysOrder 60 = .ok (.iconst 1, 1) := by decide +kernel
theorem dX10_laysOrder_61 : decode cX10_laysOrder 61 = .ok (.if_icmp .eq 8, 3) := by decide +kernel
theorem dX10_laysOrder_64 : decode cX10_laysOrder 64 = .ok (.iload 7, 2) := by decide +kernel
theorem dX10_laysOrder_66 : decode cX10_laysOrder 66 = .ok (.ifCond .le 29, 3) := by decide +kernel
theorem dX10_laysOrder_69 : decode cX10_laysOrder 69 = .ok (.iload 7, 2) := by decide +kernel
theorem dX10_laysOrder_71 : decode cX10_laysOrder 71 = .ok (.iload 4, 2) := by decide +kernel
theorem dX10_laysOrder_73 : decode cX10_laysOrder 73 = .ok (.iload 8, 2) := by decide +kernel
theorem dX10_laysOrder_75 : decode cX10_laysOrder 75 = .ok (.ishr, 1) := by decide +kernel
theorem dX10_laysOrder_76 : decode cX10_laysOrder 76 = .ok (.iconst 1, 1) := by decide +kernel
theorem dX10_laysOrder_77 : decode cX10_laysOrder 77 = .ok (.iand, 1) := by decide +kernel
theorem dX10_laysOrder_78 : decode cX10_laysOrder 78 = .ok (.ifCond .ne 7, 3) := by decide +kernel
theorem dX10_laysOrder_81 : decode cX10_laysOrder 81 = .ok (.iconst 1, 1) := by decide +kernel
theorem dX10_laysOrder_82 : decode cX10_laysOrder 82 = .ok (.goto 4, 3) := by decide +kernel
theorem dX10_laysOrder_85 : decode cX10_laysOrder 85 = .ok (.iconst 0, 1) := by decide +kernel
theorem dX10_laysOrder_86 : decode cX10_laysOrder 86 = .ok (.isub, 1) := by decide +kernel
theorem dX10_laysOrder_87 : decode cX10_laysOrder 87 = .ok (.istore 7, 2) := by decide +kernel
theorem dX10_laysOrder_89 : decode cX10_laysOrder 89 = .ok (.iinc 8 1, 3) := by decide +kernel
theorem dX10_laysOrder_92 : decode cX10_laysOrder 92 = .ok (.goto (-39), 3) := by decide +kernel
theorem dX10_laysOrder_95 : decode cX10_laysOrder 95 = .ok (.aload_n 0, 1) := by decide +kernel
theorem dX10_laysOrder_96 : decode cX10_laysOrder 96 = .ok (.getfield 121, 3) := by decide +kernel
theorem dX10_laysOrder_99 : decode cX10_laysOrder 99 = .ok (.iload 6, 2) := by decide +kernel
theorem dX10_laysOrder_101 : decode cX10_laysOrder 101 = .ok (.iload 8, 2) := by decide +kernel
theorem dX10_laysOrder_103 : decode cX10_laysOrder 103 = .ok (.iastore, 1) := by decide +kernel
theorem dX10_laysOrder_104 : decode cX10_laysOrder 104 = .ok (.iload 4, 2) := by decide +kernel
theorem dX10_laysOrder_106 : decode cX10_laysOrder 106 = .ok (.iconst 1, 1) := by decide +kernel
theorem dX10_laysOrder_107 : decode cX10_laysOrder 107 = .ok (.iload 8, 2) := by decide +kernel
theorem dX10_laysOrder_109 : decode cX10_laysOrder 109 = .ok (.ishl, 1) := by decide +kernel
theorem dX10_laysOrder_110 : decode cX10_laysOrder 110 = .ok (.ior, 1) := by decide +kernel
theorem dX10_laysOrder_111 : decode cX10_laysOrder 111 = .ok (.istore 4, 2) := by decide +kernel
theorem dX10_laysOrder_113 : decode cX10_laysOrder 113 = .ok (.iload 5, 2) := by decide +kernel
theorem dX10_laysOrder_115 : decode cX10_laysOrder 115 = .ok (.iconst 1, 1) := by decide +kernel
theorem dX10_laysOrder_116 : decode cX10_laysOrder 116 = .ok (.iload_n 2, 1) := by decide +kernel
theorem dX10_laysOrder_117 : decode cX10_laysOrder 117 = .ok (.iconst 1, 1) := by decide +kernel
theorem dX10_laysOrder_118 : decode cX10_laysOrder 118 = .ok (.isub, 1) := by decide +kernel
theorem dX10_laysOrder_119 : decode cX10_laysOrder 119 = .ok (.iload 6, 2) := by decide +kernel
theorem dX10_laysOrder_121 : decode cX10_laysOrder 121 = .ok (.isub, 1) := by decide +kernel
theorem dX10_laysOrder_122 : decode cX10_laysOrder 122 = .ok (.invokestatic 343, 3) := by decide +kernel
theorem dX10_laysOrder_125 : decode cX10_laysOrder 125 = .ok (.idiv, 1) := by decide +kernel
theorem dX10_laysOrder_126 : decode cX10_laysOrder 126 = .ok (.istore 5, 2) := by decide +kernel
theorem dX10_laysOrder_128 : decode cX10_laysOrder 128 = .ok (.iinc 6 1, 3) := by decide +kernel
theorem dX10_laysOrder_131 : decode cX10_laysOrder 131 = .ok (.goto (-98), 3) := by decide +kernel
theorem dX10_laysOrder_134 : decode cX10_laysOrder 134 = .ok (.return_, 1) := by decide +kernel
/-! the k-th order of the pages -/
def bN (u p : Nat) : Nat := (u >>> p) % 2
def cN (u p m : Nat) : Nat := (if p ≤ 0 && Nat.blt 0 m && bN u 0 == 0 then 1 else 0) + (if p ≤ 1 && Nat.blt 1 m && bN u 1 == 0 then 1 else 0) + (if p ≤ 2 && Nat.blt 2 m && bN u 2 == 0 then 1 else 0) + (if p ≤ 3 && Nat.blt 3 m && bN u 3 == 0 then 1 else 0)
def fN : Nat → Nat
  | 0 => 1
  | 1 => 1
  | 2 => 2
  | _ => 6
def okN (m i rs us bb : Nat) : Bool := Nat.ble i m && Nat.blt us 16 && cN us 0 m == m - i && (Nat.blt rs (bb * (m - i)) || i == m) && bb == fN (m - 1 - i)
theorem okN_S : ∀ (m : Fin 5) (i : Fin 4) (rs : Fin 24) (us : Fin 16) (p : Fin 4), (okN m.val i.val rs.val us.val (fN (m.val - 1 - i.val)) && Nat.blt i.val m.val && Nat.blt p.val m.val && bN us.val p.val == 0) = true → okN m.val (i.val + 1) (rs.val % fN (m.val - 1 - i.val)) (us.val ||| 2 ^ p.val) (fN (m.val - 1 - i.val) / max 1 (m.val - 1 - i.val)) = true := by decide +kernel
theorem cN_1 : ∀ (us : Fin 16) (p : Fin 4) (m : Fin 5), (bN us.val p.val == 1) = true → cN us.val (p.val + 1) m.val = cN us.val p.val m.val := by decide +kernel
theorem cN_0 : ∀ (us : Fin 16) (p : Fin 4) (m : Fin 5), (bN us.val p.val == 0 && Nat.blt p.val m.val) = true → cN us.val (p.val + 1) m.val + 1 = cN us.val p.val m.val := by decide +kernel
theorem cN_m : ∀ (us : Fin 16) (p m : Fin 5), cN us.val p.val m.val = 0 ∨ p.val < m.val := by decide +kernel
theorem sh_1 : ∀ (us : Fin 16) (p : Fin 4), (iZ (us.val : Int) >>> (iZ (p.val : Int) &&& 31)) &&& iZ 1 = iZ (bN us.val p.val : Int) := by decide +kernel
theorem sh_2 : ∀ (us : Fin 16) (p : Fin 4), iZ (us.val : Int) ||| (iZ 1 <<< (iZ (p.val : Int) &&& 31)) = iZ ((us.val ||| 2 ^ p.val : Nat) : Int) := by decide +kernel
theorem cN_r (u p m : Nat) : cN u p m ≤ 4 := by unfold cN; split <;> split <;> split <;> split <;> omega
theorem iZ_nz {x : Int} (h1 : 0 < x) (h2 : x < 1000) : ¬ iZ x = 0 := fun h => by
  have h3 : iZ x = iZ 0 := h
  have := (iZ_eq (by constructor <;> omega) (by decide)).mp h3
  omega
theorem bN_2 (u p : Nat) : bN u p = 0 ∨ bN u p = 1 := by unfold bN; omega
theorem shr_is {z y : Int} {us p : Int} (hz : inR z) (h0 : 0 ≤ us ∧ us < 16) (h1 : 0 ≤ p ∧ p < 4) (e1 : iZ y = iZ us >>> (iZ p &&& 31)) (e2 : iZ z = iZ y &&& iZ 1) : z = bN us.toNat p.toNat := by
  have h := sh_1 ⟨us.toNat, by omega⟩ ⟨p.toNat, by omega⟩
  simp only at h
  rw [Int.toNat_of_nonneg h0.1, Int.toNat_of_nonneg h1.1, ← e1, ← e2] at h
  exact (iZ_eq hz (by have := bN_2 us.toNat p.toNat; constructor <;> omega)).mp h
theorem or_is {z y : Int} {us p : Int} (hz : inR z) (h0 : 0 ≤ us ∧ us < 16) (h1 : 0 ≤ p ∧ p < 4) (e1 : iZ y = iZ 1 <<< (iZ p &&& 31)) (e2 : iZ z = iZ us ||| iZ y) (hb9 : us.toNat ||| 2 ^ p.toNat < 16) : z = ((us.toNat ||| 2 ^ p.toNat : Nat) : Int) := by
  have h := sh_2 ⟨us.toNat, by omega⟩ ⟨p.toNat, by omega⟩
  simp only at h
  rw [Int.toNat_of_nonneg h0.1, Int.toNat_of_nonneg h1.1, ← e1, ← e2] at h
  exact (iZ_eq hz (by constructor <;> omega)).mp h
theorem okN_is {m i rs us bb : Nat} (h : okN m i rs us bb = true) : i ≤ m ∧ us < 16 ∧ cN us 0 m = m - i ∧ (rs < bb * (m - i) ∨ i = m) ∧ bb = fN (m - 1 - i) := by
  unfold okN at h
  rw [Bool.and_eq_true, Bool.and_eq_true, Bool.and_eq_true, Bool.and_eq_true, Bool.or_eq_true, beq_iff_eq, beq_iff_eq, beq_iff_eq] at h
  obtain ⟨⟨⟨⟨h1, h2⟩, h3⟩, h4⟩, h5⟩ := h
  exact ⟨Nat.le_of_ble_eq_true h1, Nat.le_of_ble_eq_true h2, h3, h4.elim (fun h => Or.inl (Nat.le_of_ble_eq_true h)) Or.inr, h5⟩
theorem okN_mk {m i rs us bb : Nat} (h1 : i ≤ m) (h2 : us < 16) (h3 : cN us 0 m = m - i) (h4 : rs < bb * (m - i)) (h5 : bb = fN (m - 1 - i)) : okN m i rs us bb = true := by
  unfold okN
  rw [Bool.and_eq_true, Bool.and_eq_true, Bool.and_eq_true, Bool.and_eq_true, Bool.or_eq_true, beq_iff_eq, beq_iff_eq, beq_iff_eq]
  exact ⟨⟨⟨⟨Nat.ble_eq_true_of_le h1, Nat.ble_eq_true_of_le h2⟩, h3⟩, Or.inl (Nat.ble_eq_true_of_le h4)⟩, h5⟩
theorem fN_r (n : Nat) : 1 ≤ fN n ∧ fN n ≤ 6 := by
  match n with
  | 0 => decide
  | 1 => decide
  | 2 => decide
  | n + 3 => exact ⟨by show 1 ≤ 6; decide, Nat.le_refl _⟩
def okI (m i rs us bb : Int) : Prop := (1 ≤ m ∧ m ≤ 4) ∧ (0 ≤ i ∧ i ≤ m) ∧ (0 ≤ rs ∧ rs < 24) ∧ (0 ≤ us ∧ us < 16) ∧ (1 ≤ bb ∧ bb ≤ 6) ∧ okN m.toNat i.toNat rs.toNat us.toNat bb.toNat = true
/-- one place more of the order -/
theorem okI_S {m i rs us bb p : Int} (h : okI m i rs us bb) (hi : i < m) (hp : 0 ≤ p ∧ p < m) (hb9 : bN us.toNat p.toNat = 0) : us.toNat ||| 2 ^ p.toNat < 16 ∧ okI m (i + 1) (rs % bb) ((us.toNat ||| 2 ^ p.toNat : Nat) : Int) (bb / max 1 (m - 1 - i)) := by
  obtain ⟨h1, h2, h3, h4, h5, h6⟩ := h
  have h7 := okN_is h6
  have hbb := h7.2.2.2.2
  have h8 := okN_S ⟨m.toNat, by omega⟩ ⟨i.toNat, by omega⟩ ⟨rs.toNat, by omega⟩ ⟨us.toNat, by omega⟩ ⟨p.toNat, by omega⟩ (by
    simp only
    have ha : Nat.blt i.toNat m.toNat = true := Nat.ble_eq_true_of_le (by omega)
    have hc : Nat.blt p.toNat m.toNat = true := Nat.ble_eq_true_of_le (by omega)
    rw [← hbb, h6, ha, hc, hb9]
    rfl)
  simp only at h8
  rw [← hbb] at h8
  have h9 := okN_is h8
  have hr := fN_r (m.toNat - 1 - (i.toNat + 1))
  have e1 : (rs % bb).toNat = rs.toNat % bb.toNat := by
    have : (rs % bb) = ((rs.toNat % bb.toNat : Nat) : Int) := by rw [Int.natCast_emod, Int.toNat_of_nonneg h3.1, Int.toNat_of_nonneg (by omega)]
    rw [this]; rfl
  have e2 : (bb / max 1 (m - 1 - i)) = ((bb.toNat / max 1 (m.toNat - 1 - i.toNat) : Nat) : Int) := by
    rw [Int.natCast_ediv, Int.toNat_of_nonneg (by omega)]
    congr 1
    omega
  have e3 : rs.toNat % bb.toNat < bb.toNat := Nat.mod_lt _ (by omega)
  have e4 := Int.emod_nonneg rs (show bb ≠ 0 by omega)
  refine ⟨h9.2.1, h1, by omega, by omega, by omega, by rw [e2]; omega, ?_⟩
  rw [e1, e2, show (i + 1).toNat = i.toNat + 1 by omega]
  exact h8
def kOK (k m : Int) : Prop := 0 ≤ k ∧ (m = 1 → k < 1) ∧ (m = 2 → k < 2) ∧ (m = 3 → k < 6) ∧ (m = 4 → k < 24)
set_option maxHeartbeats 40000000 in
set_option maxRecDepth 100000 in
theorem LX10_laysOrder_11 {p : Program} {l : Launch} {e : Env} {R : Room} {s : State} {m : MethodId} {args : Array Value} {below : List Frame} {meth : Method} {c : Code} {cells slots : Nat} {Q : State → Prop} {dC : Nat → ClassId} {dI : Nat → Nat → Nat} {h0 : Nat} {cI cZ cII cIII : ClassId} (hx : p.tables.exec = Jvm.exec) (hb : c.code = cX10_laysOrder) (hml : c.maxLocals = 9) (hown : s.vm.findClass RX10 = some m.cls) (hts : ∀ w ∈ wsG, w.before args s = true) (hK : va_K (dC, dI) vwCl (mT cI cZ cII cIII) s) (hRf : 2 ≤ R.frames) (hRl : 35 ≤ R.locals) (hRc : cells ≤ R.cells) (hRs : slots ≤ R.slots) (μ0 : va_M) (k : Int) (mn : Int) (hmm : 1 ≤ mn ∧ mn ≤ 4) (hexit30 : ∀ (i : Int) (bb : Int) (μ : va_M) (H : Heap) (locs : List Loc) (ls : Array Slot), (μ = μ0) → ((mn = 1 ∧ bb = 1) ∨ (mn = 2 ∧ bb = 1) ∨ (mn = 3 ∧ bb = 2) ∨ (mn = 4 ∧ bb = 6)) → va_P (dC, dI) vwCl (fw (mE cI cZ cII cIII h0) h0 6325 μ) H → va_S (fA h0 6325 s.heap.size) s.heap H locs → lv_has ls 9 [(5, .int (iZ (bb))), (4, .int (iZ (0))), (3, .int (iZ (k))), (2, .int (iZ (mn))), (1, .int (iZ (k))), (0, .ref h0)] → W p l e R s m args below meth c H locs cells slots Q (F0 m 30 ls [])) :
    ∀ (n9 : Nat) (i : Int) (bb : Int) (μ : va_M) (H : Heap) (locs : List Loc) (ls : Array Slot), (μ = μ0) → ((i = 2 ∧ bb = 1) ∨ (i = 3 ∧ bb = 2) ∨ (i = 4 ∧ bb = 6)) → (i = 2 ∨ i ≤ mn) → (10 - i).toNat < n9 → va_P (dC, dI) vwCl (fw (mE cI cZ cII cIII h0) h0 6325 μ) H → va_S (fA h0 6325 s.heap.size) s.heap H locs → lv_has ls 9 [(6, .int (iZ (i))), (5, .int (iZ (bb))), (4, .int (iZ (0))), (3, .int (iZ (k))), (2, .int (iZ (mn))), (1, .int (iZ (k))), (0, .ref h0)] → W p l e R s m args below meth c H locs cells slots Q (F0 m 11 ls []) := by
  intro n9
  induction n9 with
  | zero => intro i bb μ H locs ls hm9_ hv hi hm9 hP hS hl; exact absurd hm9 (Nat.not_lt_zero _)
  | succ n9 ih =>
    intro i bb μ H locs ls hm9_ hv hi hm9 hP hS hl
    subst hm9_
    refine lv_iload hx hb dX10_laysOrder_11 (lv_at hl 0 rfl) ?_
    refine lv_iload_n hx hb dX10_laysOrder_13 rfl (lv_at hl 4 rfl) ?_
    refine fz_icmp_ge (tgt := 30) (by constructor <;> omega) (by constructor <;> omega) hx hb dX10_laysOrder_14 (by decide) (fun c14_ => ?_) (fun c14_ => ?_)
    · exact hexit30 (i) (bb) μ H locs ls (by rfl) (by omega) hP hS (lv_sub hl [1, 2, 3, 4, 5, 6] rfl)
    · refine lv_iload hx hb dX10_laysOrder_17 (lv_at hl 1 rfl) ?_
      refine lv_iload hx hb dX10_laysOrder_19 (lv_at hl 0 rfl) ?_
      refine lv_imul hx hb dX10_laysOrder_21 ?_
      refine lv_topi (fun x9 ex9 => ?_)
      obtain rfl : x9 = iZ (bb * i) := ex9.trans (iZ_mul _ _)
      rw [show bb * i = (if bb = 1 then 2 else 6) from (by
              rcases hv with ⟨a, b⟩ | ⟨a, b⟩ | ⟨a, b⟩
              · rw [a, b]; rfl
              · rw [a, b]; rfl
              · exfalso; omega)]
      refine lv_istore (lv' := [(5, .int (iZ ((if bb = 1 then 2 else 6)))), (6, .int (iZ (i))), (4, .int (iZ (0))), (3, .int (iZ (k))), (2, .int (iZ (mn))), (1, .int (iZ (k))), (0, .ref h0)]) hx hb dX10_laysOrder_22 hl (by decide) rfl (fun ls hl => ?_)
      refine lv_iinc (v := iZ (i + 1)) (lv' := [(6, .int (iZ (i + 1))), (5, .int (iZ ((if bb = 1 then 2 else 6)))), (4, .int (iZ (0))), (3, .int (iZ (k))), (2, .int (iZ (mn))), (1, .int (iZ (k))), (0, .ref h0)]) hx hb dX10_laysOrder_24 hl (k := 1) rfl (iZ_add _ _) (by decide) rfl (fun ls hl => ?_)
      refine lv_goto (tgt := 11) hx hb dX10_laysOrder_27 (by decide) ?_
      exact ih (i + 1) ((if bb = 1 then 2 else 6)) μ H locs ls (by rfl) (by
                    rcases hv with ⟨a, b⟩ | ⟨a, b⟩ | ⟨a, b⟩
                    · right; left; rw [a, b]; exact ⟨rfl, rfl⟩
                    · right; right; rw [a, b]; exact ⟨rfl, rfl⟩
                    · exfalso; omega) (by omega) (by omega) hP hS (lv_sub hl [0, 1, 2, 3, 4, 5, 6] rfl)
set_option maxHeartbeats 40000000 in
set_option maxRecDepth 100000 in
theorem LX10_laysOrder_53 {p : Program} {l : Launch} {e : Env} {R : Room} {s : State} {m : MethodId} {args : Array Value} {below : List Frame} {meth : Method} {c : Code} {cells slots : Nat} {Q : State → Prop} {dC : Nat → ClassId} {dI : Nat → Nat → Nat} {h0 : Nat} {cI cZ cII cIII : ClassId} (hx : p.tables.exec = Jvm.exec) (hb : c.code = cX10_laysOrder) (hml : c.maxLocals = 9) (hown : s.vm.findClass RX10 = some m.cls) (hts : ∀ w ∈ wsG, w.before args s = true) (hK : va_K (dC, dI) vwCl (mT cI cZ cII cIII) s) (hRf : 2 ≤ R.frames) (hRl : 35 ≤ R.locals) (hRc : cells ≤ R.cells) (hRs : slots ≤ R.slots) (μ0 : va_M) (k : Int) (mn : Int) (i : Int) (us : Int) (bb : Int) (rs2 : Int) (hmm : 1 ≤ mn ∧ mn ≤ 4) (hus : 0 ≤ us ∧ us < 16) (hsk0 : 0 ≤ mn) (hexit95 : ∀ (sk : Int) (pp : Int) (μ : va_M) (H : Heap) (locs : List Loc) (ls : Array Slot), (μ = μ0) → (0 ≤ pp ∧ pp < mn ∧ bN us.toNat pp.toNat = 0) → va_P (dC, dI) vwCl (fw (mE cI cZ cII cIII h0) h0 6325 μ) H → va_S (fA h0 6325 s.heap.size) s.heap H locs → lv_has ls 9 [(8, .int (iZ (pp))), (6, .int (iZ (i))), (5, .int (iZ (bb))), (4, .int (iZ (us))), (3, .int (iZ (rs2))), (2, .int (iZ (mn))), (1, .int (iZ (k))), (0, .ref h0)] → W p l e R s m args below meth c H locs cells slots Q (F0 m 95 ls [])) :
    ∀ (n9 : Nat) (sk : Int) (pp : Int) (μ : va_M) (H : Heap) (locs : List Loc) (ls : Array Slot), (μ = μ0) → (0 ≤ pp ∧ pp ≤ 4) → (0 ≤ sk ∧ sk.toNat + 1 ≤ cN us.toNat pp.toNat mn.toNat) → (10 - pp).toNat < n9 → va_P (dC, dI) vwCl (fw (mE cI cZ cII cIII h0) h0 6325 μ) H → va_S (fA h0 6325 s.heap.size) s.heap H locs → lv_has ls 9 [(8, .int (iZ (pp))), (7, .int (iZ (sk))), (6, .int (iZ (i))), (5, .int (iZ (bb))), (4, .int (iZ (us))), (3, .int (iZ (rs2))), (2, .int (iZ (mn))), (1, .int (iZ (k))), (0, .ref h0)] → W p l e R s m args below meth c H locs cells slots Q (F0 m 53 ls []) := by
  intro n9
  induction n9 with
  | zero => intro sk pp μ H locs ls hm9_ hp hs hm9 hP hS hl; exact absurd hm9 (Nat.not_lt_zero _)
  | succ n9 ih =>
    intro sk pp μ H locs ls hm9_ hp hs hm9 hP hS hl
    subst hm9_
    have hcb := cN_m ⟨us.toNat, by omega⟩ ⟨pp.toNat, by omega⟩ ⟨mn.toNat, by omega⟩
    simp only at hcb
    have hpm : pp < mn := by omega
    refine lv_iload hx hb dX10_laysOrder_53 (lv_at hl 4 rfl) ?_
    refine lv_iload hx hb dX10_laysOrder_55 (lv_at hl 0 rfl) ?_
    refine lv_ishr hx hb dX10_laysOrder_57 ?_
    refine lv_topi (fun x9 ex9 => ?_)
    obtain ⟨z1, rfl, hz1⟩ := iZ_ex x9
    have ez1 := ex9; clear ex9
    refine lv_iconst (v := iZ 1) hx hb dX10_laysOrder_58 rfl ?_
    refine lv_iand hx hb dX10_laysOrder_59 ?_
    refine lv_topi (fun x9 ex9 => ?_)
    obtain ⟨z2, rfl, hz2⟩ := iZ_ex x9
    have ez2 := ex9; clear ex9
    rw [show z2 = (bN us.toNat pp.toNat : Int) from (by exact shr_is hz2 hus (by omega) ez1 ez2)]
    refine lv_iconst (v := iZ 1) hx hb dX10_laysOrder_60 rfl ?_
    refine fz_icmp_eq (tgt := 69) (by have := bN_2 us.toNat pp.toNat; constructor <;> omega) (by decide) hx hb dX10_laysOrder_61 (by decide) (fun c61_ => ?_) (fun c61_ => ?_)
    · have hb1 : bN us.toNat pp.toNat = 1 := by omega
      have hcs := cN_1 ⟨us.toNat, by omega⟩ ⟨pp.toNat, by omega⟩ ⟨mn.toNat, by omega⟩ (beq_iff_eq.mpr hb1)
      simp only at hcs
      refine lv_iload hx hb dX10_laysOrder_69 (lv_at hl 1 rfl) ?_
      refine lv_iload hx hb dX10_laysOrder_71 (lv_at hl 4 rfl) ?_
      refine lv_iload hx hb dX10_laysOrder_73 (lv_at hl 0 rfl) ?_
      refine lv_ishr hx hb dX10_laysOrder_75 ?_
      refine lv_topi (fun x9 ex9 => ?_)
      obtain ⟨z3, rfl, hz3⟩ := iZ_ex x9
      have ez3 := ex9; clear ex9
      refine lv_iconst (v := iZ 1) hx hb dX10_laysOrder_76 rfl ?_
      refine lv_iand hx hb dX10_laysOrder_77 ?_
      refine lv_topi (fun x9 ex9 => ?_)
      obtain ⟨z4, rfl, hz4⟩ := iZ_ex x9
      have ez4 := ex9; clear ex9
      rw [show z4 = (bN us.toNat pp.toNat : Int) from (by exact shr_is hz4 hus (by omega) ez3 ez4)]
      refine fz_if_ne (tgt := 85) (by have := bN_2 us.toNat pp.toNat; constructor <;> omega) hx hb dX10_laysOrder_78 (by decide) (fun c78_ => ?_) (fun h9 => (by omega))
      refine lv_iconst (v := iZ 0) hx hb dX10_laysOrder_85 rfl ?_
      refine lv_isub hx hb dX10_laysOrder_86 ?_
      refine lv_topi (fun x9 ex9 => ?_)
      obtain rfl : x9 = iZ (sk - 0) := ex9.trans (iZ_sub _ _)
      refine lv_istore (lv' := [(7, .int (iZ (sk - 0))), (8, .int (iZ (pp))), (6, .int (iZ (i))), (5, .int (iZ (bb))), (4, .int (iZ (us))), (3, .int (iZ (rs2))), (2, .int (iZ (mn))), (1, .int (iZ (k))), (0, .ref h0)]) hx hb dX10_laysOrder_87 hl (by decide) rfl (fun ls hl => ?_)
      refine lv_iinc (v := iZ (pp + 1)) (lv' := [(8, .int (iZ (pp + 1))), (7, .int (iZ (sk - 0))), (6, .int (iZ (i))), (5, .int (iZ (bb))), (4, .int (iZ (us))), (3, .int (iZ (rs2))), (2, .int (iZ (mn))), (1, .int (iZ (k))), (0, .ref h0)]) hx hb dX10_laysOrder_89 hl (k := 1) rfl (iZ_add _ _) (by decide) rfl (fun ls hl => ?_)
      refine lv_goto (tgt := 53) hx hb dX10_laysOrder_92 (by decide) ?_
      exact ih (sk - 0) (pp + 1) μ H locs ls (by rfl) (by omega) (by rw [show (pp + 1).toNat = pp.toNat + 1 by omega]; omega) (by omega) hP hS (lv_sub hl [0, 1, 2, 3, 4, 5, 6, 7, 8] rfl)
    · have hb0 : bN us.toNat pp.toNat = 0 := by have := bN_2 us.toNat pp.toNat; omega
      have hcs := cN_0 ⟨us.toNat, by omega⟩ ⟨pp.toNat, by omega⟩ ⟨mn.toNat, by omega⟩ (by simp only; rw [hb0, show Nat.blt pp.toNat mn.toNat = true from Nat.ble_eq_true_of_le (by omega)]; rfl)
      simp only at hcs
      refine lv_iload hx hb dX10_laysOrder_64 (lv_at hl 1 rfl) ?_
      refine fz_if_le (tgt := 95) (by have hsb := cN_r us.toNat pp.toNat mn.toNat; constructor <;> omega) hx hb dX10_laysOrder_66 (by decide) (fun c66_ => ?_) (fun c66_ => ?_)
      · exact hexit95 (sk) (pp) μ H locs ls (by rfl) (by omega) hP hS (lv_sub hl [0, 2, 3, 4, 5, 6, 7, 8] rfl)
      · refine lv_iload hx hb dX10_laysOrder_69 (lv_at hl 1 rfl) ?_
        refine lv_iload hx hb dX10_laysOrder_71 (lv_at hl 4 rfl) ?_
        refine lv_iload hx hb dX10_laysOrder_73 (lv_at hl 0 rfl) ?_
        refine lv_ishr hx hb dX10_laysOrder_75 ?_
        refine lv_topi (fun x9 ex9 => ?_)
        obtain ⟨z5, rfl, hz5⟩ := iZ_ex x9
        have ez5 := ex9; clear ex9
        refine lv_iconst (v := iZ 1) hx hb dX10_laysOrder_76 rfl ?_
        refine lv_iand hx hb dX10_laysOrder_77 ?_
        refine lv_topi (fun x9 ex9 => ?_)
        obtain ⟨z6, rfl, hz6⟩ := iZ_ex x9
        have ez6 := ex9; clear ex9
        rw [show z6 = (bN us.toNat pp.toNat : Int) from (by exact shr_is hz6 hus (by omega) ez5 ez6)]
        refine fz_if_ne (tgt := 85) (by have := bN_2 us.toNat pp.toNat; constructor <;> omega) hx hb dX10_laysOrder_78 (by decide) (fun h9 => (by omega)) (fun c78_ => ?_)
        refine lv_iconst (v := iZ 1) hx hb dX10_laysOrder_81 rfl ?_
        refine lv_goto (tgt := 86) hx hb dX10_laysOrder_82 (by decide) ?_
        refine lv_isub hx hb dX10_laysOrder_86 ?_
        refine lv_topi (fun x9 ex9 => ?_)
        obtain rfl : x9 = iZ (sk - 1) := ex9.trans (iZ_sub _ _)
        refine lv_istore (lv' := [(7, .int (iZ (sk - 1))), (8, .int (iZ (pp))), (6, .int (iZ (i))), (5, .int (iZ (bb))), (4, .int (iZ (us))), (3, .int (iZ (rs2))), (2, .int (iZ (mn))), (1, .int (iZ (k))), (0, .ref h0)]) hx hb dX10_laysOrder_87 hl (by decide) rfl (fun ls hl => ?_)
        refine lv_iinc (v := iZ (pp + 1)) (lv' := [(8, .int (iZ (pp + 1))), (7, .int (iZ (sk - 1))), (6, .int (iZ (i))), (5, .int (iZ (bb))), (4, .int (iZ (us))), (3, .int (iZ (rs2))), (2, .int (iZ (mn))), (1, .int (iZ (k))), (0, .ref h0)]) hx hb dX10_laysOrder_89 hl (k := 1) rfl (iZ_add _ _) (by decide) rfl (fun ls hl => ?_)
        refine lv_goto (tgt := 53) hx hb dX10_laysOrder_92 (by decide) ?_
        exact ih (sk - 1) (pp + 1) μ H locs ls (by rfl) (by omega) (by rw [show (pp + 1).toNat = pp.toNat + 1 by omega]; omega) (by omega) hP hS (lv_sub hl [0, 1, 2, 3, 4, 5, 6, 7, 8] rfl)
set_option maxHeartbeats 40000000 in
set_option maxRecDepth 100000 in
theorem LX10_laysOrder_33 {p : Program} {l : Launch} {e : Env} {R : Room} {s : State} {m : MethodId} {args : Array Value} {below : List Frame} {meth : Method} {c : Code} {cells slots : Nat} {Q : State → Prop} {dC : Nat → ClassId} {dI : Nat → Nat → Nat} {h0 : Nat} {cI cZ cII cIII : ClassId} (hx : p.tables.exec = Jvm.exec) (hb : c.code = cX10_laysOrder) (hml : c.maxLocals = 9) (hown : s.vm.findClass RX10 = some m.cls) (hts : ∀ w ∈ wsG, w.before args s = true) (hK : va_K (dC, dI) vwCl (mT cI cZ cII cIII) s) (hRf : 2 ≤ R.frames) (hRl : 35 ≤ R.locals) (hRc : cells ≤ R.cells) (hRs : slots ≤ R.slots) (μ0 : va_M) (k : Int) (mn : Int) (hmm : 1 ≤ mn ∧ mn ≤ 4) (hexit134 : ∀ (i : Int) (rs : Int) (us : Int) (bb : Int) (μ : va_M) (H : Heap) (locs : List Loc) (ls : Array Slot), (fr (fun x _ => x = 6323) μ0 μ) → (∀ j : Nat, (j : Int) < mn → 0 ≤ μ 6323 j ∧ μ 6323 j < mn) → va_P (dC, dI) vwCl (fw (mE cI cZ cII cIII h0) h0 6325 μ) H → va_S (fA h0 6325 s.heap.size) s.heap H locs → lv_has ls 9 [] → W p l e R s m args below meth c H locs cells slots Q (F0 m 134 ls [])) :
    ∀ (n9 : Nat) (i : Int) (rs : Int) (us : Int) (bb : Int) (μ : va_M) (H : Heap) (locs : List Loc) (ls : Array Slot), (okI mn i rs us bb) → (fr (fun x _ => x = 6323) μ0 μ) → (∀ j : Nat, (j : Int) < i → 0 ≤ μ 6323 j ∧ μ 6323 j < mn) → (10 - i).toNat < n9 → va_P (dC, dI) vwCl (fw (mE cI cZ cII cIII h0) h0 6325 μ) H → va_S (fA h0 6325 s.heap.size) s.heap H locs → lv_has ls 9 [(6, .int (iZ (i))), (5, .int (iZ (bb))), (4, .int (iZ (us))), (3, .int (iZ (rs))), (2, .int (iZ (mn))), (1, .int (iZ (k))), (0, .ref h0)] → W p l e R s m args below meth c H locs cells slots Q (F0 m 33 ls []) := by
  intro n9
  induction n9 with
  | zero => intro i rs us bb μ H locs ls hok hf ho hm9 hP hS hl; exact absurd hm9 (Nat.not_lt_zero _)
  | succ n9 ih =>
    intro i rs us bb μ H locs ls hok hf ho hm9 hP hS hl
    have hok9 := hok
    obtain ⟨ok1, ok2, ok3, ok4, ok5, ok6⟩ := hok9
    have ok7 := okN_is ok6
    refine lv_iload hx hb dX10_laysOrder_33 (lv_at hl 0 rfl) ?_
    refine lv_iload_n hx hb dX10_laysOrder_35 rfl (lv_at hl 4 rfl) ?_
    refine fz_icmp_ge (tgt := 134) (by constructor <;> omega) (by constructor <;> omega) hx hb dX10_laysOrder_36 (by decide) (fun c36_ => ?_) (fun c36_ => ?_)
    · exact hexit134 (i) (rs) (us) (bb) μ H locs ls (by exact hf) (by intro j hj; exact ho j (by omega)) hP hS (lv_sub hl [] rfl)
    · have hsk : rs / bb < mn - i := by
        have h9 : rs.toNat < bb.toNat * (mn.toNat - i.toNat) := by omega
        refine Int.ediv_lt_of_lt_mul (by omega) ?_
        have h8 : ((mn.toNat - i.toNat : Nat) : Int) = mn - i := by omega
        have h7 : (bb.toNat : Int) = bb := by omega
        have h6 : ((bb.toNat * (mn.toNat - i.toNat) : Nat) : Int) = (mn - i) * bb := by rw [Int.natCast_mul, h8, h7, Int.mul_comm]
        rw [← h6]; omega
      have hsk0 : 0 ≤ rs / bb := Int.ediv_nonneg (by omega) (by omega)
      refine lv_iload_n hx hb dX10_laysOrder_39 rfl (lv_at hl 3 rfl) ?_
      refine lv_iload hx hb dX10_laysOrder_40 (lv_at hl 1 rfl) ?_
      refine lv_idiv hx hb dX10_laysOrder_42 (by exact iZ_nz (by omega) (by omega)) ?_
      refine lv_topi (fun x9 ex9 => ?_)
      obtain rfl : x9 = iZ (rs / bb) := ex9.trans (iZ_divP (by constructor <;> omega) (by constructor <;> omega) (by omega) (by omega))
      refine lv_istore (lv' := [(7, .int (iZ (rs / bb))), (6, .int (iZ (i))), (5, .int (iZ (bb))), (4, .int (iZ (us))), (3, .int (iZ (rs))), (2, .int (iZ (mn))), (1, .int (iZ (k))), (0, .ref h0)]) hx hb dX10_laysOrder_43 hl (by decide) rfl (fun ls hl => ?_)
      refine lv_iconst (v := iZ 0) hx hb dX10_laysOrder_45 rfl ?_
      refine lv_istore (lv' := [(8, .int (iZ (0))), (7, .int (iZ (rs / bb))), (6, .int (iZ (i))), (5, .int (iZ (bb))), (4, .int (iZ (us))), (3, .int (iZ (rs))), (2, .int (iZ (mn))), (1, .int (iZ (k))), (0, .ref h0)]) hx hb dX10_laysOrder_46 hl (by decide) rfl (fun ls hl => ?_)
      refine lv_iload_n hx hb dX10_laysOrder_48 rfl (lv_at hl 5 rfl) ?_
      refine lv_iload hx hb dX10_laysOrder_49 (lv_at hl 3 rfl) ?_
      refine lv_irem hx hb dX10_laysOrder_51 (by exact iZ_nz (by omega) (by omega)) ?_
      refine lv_topi (fun x9 ex9 => ?_)
      obtain rfl : x9 = iZ (rs % bb) := ex9.trans (iZ_remP (by constructor <;> omega) (by constructor <;> omega) (by omega) (by omega))
      refine lv_istore_n (lv' := [(3, .int (iZ (rs % bb))), (8, .int (iZ (0))), (7, .int (iZ (rs / bb))), (6, .int (iZ (i))), (5, .int (iZ (bb))), (4, .int (iZ (us))), (2, .int (iZ (mn))), (1, .int (iZ (k))), (0, .ref h0)]) hx hb dX10_laysOrder_52 rfl hl (by decide) rfl (fun ls hl => ?_)
      refine LX10_laysOrder_53 hx hb hml hown hts hK hRf hRl hRc hRs (μ) (k) (mn) (i) (us) (bb) (rs % bb) (by exact hmm) (by exact ok4) (by omega) ?_ _ (rs / bb) (0) μ H locs ls (by rfl) (by omega) (by
                    refine ⟨hsk0, ?_⟩
                    show (rs / bb).toNat + 1 ≤ cN us.toNat 0 mn.toNat
                    rw [ok7.2.2.1]; omega) (Nat.lt_succ_self _) hP hS (lv_sub hl [1, 2, 3, 4, 5, 0, 6, 7, 8] rfl)
      · intro sk_7 pp_7 μ7_ H locs ls q5_7 q6_7 hP hS hl
        have hl : lv_has ls 9 [(8, .int (iZ (pp_7))), (6, .int (iZ (i))), (5, .int (iZ (bb))), (4, .int (iZ (us))), (3, .int (iZ ((rs % bb)))), (2, .int (iZ (mn))), (1, .int (iZ (k))), (0, .ref h0)] := hl
        have hPn95 := hP
        obtain rfl := q5_7
        have hP := hPn95
        obtain ⟨p1_, p2_, p3_⟩ := q6_7
        obtain ⟨hor, hok2⟩ := okI_S hok (by omega) ⟨p1_, p2_⟩ p3_
        refine lv_aload_n hx hb dX10_laysOrder_95 rfl (lv_at hl 7 rfl) ?_
        refine fz_get (D := (dC, dI)) (ci := 10) (v := .ref (h0 + 6323)) (C := RX10) (T := TX10) (N := 53) hx hb hts inG10 hown hK hP (k := 0) (by decide) (F := mF h0) mE_obj rfl 51 (by decide) (hts _ k1217) (fun _ h9 => h9) rfl dX10_laysOrder_96 ?_
        refine lv_iload hx hb dX10_laysOrder_99 (lv_at hl 1 rfl) ?_
        refine lv_iload hx hb dX10_laysOrder_101 (lv_at hl 0 rfl) ?_
        refine fz_st (k := 6323) (n := 4) (i := i) (z := pp_7) hx hb hK hP fA_in hS 0 (by decide) mE_order rfl ⟨by omega, by omega⟩ (by decide) dX10_laysOrder_103 (fun H locs hP hS => ?_)
        obtain ⟨μ8, eμ8⟩ : ∃ x : va_M, x = uz μ7_ 6323 (i).toNat (pp_7) := ⟨_, rfl⟩
        rw [← eμ8] at hP
        refine lv_iload hx hb dX10_laysOrder_104 (lv_at hl 3 rfl) ?_
        refine lv_iconst (v := iZ 1) hx hb dX10_laysOrder_106 rfl ?_
        refine lv_iload hx hb dX10_laysOrder_107 (lv_at hl 0 rfl) ?_
        refine lv_ishl hx hb dX10_laysOrder_109 ?_
        refine lv_topi (fun x9 ex9 => ?_)
        obtain ⟨z10, rfl, hz10⟩ := iZ_ex x9
        have ez10 := ex9; clear ex9
        refine lv_ior hx hb dX10_laysOrder_110 ?_
        refine lv_topi (fun x9 ex9 => ?_)
        obtain ⟨z11, rfl, hz11⟩ := iZ_ex x9
        have ez11 := ex9; clear ex9
        rw [show z11 = ((us.toNat ||| 2 ^ pp_7.toNat : Nat) : Int) from (by exact or_is hz11 ok4 (by omega) ez10 ez11 hor)]
        refine lv_istore (lv' := [(4, .int (iZ (((us.toNat ||| 2 ^ pp_7.toNat : Nat) : Int)))), (8, .int (iZ (pp_7))), (6, .int (iZ (i))), (5, .int (iZ (bb))), (3, .int (iZ ((rs % bb)))), (2, .int (iZ (mn))), (1, .int (iZ (k))), (0, .ref h0)]) hx hb dX10_laysOrder_111 hl (by decide) rfl (fun ls hl => ?_)
        refine lv_iload hx hb dX10_laysOrder_113 (lv_at hl 3 rfl) ?_
        refine lv_iconst (v := iZ 1) hx hb dX10_laysOrder_115 rfl ?_
        refine lv_iload_n hx hb dX10_laysOrder_116 rfl (lv_at hl 5 rfl) ?_
        refine lv_iconst (v := iZ 1) hx hb dX10_laysOrder_117 rfl ?_
        refine lv_isub hx hb dX10_laysOrder_118 ?_
        refine lv_topi (fun x9 ex9 => ?_)
        obtain rfl : x9 = iZ (mn - 1) := ex9.trans (iZ_sub _ _)
        refine lv_iload hx hb dX10_laysOrder_119 (lv_at hl 2 rfl) ?_
        refine lv_isub hx hb dX10_laysOrder_121 ?_
        refine lv_topi (fun x9 ex9 => ?_)
        obtain rfl : x9 = iZ ((mn - 1) - i) := ex9.trans (iZ_sub _ _)
        refine va_calli (va_runS (As := [.int (iZ (1)), .int (iZ ((mn - 1) - i))]) (rest := [.int (iZ (bb))]) ⟨hx, hb, hml, hown, hts⟩ (m_more l dC dI cI cZ cII cIII h0 H.size μ8 (1) ((mn - 1) - i) (by first | assumption | omega | exact ⟨by omega, by omega⟩) (by first | assumption | omega | exact ⟨by omega, by omega⟩)) (cwS 2 hts (gS_G k1596 k1597 k13 k1598) rfl rfl rfl (by decide +kernel) ⟨by show 1 + 1 ≤ _; omega, by show 8 + (2 + 11) + (14) ≤ _; omega⟩) ⟨fun a U g mk q => by obtain ⟨q0, q1, qP, qK⟩ := q; exact ⟨q0, q1, qP, va_K.moved (u := U) (U := U.calling g mk a) (Vm.Alike.refl U.vm) qK⟩, fun U hU hW => ⟨rfl, by rw [hU], by rw [hU]; exact hP, va_K.moved hW.alike hK⟩⟩ rfl rfl hl.1 rfl (lv_room (Nat.le_of_ble_eq_true rfl)) dX10_laysOrder_122 ⟨hRc, hRs⟩) hS (fun q _ h => fA_le hS.1 q h) (fA_le hS.1) (fun r9 u9 t9 H1 locs ht9 hvm9 hw9 hB9 hz9 hk9 hS => ?_)
        obtain ⟨μ12, rm⟩ := u9
        obtain ⟨hP, -⟩ := hB9
        rw [ht9] at hP
        generalize H1 = H at hP hS ⊢
        obtain ⟨e9, hw9⟩ := hw9
        have e9 : r9 = iZ rm := e9
        subst e9
        simp only at hP hw9
        have hμ12 := hw9; clear hw9
        rw [hμ12.1] at hP; have hμ12 := hμ12.2
        have hrm : rm = max 1 (mn - 1 - i) := hμ12
        refine lv_idiv hx hb dX10_laysOrder_125 (by exact iZ_nz (by omega) (by omega)) ?_
        refine lv_topi (fun x9 ex9 => ?_)
        obtain rfl : x9 = iZ (bb / rm) := ex9.trans (iZ_divP (by constructor <;> omega) (by constructor <;> omega) (by omega) (by omega))
        refine lv_istore (lv' := [(5, .int (iZ (bb / rm))), (4, .int (iZ (((us.toNat ||| 2 ^ pp_7.toNat : Nat) : Int)))), (8, .int (iZ (pp_7))), (6, .int (iZ (i))), (3, .int (iZ ((rs % bb)))), (2, .int (iZ (mn))), (1, .int (iZ (k))), (0, .ref h0)]) hx hb dX10_laysOrder_126 hl (by decide) rfl (fun ls hl => ?_)
        refine lv_iinc (v := iZ (i + 1)) (lv' := [(6, .int (iZ (i + 1))), (5, .int (iZ (bb / rm))), (4, .int (iZ (((us.toNat ||| 2 ^ pp_7.toNat : Nat) : Int)))), (8, .int (iZ (pp_7))), (3, .int (iZ ((rs % bb)))), (2, .int (iZ (mn))), (1, .int (iZ (k))), (0, .ref h0)]) hx hb dX10_laysOrder_128 hl (k := 3) rfl (iZ_add _ _) (by decide) rfl (fun ls hl => ?_)
        refine lv_goto (tgt := 33) hx hb dX10_laysOrder_131 (by decide) ?_
        exact ih (i + 1) ((rs % bb)) (((us.toNat ||| 2 ^ pp_7.toNat : Nat) : Int)) (bb / rm) μ8 H locs ls (by rw [hrm]; exact hok2) (by rw [eμ8]; exact fr_uz hf rfl) (by
                        rw [eμ8]
                        intro j hj
                        by_cases h9 : j = i.toNat
                        · rw [h9, uz_s]; omega
                        · rw [uz_n (by omega)]; exact ho j (by omega)) (by omega) hP hS (lv_sub hl [0, 1, 2, 4, 5, 6, 7] rfl)
set_option maxHeartbeats 40000000 in
set_option maxRecDepth 100000 in
theorem m_laysOrder (l : Launch) (dC : Nat → ClassId) (dI : Nat → Nat → Nat) (cI cZ cII cIII : ClassId) (h0 sz : Nat) (μ : va_M) (k : Int) (mn : Int) (hmm : 1 ≤ mn ∧ mn ≤ 4) (hk : kOK k mn) : Met l yX10_laysOrder (Cond.code yX10_laysOrder cX10_laysOrder 9 none :: wsG) ({ frames := 2, cells := 0, slots := 0, locals := 35 } : Room) (va_Pc [.ref h0, .int (iZ (k)), .int (iZ (mn))] (fun U => U.heap.size = sz ∧ va_P (dC, dI) vwCl (fw (mE cI cZ cII cIII h0) h0 6325 μ) U.heap ∧ va_K (dC, dI) vwCl (mT cI cZ cII cIII) U)) (va_Qv (fun (u : va_M) => (∀ j : Nat, (j : Int) < mn → 0 ≤ u 6323 j ∧ u 6323 j < mn) ∧ fr (fun x _ => x = 6323) μ u) (fun u t => va_P (dC, dI) vwCl (fw (mE cI cZ cII cIII h0) h0 6325 u) t.heap ∧ va_K (dC, dI) vwCl (mT cI cZ cII cIII) t) (fA h0 6325 sz)) 0 0 (fA h0 6325 sz) := by
  refine Met.ofW (cc := cX10_laysOrder) (maxL := 9) (ret := none) (by decide) rfl ?_
  intro p e s m args below meth c s₁ B hml hv
  obtain ⟨rfl, hsz, hP, hK⟩ := hv
  have hx := B.exec
  have hb := B.bytes
  have hr := B.returns
  have hts : ∀ w ∈ wsG, w.before _ s = true := hG_of (atoms_spec (ws := (Cond.code yX10_laysOrder cX10_laysOrder 9 none :: wsG)) B.pre)
  have hown : s.vm.findClass RX10 = some m.cls := findClass_of_methodNamed B.named
  have hlocks := B.notSynchronized
  subst hsz
  have hS : va_S (fA h0 6325 s.heap.size) s.heap s.heap [] := va_S.rf
  have hl := lv_entry ([.ref h0, .int (iZ (k)), .int (iZ (mn))]) (n := 9) (Nat.le_of_ble_eq_true rfl)
  rw [lg_entry_eq]
  generalize (lg_sl ([.ref h0, .int (iZ (k)), .int (iZ (mn))]) ++ List.replicate (9 - (lg_sl ([.ref h0, .int (iZ (k)), .int (iZ (mn))])).length) Slot.unset).toArray = ls at hl ⊢
  have hl : lv_has ls 9 [(0, .ref h0), (1, .int (iZ (k))), (2, .int (iZ (mn)))] := hl
  refine lv_iload_n hx hb dX10_laysOrder_0 rfl (lv_at hl 1 rfl) ?_
  refine lv_istore_n (lv' := [(3, .int (iZ (k))), (0, .ref h0), (1, .int (iZ (k))), (2, .int (iZ (mn)))]) hx hb dX10_laysOrder_1 rfl hl (by decide) rfl (fun ls hl => ?_)
  refine lv_iconst (v := iZ 0) hx hb dX10_laysOrder_2 rfl ?_
  refine lv_istore (lv' := [(4, .int (iZ (0))), (3, .int (iZ (k))), (0, .ref h0), (1, .int (iZ (k))), (2, .int (iZ (mn)))]) hx hb dX10_laysOrder_3 hl (by decide) rfl (fun ls hl => ?_)
  refine lv_iconst (v := iZ 1) hx hb dX10_laysOrder_5 rfl ?_
  refine lv_istore (lv' := [(5, .int (iZ (1))), (4, .int (iZ (0))), (3, .int (iZ (k))), (0, .ref h0), (1, .int (iZ (k))), (2, .int (iZ (mn)))]) hx hb dX10_laysOrder_6 hl (by decide) rfl (fun ls hl => ?_)
  refine lv_iconst (v := iZ 2) hx hb dX10_laysOrder_8 rfl ?_
  refine lv_istore (lv' := [(6, .int (iZ (2))), (5, .int (iZ (1))), (4, .int (iZ (0))), (3, .int (iZ (k))), (0, .ref h0), (1, .int (iZ (k))), (2, .int (iZ (mn)))]) hx hb dX10_laysOrder_9 hl (by decide) rfl (fun ls hl => ?_)
  refine LX10_laysOrder_11 hx hb hml hown hts hK (Nat.le_of_ble_eq_true rfl) (Nat.le_of_ble_eq_true rfl) (Nat.le_of_ble_eq_true rfl) (Nat.le_of_ble_eq_true rfl) (μ) (k) (mn) (by assumption) ?_ _ (2) (1) μ s.heap [] ls (by rfl) (by exact Or.inl ⟨rfl, rfl⟩) (by exact Or.inl rfl) (Nat.lt_succ_self _) hP hS (lv_sub hl [0, 1, 2, 3, 6, 5, 4] rfl)
  · intro i_13 bb_13 μ13_ H locs ls q1_13 q2_13 hP hS hl
    have hl : lv_has ls 9 [(5, .int (iZ (bb_13))), (4, .int (iZ (0))), (3, .int (iZ (k))), (2, .int (iZ (mn))), (1, .int (iZ (k))), (0, .ref h0)] := hl
    have hPn30 := hP
    obtain rfl := q1_13
    have hP := hPn30
    have hq2 := q2_13
    refine lv_iconst (v := iZ 0) hx hb dX10_laysOrder_30 rfl ?_
    refine lv_istore (lv' := [(6, .int (iZ (0))), (5, .int (iZ (bb_13))), (4, .int (iZ (0))), (3, .int (iZ (k))), (2, .int (iZ (mn))), (1, .int (iZ (k))), (0, .ref h0)]) hx hb dX10_laysOrder_31 hl (by decide) rfl (fun ls hl => ?_)
    refine LX10_laysOrder_33 hx hb hml hown hts hK (Nat.le_of_ble_eq_true rfl) (Nat.le_of_ble_eq_true rfl) (Nat.le_of_ble_eq_true rfl) (Nat.le_of_ble_eq_true rfl) (μ13_) (k) (mn) (by assumption) ?_ _ (0) (k) (0) (bb_13) μ13_ H locs ls (by
                obtain ⟨k1, k2, k3, k4, k5⟩ := hk
                rcases hq2 with ⟨a, b⟩ | ⟨a, b⟩ | ⟨a, b⟩ | ⟨a, b⟩
                · rw [a, b]; exact ⟨by omega, by omega, by omega, by omega, by omega, okN_mk (by decide) (by decide) (by decide) (by have := k2 a; show k.toNat < 1; omega) (by decide)⟩
                · rw [a, b]; exact ⟨by omega, by omega, by omega, by omega, by omega, okN_mk (by decide) (by decide) (by decide) (by have := k3 a; show k.toNat < 2; omega) (by decide)⟩
                · rw [a, b]; exact ⟨by omega, by omega, by omega, by omega, by omega, okN_mk (by decide) (by decide) (by decide) (by have := k4 a; show k.toNat < 6; omega) (by decide)⟩
                · rw [a, b]; exact ⟨by omega, by omega, by omega, by omega, by omega, okN_mk (by decide) (by decide) (by decide) (by have := k5 a; show k.toNat < 24; omega) (by decide)⟩) (by exact fr_rfl) (by intro j hj; omega) (Nat.lt_succ_self _) hP hS (lv_sub hl [0, 1, 2, 3, 4, 5, 6] rfl)
    · intro i_14 rs_14 us_14 bb_14 μ14_ H locs ls q3_14 q4_14 hP hS hl
      have hl : lv_has ls 9 [] := hl
      exact W.vret hx hb hr (fun t9 ht9 hW9 => ⟨⟨μ14_, rfl, (by
                    try dsimp only
                    exact ⟨q4_14, q3_14⟩), by rw [ht9]; exact hP, va_K.moved hW9.alike hK⟩, hS.F ht9⟩) hS.2.2 dX10_laysOrder_134

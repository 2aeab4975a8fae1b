theorem k766 : (Cond.methodLink "PageSkeleton$Layer" (40 : Nat) ({ cls := "PageSkeleton$Layer", name := "findLevels", desc := "(LPageSkeleton$Row;[I)V" } : MethodName)) ∈ wsG := wsG_at 766 (by decide +kernel) (by decide +kernel)
theorem k768 : (Cond.instanceMethod ({ cls := "PageSkeleton$Layer", name := "findLevels", desc := "(LPageSkeleton$Row;[I)V" } : MethodName)) ∈ wsG := wsG_at 768 (by decide +kernel) (by decide +kernel)
theorem k769 : (Cond.code ({ cls := "PageSkeleton$Layer", name := "findLevels", desc := "(LPageSkeleton$Row;[I)V" } : MethodName) prog_2_method_3_code (8 : Nat) (Option.none : Option Jvm.ClassFile.FieldType)) ∈ wsG := wsG_at 769 (by decide +kernel) (by decide +kernel)
theorem k770 : (Cond.methodLink "PageSkeleton$Layer" (44 : Nat) ({ cls := "PageSkeleton$Layer", name := "best", desc := "(LPageSkeleton$Row;LPageSkeleton$Row;II)I" } : MethodName)) ∈ wsG := wsG_at 770 (by decide +kernel) (by decide +kernel)
theorem k772 : (Cond.instanceMethod ({ cls := "PageSkeleton$Layer", name := "best", desc := "(LPageSkeleton$Row;LPageSkeleton$Row;II)I" } : MethodName)) ∈ wsG := wsG_at 772 (by decide +kernel) (by decide +kernel)
theorem k773 : (Cond.code ({ cls := "PageSkeleton$Layer", name := "best", desc := "(LPageSkeleton$Row;LPageSkeleton$Row;II)I" } : MethodName) prog_2_method_4_code (9 : Nat) (Option.some FieldType.int)) ∈ wsG := wsG_at 773 (by decide +kernel) (by decide +kernel)
theorem ks_yX0_best : Cond.selects RX0 yX0_best yX0_best ∈ wsG := wsG_mem (by decide +kernel) (by decide +kernel)
theorem ks_yX0_findLevels : Cond.selects RX0 yX0_findLevels yX0_findLevels ∈ wsG := wsG_mem (by decide +kernel) (by decide +kernel)
theorem dX0_leastCost_0 : decode cX0_leastCost 0 = .ok (.aload_n 0, 1) := by decide +kernel
theorem dX0_leastCost_1 : decode cX0_leastCost 1 = .ok (.aload_n 2, 1) := by decide +kernel
theorem dX0_leastCost_2 : decode cX0_leastCost 2 = .ok (.getfield 35, 3) := by decide +kernel
theorem dX0_leastCost_5 : decode cX0_leastCost 5 = .ok (.iconst 1, 1) := by decide +kernel
theorem dX0_leastCost_6 : decode cX0_leastCost 6 = .ok (.iadd, 1) := by decide +kernel
theorem dX0_leastCost_7 : decode cX0_leastCost 7 = .ok (.putfield 22, 3) := by decide +kernel
theorem dX0_leastCost_10 : decode cX0_leastCost 10 = .ok (.aload_n 0, 1) := by decide +kernel
theorem dX0_leastCost_11 : decode cX0_leastCost 11 = .ok (.aload_n 1, 1) := by decide +kernel
theorem dX0_leastCost_12 : decode cX0_leastCost 12 = .ok (.aload_n 0, 1) := by decide +kernel
theorem dX0_leastCost_13 : decode cX0_leastCost 13 = .ok (.getfield 16, 3) := by decide +kernel
theorem dX0_leastCost_16 : decode cX0_leastCost 16 = .ok (.invokevirtual 40, 3) := by decide +kernel
theorem dX0_leastCost_19 : decode cX0_leastCost 19 = .ok (.aload_n 0, 1) := by decide +kernel
theorem dX0_leastCost_20 : decode cX0_leastCost 20 = .ok (.aload_n 2, 1) := by decide +kernel
theorem dX0_leastCost_21 : decode cX0_leastCost 21 = .ok (.aload_n 0, 1) := by decide +kernel
theorem dX0_leastCost_22 : decode cX0_leastCost 22 = .ok (.getfield 19, 3) := by decide +kernel
theorem dX0_leastCost_25 : decode cX0_leastCost 25 = .ok (.invokevirtual 40, 3) := by decide +kernel
theorem dX0_leastCost_28 : decode cX0_leastCost 28 = .ok (.aload_n 1, 1) := by decide +kernel
theorem dX0_leastCost_29 : decode cX0_leastCost 29 = .ok (.getfield 35, 3) := by decide +kernel
theorem dX0_leastCost_32 : decode cX0_leastCost 32 = .ok (.iconst 1, 1) := by decide +kernel
theorem dX0_leastCost_33 : decode cX0_leastCost 33 = .ok (.iadd, 1) := by decide +kernel
theorem dX0_leastCost_34 : decode cX0_leastCost 34 = .ok (.aload_n 0, 1) := by decide +kernel
theorem dX0_leastCost_35 : decode cX0_leastCost 35 = .ok (.getfield 22, 3) := by decide +kernel
theorem dX0_leastCost_38 : decode cX0_leastCost 38 = .ok (.imul, 1) := by decide +kernel
theorem dX0_leastCost_39 : decode cX0_leastCost 39 = .ok (.aload_n 0, 1) := by decide +kernel
theorem dX0_leastCost_40 : decode cX0_leastCost 40 = .ok (.getfield 10, 3) := by decide +kernel
theorem dX0_leastCost_43 : decode cX0_leastCost 43 = .ok (.arraylength, 1) := by decide +kernel
theorem dX0_leastCost_44 : decode cX0_leastCost 44 = .ok (.if_icmp .le 5, 3) := by decide +kernel
theorem dX0_leastCost_49 : decode cX0_leastCost 49 = .ok (.aload_n 1, 1) := by decide +kernel
theorem dX0_leastCost_50 : decode cX0_leastCost 50 = .ok (.getfield 35, 3) := by decide +kernel
theorem dX0_leastCost_53 : decode cX0_leastCost 53 = .ok (.istore_n 3, 1) := by decide +kernel
theorem dX0_leastCost_54 : decode cX0_leastCost 54 = .ok (.iload_n 3, 1) := by decide +kernel
theorem dX0_leastCost_55 : decode cX0_leastCost 55 = .ok (.ifCond .lt 74, 3) := by decide +kernel
theorem dX0_leastCost_58 : decode cX0_leastCost 58 = .ok (.aload_n 0, 1) := by decide +kernel
theorem dX0_leastCost_59 : decode cX0_leastCost 59 = .ok (.getfield 16, 3) := by decide +kernel
theorem dX0_leastCost_62 : decode cX0_leastCost 62 = .ok (.iload_n 3, 1) := by decide +kernel
theorem dX0_leastCost_63 : decode cX0_leastCost 63 = .ok (.iaload, 1) := by decide +kernel
theorem dX0_leastCost_64 : decode cX0_leastCost 64 = .ok (.ifCond .lt 59, 3) := by decide +kernel
theorem dX0_leastCost_67 : decode cX0_leastCost 67 = .ok (.aload_n 2, 1) := by decide +kernel
theorem dX0_leastCost_68 : decode cX0_leastCost 68 = .ok (.getfield 35, 3) := by decide +kernel
theorem dX0_leastCost_71 : decode cX0_leastCost 71 = .ok (.istore 4, 2) := by decide +kernel
theorem dX0_leastCost_73 : decode cX0_leastCost 73 = .ok (.iload 4, 2) := by decide +kernel
theorem dX0_leastCost_75 : decode cX0_leastCost 75 = .ok (.ifCond .lt 48, 3) := by decide +kernel
theorem dX0_leastCost_78 : decode cX0_leastCost 78 = .ok (.aload_n 0, 1) := by decide +kernel
theorem dX0_leastCost_79 : decode cX0_leastCost 79 = .ok (.getfield 19, 3) := by decide +kernel
theorem dX0_leastCost_82 : decode cX0_leastCost 82 = .ok (.iload 4, 2) := by decide +kernel
theorem dX0_leastCost_84 : decode cX0_leastCost 84 = .ok (.iaload, 1) := by decide +kernel
theorem dX0_leastCost_85 : decode cX0_leastCost 85 = .ok (.aload_n 0, 1) := by decide +kernel
theorem dX0_leastCost_86 : decode cX0_leastCost 86 = .ok (.getfield 16, 3) := by decide +kernel
theorem dX0_leastCost_89 : decode cX0_leastCost 89 = .ok (.iload_n 3, 1) := by decide +kernel
theorem dX0_leastCost_90 : decode cX0_leastCost 90 = .ok (.iaload, 1) := by decide +kernel
theorem dX0_leastCost_91 : decode cX0_leastCost 91 = .ok (.if_icmp .ne 26, 3) := by decide +kernel
theorem dX0_leastCost_94 : decode cX0_leastCost 94 = .ok (.aload_n 0, 1) := by decide +kernel
theorem dX0_leastCost_95 : decode cX0_leastCost 95 = .ok (.getfield 10, 3) := by decide +kernel
theorem dX0_leastCost_98 : decode cX0_leastCost 98 = .ok (.iload_n 3, 1) := by decide +kernel
theorem dX0_leastCost_99 : decode cX0_leastCost 99 = .ok (.aload_n 0, 1) := by decide +kernel
theorem dX0_leastCost_100 : decode cX0_leastCost 100 = .ok (.getfield 22, 3) := by decide +kernel
theorem dX0_leastCost_103 : decode cX0_leastCost 103 = .ok (.imul, 1) := by decide +kernel
theorem dX0_leastCost_104 : decode cX0_leastCost 104 = .ok (.iload 4, 2) := by decide +kernel
theorem dX0_leastCost_106 : decode cX0_leastCost 106 = .ok (.iadd, 1) := by decide +kernel
theorem dX0_leastCost_107 : decode cX0_leastCost 107 = .ok (.aload_n 0, 1) := by decide +kernel
theorem dX0_leastCost_108 : decode cX0_leastCost 108 = .ok (.aload_n 1, 1) := by decide +kernel
theorem dX0_leastCost_109 : decode cX0_leastCost 109 = .ok (.aload_n 2, 1) := by decide +kernel
theorem dX0_leastCost_110 : decode cX0_leastCost 110 = .ok (.iload_n 3, 1) := by decide +kernel
theorem dX0_leastCost_111 : decode cX0_leastCost 111 = .ok (.iload 4, 2) := by decide +kernel
theorem dX0_leastCost_113 : decode cX0_leastCost 113 = .ok (.invokevirtual 44, 3) := by decide +kernel
theorem dX0_leastCost_116 : decode cX0_leastCost 116 = .ok (.iastore, 1) := by decide +kernel
theorem dX0_leastCost_117 : decode cX0_leastCost 117 = .ok (.iinc 4 (-1), 3) := by decide +kernel
theorem dX0_leastCost_120 : decode cX0_leastCost 120 = .ok (.goto (-47), 3) := by decide +kernel
theorem dX0_leastCost_123 : decode cX0_leastCost 123 = .ok (.iinc 3 (-1), 3) := by decide +kernel
theorem dX0_leastCost_126 : decode cX0_leastCost 126 = .ok (.goto (-72), 3) := by decide +kernel
theorem dX0_leastCost_129 : decode cX0_leastCost 129 = .ok (.aload_n 0, 1) := by decide +kernel
theorem dX0_leastCost_130 : decode cX0_leastCost 130 = .ok (.getfield 10, 3) := by decide +kernel
theorem dX0_leastCost_133 : decode cX0_leastCost 133 = .ok (.iconst 0, 1) := by decide +kernel
theorem dX0_leastCost_134 : decode cX0_leastCost 134 = .ok (.iaload, 1) := by decide +kernel
theorem dX0_leastCost_135 : decode cX0_leastCost 135 = .ok (.iconst 4, 1) := by decide +kernel
theorem dX0_leastCost_136 : decode cX0_leastCost 136 = .ok (.ishr, 1) := by decide +kernel
theorem dX0_leastCost_137 : decode cX0_leastCost 137 = .ok (.ireturn, 1) := by decide +kernel
/-! laying: all cells -/
def ag (μ u : va_M) (q : Nat) : Prop := ∀ x y, q ≤ x → x < q + 6 → u x y = μ x y
theorem vis_eq {μ u : va_M} {q q2 : Nat} (h1 : ag μ u q) (h2 : ag μ u q2) : vis u q q2 = vis μ q q2 := by
  funext i j
  unfold vis
  rw [h1 q 5 (by omega) (by omega), h2 q2 5 (by omega) (by omega), Op_fr h1, Op_fr h2, show u (q + 1) = μ (q + 1) from funext (fun y => h1 _ y (by omega) (by omega)), show u (q2 + 1) = μ (q2 + 1) from funext (fun y => h2 _ y (by omega) (by omega))]
theorem bnd_eq {μ u : va_M} {q q2 : Nat} (h1 : ag μ u q) (h2 : ag μ u q2) : bnd u q q2 = bnd μ q q2 := by
  funext i j v
  unfold bnd
  rw [h1 q 5 (by omega) (by omega), h2 q2 5 (by omega) (by omega)]
theorem wOK_eq {μ u : va_M} {q q2 : Nat} (h1 : ag μ u q) (h2 : ag μ u q2) : wOK u q q2 = wOK μ q q2 := by
  funext i j w
  unfold wOK sMat
  rw [h1 q 5 (by omega) (by omega), h2 q2 5 (by omega) (by omega), show u (q + 1) = μ (q + 1) from funext (fun y => h1 _ y (by omega) (by omega)), show u (q2 + 1) = μ (q2 + 1) from funext (fun y => h2 _ y (by omega) (by omega)), show u (q + 2) = μ (q + 2) from funext (fun y => h1 _ y (by omega) (by omega)), show u (q2 + 2) = μ (q2 + 2) from funext (fun y => h2 _ y (by omega) (by omega))]
theorem cO_eq {μ u : va_M} {q q2 : Nat} (h1 : ag μ u q) (h2 : ag μ u q2) : cO u q q2 = cO μ q q2 := by
  funext i j v
  unfold cO
  rw [bnd_eq h1 h2, wOK_eq h1 h2]
/-- the cells of a row and a page are known -/
def LK (μ : va_M) (q q2 : Nat) : Prop := μ 41 3 = μ q2 5 + 1 ∧ ∀ i2 j2 : Int, vis μ q q2 i2 j2 → cO μ q q2 i2 j2 (μ 42 (i2 * μ 41 3 + j2).toNat)
theorem lv_vis {μ : va_M} {q q2 rm rm2 : Nat} {i j : Int} (hG : rG μ q rm) (hG2 : rG μ q2 rm2) (hi : 0 ≤ i ∧ i ≤ μ q 5) (hj : 0 ≤ j ∧ j ≤ μ q2 5) {a b : Int} (ha : a = if Op μ q i.toNat = 0 then Dp (μ (q + 1)) i.toNat else -1) (hb : b = if Op μ q2 j.toNat = 0 then Dp (μ (q2 + 1)) j.toNat else -1) : (vis μ q q2 i j ↔ (0 ≤ a ∧ b = a)) ∧ (-1 ≤ a ∧ a ≤ i) ∧ -1 ≤ b ∧ b ≤ j := by
  have h1 := ((rG_bal hG).2 i.toNat (by omega)).1
  have h2 := ((rG_bal hG2).2 j.toNat (by omega)).1
  have up : ∀ (f : Nat → Int) (n : Nat), Dp f n ≤ n := fun f n => by
    induction n with
    | zero => exact Int.le_refl _
    | succ n ih =>
      have := Dp_s f n
      have := dl_b (f n)
      omega
  have h3 := up (μ (q + 1)) i.toNat
  have h4 := up (μ (q2 + 1)) j.toNat
  have k1 : (Op μ q i.toNat = 0 ∧ a = Dp (μ (q + 1)) i.toNat) ∨ (Op μ q i.toNat ≠ 0 ∧ a = -1) := by
    by_cases h : Op μ q i.toNat = 0
    · rw [if_pos h] at ha; exact Or.inl ⟨h, ha⟩
    · rw [if_neg h] at ha; exact Or.inr ⟨h, ha⟩
  have k2 : (Op μ q2 j.toNat = 0 ∧ b = Dp (μ (q2 + 1)) j.toNat) ∨ (Op μ q2 j.toNat ≠ 0 ∧ b = -1) := by
    by_cases h : Op μ q2 j.toNat = 0
    · rw [if_pos h] at hb; exact Or.inl ⟨h, hb⟩
    · rw [if_neg h] at hb; exact Or.inr ⟨h, hb⟩
  clear ha hb up
  unfold vis
  refine ⟨⟨fun ⟨_, c1, c2, c3⟩ => by omega, fun ⟨c1, c2⟩ => ⟨⟨hi, hj⟩, by omega, by omega, by omega⟩⟩, by omega, by omega, by omega⟩
set_option maxHeartbeats 4000000 in
set_option maxRecDepth 100000 in
theorem LX0_leastCost_73 {p : Program} {l : Launch} {e : Env} {R : Room} {s : State} {m : MethodId} {args : Array Value} {below : List Frame} {meth : Method} {c : Code} {cells slots : Nat} {Q : State → Prop} {dC : Nat → ClassId} {dI : Nat → Nat → Nat} {h0 : Nat} {cI cZ cII cIII : ClassId} (hx : p.tables.exec = Jvm.exec) (hb : c.code = cX0_leastCost) (hml : c.maxLocals = 5) (hown : s.vm.findClass RX0 = some m.cls) (hts : ∀ w ∈ wsG, w.before args s = true) (hK : va_K (dC, dI) vwCl (sT cI cZ cII cIII) s) (hM : xM s) (hRf : 5 ≤ R.frames) (hRl : 115 ≤ R.locals) (hRc : cells ≤ R.cells) (hRs : slots ≤ R.slots) (μ0 : va_M) (q : Nat) (rm : Nat) (q2 : Nat) (rm2 : Nat) (i : Int) (hq : rowB q rm) (hq2 : rowB q2 rm2) (hG : rG μ0 q rm) (hG2 : rG μ0 q2 rm2) (h96 : rm2 = 96) (hst : μ0 41 3 = μ0 q2 5 + 1) (hl1 : ∀ i9 : Nat, (i9 : Int) ≤ μ0 q 5 → μ0 43 i9 = if Op μ0 q i9 = 0 then Dp (μ0 (q + 1)) i9 else -1) (hl2 : ∀ i9 : Nat, (i9 : Int) ≤ μ0 q2 5 → μ0 44 i9 = if Op μ0 q2 i9 = 0 then Dp (μ0 (q2 + 1)) i9 else -1) (hexit123 : ∀ (j : Int) (μ : va_M) (H : Heap) (locs : List Loc) (ls : Array Slot), (0 ≤ i ∧ i ≤ μ0 q 5) → (fr (fun x _ => x = 42) μ0 μ) → (∀ i2 j2 : Int, vis μ0 q q2 i2 j2 → i ≤ i2 → cO μ0 q q2 i2 j2 (μ 42 (i2 * μ0 41 3 + j2).toNat)) → va_P (dC, dI) vwCl (fw (sE cI cZ cII cIII h0) h0 233 μ) H → va_S (fA h0 233 s.heap.size) s.heap H locs → lv_has ls 5 [(3, .int (iZ (i))), (2, .ref (h0 + q2)), (1, .ref (h0 + q)), (0, .ref (h0 + 41))] → W p l e R s m args below meth c H locs cells slots Q (F0 m 123 ls [])) :
    ∀ (n9 : Nat) (j : Int) (μ : va_M) (H : Heap) (locs : List Loc) (ls : Array Slot), (0 ≤ i ∧ i ≤ μ0 q 5 ∧ -1 ≤ j ∧ j ≤ μ0 q2 5) → (fr (fun x _ => x = 42) μ0 μ) → (∀ i2 j2 : Int, vis μ0 q q2 i2 j2 → (i < i2 ∨ (i = i2 ∧ j < j2)) → cO μ0 q q2 i2 j2 (μ 42 (i2 * μ0 41 3 + j2).toNat)) → (0 ≤ μ0 43 i.toNat) → (j + 1).toNat < n9 → va_P (dC, dI) vwCl (fw (sE cI cZ cII cIII h0) h0 233 μ) H → va_S (fA h0 233 s.heap.size) s.heap H locs → lv_has ls 5 [(4, .int (iZ (j))), (3, .int (iZ (i))), (2, .ref (h0 + q2)), (1, .ref (h0 + q)), (0, .ref (h0 + 41))] → W p l e R s m args below meth c H locs cells slots Q (F0 m 73 ls []) := by
  intro n9
  induction n9 with
  | zero => intro j μ H locs ls hi hf hC hlv hm9 hP hS hl; exact absurd hm9 (Nat.not_lt_zero _)
  | succ n9 ih =>
    intro j μ H locs ls hi hf hC hlv hm9 hP hS hl
    have hrm := rG_rm hq hG
    have hrm2 := rG_rm hq2 hG2
    have hqb := rowB_b hq
    have hqb2 := rowB_b hq2
    have hqf : q + 6 ≤ 18 ∨ 80 ≤ q := rowB_f hq
    have hqf2 : q2 + 6 ≤ 18 ∨ 80 ≤ q2 := rowB_f hq2
    have x5 : μ q 5 = μ0 q 5 := hf _ _ (by omega)
    have x25 : μ q2 5 = μ0 q2 5 := hf _ _ (by omega)
    have xst : μ 41 3 = μ0 41 3 := hf _ _ (by omega)
    have xa : ag μ0 μ q := fun x y h8 h9 => hf _ _ (by omega)
    have xa2 : ag μ0 μ q2 := fun x y h8 h9 => hf _ _ (by omega)
    refine lv_iload hx hb dX0_leastCost_73 (lv_at hl 0 rfl) ?_
    refine fz_if_lt (tgt := 123) (by constructor <;> omega) hx hb dX0_leastCost_75 (by decide) (fun c75_ => ?_) (fun c75_ => ?_)
    · exact hexit123 (j) μ H locs ls (by omega) (by exact hf) (by
                    intro i2 j2 hv h9
                    exact hC i2 j2 hv (by have := hv.1; omega)) hP hS (lv_sub hl [1, 2, 3, 4] rfl)
    · have l1 := hl1 i.toNat (by omega)
      have l2 := hl2 j.toNat (by omega)
      have lb := lv_vis hG hG2 (i := i) (j := j) ⟨by omega, by omega⟩ ⟨by omega, by omega⟩ l1 l2
      have lc := lb.2
      have x43 : μ 43 i.toNat = μ0 43 i.toNat := hf _ _ (by omega)
      have x44 : μ 44 j.toNat = μ0 44 j.toNat := hf _ _ (by omega)
      have ml := mulC (i := i) (s := μ 41 3) (by omega) (by omega) (by omega) (by omega)
      refine lv_aload_n hx hb dX0_leastCost_78 rfl (lv_at hl 4 rfl) ?_
      refine fz_get (D := (dC, dI)) (ci := 0) (v := .ref (h0 + 44)) (C := RX0) (T := TX0) (N := 7) hx hb hts inG0 hown hK hP (k := 41) (by decide) (F := (sF41 h0)) sE_41 rfl 2 (by decide) (hts _ k184) (fun _ h9 => h9) rfl dX0_leastCost_79 ?_
      refine lv_iload hx hb dX0_leastCost_82 (lv_at hl 0 rfl) ?_
      refine fz_ld (k := 44) (n := 1101) hx hb hK hP 0 (by decide) sE_44 rfl ⟨by omega, by omega⟩ (by decide) dX0_leastCost_84 ?_
      refine lv_aload_n hx hb dX0_leastCost_85 rfl (lv_at hl 4 rfl) ?_
      refine fz_get (D := (dC, dI)) (ci := 0) (v := .ref (h0 + 43)) (C := RX0) (T := TX0) (N := 7) hx hb hts inG0 hown hK hP (k := 41) (by decide) (F := (sF41 h0)) sE_41 rfl 1 (by decide) (hts _ k183) (fun _ h9 => h9) rfl dX0_leastCost_86 ?_
      refine lv_iload_n hx hb dX0_leastCost_89 rfl (lv_at hl 1 rfl) ?_
      refine fz_ld (k := 43) (n := 1101) hx hb hK hP 0 (by decide) sE_43 rfl ⟨by omega, by omega⟩ (by decide) dX0_leastCost_90 ?_
      refine fz_icmp_ne (tgt := 117) (by constructor <;> omega) (by constructor <;> omega) hx hb dX0_leastCost_91 (by decide) (fun c91_ => ?_) (fun c91_ => ?_)
      · have nv : ¬ vis μ0 q q2 i j := fun hv => by
          have := lb.1.mp hv
          omega
        refine lv_iinc (v := iZ (j - 1)) (lv' := [(4, .int (iZ (j - 1))), (3, .int (iZ (i))), (2, .ref (h0 + q2)), (1, .ref (h0 + q)), (0, .ref (h0 + 41))]) hx hb dX0_leastCost_117 hl (k := 0) rfl (iZ_add _ (-1)) (by decide) rfl (fun ls hl => ?_)
        refine lv_goto (tgt := 73) hx hb dX0_leastCost_120 (by decide) ?_
        exact ih (j - 1) μ H locs ls (by omega) (by exact hf) (by
                        intro i2 j2 hv2 h9
                        by_cases h8 : i = i2 ∧ j = j2
                        · obtain ⟨rfl, rfl⟩ := h8; exact absurd hv2 nv
                        · exact hC i2 j2 hv2 (by omega)) (by exact hlv) (by omega) hP hS (lv_sub hl [0, 1, 2, 3, 4] rfl)
      · have hv : vis μ0 q q2 i j := lb.1.mpr ⟨hlv, by omega⟩
        refine lv_aload_n hx hb dX0_leastCost_94 rfl (lv_at hl 4 rfl) ?_
        refine fz_get (D := (dC, dI)) (ci := 0) (v := .ref (h0 + 42)) (C := RX0) (T := TX0) (N := 7) hx hb hts inG0 hown hK hP (k := 41) (by decide) (F := (sF41 h0)) sE_41 rfl 0 (by decide) (hts _ k182) (fun _ h9 => h9) rfl dX0_leastCost_95 ?_
        refine lv_iload_n hx hb dX0_leastCost_98 rfl (lv_at hl 1 rfl) ?_
        refine lv_aload_n hx hb dX0_leastCost_99 rfl (lv_at hl 4 rfl) ?_
        refine fz_get (D := (dC, dI)) (ci := 0) (v := .int (iZ (μ 41 3))) (C := RX0) (T := TX0) (N := 7) hx hb hts inG0 hown hK hP (k := 41) (by decide) (F := (sF41 h0)) sE_41 rfl 3 (by decide) (hts _ k185) (fun _ h9 => h9) rfl dX0_leastCost_100 ?_
        refine lv_imul hx hb dX0_leastCost_103 ?_
        refine lv_topi (fun x9 ex9 => ?_)
        obtain rfl : x9 = iZ (i * (μ 41 3)) := ex9.trans (iZ_mul _ _)
        refine lv_iload hx hb dX0_leastCost_104 (lv_at hl 0 rfl) ?_
        refine lv_iadd hx hb dX0_leastCost_106 ?_
        refine lv_topi (fun x9 ex9 => ?_)
        obtain rfl : x9 = iZ ((i * (μ 41 3)) + j) := ex9.trans (iZ_add _ _)
        refine lv_aload_n hx hb dX0_leastCost_107 rfl (lv_at hl 4 rfl) ?_
        refine lv_aload_n hx hb dX0_leastCost_108 rfl (lv_at hl 3 rfl) ?_
        refine lv_aload_n hx hb dX0_leastCost_109 rfl (lv_at hl 2 rfl) ?_
        refine lv_iload_n hx hb dX0_leastCost_110 rfl (lv_at hl 1 rfl) ?_
        refine lv_iload hx hb dX0_leastCost_111 (lv_at hl 0 rfl) ?_
        refine va_calli (va_runV (As := [.ref (h0 + q), .ref (h0 + q2), .int (iZ (i)), .int (iZ (j))]) (rest := [.int (iZ ((i * (μ 41 3)) + j)), .ref (h0 + 42)]) ⟨hx, hb, hml, hown, hts⟩ (s_Ybest l dC dI cI cZ cII cIII h0 H.size μ (q) (rm) (q2) (rm2) (i) (j) (hq) (hq2) (by exact rG_fr hG xa) (by exact rG_fr hG2 xa2) (by exact h96) (by omega) (by rw [vis_eq xa xa2]; exact hv) (by
                        intro i2 j2 hv2 h9
                        rw [vis_eq xa xa2] at hv2
                        rw [bnd_eq xa xa2, xst]
                        exact (hC i2 j2 hv2 h9).1)) (cwV 4 hts (gV_G k770 k772 ks_yX0_best k7 k773) rfl rfl rfl (by decide +kernel) ⟨by show 4 + 1 ≤ _; omega, by show 8 + (9 + 11) + (87) ≤ _; omega⟩) ⟨fun a U g mk q => by obtain ⟨q0, q1, qP, qK, qM⟩ := q; exact ⟨q0, q1, qP, va_K.moved (u := U) (U := U.calling g mk a) (Vm.Alike.refl U.vm) qK, qM⟩, va_recv hK hP (ci := 0) (q0 := 41) rfl ((fw_get (by decide)).trans (by rw [sE_41])), fun U hU hW => ⟨rfl, by rw [hU], by rw [hU]; exact hP, va_K.moved hW.alike hK, xM_warm hW hM⟩⟩ rfl rfl hl.1 rfl (lv_room (Nat.le_of_ble_eq_true rfl)) dX0_leastCost_113 ⟨hRc, hRs⟩) hS (fun q _ h => fA_le hS.1 q h) (fA_le hS.1) (fun r9 u9 t9 H1 locs ht9 hvm9 hw9 hB9 hz9 hk9 hS => ?_)
        obtain ⟨μb, rb⟩ := u9
        obtain ⟨hP, -⟩ := hB9
        rw [ht9] at hP
        generalize H1 = H at hP hS ⊢
        obtain ⟨e9, hw9⟩ := hw9
        have e9 : r9 = iZ rb := e9
        subst e9
        simp only at hP hw9
        have hμb := hw9; clear hw9
        rw [hμb.1] at hP; have hμb := hμb.2
        have hrb := hμb
        rw [cO_eq xa xa2] at hrb
        have hv1 := hv.1
        refine fz_st (k := 42) (n := 106797) (i := ((i * (μ 41 3)) + j)) (z := rb) hx hb hK hP fA_in hS 0 (by decide) sE_42 rfl ⟨by omega, by omega⟩ (by decide) dX0_leastCost_116 (fun H locs hP hS => ?_)
        obtain ⟨μ1, eμ1⟩ : ∃ x : va_M, x = uz μ 42 ((i * (μ 41 3)) + j).toNat (rb) := ⟨_, rfl⟩
        rw [← eμ1] at hP
        refine lv_iinc (v := iZ (j - 1)) (lv' := [(4, .int (iZ (j - 1))), (3, .int (iZ (i))), (2, .ref (h0 + q2)), (1, .ref (h0 + q)), (0, .ref (h0 + 41))]) hx hb dX0_leastCost_117 hl (k := 0) rfl (iZ_add _ (-1)) (by decide) rfl (fun ls hl => ?_)
        refine lv_goto (tgt := 73) hx hb dX0_leastCost_120 (by decide) ?_
        exact ih (j - 1) μ1 H locs ls (by omega) (by rw [eμ1]; exact fr_uz hf rfl) (by
                        intro i2 j2 hv2 h9
                        by_cases h8 : i = i2 ∧ j = j2
                        · obtain ⟨rfl, rfl⟩ := h8
                          rw [eμ1, xst, uz_s]; exact hrb
                        · have hv3 := hv2.1
                          have hlt : i < i2 ∨ (i = i2 ∧ j < j2) := by omega
                          have hne := mulD (s := μ0 41 3) (show 0 ≤ i by omega) (show 0 ≤ j ∧ j < μ0 41 3 by omega) (show 0 ≤ j2 ∧ j2 < μ0 41 3 by omega) hlt
                          rw [eμ1, xst, uz_n (fun h => hne h.2.symm)]; exact hC i2 j2 hv2 hlt) (by exact hlv) (by omega) hP hS (lv_sub hl [0, 1, 2, 3, 4] rfl)
set_option maxHeartbeats 4000000 in
set_option maxRecDepth 100000 in
theorem LX0_leastCost_54 {p : Program} {l : Launch} {e : Env} {R : Room} {s : State} {m : MethodId} {args : Array Value} {below : List Frame} {meth : Method} {c : Code} {cells slots : Nat} {Q : State → Prop} {dC : Nat → ClassId} {dI : Nat → Nat → Nat} {h0 : Nat} {cI cZ cII cIII : ClassId} (hx : p.tables.exec = Jvm.exec) (hb : c.code = cX0_leastCost) (hml : c.maxLocals = 5) (hown : s.vm.findClass RX0 = some m.cls) (hts : ∀ w ∈ wsG, w.before args s = true) (hK : va_K (dC, dI) vwCl (sT cI cZ cII cIII) s) (hM : xM s) (hRf : 5 ≤ R.frames) (hRl : 115 ≤ R.locals) (hRc : cells ≤ R.cells) (hRs : slots ≤ R.slots) (μ0 : va_M) (q : Nat) (rm : Nat) (q2 : Nat) (rm2 : Nat) (hq : rowB q rm) (hq2 : rowB q2 rm2) (hG : rG μ0 q rm) (hG2 : rG μ0 q2 rm2) (h96 : rm2 = 96) (hst : μ0 41 3 = μ0 q2 5 + 1) (hl1 : ∀ i9 : Nat, (i9 : Int) ≤ μ0 q 5 → μ0 43 i9 = if Op μ0 q i9 = 0 then Dp (μ0 (q + 1)) i9 else -1) (hl2 : ∀ i9 : Nat, (i9 : Int) ≤ μ0 q2 5 → μ0 44 i9 = if Op μ0 q2 i9 = 0 then Dp (μ0 (q2 + 1)) i9 else -1) (hexit129 : ∀ (i : Int) (j : Int) (μ : va_M) (H : Heap) (locs : List Loc) (ls : Array Slot), (fr (fun x _ => x = 42) μ0 μ) → (∀ i2 j2 : Int, vis μ0 q q2 i2 j2 → 0 ≤ i2 → cO μ0 q q2 i2 j2 (μ 42 (i2 * μ0 41 3 + j2).toNat)) → va_P (dC, dI) vwCl (fw (sE cI cZ cII cIII h0) h0 233 μ) H → va_S (fA h0 233 s.heap.size) s.heap H locs → lv_has ls 5 [(2, .ref (h0 + q2)), (1, .ref (h0 + q)), (0, .ref (h0 + 41))] → W p l e R s m args below meth c H locs cells slots Q (F0 m 129 ls [])) :
    ∀ (n9 : Nat) (i : Int) (j : Int) (μ : va_M) (H : Heap) (locs : List Loc) (ls : Array Slot), (-1 ≤ i ∧ i ≤ μ0 q 5) → (fr (fun x _ => x = 42) μ0 μ) → (∀ i2 j2 : Int, vis μ0 q q2 i2 j2 → i < i2 → cO μ0 q q2 i2 j2 (μ 42 (i2 * μ0 41 3 + j2).toNat)) → (i + 1).toNat < n9 → va_P (dC, dI) vwCl (fw (sE cI cZ cII cIII h0) h0 233 μ) H → va_S (fA h0 233 s.heap.size) s.heap H locs → lv_has ls 5 [(3, .int (iZ (i))), (2, .ref (h0 + q2)), (1, .ref (h0 + q)), (0, .ref (h0 + 41))] → W p l e R s m args below meth c H locs cells slots Q (F0 m 54 ls []) := by
  intro n9
  induction n9 with
  | zero => intro i j μ H locs ls hi hf hC hm9 hP hS hl; exact absurd hm9 (Nat.not_lt_zero _)
  | succ n9 ih =>
    intro i j μ H locs ls hi hf hC hm9 hP hS hl
    have hrm := rG_rm hq hG
    have hrm2 := rG_rm hq2 hG2
    have hqb := rowB_b hq
    have hqb2 := rowB_b hq2
    have hqf : q + 6 ≤ 18 ∨ 80 ≤ q := rowB_f hq
    have hqf2 : q2 + 6 ≤ 18 ∨ 80 ≤ q2 := rowB_f hq2
    have x5 : μ q 5 = μ0 q 5 := hf _ _ (by omega)
    have x25 : μ q2 5 = μ0 q2 5 := hf _ _ (by omega)
    have xst : μ 41 3 = μ0 41 3 := hf _ _ (by omega)
    have xa : ag μ0 μ q := fun x y h8 h9 => hf _ _ (by omega)
    have xa2 : ag μ0 μ q2 := fun x y h8 h9 => hf _ _ (by omega)
    refine lv_iload_n hx hb dX0_leastCost_54 rfl (lv_at hl 0 rfl) ?_
    refine fz_if_lt (tgt := 129) (by constructor <;> omega) hx hb dX0_leastCost_55 (by decide) (fun c55_ => ?_) (fun c55_ => ?_)
    · exact hexit129 (i) (j) μ H locs ls (by exact hf) (by intro i2 j2 hv h9; exact hC i2 j2 hv (by omega)) hP hS (lv_sub hl [1, 2, 3] rfl)
    · have l1 := hl1 i.toNat (by omega)
      have lz := hl2 0 (by omega)
      have lb := lv_vis hG hG2 (i := i) (j := 0) ⟨by omega, by omega⟩ ⟨by omega, by omega⟩ l1 lz
      have lc := lb.2
      have x43 : μ 43 i.toNat = μ0 43 i.toNat := hf _ _ (by omega)
      refine lv_aload_n hx hb dX0_leastCost_58 rfl (lv_at hl 3 rfl) ?_
      refine fz_get (D := (dC, dI)) (ci := 0) (v := .ref (h0 + 43)) (C := RX0) (T := TX0) (N := 7) hx hb hts inG0 hown hK hP (k := 41) (by decide) (F := (sF41 h0)) sE_41 rfl 1 (by decide) (hts _ k183) (fun _ h9 => h9) rfl dX0_leastCost_59 ?_
      refine lv_iload_n hx hb dX0_leastCost_62 rfl (lv_at hl 0 rfl) ?_
      refine fz_ld (k := 43) (n := 1101) hx hb hK hP 0 (by decide) sE_43 rfl ⟨by omega, by omega⟩ (by decide) dX0_leastCost_63 ?_
      refine fz_if_lt (tgt := 123) (by constructor <;> omega) hx hb dX0_leastCost_64 (by decide) (fun c64_ => ?_) (fun c64_ => ?_)
      · have skip : ∀ j2 : Int, ¬ vis μ0 q q2 i j2 := fun j2 hv => by
          have l2 := hl2 j2.toNat (by have := hv.1; omega)
          have := (lv_vis hG hG2 (i := i) (j := j2) ⟨by omega, by omega⟩ hv.1.2 l1 l2).1.mp hv
          omega
        refine lv_iinc (v := iZ (i - 1)) (lv' := [(3, .int (iZ (i - 1))), (2, .ref (h0 + q2)), (1, .ref (h0 + q)), (0, .ref (h0 + 41))]) hx hb dX0_leastCost_123 hl (k := 0) rfl (iZ_add _ (-1)) (by decide) rfl (fun ls hl => ?_)
        refine lv_goto (tgt := 54) hx hb dX0_leastCost_126 (by decide) ?_
        exact ih (i - 1) (j) μ H locs ls (by omega) (by exact hf) (by
                        intro i2 j2 hv h9
                        by_cases h8 : i2 = i
                        · rw [h8] at hv; exact absurd hv (skip j2)
                        · exact hC i2 j2 hv (by omega)) (by omega) hP hS (lv_sub hl [0, 1, 2, 3] rfl)
      · refine lv_aload_n hx hb dX0_leastCost_67 rfl (lv_at hl 1 rfl) ?_
        refine fz_get (D := (dC, dI)) (ci := 4) (v := .int (iZ (μ q2 5))) (C := RX4) (T := TX4) (N := 8) hx hb hts inG4 hown hK hP (k := q2) (by omega) (F := (sRF h0 q2)) (sE_rowO hq2) rfl 5 (by decide) (hts _ k94) (fun _ h9 => h9) rfl dX0_leastCost_68 ?_
        refine lv_istore (lv' := [(4, .int (iZ (μ q2 5))), (3, .int (iZ (i))), (2, .ref (h0 + q2)), (1, .ref (h0 + q)), (0, .ref (h0 + 41))]) hx hb dX0_leastCost_71 hl (by decide) rfl (fun ls hl => ?_)
        refine LX0_leastCost_73 hx hb hml hown hts hK hM hRf hRl hRc hRs (μ0) (q) (rm) (q2) (rm2) (i) (by assumption) (by assumption) (by exact hG) (by assumption) (by assumption) (by assumption) (by exact hl1) (by exact hl2) ?_ _ (μ q2 5) μ H locs ls (by omega) (by exact hf) (by
                        intro i2 j2 hv h9
                        rcases h9 with h9 | ⟨h9, h8⟩
                        · exact hC i2 j2 hv h9
                        · have := hv.1; omega) (by omega) (Nat.lt_succ_self _) hP hS (lv_sub hl [0, 1, 2, 3, 4] rfl)
        · intro j_2 μ2_ H locs ls q1_2 q2_2 q3_2 hP hS hl
          have hl : lv_has ls 5 [(3, .int (iZ (i))), (2, .ref (h0 + q2)), (1, .ref (h0 + q)), (0, .ref (h0 + 41))] := hl
          refine lv_iinc (v := iZ (i - 1)) (lv' := [(3, .int (iZ (i - 1))), (2, .ref (h0 + q2)), (1, .ref (h0 + q)), (0, .ref (h0 + 41))]) hx hb dX0_leastCost_123 hl (k := 0) rfl (iZ_add _ (-1)) (by decide) rfl (fun ls hl => ?_)
          refine lv_goto (tgt := 54) hx hb dX0_leastCost_126 (by decide) ?_
          exact ih (i - 1) (j) μ2_ H locs ls (by
                            have := q1_2
                            omega) (by exact q2_2) (by intro i2 j2 hv h9; exact q3_2 i2 j2 hv (by omega)) (by omega) hP hS (lv_sub hl [0, 1, 2, 3] rfl)
set_option maxHeartbeats 4000000 in
set_option maxRecDepth 100000 in
theorem s_YleastCost (l : Launch) (dC : Nat → ClassId) (dI : Nat → Nat → Nat) (cI cZ cII cIII : ClassId) (h0 sz : Nat) (μ : va_M) (q : Nat) (rm : Nat) (q2 : Nat) (rm2 : Nat) (hq : rowB q rm) (hq2 : rowB q2 rm2) (hG : rG μ q rm) (hG2 : rG μ q2 rm2) (h96 : rm2 = 96) : Met l yX0_leastCost (Cond.code yX0_leastCost cX0_leastCost 5 (some .int) :: wsG) ({ frames := 5, cells := 0, slots := 0, locals := 115 } : Room) (va_Pc [.ref (h0 + 41), .ref (h0 + q), .ref (h0 + q2)] (fun U => U.heap.size = sz ∧ va_P (dC, dI) vwCl (fw (sE cI cZ cII cIII h0) h0 233 μ) U.heap ∧ va_K (dC, dI) vwCl (sT cI cZ cII cIII) U ∧ xM U)) (va_Qi (fun (r9 : Int32) (u : va_M × Int) => r9 = iZ u.2 ∧ (fun (u : va_M) (r : Int) => fr (fun x y => (x = 41 ∧ y = 3) ∨ (42 ≤ x ∧ x ≤ 44)) μ u ∧ LK u q q2 ∧ 0 ≤ r ∧ r ≤ 2000) u.1 u.2) (fun u t => va_P (dC, dI) vwCl (fw (sE cI cZ cII cIII h0) h0 233 u.1) t.heap ∧ va_K (dC, dI) vwCl (sT cI cZ cII cIII) t) (fA h0 233 sz)) 0 0 (fA h0 233 sz) := by
  refine Met.ofW (cc := cX0_leastCost) (maxL := 5) (ret := (some .int)) (by decide) rfl ?_
  intro p e s m args below meth c s₁ B hml hv
  obtain ⟨rfl, hsz, hP, hK, hM⟩ := hv
  have hx := B.exec
  have hb := B.bytes
  have hr := B.returns
  have hts : ∀ w ∈ wsG, w.before _ s = true := hG_of (atoms_spec (ws := (Cond.code yX0_leastCost cX0_leastCost 5 (some .int) :: wsG)) B.pre)
  have hown : s.vm.findClass RX0 = some m.cls := findClass_of_methodNamed B.named
  have hlocks := B.notSynchronized
  subst hsz
  have hS : va_S (fA h0 233 s.heap.size) s.heap s.heap [] := va_S.rf
  have hl := lv_entry ([.ref (h0 + 41), .ref (h0 + q), .ref (h0 + q2)]) (n := 5) (Nat.le_of_ble_eq_true rfl)
  rw [lg_entry_eq]
  generalize (lg_sl ([.ref (h0 + 41), .ref (h0 + q), .ref (h0 + q2)]) ++ List.replicate (5 - (lg_sl ([.ref (h0 + 41), .ref (h0 + q), .ref (h0 + q2)])).length) Slot.unset).toArray = ls at hl ⊢
  have hl : lv_has ls 5 [(0, .ref (h0 + 41)), (1, .ref (h0 + q)), (2, .ref (h0 + q2))] := hl
  have hqb := rowB_b hq
  have hqb2 := rowB_b hq2
  have hrm := rG_rm hq hG
  have hrm2 := rG_rm hq2 hG2
  have hqb := rowB_b hq
  have hqb2 := rowB_b hq2
  have hqf : q + 6 ≤ 18 ∨ 80 ≤ q := rowB_f hq
  have hqf2 : q2 + 6 ≤ 18 ∨ 80 ≤ q2 := rowB_f hq2
  refine lv_aload_n hx hb dX0_leastCost_0 rfl (lv_at hl 0 rfl) ?_
  refine lv_aload_n hx hb dX0_leastCost_1 rfl (lv_at hl 2 rfl) ?_
  refine fz_get (D := (dC, dI)) (ci := 4) (v := .int (iZ (μ q2 5))) (C := RX4) (T := TX4) (N := 8) hx hb hts inG4 hown hK hP (k := q2) (by omega) (F := (sRF h0 q2)) (sE_rowO hq2) rfl 5 (by decide) (hts _ k94) (fun _ h9 => h9) rfl dX0_leastCost_2 ?_
  refine lv_iconst (v := iZ 1) hx hb dX0_leastCost_5 rfl ?_
  refine lv_iadd hx hb dX0_leastCost_6 ?_
  refine lv_topi (fun x9 ex9 => ?_)
  obtain rfl : x9 = iZ ((μ q2 5) + 1) := ex9.trans (iZ_add _ _)
  refine fz_put (D := (dC, dI)) (ci := 0) (ty := .int) (z := ((μ q2 5) + 1)) (C := RX0) (T := TX0) (N := 7) hx hb hts inG0 tyX0 tyX0_ok nmX0 hown hK hP fA_in hS (k := 41) (by decide) (F := (sF41 h0)) sE_41 rfl 3 (by decide) (hts _ k185) (fun _ h9 => h9) rfl (by decide +kernel) rfl rfl (fun _ => Nat.le_of_ble_eq_true rfl) (fun _ _ => rfl) dX0_leastCost_7 (fun H locs hP hS => ?_)
  obtain ⟨μ3, eμ3⟩ : ∃ x : va_M, x = uz μ 41 3 ((μ q2 5) + 1) := ⟨_, rfl⟩
  rw [← eμ3] at hP
  have A0 : ag μ μ3 q := fun x y h8 h9 => by rw [eμ3, uz_n (by omega)]
  have B0 : ag μ μ3 q2 := fun x y h8 h9 => by rw [eμ3, uz_n (by omega)]
  have S0 : μ3 41 3 = μ q2 5 + 1 := by rw [eμ3, uz_s]
  have F0 : fr (fun x y => (x = 41 ∧ y = 3) ∨ (42 ≤ x ∧ x ≤ 44)) μ μ3 := by rw [eμ3]; exact fr_uz fr_rfl (Or.inl ⟨rfl, rfl⟩)
  obtain ⟨μf, hμf⟩ : ∃ x : va_M, x = μ3 := ⟨_, rfl⟩
  refine lv_aload_n hx hb dX0_leastCost_10 rfl (lv_at hl 0 rfl) ?_
  refine lv_aload_n hx hb dX0_leastCost_11 rfl (lv_at hl 1 rfl) ?_
  refine lv_aload_n hx hb dX0_leastCost_12 rfl (lv_at hl 0 rfl) ?_
  refine fz_get (D := (dC, dI)) (ci := 0) (v := .ref (h0 + 43)) (C := RX0) (T := TX0) (N := 7) hx hb hts inG0 hown hK hP (k := 41) (by decide) (F := (sF41 h0)) sE_41 rfl 1 (by decide) (hts _ k183) (fun _ h9 => h9) rfl dX0_leastCost_13 ?_
  refine va_callv (va_runV (As := [.ref (h0 + q), .ref (h0 + 43)]) (rest := []) ⟨hx, hb, hml, hown, hts⟩ (s_YfindLevels l dC dI cI cZ cII cIII h0 H.size μ3 (q) (rm) (43) (1101) (hq) (by exact rG_fr hG A0) (by first | assumption | omega | exact ⟨by omega, by omega⟩) (sE_43)) (cwV 2 hts (gV_G k766 k768 ks_yX0_findLevels k7 k769) rfl rfl rfl (by decide +kernel) ⟨Nat.le_of_ble_eq_true rfl, Nat.le_of_ble_eq_true rfl⟩) ⟨fun a U g mk q => by obtain ⟨q0, q1, qP, qK, qM⟩ := q; exact ⟨q0, q1, qP, va_K.moved (u := U) (U := U.calling g mk a) (Vm.Alike.refl U.vm) qK, qM⟩, va_recv hK hP (ci := 0) (q0 := 41) rfl ((fw_get (by decide)).trans (by rw [sE_41])), fun U hU hW => ⟨rfl, by rw [hU], by rw [hU]; exact hP, va_K.moved hW.alike hK, xM_warm hW hM⟩⟩ rfl rfl hl.1 rfl (lv_room (Nat.le_of_ble_eq_true rfl)) dX0_leastCost_16 ⟨Nat.le_of_ble_eq_true rfl, Nat.le_of_ble_eq_true rfl⟩) hS (fun q _ h => fA_le hS.1 q h) (fA_le hS.1) (fun u9 t9 H1 locs ht9 hvm9 hw9 hB9 hz9 hk9 hS => ?_)
  obtain ⟨hP, -⟩ := hB9
  rw [ht9] at hP
  generalize H1 = H at hP hS ⊢
  obtain ⟨μ1, eμ1⟩ : ∃ x : va_M, x = u9 := ⟨_, rfl⟩
  rw [← eμ1] at hP hw9
  have hμ1 := hw9; clear hw9
  have f0_ := F0
  rw [← hμf] at hμ1
  obtain ⟨f1_, e1_⟩ := hμ1
  have F1 := fr_trans (show fr (fun x y => (x = 41 ∧ y = 3) ∨ (42 ≤ x ∧ x ≤ 44)) μ μf by rw [hμf]; exact F0) (fr_mono f1_ (fun x y h => Or.inr (by omega)))
  have A1 : ag μ μ1 q := fun x y h8 h9 => F1 _ _ (by omega)
  have B1 : ag μ μ1 q2 := fun x y h8 h9 => F1 _ _ (by omega)
  have AA : ag μ μf q := by rw [hμf]; exact A0
  have S1 : μf 41 3 = μ q2 5 + 1 := by rw [hμf]; exact S0
  refine lv_aload_n hx hb dX0_leastCost_19 rfl (lv_at hl 0 rfl) ?_
  refine lv_aload_n hx hb dX0_leastCost_20 rfl (lv_at hl 2 rfl) ?_
  refine lv_aload_n hx hb dX0_leastCost_21 rfl (lv_at hl 0 rfl) ?_
  refine fz_get (D := (dC, dI)) (ci := 0) (v := .ref (h0 + 44)) (C := RX0) (T := TX0) (N := 7) hx hb hts inG0 hown hK hP (k := 41) (by decide) (F := (sF41 h0)) sE_41 rfl 2 (by decide) (hts _ k184) (fun _ h9 => h9) rfl dX0_leastCost_22 ?_
  refine va_callv (va_runV (As := [.ref (h0 + q2), .ref (h0 + 44)]) (rest := []) ⟨hx, hb, hml, hown, hts⟩ (s_YfindLevels l dC dI cI cZ cII cIII h0 H.size μ1 (q2) (rm2) (44) (1101) (hq2) (by exact rG_fr hG2 B1) (by first | assumption | omega | exact ⟨by omega, by omega⟩) (sE_44)) (cwV 2 hts (gV_G k766 k768 ks_yX0_findLevels k7 k769) rfl rfl rfl (by decide +kernel) ⟨Nat.le_of_ble_eq_true rfl, Nat.le_of_ble_eq_true rfl⟩) ⟨fun a U g mk q => by obtain ⟨q0, q1, qP, qK, qM⟩ := q; exact ⟨q0, q1, qP, va_K.moved (u := U) (U := U.calling g mk a) (Vm.Alike.refl U.vm) qK, qM⟩, va_recv hK hP (ci := 0) (q0 := 41) rfl ((fw_get (by decide)).trans (by rw [sE_41])), fun U hU hW => ⟨rfl, by rw [hU], by rw [hU]; exact hP, va_K.moved hW.alike hK, xM_warm hW hM⟩⟩ rfl rfl hl.1 rfl (lv_room (Nat.le_of_ble_eq_true rfl)) dX0_leastCost_25 ⟨Nat.le_of_ble_eq_true rfl, Nat.le_of_ble_eq_true rfl⟩) hS (fun q _ h => fA_le hS.1 q h) (fA_le hS.1) (fun u9 t9 H1 locs ht9 hvm9 hw9 hB9 hz9 hk9 hS => ?_)
  obtain ⟨hP, -⟩ := hB9
  rw [ht9] at hP
  generalize H1 = H at hP hS ⊢
  obtain ⟨μ2, eμ2⟩ : ∃ x : va_M, x = u9 := ⟨_, rfl⟩
  rw [← eμ2] at hP hw9
  have hμ2 := hw9; clear hw9
  obtain ⟨f2_, e2_⟩ := hμ2
  have F2 := fr_trans F1 (fr_mono f2_ (fun x y h => Or.inr (by omega)))
  have A2 : ag μ μ2 q := fun x y h8 h9 => F2 _ _ (by omega)
  have B2 : ag μ μ2 q2 := fun x y h8 h9 => F2 _ _ (by omega)
  have y5 : μ2 q 5 = μ q 5 := A2 _ _ (by omega) (by omega)
  have y25 : μ2 q2 5 = μ q2 5 := B2 _ _ (by omega) (by omega)
  have yst : μ2 41 3 = μ q2 5 + 1 := by rw [f2_ _ _ (by omega), f1_ _ _ (by omega)]; exact S1
  have hG_2 : rG μ2 q rm := rG_fr hG A2
  have hG2_2 : rG μ2 q2 rm2 := rG_fr hG2 B2
  have L1 : ∀ i9 : Nat, (i9 : Int) ≤ μ2 q 5 → μ2 43 i9 = if Op μ2 q i9 = 0 then Dp (μ2 (q + 1)) i9 else -1 := fun i9 h9 => by
    have A01 : ag μf μ2 q := fun x y h8 h9 => by rw [A2 x y h8 h9, AA x y h8 h9]
    rw [f2_ _ _ (by omega), e1_ i9 (by rw [AA _ _ (by omega) (by omega)]; omega), Op_fr A01, show μ2 (q + 1) = μf (q + 1) from funext (fun y => A01 _ y (by omega) (by omega))]
  have L2 : ∀ i9 : Nat, (i9 : Int) ≤ μ2 q2 5 → μ2 44 i9 = if Op μ2 q2 i9 = 0 then Dp (μ2 (q2 + 1)) i9 else -1 := fun i9 h9 => by
    have B12 : ag μ1 μ2 q2 := fun x y h8 h9 => by rw [B2 x y h8 h9, B1 x y h8 h9]
    rw [e2_ i9 (by rw [B1 _ _ (by omega) (by omega)]; omega), Op_fr B12, show μ2 (q2 + 1) = μ1 (q2 + 1) from funext (fun y => B12 _ y (by omega) (by omega))]
  have hmz : (μ2 q 5 + 1) * μ2 41 3 ≤ 106797 := by
    have a2 := Int.mul_le_mul (show μ2 q 5 + 1 ≤ 1101 by omega) (show μ2 41 3 ≤ 97 by omega) (by omega) (by omega)
    omega
  have hmz0 : 0 ≤ (μ2 q 5 + 1) * μ2 41 3 := Int.mul_nonneg (by omega) (by omega)
  refine lv_aload_n hx hb dX0_leastCost_28 rfl (lv_at hl 1 rfl) ?_
  refine fz_get (D := (dC, dI)) (ci := 4) (v := .int (iZ (μ2 q 5))) (C := RX4) (T := TX4) (N := 8) hx hb hts inG4 hown hK hP (k := q) (by omega) (F := (sRF h0 q)) (sE_rowO hq) rfl 5 (by decide) (hts _ k94) (fun _ h9 => h9) rfl dX0_leastCost_29 ?_
  refine lv_iconst (v := iZ 1) hx hb dX0_leastCost_32 rfl ?_
  refine lv_iadd hx hb dX0_leastCost_33 ?_
  refine lv_topi (fun x9 ex9 => ?_)
  obtain rfl : x9 = iZ ((μ2 q 5) + 1) := ex9.trans (iZ_add _ _)
  refine lv_aload_n hx hb dX0_leastCost_34 rfl (lv_at hl 0 rfl) ?_
  refine fz_get (D := (dC, dI)) (ci := 0) (v := .int (iZ (μ2 41 3))) (C := RX0) (T := TX0) (N := 7) hx hb hts inG0 hown hK hP (k := 41) (by decide) (F := (sF41 h0)) sE_41 rfl 3 (by decide) (hts _ k185) (fun _ h9 => h9) rfl dX0_leastCost_35 ?_
  refine lv_imul hx hb dX0_leastCost_38 ?_
  refine lv_topi (fun x9 ex9 => ?_)
  obtain rfl : x9 = iZ (((μ2 q 5) + 1) * (μ2 41 3)) := ex9.trans (iZ_mul _ _)
  refine lv_aload_n hx hb dX0_leastCost_39 rfl (lv_at hl 0 rfl) ?_
  refine fz_get (D := (dC, dI)) (ci := 0) (v := .ref (h0 + 42)) (C := RX0) (T := TX0) (N := 7) hx hb hts inG0 hown hK hP (k := 41) (by decide) (F := (sF41 h0)) sE_41 rfl 0 (by decide) (hts _ k182) (fun _ h9 => h9) rfl dX0_leastCost_40 ?_
  refine fz_len (k := 42) (n := 106797) hx hb hK hP 0 (by decide) sE_42 rfl dX0_leastCost_43 ?_
  refine fz_icmp_le (tgt := 49) (by constructor <;> omega) (by decide) hx hb dX0_leastCost_44 (by decide) (fun c44_ => ?_) (fun h9 => (by omega))
  refine lv_aload_n hx hb dX0_leastCost_49 rfl (lv_at hl 1 rfl) ?_
  refine fz_get (D := (dC, dI)) (ci := 4) (v := .int (iZ (μ2 q 5))) (C := RX4) (T := TX4) (N := 8) hx hb hts inG4 hown hK hP (k := q) (by omega) (F := (sRF h0 q)) (sE_rowO hq) rfl 5 (by decide) (hts _ k94) (fun _ h9 => h9) rfl dX0_leastCost_50 ?_
  refine lv_istore_n (lv' := [(3, .int (iZ (μ2 q 5))), (0, .ref (h0 + 41)), (1, .ref (h0 + q)), (2, .ref (h0 + q2))]) hx hb dX0_leastCost_53 rfl hl (by decide) rfl (fun ls hl => ?_)
  refine LX0_leastCost_54 hx hb hml hown hts hK hM (Nat.le_of_ble_eq_true rfl) (Nat.le_of_ble_eq_true rfl) (Nat.le_of_ble_eq_true rfl) (Nat.le_of_ble_eq_true rfl) (μ2) (q) (rm) (q2) (rm2) (by assumption) (by assumption) (by exact hG_2) (by exact hG2_2) (by exact h96) (by omega) (by exact L1) (by exact L2) ?_ _ (μ2 q 5) (0) μ2 H locs ls (by omega) (by exact fr_rfl) (by intro i2 j2 hv h9; have := hv.1; omega) (Nat.lt_succ_self _) hP hS (lv_sub hl [0, 3, 2, 1] rfl)
  · intro i_4 j_4 μ4_ H locs ls q1_4 q2_4 hP hS hl
    have hl : lv_has ls 5 [(2, .ref (h0 + q2)), (1, .ref (h0 + q)), (0, .ref (h0 + 41))] := hl
    have Q1 := q1_4
    have Q2 := q2_4
    have F3 := fr_trans F2 (fr_mono Q1 (fun x y h => Or.inr (by omega)))
    have A3 : ag μ2 μ4_ q := fun x y h8 h9 => Q1 _ _ (by omega)
    have B3 : ag μ2 μ4_ q2 := fun x y h8 h9 => Q1 _ _ (by omega)
    have C0 := Q2 0 0 (vis_0 hG_2 hG2_2) (Int.le_refl _)
    rw [Int.zero_mul, Int.zero_add, show (0 : Int).toNat = 0 from rfl] at C0
    have C1 := C0.1
    unfold bnd at C1
    refine lv_aload_n hx hb dX0_leastCost_129 rfl (lv_at hl 2 rfl) ?_
    refine fz_get (D := (dC, dI)) (ci := 0) (v := .ref (h0 + 42)) (C := RX0) (T := TX0) (N := 7) hx hb hts inG0 hown hK hP (k := 41) (by decide) (F := (sF41 h0)) sE_41 rfl 0 (by decide) (hts _ k182) (fun _ h9 => h9) rfl dX0_leastCost_130 ?_
    refine lv_iconst (v := iZ 0) hx hb dX0_leastCost_133 rfl ?_
    refine fz_ld (k := 42) (n := 106797) hx hb hK hP 0 (by decide) sE_42 rfl ⟨by omega, by omega⟩ (by decide) dX0_leastCost_134 ?_
    rw [show (0 : Int).toNat = 0 from rfl]
    refine lv_iconst (v := iZ 4) hx hb dX0_leastCost_135 rfl ?_
    refine lv_ishr hx hb dX0_leastCost_136 ?_
    refine lv_topi (fun x9 ex9 => ?_)
    obtain ⟨z5, rfl, hz5⟩ := iZ_ex x9
    have ez5 := ex9; clear ex9
    have hs4 := shr4 hz5 (by constructor <;> omega) ez5
    exact W.iret (v := iZ (z5)) hx hb hr (fun t9 ht9 hW9 => ⟨⟨iZ (z5), (μ4_, z5), rfl, ⟨rfl, (by
                dsimp only
                refine ⟨F3, ⟨?_, fun i2 j2 hv => ?_⟩, by omega, by omega⟩
                · rw [Q1 41 3 (by omega), B3 _ _ (by omega) (by omega)]; omega
                · rw [vis_eq A3 B3] at hv
                  rw [cO_eq A3 B3, Q1 41 3 (by omega)]
                  exact Q2 i2 j2 hv (by have := hv.1; omega))⟩, by rw [ht9]; exact hP, va_K.moved hW9.alike hK⟩, hS.F ht9⟩) hS.2.2 dX0_leastCost_137

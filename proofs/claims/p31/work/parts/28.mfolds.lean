set_option maxRecDepth 100000 in
theorem k1393 : (Cond.methodLink "PageSkeletonModel" (229 : Nat) ({ cls := "PageSkeletonModel", name := "areRowsAlike", desc := "(I[IIII)Z" } : MethodName)) ∈ wsG := wsG_a6 193 rfl rfl
set_option maxRecDepth 100000 in
theorem k1395 : (Cond.instanceMethod ({ cls := "PageSkeletonModel", name := "areRowsAlike", desc := "(I[IIII)Z" } : MethodName)) ∈ wsG := wsG_a6 195 rfl rfl
set_option maxRecDepth 100000 in
theorem k1396 : (Cond.code ({ cls := "PageSkeletonModel", name := "areRowsAlike", desc := "(I[IIII)Z" } : MethodName) prog_12_method_29_code (7 : Nat) (Option.some FieldType.boolean)) ∈ wsG := wsG_a6 196 rfl rfl
set_option maxRecDepth 100000 in
theorem k1408 : (Cond.methodLink "PageSkeletonModel" (233 : Nat) ({ cls := "PageSkeletonModel", name := "hasFirm", desc := "(I[III)Z" } : MethodName)) ∈ wsG := wsG_a6 208 rfl rfl
set_option maxRecDepth 100000 in
theorem k1410 : (Cond.instanceMethod ({ cls := "PageSkeletonModel", name := "hasFirm", desc := "(I[III)Z" } : MethodName)) ∈ wsG := wsG_a6 210 rfl rfl
set_option maxRecDepth 100000 in
theorem k1411 : (Cond.code ({ cls := "PageSkeletonModel", name := "hasFirm", desc := "(I[III)Z" } : MethodName) prog_12_method_30_code (6 : Nat) (Option.some FieldType.boolean)) ∈ wsG := wsG_a6 211 rfl rfl
set_option maxRecDepth 100000 in
theorem k1412 : (Cond.methodLink "PageSkeletonModel" (237 : Nat) ({ cls := "PageSkeletonModel", name := "putsRepeat", desc := "(I[IIIII)V" } : MethodName)) ∈ wsG := wsG_a6 212 rfl rfl
set_option maxRecDepth 100000 in
theorem k1414 : (Cond.instanceMethod ({ cls := "PageSkeletonModel", name := "putsRepeat", desc := "(I[IIIII)V" } : MethodName)) ∈ wsG := wsG_a6 214 rfl rfl
set_option maxRecDepth 100000 in
theorem k1415 : (Cond.code ({ cls := "PageSkeletonModel", name := "putsRepeat", desc := "(I[IIIII)V" } : MethodName) prog_12_method_32_code (10 : Nat) (Option.none : Option Jvm.ClassFile.FieldType)) ∈ wsG := wsG_a6 215 rfl rfl
set_option maxRecDepth 100000 in
theorem ks_yX10_areRowsAlike : Cond.selects RX10 yX10_areRowsAlike yX10_areRowsAlike ∈ wsG := wsG_p 60 rfl rfl
set_option maxRecDepth 100000 in
theorem ks_yX10_hasFirm : Cond.selects RX10 yX10_hasFirm yX10_hasFirm ∈ wsG := wsG_p 63 rfl rfl
set_option maxRecDepth 100000 in
theorem ks_yX10_putsRepeat : Cond.selects RX10 yX10_putsRepeat yX10_putsRepeat ∈ wsG := wsG_p 64 rfl rfl
theorem dX10_foldsOne_40 : decode cX10_foldsOne 40 = .ok (.iload 5, 2) := by decide +kernel
theorem dX10_foldsOne_42 : decode cX10_foldsOne 42 = .ok (.iconst 2, 1) := by decide +kernel
theorem dX10_foldsOne_43 : decode cX10_foldsOne 43 = .ok (.iload 4, 2) := by decide +kernel
theorem dX10_foldsOne_45 : decode cX10_foldsOne 45 = .ok (.imul, 1) := by decide +kernel
theorem dX10_foldsOne_46 : decode cX10_foldsOne 46 = .ok (.iadd, 1) := by decide +kernel
theorem dX10_foldsOne_47 : decode cX10_foldsOne 47 = .ok (.iload_n 2, 1) := by decide +kernel
theorem dX10_foldsOne_48 : decode cX10_foldsOne 48 = .ok (.if_icmp .gt 114, 3) := by decide +kernel
theorem dX10_foldsOne_51 : decode cX10_foldsOne 51 = .ok (.iconst 1, 1) := by decide +kernel
theorem dX10_foldsOne_52 : decode cX10_foldsOne 52 = .ok (.istore 6, 2) := by decide +kernel
theorem dX10_foldsOne_54 : decode cX10_foldsOne 54 = .ok (.iload 5, 2) := by decide +kernel
theorem dX10_foldsOne_56 : decode cX10_foldsOne 56 = .ok (.iload 6, 2) := by decide +kernel
theorem dX10_foldsOne_58 : decode cX10_foldsOne 58 = .ok (.iconst 1, 1) := by decide +kernel
theorem dX10_foldsOne_59 : decode cX10_foldsOne 59 = .ok (.iadd, 1) := by decide +kernel
theorem dX10_foldsOne_60 : decode cX10_foldsOne 60 = .ok (.iload 4, 2) := by decide +kernel
theorem dX10_foldsOne_62 : decode cX10_foldsOne 62 = .ok (.imul, 1) := by decide +kernel
theorem dX10_foldsOne_63 : decode cX10_foldsOne 63 = .ok (.iadd, 1) := by decide +kernel
theorem dX10_foldsOne_64 : decode cX10_foldsOne 64 = .ok (.iload_n 2, 1) := by decide +kernel
theorem dX10_foldsOne_65 : decode cX10_foldsOne 65 = .ok (.if_icmp .gt 30, 3) := by decide +kernel
theorem dX10_foldsOne_68 : decode cX10_foldsOne 68 = .ok (.aload_n 0, 1) := by decide +kernel
theorem dX10_foldsOne_69 : decode cX10_foldsOne 69 = .ok (.iload_n 1, 1) := by decide +kernel
theorem dX10_foldsOne_70 : decode cX10_foldsOne 70 = .ok (.aload_n 3, 1) := by decide +kernel
theorem dX10_foldsOne_71 : decode cX10_foldsOne 71 = .ok (.iload 5, 2) := by decide +kernel
theorem dX10_foldsOne_73 : decode cX10_foldsOne 73 = .ok (.iload 5, 2) := by decide +kernel
theorem dX10_foldsOne_75 : decode cX10_foldsOne 75 = .ok (.iload 6, 2) := by decide +kernel
theorem dX10_foldsOne_77 : decode cX10_foldsOne 77 = .ok (.iload 4, 2) := by decide +kernel
theorem dX10_foldsOne_79 : decode cX10_foldsOne 79 = .ok (.imul, 1) := by decide +kernel
theorem dX10_foldsOne_80 : decode cX10_foldsOne 80 = .ok (.iadd, 1) := by decide +kernel
theorem dX10_foldsOne_81 : decode cX10_foldsOne 81 = .ok (.iload 4, 2) := by decide +kernel
theorem dX10_foldsOne_83 : decode cX10_foldsOne 83 = .ok (.invokevirtual 229, 3) := by decide +kernel
theorem dX10_foldsOne_86 : decode cX10_foldsOne 86 = .ok (.ifCond .eq 9, 3) := by decide +kernel
theorem dX10_foldsOne_89 : decode cX10_foldsOne 89 = .ok (.iinc 6 1, 3) := by decide +kernel
theorem dX10_foldsOne_92 : decode cX10_foldsOne 92 = .ok (.goto (-38), 3) := by decide +kernel
theorem dX10_foldsOne_95 : decode cX10_foldsOne 95 = .ok (.iload 6, 2) := by decide +kernel
theorem dX10_foldsOne_97 : decode cX10_foldsOne 97 = .ok (.iconst 2, 1) := by decide +kernel
theorem dX10_foldsOne_98 : decode cX10_foldsOne 98 = .ok (.if_icmp .lt 58, 3) := by decide +kernel
theorem dX10_foldsOne_101 : decode cX10_foldsOne 101 = .ok (.aload_n 0, 1) := by decide +kernel
theorem dX10_foldsOne_102 : decode cX10_foldsOne 102 = .ok (.iload_n 1, 1) := by decide +kernel
theorem dX10_foldsOne_103 : decode cX10_foldsOne 103 = .ok (.aload_n 3, 1) := by decide +kernel
theorem dX10_foldsOne_104 : decode cX10_foldsOne 104 = .ok (.iload 5, 2) := by decide +kernel
theorem dX10_foldsOne_106 : decode cX10_foldsOne 106 = .ok (.iload 4, 2) := by decide +kernel
theorem dX10_foldsOne_108 : decode cX10_foldsOne 108 = .ok (.invokevirtual 233, 3) := by decide +kernel
theorem dX10_foldsOne_111 : decode cX10_foldsOne 111 = .ok (.ifCond .ne 6, 3) := by decide +kernel
theorem dX10_foldsOne_114 : decode cX10_foldsOne 114 = .ok (.goto 42, 3) := by decide +kernel
theorem dX10_foldsOne_117 : decode cX10_foldsOne 117 = .ok (.aload_n 0, 1) := by decide +kernel
theorem dX10_foldsOne_118 : decode cX10_foldsOne 118 = .ok (.getfield 70, 3) := by decide +kernel
theorem dX10_foldsOne_121 : decode cX10_foldsOne 121 = .ok (.iconst 0, 1) := by decide +kernel
theorem dX10_foldsOne_122 : decode cX10_foldsOne 122 = .ok (.iload 4, 2) := by decide +kernel
theorem dX10_foldsOne_124 : decode cX10_foldsOne 124 = .ok (.iastore, 1) := by decide +kernel
theorem dX10_foldsOne_125 : decode cX10_foldsOne 125 = .ok (.aload_n 0, 1) := by decide +kernel
theorem dX10_foldsOne_126 : decode cX10_foldsOne 126 = .ok (.getfield 70, 3) := by decide +kernel
theorem dX10_foldsOne_129 : decode cX10_foldsOne 129 = .ok (.iconst 1, 1) := by decide +kernel
theorem dX10_foldsOne_130 : decode cX10_foldsOne 130 = .ok (.iload 5, 2) := by decide +kernel
theorem dX10_foldsOne_132 : decode cX10_foldsOne 132 = .ok (.iastore, 1) := by decide +kernel
theorem dX10_foldsOne_133 : decode cX10_foldsOne 133 = .ok (.aload_n 0, 1) := by decide +kernel
theorem dX10_foldsOne_134 : decode cX10_foldsOne 134 = .ok (.getfield 70, 3) := by decide +kernel
theorem dX10_foldsOne_137 : decode cX10_foldsOne 137 = .ok (.iconst 2, 1) := by decide +kernel
theorem dX10_foldsOne_138 : decode cX10_foldsOne 138 = .ok (.iload 6, 2) := by decide +kernel
theorem dX10_foldsOne_140 : decode cX10_foldsOne 140 = .ok (.iastore, 1) := by decide +kernel
theorem dX10_foldsOne_141 : decode cX10_foldsOne 141 = .ok (.aload_n 0, 1) := by decide +kernel
theorem dX10_foldsOne_142 : decode cX10_foldsOne 142 = .ok (.iload_n 1, 1) := by decide +kernel
theorem dX10_foldsOne_143 : decode cX10_foldsOne 143 = .ok (.aload_n 3, 1) := by decide +kernel
theorem dX10_foldsOne_144 : decode cX10_foldsOne 144 = .ok (.iload_n 2, 1) := by decide +kernel
theorem dX10_foldsOne_145 : decode cX10_foldsOne 145 = .ok (.iload 5, 2) := by decide +kernel
theorem dX10_foldsOne_147 : decode cX10_foldsOne 147 = .ok (.iload 4, 2) := by decide +kernel
theorem dX10_foldsOne_149 : decode cX10_foldsOne 149 = .ok (.iload 6, 2) := by decide +kernel
theorem dX10_foldsOne_151 : decode cX10_foldsOne 151 = .ok (.invokevirtual 237, 3) := by decide +kernel
theorem dX10_foldsOne_156 : decode cX10_foldsOne 156 = .ok (.iinc 5 1, 3) := by decide +kernel
theorem dX10_foldsOne_159 : decode cX10_foldsOne 159 = .ok (.goto (-119), 3) := by decide +kernel
/-- what one fold makes of a row: which copies there were, and how the tree changed -/
def isFold (w : Rw) (a n1 n : Nat) : Prop := 1 ≤ n1 ∧ 2 ≤ n ∧ a + n * n1 ≤ rI w ∧ (∀ e m : Nat, 1 ≤ e → e < n → m < n1 → halk (rdrop (a + m) w) (rdrop (a + e * n1 + m) w)) ∧ ∃ m : Nat, m < n1 ∧ hfirm (rdrop (a + m) w)
def FP (t x y : Nat) : Prop := P8 x y ∨ PT t x y ∨ x = 752
/-- ahead of a place no item that is firm is alike to the next one -/
def noF (w : Rw) (a : Nat) : Prop := ∀ x : Nat, x < a → x + 1 < rI w → hfirm (rdrop x w) → ¬ halk (rdrop x w) (rdrop (x + 1) w)
theorem noF_S {w : Rw} {a : Nat} (h : noF w a) (h2 : a + 1 < rI w → hfirm (rdrop a w) → ¬ halk (rdrop a w) (rdrop (a + 1) w)) : noF w (a + 1) := fun x hx h3 h4 => by
  by_cases h5 : x < a
  · exact h x h5 h3 h4
  · obtain rfl : x = a := by (first | ((try clear h2); omega) | omega)
    exact h2 h3 h4
/-- the least length first, the leftmost, as many as there are -/
def fEx (w : Rw) (a n1 n : Nat) : Prop := (n1 = 1 → noF w a ∧ (a + n < rI w → ¬ halk (rdrop a w) (rdrop (a + n) w))) ∧ (2 ≤ n1 → noF w (rI w))
set_option maxHeartbeats 40000000 in
set_option maxRecDepth 100000 in
theorem LX10_foldsOne_54 {p : Program} {l : Launch} {e : Env} {R : Room} {s : State} {m : MethodId} {args : Array Value} {below : List Frame} {meth : Method} {c : Code} {cells slots : Nat} {Q : State → Prop} {dC : Nat → ClassId} {dI : Nat → Nat → Nat} {h0 : Nat} {cI cZ cII cIII : ClassId} (hx : p.tables.exec = Jvm.exec) (hb : c.code = cX10_foldsOne) (hml : c.maxLocals = 7) (hown : s.vm.findClass RX10 = some m.cls) (hts : ∀ w ∈ wsG, w.before args s = true) (hK : va_K (dC, dI) vwCl (mT cI cZ cII cIII) s) (hRf : 25 ≤ R.frames) (hRl : 800 ≤ R.locals) (hRc : cells ≤ R.cells) (hRs : slots ≤ R.slots) (μ0 : va_M) (t : Int) (q : Nat) (m9 : Int) (w : Rw) (a : Int) (n1 : Int) (ht : 0 ≤ t ∧ t < 70) (hq : (723 ≤ q ∧ q < 737) ∨ (738 ≤ q ∧ q < 752)) (hR : RA μ0 t.toNat w 0) (hN : rN w ≤ 900) (hwf : rWF w) (hHH : rH w ≤ 20) (hrow : rowIs μ0 q w 0) (h260 : rI w ≤ 260) (hm9 : m9 = rI w) (ha : 0 ≤ a ∧ 1 ≤ n1 ∧ a + 2 * n1 ≤ m9) (hexit95 : ∀ (n : Int) (μ : va_M) (H : Heap) (locs : List Loc) (ls : Array Slot), (μ = μ0) → (1 ≤ n ∧ a + n * n1 ≤ m9) → (∀ e m : Nat, 1 ≤ e → e < n.toNat → m < n1.toNat → halk (rdrop (a.toNat + m) w) (rdrop (a.toNat + e * n1.toNat + m) w)) → (m9 < a + (n + 1) * n1 ∨ ¬ ∀ m : Nat, m < n1.toNat → halk (rdrop (a.toNat + m) w) (rdrop (a.toNat + n.toNat * n1.toNat + m) w)) → va_P (dC, dI) vwCl (fw (mE cI cZ cII cIII h0) h0 6325 μ) H → va_S (fA h0 6325 s.heap.size) s.heap H locs → lv_has ls 7 [(6, .int (iZ (n))), (5, .int (iZ (a))), (4, .int (iZ (n1))), (3, .ref (h0 + q)), (2, .int (iZ (m9))), (1, .int (iZ (t))), (0, .ref h0)] → W p l e R s m args below meth c H locs cells slots Q (F0 m 95 ls [])) :
    ∀ (n9 : Nat) (n : Int) (μ : va_M) (H : Heap) (locs : List Loc) (ls : Array Slot), (μ = μ0) → (1 ≤ n ∧ a + n * n1 ≤ m9) → (∀ e m : Nat, 1 ≤ e → e < n.toNat → m < n1.toNat → halk (rdrop (a.toNat + m) w) (rdrop (a.toNat + e * n1.toNat + m) w)) → (300 - n).toNat < n9 → va_P (dC, dI) vwCl (fw (mE cI cZ cII cIII h0) h0 6325 μ) H → va_S (fA h0 6325 s.heap.size) s.heap H locs → lv_has ls 7 [(6, .int (iZ (n))), (5, .int (iZ (a))), (4, .int (iZ (n1))), (3, .ref (h0 + q)), (2, .int (iZ (m9))), (1, .int (iZ (t))), (0, .ref h0)] → W p l e R s m args below meth c H locs cells slots Q (F0 m 54 ls []) := by
  intro n9
  induction n9 with
  | zero => intro n μ H locs ls hm hn hal hm9 hP hS hl; exact absurd hm9 (Nat.not_lt_zero _)
  | succ n9 ih =>
    intro n μ H locs ls hm hn hal hm9 hP hS hl
    subst hm
    have hqq : 723 ≤ q ∧ q < 752 := by (first | ((try clear hqq); (try clear hm9); (try clear hal); (try clear hn); (try clear hm); (try clear hexit95); (try clear ha); (try clear h260); (try clear hHH); (try clear hN); (try clear ht); (try clear hRs); (try clear hRc); (try clear hRl); (try clear hRf); omega) | omega)
    have hq9 : rowQ q := hq
    clear hq
    have hxm : (n + 1) * n1 = n * n1 + n1 := by rw [Int.add_mul, Int.one_mul]
    have hp0 : 0 ≤ n * n1 := Int.mul_nonneg (by (first | ((try clear hp0); (try clear hxm); (try clear hqq); (try clear hm9); (try clear hal); (try clear hm); (try clear hexit95); (try clear ha); (try clear h260); (try clear hHH); (try clear hN); (try clear hq); (try clear ht); (try clear hRs); (try clear hRc); (try clear hRl); (try clear hRf); omega) | omega)) (by (first | ((try clear hp0); (try clear hqq); (try clear hm9); (try clear hal); (try clear hn); (try clear hm); (try clear hexit95); (try clear h260); (try clear hHH); (try clear hN); (try clear hq); (try clear ht); (try clear hRs); (try clear hRc); (try clear hRl); (try clear hRf); omega) | omega))
    have hp1 : n * 1 ≤ n * n1 := Int.mul_le_mul_of_nonneg_left (by (first | ((try clear hp1); (try clear hp0); (try clear hqq); (try clear hm9); (try clear hal); (try clear hn); (try clear hm); (try clear hexit95); (try clear h260); (try clear hHH); (try clear hN); (try clear hq); (try clear ht); (try clear hRs); (try clear hRc); (try clear hRl); (try clear hRf); omega) | omega)) (by (first | ((try clear hp1); (try clear hp0); (try clear hxm); (try clear hqq); (try clear hm9); (try clear hal); (try clear hm); (try clear hexit95); (try clear ha); (try clear h260); (try clear hHH); (try clear hN); (try clear hq); (try clear ht); (try clear hRs); (try clear hRc); (try clear hRl); (try clear hRf); omega) | omega))
    rw [Int.mul_one] at hp1
    have hz : (a + (n * n1)).toNat = a.toNat + n.toNat * n1.toNat := by
      have hp : n * n1 = ((n.toNat * n1.toNat : Nat) : Int) := by rw [Int.natCast_mul, Int.toNat_of_nonneg (by (first | ((try clear hp); (try clear hz); (try clear hp1); (try clear hp0); (try clear hxm); (try clear hqq); (try clear hm9); (try clear hal); (try clear hm); (try clear hexit95); (try clear ha); (try clear h260); (try clear hHH); (try clear hN); (try clear hq); (try clear ht); (try clear hRs); (try clear hRc); (try clear hRl); (try clear hRf); omega) | omega)), Int.toNat_of_nonneg (by (first | ((try clear hp); (try clear hz); (try clear hp1); (try clear hp0); (try clear hqq); (try clear hm9); (try clear hal); (try clear hn); (try clear hm); (try clear hexit95); (try clear h260); (try clear hHH); (try clear hN); (try clear hq); (try clear ht); (try clear hRs); (try clear hRc); (try clear hRl); (try clear hRf); omega) | omega))]
      (first | ((try clear hz); (try clear hxm); (try clear hqq); (try clear hm9); (try clear hal); (try clear hm); (try clear hexit95); (try clear h260); (try clear hHH); (try clear hN); (try clear hq); (try clear ht); (try clear hRs); (try clear hRc); (try clear hRl); (try clear hRf); omega) | omega)
    refine lv_iload hx hb dX10_foldsOne_54 (lv_at hl 1 rfl) ?_
    refine lv_iload hx hb dX10_foldsOne_56 (lv_at hl 0 rfl) ?_
    refine lv_iconst (v := iZ 1) hx hb dX10_foldsOne_58 rfl ?_
    refine lv_iadd hx hb dX10_foldsOne_59 ?_
    refine lv_topi (fun x9 ex9 => ?_)
    obtain rfl : x9 = iZ (n + 1) := ex9.trans (iZ_add _ _)
    refine lv_iload hx hb dX10_foldsOne_60 (lv_at hl 2 rfl) ?_
    refine lv_imul hx hb dX10_foldsOne_62 ?_
    refine lv_topi (fun x9 ex9 => ?_)
    obtain rfl : x9 = iZ ((n + 1) * n1) := ex9.trans (iZ_mul _ _)
    refine lv_iadd hx hb dX10_foldsOne_63 ?_
    refine lv_topi (fun x9 ex9 => ?_)
    obtain rfl : x9 = iZ (a + ((n + 1) * n1)) := ex9.trans (iZ_add _ _)
    refine lv_iload_n hx hb dX10_foldsOne_64 rfl (lv_at hl 4 rfl) ?_
    refine fz_icmp_gt (tgt := 95) (by constructor <;> (first | ((try clear ex9); (try clear hz); (try clear hp0); (try clear hqq); (try clear hm9); (try clear hal); (try clear hm); (try clear hexit95); (try clear hHH); (try clear hN); (try clear hq); (try clear ht); (try clear hRs); (try clear hRc); (try clear hRl); (try clear hRf); omega) | omega)) (by constructor <;> (first | ((try clear ex9); (try clear hz); (try clear hp1); (try clear hp0); (try clear hxm); (try clear hqq); (try clear hm9); (try clear hal); (try clear hn); (try clear hm); (try clear hexit95); (try clear ha); (try clear hHH); (try clear hN); (try clear hq); (try clear ht); (try clear hRs); (try clear hRc); (try clear hRl); (try clear hRf); omega) | omega)) hx hb dX10_foldsOne_65 (by decide) (fun c65_ => ?_) (fun c65_ => ?_)
    · exact hexit95 (n) μ H locs ls (by rfl) (by (first | ((try clear c65_); (try clear ex9); (try clear hz); (try clear hp1); (try clear hp0); (try clear hxm); (try clear hqq); (try clear hm9); (try clear hal); (try clear hm); (try clear hexit95); (try clear ha); (try clear h260); (try clear hHH); (try clear hN); (try clear hq); (try clear ht); (try clear hRs); (try clear hRc); (try clear hRl); (try clear hRf); omega) | omega)) (by exact hal) (by
                    first
                      | (have c9 := c86_
                         refine Or.inr (fun h9 => ?_)
                         rcases h? with ⟨h, _⟩ | ⟨_, h⟩
                         · omega
                         · rw [hz] at h
                           exact h (fun m hm => h9 m (by omega)))
                      | exact Or.inl (by (first | ((try clear Or); (try clear ex9); (try clear hz); (try clear hp1); (try clear hp0); (try clear hxm); (try clear hqq); (try clear hm9); (try clear hal); (try clear hn); (try clear hm); (try clear hexit95); (try clear ha); (try clear h260); (try clear hHH); (try clear hN); (try clear hq); (try clear ht); (try clear hRs); (try clear hRc); (try clear hRl); (try clear hRf); omega) | omega))) hP hS (lv_sub hl [0, 1, 2, 3, 4, 5, 6] rfl)
    · refine lv_aload_n hx hb dX10_foldsOne_68 rfl (lv_at hl 6 rfl) ?_
      refine lv_iload_n hx hb dX10_foldsOne_69 rfl (lv_at hl 5 rfl) ?_
      refine lv_aload_n hx hb dX10_foldsOne_70 rfl (lv_at hl 3 rfl) ?_
      refine lv_iload hx hb dX10_foldsOne_71 (lv_at hl 1 rfl) ?_
      refine lv_iload hx hb dX10_foldsOne_73 (lv_at hl 1 rfl) ?_
      refine lv_iload hx hb dX10_foldsOne_75 (lv_at hl 0 rfl) ?_
      refine lv_iload hx hb dX10_foldsOne_77 (lv_at hl 2 rfl) ?_
      refine lv_imul hx hb dX10_foldsOne_79 ?_
      refine lv_topi (fun x9 ex9 => ?_)
      obtain rfl : x9 = iZ (n * n1) := ex9.trans (iZ_mul _ _)
      refine lv_iadd hx hb dX10_foldsOne_80 ?_
      refine lv_topi (fun x9 ex9 => ?_)
      obtain rfl : x9 = iZ (a + (n * n1)) := ex9.trans (iZ_add _ _)
      refine lv_iload hx hb dX10_foldsOne_81 (lv_at hl 2 rfl) ?_
      refine va_calli (va_runV (As := [.int (iZ (t)), .ref (h0 + q), .int (iZ (a)), .int (iZ (a + (n * n1))), .int (iZ (n1))]) (rest := []) ⟨hx, hb, hml, hown, hts⟩ (m_areRowsAlike l dC dI cI cZ cII cIII h0 H.size μ (t) (q) (a) (a + (n * n1)) (n1) (w) (by first | assumption | omega | exact ⟨by omega, by omega⟩) (by exact hq9) (by first | assumption | omega | exact ⟨by omega, by omega⟩) (by first | assumption | omega | exact ⟨by omega, by omega⟩) (by first | assumption | omega | exact ⟨by omega, by omega⟩) (by first | assumption | omega | exact ⟨by omega, by omega⟩) (by first | assumption | omega | exact ⟨by omega, by omega⟩) (by first | assumption | omega | exact ⟨by omega, by omega⟩) (by first | assumption | (first | ((try clear ex9); (try clear hz); (try clear hp0); (try clear hqq); (try clear hm9); (try clear hal); (try clear hm); (try clear hexit95); (try clear h260); (try clear hHH); (try clear hN); (try clear hq); (try clear ht); (try clear hRs); (try clear hRc); (try clear hRl); (try clear hRf); omega) | omega) | exact ⟨by omega, by omega⟩)) (cwV 5 hts (gV_G k1393 k1395 ks_yX10_areRowsAlike k13 k1396) rfl rfl rfl (by decide +kernel) ⟨by show 24 + 1 ≤ _; (first | ((try clear ex9); (try clear c65_); (try clear hz); (try clear hp1); (try clear hp0); (try clear hxm); (try clear hqq); (try clear hm9); (try clear hal); (try clear hn); (try clear hm); (try clear hexit95); (try clear ha); (try clear h260); (try clear hHH); (try clear hN); (try clear hq); (try clear ht); (try clear hRs); (try clear hRc); (try clear hRl); omega) | omega), by show 8 + (7 + 11) + (727) ≤ _; (first | ((try clear ex9); (try clear c65_); (try clear hz); (try clear hp1); (try clear hp0); (try clear hxm); (try clear hqq); (try clear hm9); (try clear hal); (try clear hn); (try clear hm); (try clear hexit95); (try clear ha); (try clear h260); (try clear hHH); (try clear hN); (try clear hq); (try clear ht); (try clear hRs); (try clear hRc); (try clear hRf); omega) | omega)⟩) ⟨fun a U g mk q => by obtain ⟨q0, q1, qP, qK⟩ := q; exact ⟨q0, q1, qP, va_K.moved (u := U) (U := U.calling g mk a) (Vm.Alike.refl U.vm) qK⟩, va_recv hK hP (ci := 10) (q0 := 0) rfl ((fw_get (by decide)).trans (by rw [mE_obj]; rfl)), fun U hU hW => ⟨rfl, by rw [hU], by rw [hU]; exact hP, va_K.moved hW.alike hK⟩⟩ rfl rfl hl.1 rfl (lv_room (Nat.le_of_ble_eq_true rfl)) dX10_foldsOne_83 ⟨hRc, hRs⟩) hS (fun q _ h => fA_le hS.1 q h) (fA_le hS.1) (fun r9 u9 t9 H1 locs ht9 hvm9 hw9 hB9 hz9 hk9 hS => ?_)
      obtain ⟨μ1, r2⟩ := u9
      obtain ⟨hP, -⟩ := hB9
      rw [ht9] at hP
      generalize H1 = H at hP hS ⊢
      obtain ⟨e9, hw9⟩ := hw9
      have e9 : r9 = iZ r2 := e9
      subst e9
      simp only at hP hw9
      have hμ1 := hw9; clear hw9
      rw [hμ1.1] at hP; have hμ1 := hμ1.2
      refine fz_if_eq (tgt := 95) (by constructor <;> (first | ((try clear μ1); (try clear hz9); (try clear ex9); (try clear c65_); (try clear hz); (try clear hp1); (try clear hp0); (try clear hxm); (try clear hqq); (try clear hm9); (try clear hal); (try clear hn); (try clear hm); (try clear hexit95); (try clear ha); (try clear h260); (try clear hHH); (try clear hN); (try clear hq); (try clear ht); (try clear hRs); (try clear hRc); (try clear hRl); (try clear hRf); omega) | omega)) hx hb dX10_foldsOne_86 (by decide) (fun c86_ => ?_) (fun c86_ => ?_)
      · exact hexit95 (n) μ H locs ls (by rfl) (by (first | ((try clear c86_); (try clear hμ1); (try clear r2); (try clear μ1); (try clear hz9); (try clear ex9); (try clear c65_); (try clear hz); (try clear hp1); (try clear hp0); (try clear hxm); (try clear hqq); (try clear hm9); (try clear hal); (try clear hm); (try clear hexit95); (try clear ha); (try clear h260); (try clear hHH); (try clear hN); (try clear hq); (try clear ht); (try clear hRs); (try clear hRc); (try clear hRl); (try clear hRf); omega) | omega)) (by exact hal) (by
                        first
                          | (have c9 := c86_
                             refine Or.inr (fun h9 => ?_)
                             rcases hμ1 with ⟨h, _⟩ | ⟨_, h⟩
                             · (first | ((try clear h9); (try clear c9); (try clear hμ1); (try clear μ1); (try clear hz9); (try clear ex9); (try clear c65_); (try clear hz); (try clear hp1); (try clear hp0); (try clear hxm); (try clear hqq); (try clear hm9); (try clear hal); (try clear hn); (try clear hm); (try clear hexit95); (try clear ha); (try clear h260); (try clear hHH); (try clear hN); (try clear hq); (try clear ht); (try clear hRs); (try clear hRc); (try clear hRl); (try clear hRf); omega) | omega)
                             · rw [hz] at h
                               exact h (fun m hm => h9 m (by (first | ((try clear h); (try clear h9); (try clear c86_); (try clear c9); (try clear hμ1); (try clear μ1); (try clear hz9); (try clear ex9); (try clear c65_); (try clear hz); (try clear hp1); (try clear hp0); (try clear hqq); (try clear hm9); (try clear hal); (try clear hn); (try clear hexit95); (try clear h260); (try clear hHH); (try clear hN); (try clear hq); (try clear ht); (try clear hRs); (try clear hRc); (try clear hRl); (try clear hRf); omega) | omega))))
                          | exact Or.inl (by omega)) hP hS (lv_sub hl [0, 1, 2, 3, 4, 5, 6] rfl)
      · refine lv_iinc (v := iZ (n + 1)) (lv' := [(6, .int (iZ (n + 1))), (5, .int (iZ (a))), (4, .int (iZ (n1))), (3, .ref (h0 + q)), (2, .int (iZ (m9))), (1, .int (iZ (t))), (0, .ref h0)]) hx hb dX10_foldsOne_89 hl (k := 0) rfl (iZ_add _ _) (by decide) rfl (fun ls hl => ?_)
        refine lv_goto (tgt := 54) hx hb dX10_foldsOne_92 (by decide) ?_
        exact ih (n + 1) μ H locs ls (by rfl) (by rw [hxm]; (first | ((try clear c86_); (try clear hμ1); (try clear r2); (try clear μ1); (try clear hz9); (try clear ex9); (try clear hz); (try clear hp1); (try clear hp0); (try clear hqq); (try clear hm9); (try clear hal); (try clear hm); (try clear hexit95); (try clear ha); (try clear h260); (try clear hHH); (try clear hN); (try clear hq); (try clear ht); (try clear hRs); (try clear hRc); (try clear hRl); (try clear hRf); omega) | omega)) (by
                        intro e9 m9_ h1 h2 h3
                        by_cases h4 : e9 < n.toNat
                        · exact hal e9 m9_ h1 h4 h3
                        · obtain rfl : e9 = n.toNat := by (first | ((try clear h3); (try clear h1); (try clear c86_); (try clear hμ1); (try clear r2); (try clear μ1); (try clear hz9); (try clear ex9); (try clear c65_); (try clear hz); (try clear hp1); (try clear hp0); (try clear hqq); (try clear hm9); (try clear hal); (try clear hm); (try clear hexit95); (try clear h260); (try clear hHH); (try clear hN); (try clear hq); (try clear ht); (try clear hRs); (try clear hRc); (try clear hRl); (try clear hRf); omega) | omega)
                          rcases hμ1 with ⟨_, h⟩ | ⟨h, _⟩
                          · have h5 := h m9_ (by (first | ((try clear h5); (try clear h); (try clear h4); (try clear h2); (try clear h1); (try clear c86_); (try clear hμ1); (try clear μ1); (try clear hz9); (try clear ex9); (try clear c65_); (try clear hz); (try clear hp1); (try clear hp0); (try clear hqq); (try clear hm9); (try clear hal); (try clear hm); (try clear hexit95); (try clear h260); (try clear hHH); (try clear hN); (try clear hq); (try clear ht); (try clear hRs); (try clear hRc); (try clear hRl); (try clear hRf); omega) | omega))
                            rw [hz] at h5
                            exact h5
                          · (first | ((try clear h4); (try clear h3); (try clear h2); (try clear h1); (try clear hμ1); (try clear μ1); (try clear hz9); (try clear ex9); (try clear c65_); (try clear hz); (try clear hp1); (try clear hp0); (try clear hqq); (try clear hm9); (try clear hal); (try clear hm); (try clear hexit95); (try clear h260); (try clear hHH); (try clear hN); (try clear hq); (try clear ht); (try clear hRs); (try clear hRc); (try clear hRl); (try clear hRf); omega) | omega)) (by (first | ((try clear h); (try clear h4); (try clear h3); (try clear h2); (try clear h1); (try clear m9_); (try clear hz9); (try clear ex9); (try clear hqq); (try clear hal); (try clear hm); (try clear hexit95); (try clear hHH); (try clear hN); (try clear hq); (try clear ht); (try clear hRs); (try clear hRc); (try clear hRl); (try clear hRf); omega) | omega)) hP hS (lv_sub hl [0, 1, 2, 3, 4, 5, 6] rfl)

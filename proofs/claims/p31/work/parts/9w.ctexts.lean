set_option maxRecDepth 100000 in
theorem k698 : (Cond.methodLink "PageSkeleton$Texts" (51 : Nat) ({ cls := "PageSkeleton$Texts", name := "letterAt", desc := "(I)I" } : MethodName)) ∈ wsG := wsG_a3 218 rfl rfl
set_option maxRecDepth 100000 in
theorem k700 : (Cond.instanceMethod ({ cls := "PageSkeleton$Texts", name := "letterAt", desc := "(I)I" } : MethodName)) ∈ wsG := wsG_a3 220 rfl rfl
set_option maxRecDepth 100000 in
theorem k701 : (Cond.code ({ cls := "PageSkeleton$Texts", name := "letterAt", desc := "(I)I" } : MethodName) prog_7_method_7_code (2 : Nat) (Option.some FieldType.int)) ∈ wsG := wsG_a3 221 rfl rfl
set_option maxRecDepth 100000 in
theorem k702 : (Cond.methodLink "PageSkeleton$Texts" (41 : Nat) ({ cls := "PageSkeleton$Texts", name := "faulty", desc := "(II)I" } : MethodName)) ∈ wsG := wsG_a3 222 rfl rfl
set_option maxRecDepth 100000 in
theorem k704 : (Cond.instanceMethod ({ cls := "PageSkeleton$Texts", name := "faulty", desc := "(II)I" } : MethodName)) ∈ wsG := wsG_a3 224 rfl rfl
set_option maxRecDepth 100000 in
theorem k705 : (Cond.code ({ cls := "PageSkeleton$Texts", name := "faulty", desc := "(II)I" } : MethodName) prog_7_method_9_code (3 : Nat) (Option.some FieldType.int)) ∈ wsG := wsG_a3 225 rfl rfl
set_option maxRecDepth 100000 in
theorem ks_yX5_letterAt : Cond.selects RX5 yX5_letterAt yX5_letterAt ∈ wsG := wsG_p 18 rfl rfl
set_option maxRecDepth 100000 in
theorem ks_yX5_faulty : Cond.selects RX5 yX5_faulty yX5_faulty ∈ wsG := wsG_p 19 rfl rfl
theorem dX5_faulty_0 : decode cX5_faulty 0 = .ok (.aload_n 0, 1) := by decide +kernel
theorem dX5_faulty_1 : decode cX5_faulty 1 = .ok (.iload_n 2, 1) := by decide +kernel
theorem dX5_faulty_2 : decode cX5_faulty 2 = .ok (.putfield 31, 3) := by decide +kernel
theorem dX5_faulty_5 : decode cX5_faulty 5 = .ok (.iload_n 1, 1) := by decide +kernel
theorem dX5_faulty_6 : decode cX5_faulty 6 = .ok (.ireturn, 1) := by decide +kernel
theorem dX5_keep_0 : decode cX5_keep 0 = .ok (.aload_n 0, 1) := by decide +kernel
theorem dX5_keep_1 : decode cX5_keep 1 = .ok (.getfield 28, 3) := by decide +kernel
theorem dX5_keep_4 : decode cX5_keep 4 = .ok (.bipush 60, 2) := by decide +kernel
theorem dX5_keep_6 : decode cX5_keep 6 = .ok (.if_icmp .lt 10, 3) := by decide +kernel
theorem dX5_keep_9 : decode cX5_keep 9 = .ok (.aload_n 0, 1) := by decide +kernel
theorem dX5_keep_10 : decode cX5_keep 10 = .ok (.iconst 2, 1) := by decide +kernel
theorem dX5_keep_11 : decode cX5_keep 11 = .ok (.iload_n 2, 1) := by decide +kernel
theorem dX5_keep_12 : decode cX5_keep 12 = .ok (.invokevirtual 41, 3) := by decide +kernel
theorem dX5_keep_15 : decode cX5_keep 15 = .ok (.ireturn, 1) := by decide +kernel
theorem dX5_keep_16 : decode cX5_keep 16 = .ok (.iconst 0, 1) := by decide +kernel
theorem dX5_keep_17 : decode cX5_keep 17 = .ok (.istore_n 3, 1) := by decide +kernel
theorem dX5_keep_18 : decode cX5_keep 18 = .ok (.iload_n 3, 1) := by decide +kernel
theorem dX5_keep_19 : decode cX5_keep 19 = .ok (.aload_n 0, 1) := by decide +kernel
theorem dX5_keep_20 : decode cX5_keep 20 = .ok (.getfield 22, 3) := by decide +kernel
theorem dX5_keep_23 : decode cX5_keep 23 = .ok (.if_icmp .ge 19, 3) := by decide +kernel
theorem dX5_keep_26 : decode cX5_keep 26 = .ok (.aload_n 0, 1) := by decide +kernel
theorem dX5_keep_27 : decode cX5_keep 27 = .ok (.getfield 19, 3) := by decide +kernel
theorem dX5_keep_30 : decode cX5_keep 30 = .ok (.iload_n 3, 1) := by decide +kernel
theorem dX5_keep_31 : decode cX5_keep 31 = .ok (.iaload, 1) := by decide +kernel
theorem dX5_keep_32 : decode cX5_keep 32 = .ok (.iload_n 1, 1) := by decide +kernel
theorem dX5_keep_33 : decode cX5_keep 33 = .ok (.if_icmp .eq 9, 3) := by decide +kernel
theorem dX5_keep_36 : decode cX5_keep 36 = .ok (.iinc 3 1, 3) := by decide +kernel
theorem dX5_keep_39 : decode cX5_keep 39 = .ok (.goto (-21), 3) := by decide +kernel
theorem dX5_keep_42 : decode cX5_keep 42 = .ok (.iload_n 3, 1) := by decide +kernel
theorem dX5_keep_43 : decode cX5_keep 43 = .ok (.sipush 200, 3) := by decide +kernel
theorem dX5_keep_46 : decode cX5_keep 46 = .ok (.if_icmp .lt 10, 3) := by decide +kernel
theorem dX5_keep_49 : decode cX5_keep 49 = .ok (.aload_n 0, 1) := by decide +kernel
theorem dX5_keep_50 : decode cX5_keep 50 = .ok (.iconst 2, 1) := by decide +kernel
theorem dX5_keep_51 : decode cX5_keep 51 = .ok (.iload_n 2, 1) := by decide +kernel
theorem dX5_keep_52 : decode cX5_keep 52 = .ok (.invokevirtual 41, 3) := by decide +kernel
theorem dX5_keep_55 : decode cX5_keep 55 = .ok (.ireturn, 1) := by decide +kernel
theorem dX5_keep_56 : decode cX5_keep 56 = .ok (.iload_n 3, 1) := by decide +kernel
theorem dX5_keep_57 : decode cX5_keep 57 = .ok (.aload_n 0, 1) := by decide +kernel
theorem dX5_keep_58 : decode cX5_keep 58 = .ok (.getfield 22, 3) := by decide +kernel
theorem dX5_keep_61 : decode cX5_keep 61 = .ok (.if_icmp .ne 20, 3) := by decide +kernel
theorem dX5_keep_64 : decode cX5_keep 64 = .ok (.aload_n 0, 1) := by decide +kernel
theorem dX5_keep_65 : decode cX5_keep 65 = .ok (.getfield 19, 3) := by decide +kernel
theorem dX5_keep_68 : decode cX5_keep 68 = .ok (.iload_n 3, 1) := by decide +kernel
theorem dX5_keep_69 : decode cX5_keep 69 = .ok (.iload_n 1, 1) := by decide +kernel
theorem dX5_keep_70 : decode cX5_keep 70 = .ok (.iastore, 1) := by decide +kernel
theorem dX5_keep_71 : decode cX5_keep 71 = .ok (.aload_n 0, 1) := by decide +kernel
theorem dX5_keep_72 : decode cX5_keep 72 = .ok (.dup, 1) := by decide +kernel
theorem dX5_keep_73 : decode cX5_keep 73 = .ok (.getfield 22, 3) := by decide +kernel
theorem dX5_keep_76 : decode cX5_keep 76 = .ok (.iconst 1, 1) := by decide +kernel
theorem dX5_keep_77 : decode cX5_keep 77 = .ok (.iadd, 1) := by decide +kernel
theorem dX5_keep_78 : decode cX5_keep 78 = .ok (.putfield 22, 3) := by decide +kernel
theorem dX5_keep_81 : decode cX5_keep 81 = .ok (.aload_n 0, 1) := by decide +kernel
theorem dX5_keep_82 : decode cX5_keep 82 = .ok (.getfield 25, 3) := by decide +kernel
theorem dX5_keep_85 : decode cX5_keep 85 = .ok (.aload_n 0, 1) := by decide +kernel
theorem dX5_keep_86 : decode cX5_keep 86 = .ok (.getfield 28, 3) := by decide +kernel
theorem dX5_keep_89 : decode cX5_keep 89 = .ok (.iload_n 3, 1) := by decide +kernel
theorem dX5_keep_90 : decode cX5_keep 90 = .ok (.iastore, 1) := by decide +kernel
theorem dX5_keep_91 : decode cX5_keep 91 = .ok (.aload_n 0, 1) := by decide +kernel
theorem dX5_keep_92 : decode cX5_keep 92 = .ok (.dup, 1) := by decide +kernel
theorem dX5_keep_93 : decode cX5_keep 93 = .ok (.getfield 28, 3) := by decide +kernel
theorem dX5_keep_96 : decode cX5_keep 96 = .ok (.iconst 1, 1) := by decide +kernel
theorem dX5_keep_97 : decode cX5_keep 97 = .ok (.iadd, 1) := by decide +kernel
theorem dX5_keep_98 : decode cX5_keep 98 = .ok (.putfield 28, 3) := by decide +kernel
theorem dX5_keep_101 : decode cX5_keep 101 = .ok (.iconst 0, 1) := by decide +kernel
theorem dX5_keep_102 : decode cX5_keep 102 = .ok (.ireturn, 1) := by decide +kernel
theorem dX5_letterAt_0 : decode cX5_letterAt 0 = .ok (.aload_n 0, 1) := by decide +kernel
theorem dX5_letterAt_1 : decode cX5_letterAt 1 = .ok (.getfield 34, 3) := by decide +kernel
theorem dX5_letterAt_4 : decode cX5_letterAt 4 = .ok (.iload_n 1, 1) := by decide +kernel
theorem dX5_letterAt_5 : decode cX5_letterAt 5 = .ok (.if_icmp .ge 48, 3) := by decide +kernel
theorem dX5_letterAt_8 : decode cX5_letterAt 8 = .ok (.aload_n 0, 1) := by decide +kernel
theorem dX5_letterAt_9 : decode cX5_letterAt 9 = .ok (.getfield 9, 3) := by decide +kernel
theorem dX5_letterAt_12 : decode cX5_letterAt 12 = .ok (.aload_n 0, 1) := by decide +kernel
theorem dX5_letterAt_13 : decode cX5_letterAt 13 = .ok (.getfield 34, 3) := by decide +kernel
theorem dX5_letterAt_16 : decode cX5_letterAt 16 = .ok (.iaload, 1) := by decide +kernel
theorem dX5_letterAt_17 : decode cX5_letterAt 17 = .ok (.bipush 97, 2) := by decide +kernel
theorem dX5_letterAt_19 : decode cX5_letterAt 19 = .ok (.if_icmp .lt 34, 3) := by decide +kernel
theorem dX5_letterAt_22 : decode cX5_letterAt 22 = .ok (.aload_n 0, 1) := by decide +kernel
theorem dX5_letterAt_23 : decode cX5_letterAt 23 = .ok (.getfield 9, 3) := by decide +kernel
theorem dX5_letterAt_26 : decode cX5_letterAt 26 = .ok (.aload_n 0, 1) := by decide +kernel
theorem dX5_letterAt_27 : decode cX5_letterAt 27 = .ok (.getfield 34, 3) := by decide +kernel
theorem dX5_letterAt_30 : decode cX5_letterAt 30 = .ok (.iaload, 1) := by decide +kernel
theorem dX5_letterAt_31 : decode cX5_letterAt 31 = .ok (.bipush 122, 2) := by decide +kernel
theorem dX5_letterAt_33 : decode cX5_letterAt 33 = .ok (.if_icmp .gt 20, 3) := by decide +kernel
theorem dX5_letterAt_36 : decode cX5_letterAt 36 = .ok (.aload_n 0, 1) := by decide +kernel
theorem dX5_letterAt_37 : decode cX5_letterAt 37 = .ok (.getfield 9, 3) := by decide +kernel
theorem dX5_letterAt_40 : decode cX5_letterAt 40 = .ok (.aload_n 0, 1) := by decide +kernel
theorem dX5_letterAt_41 : decode cX5_letterAt 41 = .ok (.getfield 34, 3) := by decide +kernel
theorem dX5_letterAt_44 : decode cX5_letterAt 44 = .ok (.iaload, 1) := by decide +kernel
theorem dX5_letterAt_45 : decode cX5_letterAt 45 = .ok (.bipush 97, 2) := by decide +kernel
theorem dX5_letterAt_47 : decode cX5_letterAt 47 = .ok (.isub, 1) := by decide +kernel
theorem dX5_letterAt_48 : decode cX5_letterAt 48 = .ok (.iconst 1, 1) := by decide +kernel
theorem dX5_letterAt_49 : decode cX5_letterAt 49 = .ok (.iadd, 1) := by decide +kernel
theorem dX5_letterAt_50 : decode cX5_letterAt 50 = .ok (.goto 4, 3) := by decide +kernel
theorem dX5_letterAt_53 : decode cX5_letterAt 53 = .ok (.iconst 0, 1) := by decide +kernel
theorem dX5_letterAt_54 : decode cX5_letterAt 54 = .ok (.ireturn, 1) := by decide +kernel
theorem dX5_readName_0 : decode cX5_readName 0 = .ok (.iconst 0, 1) := by decide +kernel
theorem dX5_readName_1 : decode cX5_readName 1 = .ok (.istore_n 2, 1) := by decide +kernel
theorem dX5_readName_2 : decode cX5_readName 2 = .ok (.iconst 0, 1) := by decide +kernel
theorem dX5_readName_3 : decode cX5_readName 3 = .ok (.istore_n 3, 1) := by decide +kernel
theorem dX5_readName_4 : decode cX5_readName 4 = .ok (.iload_n 3, 1) := by decide +kernel
theorem dX5_readName_5 : decode cX5_readName 5 = .ok (.bipush 6, 2) := by decide +kernel
theorem dX5_readName_7 : decode cX5_readName 7 = .ok (.if_icmp .ge 38, 3) := by decide +kernel
theorem dX5_readName_10 : decode cX5_readName 10 = .ok (.aload_n 0, 1) := by decide +kernel
theorem dX5_readName_11 : decode cX5_readName 11 = .ok (.iload_n 1, 1) := by decide +kernel
theorem dX5_readName_12 : decode cX5_readName 12 = .ok (.invokevirtual 51, 3) := by decide +kernel
theorem dX5_readName_15 : decode cX5_readName 15 = .ok (.ifCond .eq 30, 3) := by decide +kernel
theorem dX5_readName_18 : decode cX5_readName 18 = .ok (.iload_n 2, 1) := by decide +kernel
theorem dX5_readName_19 : decode cX5_readName 19 = .ok (.bipush 27, 2) := by decide +kernel
theorem dX5_readName_21 : decode cX5_readName 21 = .ok (.imul, 1) := by decide +kernel
theorem dX5_readName_22 : decode cX5_readName 22 = .ok (.aload_n 0, 1) := by decide +kernel
theorem dX5_readName_23 : decode cX5_readName 23 = .ok (.iload_n 1, 1) := by decide +kernel
theorem dX5_readName_24 : decode cX5_readName 24 = .ok (.invokevirtual 51, 3) := by decide +kernel
theorem dX5_readName_27 : decode cX5_readName 27 = .ok (.iadd, 1) := by decide +kernel
theorem dX5_readName_28 : decode cX5_readName 28 = .ok (.istore_n 2, 1) := by decide +kernel
theorem dX5_readName_29 : decode cX5_readName 29 = .ok (.aload_n 0, 1) := by decide +kernel
theorem dX5_readName_30 : decode cX5_readName 30 = .ok (.dup, 1) := by decide +kernel
theorem dX5_readName_31 : decode cX5_readName 31 = .ok (.getfield 34, 3) := by decide +kernel
theorem dX5_readName_34 : decode cX5_readName 34 = .ok (.iconst 1, 1) := by decide +kernel
theorem dX5_readName_35 : decode cX5_readName 35 = .ok (.iadd, 1) := by decide +kernel
theorem dX5_readName_36 : decode cX5_readName 36 = .ok (.putfield 34, 3) := by decide +kernel
theorem dX5_readName_39 : decode cX5_readName 39 = .ok (.iinc 3 1, 3) := by decide +kernel
theorem dX5_readName_42 : decode cX5_readName 42 = .ok (.goto (-38), 3) := by decide +kernel
theorem dX5_readName_45 : decode cX5_readName 45 = .ok (.iload_n 2, 1) := by decide +kernel
theorem dX5_readName_46 : decode cX5_readName 46 = .ok (.ireturn, 1) := by decide +kernel
theorem dX5_readSort_0 : decode cX5_readSort 0 = .ok (.aload_n 0, 1) := by decide +kernel
theorem dX5_readSort_1 : decode cX5_readSort 1 = .ok (.getfield 9, 3) := by decide +kernel
theorem dX5_readSort_4 : decode cX5_readSort 4 = .ok (.aload_n 0, 1) := by decide +kernel
theorem dX5_readSort_5 : decode cX5_readSort 5 = .ok (.getfield 34, 3) := by decide +kernel
theorem dX5_readSort_8 : decode cX5_readSort 8 = .ok (.iaload, 1) := by decide +kernel
theorem dX5_readSort_9 : decode cX5_readSort 9 = .ok (.bipush 60, 2) := by decide +kernel
theorem dX5_readSort_11 : decode cX5_readSort 11 = .ok (.if_icmp .eq 5, 3) := by decide +kernel
theorem dX5_readSort_14 : decode cX5_readSort 14 = .ok (.iconst 2, 1) := by decide +kernel
theorem dX5_readSort_15 : decode cX5_readSort 15 = .ok (.ireturn, 1) := by decide +kernel
theorem dX5_readSort_16 : decode cX5_readSort 16 = .ok (.aload_n 0, 1) := by decide +kernel
theorem dX5_readSort_17 : decode cX5_readSort 17 = .ok (.dup, 1) := by decide +kernel
theorem dX5_readSort_18 : decode cX5_readSort 18 = .ok (.getfield 34, 3) := by decide +kernel
theorem dX5_readSort_21 : decode cX5_readSort 21 = .ok (.iconst 1, 1) := by decide +kernel
theorem dX5_readSort_22 : decode cX5_readSort 22 = .ok (.iadd, 1) := by decide +kernel
theorem dX5_readSort_23 : decode cX5_readSort 23 = .ok (.putfield 34, 3) := by decide +kernel
theorem dX5_readSort_26 : decode cX5_readSort 26 = .ok (.aload_n 0, 1) := by decide +kernel
theorem dX5_readSort_27 : decode cX5_readSort 27 = .ok (.getfield 34, 3) := by decide +kernel
theorem dX5_readSort_30 : decode cX5_readSort 30 = .ok (.iload_n 1, 1) := by decide +kernel
theorem dX5_readSort_31 : decode cX5_readSort 31 = .ok (.if_icmp .ge 29, 3) := by decide +kernel
theorem dX5_readSort_34 : decode cX5_readSort 34 = .ok (.aload_n 0, 1) := by decide +kernel
theorem dX5_readSort_35 : decode cX5_readSort 35 = .ok (.getfield 9, 3) := by decide +kernel
theorem dX5_readSort_38 : decode cX5_readSort 38 = .ok (.aload_n 0, 1) := by decide +kernel
theorem dX5_readSort_39 : decode cX5_readSort 39 = .ok (.getfield 34, 3) := by decide +kernel
theorem dX5_readSort_42 : decode cX5_readSort 42 = .ok (.iaload, 1) := by decide +kernel
theorem dX5_readSort_43 : decode cX5_readSort 43 = .ok (.bipush 47, 2) := by decide +kernel
theorem dX5_readSort_45 : decode cX5_readSort 45 = .ok (.if_icmp .ne 15, 3) := by decide +kernel
theorem dX5_readSort_48 : decode cX5_readSort 48 = .ok (.aload_n 0, 1) := by decide +kernel
theorem dX5_readSort_49 : decode cX5_readSort 49 = .ok (.dup, 1) := by decide +kernel
theorem dX5_readSort_50 : decode cX5_readSort 50 = .ok (.getfield 34, 3) := by decide +kernel
theorem dX5_readSort_53 : decode cX5_readSort 53 = .ok (.iconst 1, 1) := by decide +kernel
theorem dX5_readSort_54 : decode cX5_readSort 54 = .ok (.iadd, 1) := by decide +kernel
theorem dX5_readSort_55 : decode cX5_readSort 55 = .ok (.putfield 34, 3) := by decide +kernel
theorem dX5_readSort_58 : decode cX5_readSort 58 = .ok (.iconst 1, 1) := by decide +kernel
theorem dX5_readSort_59 : decode cX5_readSort 59 = .ok (.ireturn, 1) := by decide +kernel
theorem dX5_readSort_60 : decode cX5_readSort 60 = .ok (.iconst 0, 1) := by decide +kernel
theorem dX5_readSort_61 : decode cX5_readSort 61 = .ok (.ireturn, 1) := by decide +kernel
/-! the class reads texts -/
def bC (μ : va_M) (n k : Int) : Int := if n ≤ k then -1 else μ 2 k.toNat
theorem bC_lt {μ : va_M} {n k : Int} (h : k < n) : bC μ n k = μ 2 k.toNat := if_neg (by omega)
theorem bC_ge {μ : va_M} {n k : Int} (h : n ≤ k) : bC μ n k = -1 := if_pos h
theorem bC_fr {μ u : va_M} {n : Int} (h : ∀ y, u 2 y = μ 2 y) : bC u n = bC μ n := by
  funext k
  unfold bC
  rw [h]
def tpB (μ : va_M) : Prop := ∀ j, 0 ≤ μ 2 j ∧ μ 2 j ≤ 255
/-- the tokens known, as the class keeps them -/
def tabC (μ : va_M) (T : List Tk) : Prop := (μ 1 3 = T.length ∧ T.length ≤ 200) ∧ ∀ (k : Nat) (e : Tk), T[k]? = some e → (0 ≤ e.1 ∧ e.1 ≤ 2) ∧ (0 ≤ e.2.1 ∧ e.2.1 ≤ 387420488) ∧ μ 3 k = e.2.1 * 3 + e.1
/-- the tokens of the page that is read -/
def fndC (μ : va_M) (S : List Int) : Prop := (μ 1 5 = S.length ∧ S.length ≤ 60) ∧ ∀ (k : Nat) (e : Int), S[k]? = some e → (0 ≤ e ∧ e < μ 1 3) ∧ μ 4 k = e
theorem nval_b {b : Int → Int} {s : Int} : ∀ k : Nat, (∀ i : Nat, i < k → 97 ≤ b (s + i) ∧ b (s + i) ≤ 122) → 0 ≤ nval b s k ∧ nval b s k + 1 ≤ 27 ^ k ∧ (1 ≤ k → 1 ≤ nval b s k)
  | 0, _ => ⟨Int.le_refl _, by show (0 : Int) + 1 ≤ 27 ^ 0; decide, fun h => absurd h (by decide)⟩
  | k + 1, h => by
    have h1 := nval_b k (fun i hi => h i (by omega))
    have h2 := h k (by omega)
    rw [nval, Int.pow_succ]
    generalize (27 : Int) ^ k = p at h1 ⊢
    refine ⟨by omega, by omega, fun _ => by omega⟩
theorem nval_6 {b : Int → Int} {s : Int} {k : Nat} (hk : k ≤ 6) (h : ∀ i : Nat, i < k → 97 ≤ b (s + i) ∧ b (s + i) ≤ 122) : 0 ≤ nval b s k ∧ nval b s k ≤ 387420488 ∧ (1 ≤ k → 1 ≤ nval b s k) := by
  have h1 := nval_b k h
  refine ⟨h1.1, ?_, h1.2.2⟩
  have h2 : (27 : Int) ^ k ≤ 387420489 := by
    rcases (show k = 0 ∨ k = 1 ∨ k = 2 ∨ k = 3 ∨ k = 4 ∨ k = 5 ∨ k = 6 by (first | ((try clear h2); (try clear h1); (try clear h); omega) | omega)) with rfl | rfl | rfl | rfl | rfl | rfl | rfl <;> decide
  (first | ((try clear h); (try clear hk); omega) | omega)
theorem key_eq {q v q2 v2 : Int} (h1 : 0 ≤ q ∧ q ≤ 2) (h2 : 0 ≤ q2 ∧ q2 ≤ 2) : v * 3 + q = v2 * 3 + q2 ↔ q = q2 ∧ v = v2 := by omega
theorem tabC_in {μ : va_M} {T : List Tk} (h : tabC μ T) {k : Nat} (hk : (k : Int) < μ 1 3) : ∃ e : Tk, T[k]? = some e ∧ (0 ≤ e.1 ∧ e.1 ≤ 2) ∧ (0 ≤ e.2.1 ∧ e.2.1 ≤ 387420488) ∧ μ 3 k = e.2.1 * 3 + e.1 := by
  have hl : k < T.length := by have := h.1; omega
  have he := List.getElem?_eq_getElem hl
  exact ⟨_, he, h.2 k _ he⟩
theorem tabC_fr {μ u : va_M} {T : List Tk} (h : tabC μ T) (h1 : u 1 3 = μ 1 3) (h3 : ∀ y, u 3 y = μ 3 y) : tabC u T := ⟨by rw [h1]; exact h.1, fun k e he => by rw [h3]; exact h.2 k e he⟩
theorem fndC_fr {μ u : va_M} {S : List Int} (h : fndC μ S) (h1 : u 1 5 = μ 1 5) (h3 : μ 1 3 ≤ u 1 3) (h4 : ∀ y, u 4 y = μ 4 y) : fndC u S := ⟨by rw [h1]; exact h.1, fun k e he => by rw [h4]; have := h.2 k e he; exact ⟨by (first | ((try clear h4); (try clear h1); omega) | omega), this.2⟩⟩
/-- a new token -/
theorem tabC_new {μ u : va_M} {T : List Tk} (h : tabC μ T) (hl : T.length < 200) {q v : Int} {L : Nat} (hq : 0 ≤ q ∧ q ≤ 2) (hv : 0 ≤ v ∧ v ≤ 387420488) (h1 : u 1 3 = μ 1 3 + 1) (h3 : ∀ y, y ≠ (μ 1 3).toNat → u 3 y = μ 3 y) (h4 : u 3 (μ 1 3).toNat = v * 3 + q) : tabC u (T ++ [(q, v, L)]) := by
  have hm := h.1
  refine ⟨⟨by rw [List.length_append, List.length_singleton]; (first | ((try clear h4); (try clear h3); (try clear hq); omega) | omega), by rw [List.length_append, List.length_singleton]; (first | ((try clear h4); (try clear h3); (try clear h1); (try clear hq); omega) | omega)⟩, fun k e he => ?_⟩
  by_cases hk : k < T.length
  · rw [List.getElem?_append_left hk] at he
    rw [h3 k (by (first | ((try clear he); (try clear h4); (try clear h3); (try clear h1); (try clear hq); omega) | omega))]
    exact h.2 k e he
  · rw [List.getElem?_append_right (by (first | ((try clear he); (try clear h4); (try clear h3); (try clear h1); (try clear hq); omega) | omega))] at he
    have hk2 : k - T.length = 0 := by
      rcases Nat.eq_zero_or_pos (k - T.length) with h9 | h9
      · exact h9
      · rw [List.getElem?_eq_none (by rw [List.length_singleton]; (first | ((try clear hk2); (try clear hk); (try clear he); (try clear hm); (try clear h4); (try clear h3); (try clear h1); (try clear hq); omega) | omega))] at he
        cases he
    rw [hk2, List.getElem?_cons_zero] at he
    cases he
    rw [show k = (μ 1 3).toNat by (first | ((try clear he); (try clear h4); (try clear h3); (try clear h1); (try clear hq); omega) | omega), h4]
    exact ⟨hq, hv, rfl⟩
theorem fndC_add {μ u : va_M} {S : List Int} (h : fndC μ S) (hl : S.length < 60) {e : Int} (he9 : 0 ≤ e ∧ e < u 1 3) (h0 : μ 1 3 ≤ u 1 3) (h1 : u 1 5 = μ 1 5 + 1) (h3 : ∀ y, y ≠ (μ 1 5).toNat → u 4 y = μ 4 y) (h4 : u 4 (μ 1 5).toNat = e) : fndC u (S ++ [e]) := by
  have hm := h.1
  refine ⟨⟨by rw [List.length_append, List.length_singleton]; (first | ((try clear h4); (try clear h3); (try clear he9); omega) | omega), by rw [List.length_append, List.length_singleton]; (first | ((try clear h4); (try clear h3); (try clear h1); (try clear he9); omega) | omega)⟩, fun k x he => ?_⟩
  by_cases hk : k < S.length
  · rw [List.getElem?_append_left hk] at he
    rw [h3 k (by (first | ((try clear he); (try clear x); (try clear h4); (try clear h3); (try clear h1); (try clear he9); omega) | omega))]
    have := h.2 k x he
    exact ⟨by (first | ((try clear hk); (try clear he); (try clear hm); (try clear h4); (try clear h3); (try clear h1); (try clear he9); omega) | omega), this.2⟩
  · rw [List.getElem?_append_right (by (first | ((try clear he); (try clear x); (try clear h4); (try clear h3); (try clear h1); (try clear he9); omega) | omega))] at he
    have hk2 : k - S.length = 0 := by
      rcases Nat.eq_zero_or_pos (k - S.length) with h9 | h9
      · exact h9
      · rw [List.getElem?_eq_none (by rw [List.length_singleton]; (first | ((try clear hk2); (try clear hk); (try clear he); (try clear x); (try clear hm); (try clear h4); (try clear h3); (try clear h1); (try clear he9); omega) | omega))] at he
        cases he
    rw [hk2, List.getElem?_cons_zero] at he
    cases he
    rw [show k = (μ 1 5).toNat by (first | ((try clear he); (try clear x); (try clear h4); (try clear h3); (try clear h1); (try clear he9); omega) | omega), h4]
    exact ⟨he9, rfl⟩
set_option maxHeartbeats 4000000 in
set_option maxRecDepth 100000 in
theorem s_XletterAt (l : Launch) (dC : Nat → ClassId) (dI : Nat → Nat → Nat) (cI cZ cII cIII : ClassId) (h0 sz : Nat) (μ : va_M) (n : Int) (htb : tpB μ) (hat : 0 ≤ μ 1 7 ∧ μ 1 7 ≤ n ∧ n ≤ 400) : Met l yX5_letterAt (Cond.code yX5_letterAt cX5_letterAt 2 (some .int) :: wsG) ({ frames := 1, cells := 0, slots := 0, locals := 14 } : Room) (va_Pc [.ref (h0 + 1), .int (iZ (n))] (fun U => U.heap.size = sz ∧ va_P (dC, dI) vwCl (fw (sE cI cZ cII cIII h0) h0 233 μ) U.heap ∧ va_K (dC, dI) vwCl (sT cI cZ cII cIII) U ∧ xM U)) (va_Qi (fun (r9 : Int32) (u : va_M × Int) => r9 = iZ u.2 ∧ (fun (u : va_M) (r : Int) => u = μ ∧ r = if 97 ≤ bC μ n (μ 1 7) ∧ bC μ n (μ 1 7) ≤ 122 then bC μ n (μ 1 7) - 96 else 0) u.1 u.2) (fun u t => va_P (dC, dI) vwCl (fw (sE cI cZ cII cIII h0) h0 233 u.1) t.heap ∧ va_K (dC, dI) vwCl (sT cI cZ cII cIII) t) (fA h0 233 sz)) 0 0 (fA h0 233 sz) := by
  refine Met.ofW (cc := cX5_letterAt) (maxL := 2) (ret := (some .int)) (by decide) rfl ?_
  intro p e s m args below meth c s₁ B hml hv
  obtain ⟨rfl, hsz, hP, hK, hM⟩ := hv
  have hx := B.exec
  have hb := B.bytes
  have hr := B.returns
  have hts : ∀ w ∈ wsG, w.before _ s = true := hG_of (atoms_spec (ws := (Cond.code yX5_letterAt cX5_letterAt 2 (some .int) :: wsG)) B.pre)
  have hown : s.vm.findClass RX5 = some m.cls := findClass_of_methodNamed B.named
  have hlocks := B.notSynchronized
  subst hsz
  have hS : va_S (fA h0 233 s.heap.size) s.heap s.heap [] := va_S.rf
  have hl := lv_entry ([.ref (h0 + 1), .int (iZ (n))]) (n := 2) (Nat.le_of_ble_eq_true rfl)
  rw [lg_entry_eq]
  generalize (lg_sl ([.ref (h0 + 1), .int (iZ (n))]) ++ List.replicate (2 - (lg_sl ([.ref (h0 + 1), .int (iZ (n))])).length) Slot.unset).toArray = ls at hl ⊢
  have hl : lv_has ls 2 [(0, .ref (h0 + 1)), (1, .int (iZ (n)))] := hl
  have hb1 := htb (μ 1 7).toNat
  refine lv_aload_n hx hb dX5_letterAt_0 rfl (lv_at hl 0 rfl) ?_
  refine fz_get (D := (dC, dI)) (ci := 5) (v := .int (iZ (μ 1 7))) (C := RX5) (T := TX5) (N := 8) hx hb hts inG5 hown hK hP (k := 1) (by decide) (F := (sF1 h0)) sE_1 rfl 7 (by decide) (hts _ k47) (fun _ h9 => h9) rfl dX5_letterAt_1 ?_
  refine lv_iload_n hx hb dX5_letterAt_4 rfl (lv_at hl 1 rfl) ?_
  refine fz_icmp_ge (tgt := 53) (by constructor <;> (first | ((try clear hb1); (try clear hsz); (try clear s₁); omega) | omega)) (by constructor <;> (first | ((try clear hb1); (try clear hsz); (try clear s₁); omega) | omega)) hx hb dX5_letterAt_5 (by decide) (fun c5_ => ?_) (fun c5_ => ?_)
  · refine lv_iconst (v := iZ 0) hx hb dX5_letterAt_53 rfl ?_
    exact W.iret (v := iZ (0)) hx hb hr (fun t9 ht9 hW9 => ⟨⟨iZ (0), (μ, 0), rfl, ⟨rfl, (by
                dsimp only
                refine ⟨rfl, ?_⟩
                rw [bC_ge (by (first | ((try clear hb1); (try clear hsz); (try clear s₁); (try clear hat); omega) | omega)), if_neg (by (first | ((try clear c5_); (try clear hb1); (try clear hsz); (try clear s₁); (try clear hat); omega) | omega))])⟩, by rw [ht9]; exact hP, va_K.moved hW9.alike hK⟩, hS.F ht9⟩) hS.2.2 dX5_letterAt_54
  · have hbe := bC_lt (μ := μ) (n := n) (k := μ 1 7) (by (first | ((try clear hbe); (try clear hb1); (try clear hsz); (try clear s₁); (try clear hat); omega) | omega))
    refine lv_aload_n hx hb dX5_letterAt_8 rfl (lv_at hl 0 rfl) ?_
    refine fz_get (D := (dC, dI)) (ci := 5) (v := .ref (h0 + 2)) (C := RX5) (T := TX5) (N := 8) hx hb hts inG5 hown hK hP (k := 1) (by decide) (F := (sF1 h0)) sE_1 rfl 0 (by decide) (hts _ k35) (fun _ h9 => h9) rfl dX5_letterAt_9 ?_
    refine lv_aload_n hx hb dX5_letterAt_12 rfl (lv_at hl 0 rfl) ?_
    refine fz_get (D := (dC, dI)) (ci := 5) (v := .int (iZ (μ 1 7))) (C := RX5) (T := TX5) (N := 8) hx hb hts inG5 hown hK hP (k := 1) (by decide) (F := (sF1 h0)) sE_1 rfl 7 (by decide) (hts _ k47) (fun _ h9 => h9) rfl dX5_letterAt_13 ?_
    refine fz_ld (k := 2) (n := 400) hx hb hK hP 0 (by decide) sE_2 rfl ⟨by (first | ((try clear hbe); (try clear c5_); (try clear hb1); (try clear hsz); (try clear s₁); omega) | omega), by (first | ((try clear hbe); (try clear hb1); (try clear hsz); (try clear s₁); omega) | omega)⟩ (by decide) dX5_letterAt_16 ?_
    refine lv_bipush (v := iZ 97) hx hb dX5_letterAt_17 rfl ?_
    refine fz_icmp_lt (tgt := 53) (by constructor <;> (first | ((try clear c5_); (try clear hsz); (try clear s₁); (try clear hat); omega) | omega)) (by decide) hx hb dX5_letterAt_19 (by decide) (fun c19_ => ?_) (fun c19_ => ?_)
    · refine lv_iconst (v := iZ 0) hx hb dX5_letterAt_53 rfl ?_
      exact W.iret (v := iZ (0)) hx hb hr (fun t9 ht9 hW9 => ⟨⟨iZ (0), (μ, 0), rfl, ⟨rfl, (by
                    dsimp only
                    refine ⟨rfl, ?_⟩
                    rw [hbe, if_neg (by (first | ((try clear c5_); (try clear hsz); (try clear s₁); (try clear hat); omega) | omega))])⟩, by rw [ht9]; exact hP, va_K.moved hW9.alike hK⟩, hS.F ht9⟩) hS.2.2 dX5_letterAt_54
    · refine lv_aload_n hx hb dX5_letterAt_22 rfl (lv_at hl 0 rfl) ?_
      refine fz_get (D := (dC, dI)) (ci := 5) (v := .ref (h0 + 2)) (C := RX5) (T := TX5) (N := 8) hx hb hts inG5 hown hK hP (k := 1) (by decide) (F := (sF1 h0)) sE_1 rfl 0 (by decide) (hts _ k35) (fun _ h9 => h9) rfl dX5_letterAt_23 ?_
      refine lv_aload_n hx hb dX5_letterAt_26 rfl (lv_at hl 0 rfl) ?_
      refine fz_get (D := (dC, dI)) (ci := 5) (v := .int (iZ (μ 1 7))) (C := RX5) (T := TX5) (N := 8) hx hb hts inG5 hown hK hP (k := 1) (by decide) (F := (sF1 h0)) sE_1 rfl 7 (by decide) (hts _ k47) (fun _ h9 => h9) rfl dX5_letterAt_27 ?_
      refine fz_ld (k := 2) (n := 400) hx hb hK hP 0 (by decide) sE_2 rfl ⟨by (first | ((try clear c19_); (try clear hbe); (try clear c5_); (try clear hb1); (try clear hsz); (try clear s₁); omega) | omega), by (first | ((try clear c19_); (try clear hbe); (try clear hb1); (try clear hsz); (try clear s₁); omega) | omega)⟩ (by decide) dX5_letterAt_30 ?_
      refine lv_bipush (v := iZ 122) hx hb dX5_letterAt_31 rfl ?_
      refine fz_icmp_gt (tgt := 53) (by constructor <;> (first | ((try clear c5_); (try clear hsz); (try clear s₁); (try clear hat); omega) | omega)) (by decide) hx hb dX5_letterAt_33 (by decide) (fun c33_ => ?_) (fun c33_ => ?_)
      · refine lv_iconst (v := iZ 0) hx hb dX5_letterAt_53 rfl ?_
        exact W.iret (v := iZ (0)) hx hb hr (fun t9 ht9 hW9 => ⟨⟨iZ (0), (μ, 0), rfl, ⟨rfl, (by
                        dsimp only
                        refine ⟨rfl, ?_⟩
                        rw [hbe, if_neg (by (first | ((try clear c5_); (try clear hsz); (try clear s₁); (try clear hat); omega) | omega))])⟩, by rw [ht9]; exact hP, va_K.moved hW9.alike hK⟩, hS.F ht9⟩) hS.2.2 dX5_letterAt_54
      · refine lv_aload_n hx hb dX5_letterAt_36 rfl (lv_at hl 0 rfl) ?_
        refine fz_get (D := (dC, dI)) (ci := 5) (v := .ref (h0 + 2)) (C := RX5) (T := TX5) (N := 8) hx hb hts inG5 hown hK hP (k := 1) (by decide) (F := (sF1 h0)) sE_1 rfl 0 (by decide) (hts _ k35) (fun _ h9 => h9) rfl dX5_letterAt_37 ?_
        refine lv_aload_n hx hb dX5_letterAt_40 rfl (lv_at hl 0 rfl) ?_
        refine fz_get (D := (dC, dI)) (ci := 5) (v := .int (iZ (μ 1 7))) (C := RX5) (T := TX5) (N := 8) hx hb hts inG5 hown hK hP (k := 1) (by decide) (F := (sF1 h0)) sE_1 rfl 7 (by decide) (hts _ k47) (fun _ h9 => h9) rfl dX5_letterAt_41 ?_
        refine fz_ld (k := 2) (n := 400) hx hb hK hP 0 (by decide) sE_2 rfl ⟨by (first | ((try clear c33_); (try clear c19_); (try clear hbe); (try clear c5_); (try clear hb1); (try clear hsz); (try clear s₁); omega) | omega), by (first | ((try clear c33_); (try clear c19_); (try clear hbe); (try clear hb1); (try clear hsz); (try clear s₁); omega) | omega)⟩ (by decide) dX5_letterAt_44 ?_
        refine lv_bipush (v := iZ 97) hx hb dX5_letterAt_45 rfl ?_
        refine lv_isub hx hb dX5_letterAt_47 ?_
        refine lv_topi (fun x9 ex9 => ?_)
        obtain rfl : x9 = iZ ((μ 2 (μ 1 7).toNat) - 97) := ex9.trans (iZ_sub _ _)
        refine lv_iconst (v := iZ 1) hx hb dX5_letterAt_48 rfl ?_
        refine lv_iadd hx hb dX5_letterAt_49 ?_
        refine lv_topi (fun x9 ex9 => ?_)
        obtain rfl : x9 = iZ (((μ 2 (μ 1 7).toNat) - 97) + 1) := ex9.trans (iZ_add _ _)
        refine lv_goto (tgt := 54) hx hb dX5_letterAt_50 (by decide) ?_
        exact W.iret (v := iZ (((μ 2 (μ 1 7).toNat) - 97) + 1)) hx hb hr (fun t9 ht9 hW9 => ⟨⟨iZ (((μ 2 (μ 1 7).toNat) - 97) + 1), (μ, ((μ 2 (μ 1 7).toNat) - 97) + 1), rfl, ⟨rfl, (by
                        dsimp only
                        refine ⟨rfl, ?_⟩
                        rw [hbe, if_pos (by (first | ((try clear ex9); (try clear c5_); (try clear hsz); (try clear s₁); (try clear hat); omega) | omega))]; (first | ((try clear ex9); (try clear c33_); (try clear c19_); (try clear hbe); (try clear c5_); (try clear hb1); (try clear hsz); (try clear s₁); (try clear hat); omega) | omega))⟩, by rw [ht9]; exact hP, va_K.moved hW9.alike hK⟩, hS.F ht9⟩) hS.2.2 dX5_letterAt_54
set_option maxHeartbeats 4000000 in
set_option maxRecDepth 100000 in
theorem s_Xfaulty (l : Launch) (dC : Nat → ClassId) (dI : Nat → Nat → Nat) (cI cZ cII cIII : ClassId) (h0 sz : Nat) (μ : va_M) (sf : Int) (wh : Int)  : Met l yX5_faulty (Cond.code yX5_faulty cX5_faulty 3 (some .int) :: wsG) ({ frames := 1, cells := 0, slots := 0, locals := 14 } : Room) (va_Pc [.ref (h0 + 1), .int (iZ (sf)), .int (iZ (wh))] (fun U => U.heap.size = sz ∧ va_P (dC, dI) vwCl (fw (sE cI cZ cII cIII h0) h0 233 μ) U.heap ∧ va_K (dC, dI) vwCl (sT cI cZ cII cIII) U ∧ xM U)) (va_Qi (fun (r9 : Int32) (u : va_M × Int) => r9 = iZ u.2 ∧ (fun (u : va_M) (r : Int) => u = uz μ 1 6 wh ∧ r = sf) u.1 u.2) (fun u t => va_P (dC, dI) vwCl (fw (sE cI cZ cII cIII h0) h0 233 u.1) t.heap ∧ va_K (dC, dI) vwCl (sT cI cZ cII cIII) t) (fA h0 233 sz)) 0 0 (fA h0 233 sz) := by
  refine Met.ofW (cc := cX5_faulty) (maxL := 3) (ret := (some .int)) (by decide) rfl ?_
  intro p e s m args below meth c s₁ B hml hv
  obtain ⟨rfl, hsz, hP, hK, hM⟩ := hv
  have hx := B.exec
  have hb := B.bytes
  have hr := B.returns
  have hts : ∀ w ∈ wsG, w.before _ s = true := hG_of (atoms_spec (ws := (Cond.code yX5_faulty cX5_faulty 3 (some .int) :: wsG)) B.pre)
  have hown : s.vm.findClass RX5 = some m.cls := findClass_of_methodNamed B.named
  have hlocks := B.notSynchronized
  subst hsz
  have hS : va_S (fA h0 233 s.heap.size) s.heap s.heap [] := va_S.rf
  have hl := lv_entry ([.ref (h0 + 1), .int (iZ (sf)), .int (iZ (wh))]) (n := 3) (Nat.le_of_ble_eq_true rfl)
  rw [lg_entry_eq]
  generalize (lg_sl ([.ref (h0 + 1), .int (iZ (sf)), .int (iZ (wh))]) ++ List.replicate (3 - (lg_sl ([.ref (h0 + 1), .int (iZ (sf)), .int (iZ (wh))])).length) Slot.unset).toArray = ls at hl ⊢
  have hl : lv_has ls 3 [(0, .ref (h0 + 1)), (1, .int (iZ (sf))), (2, .int (iZ (wh)))] := hl
  refine lv_aload_n hx hb dX5_faulty_0 rfl (lv_at hl 0 rfl) ?_
  refine lv_iload_n hx hb dX5_faulty_1 rfl (lv_at hl 2 rfl) ?_
  refine fz_put (D := (dC, dI)) (ci := 5) (ty := .int) (z := wh) (C := RX5) (T := TX5) (N := 8) hx hb hts inG5 tyX5 tyX5_ok nmX5 hown hK hP fA_in hS (k := 1) (by decide) (F := (sF1 h0)) sE_1 rfl 6 (by decide) (hts _ k45) (fun _ h9 => h9) rfl (by decide +kernel) rfl rfl (fun _ => Nat.le_of_ble_eq_true rfl) (fun _ _ => rfl) dX5_faulty_2 (fun H locs hP hS => ?_)
  obtain ⟨μ1, eμ1⟩ : ∃ x : va_M, x = uz μ 1 6 (wh) := ⟨_, rfl⟩
  rw [← eμ1] at hP
  refine lv_iload_n hx hb dX5_faulty_5 rfl (lv_at hl 1 rfl) ?_
  exact W.iret (v := iZ (sf)) hx hb hr (fun t9 ht9 hW9 => ⟨⟨iZ (sf), (μ1, sf), rfl, ⟨rfl, (by
            dsimp only
            exact ⟨by rw [eμ1], rfl⟩)⟩, by rw [ht9]; exact hP, va_K.moved hW9.alike hK⟩, hS.F ht9⟩) hS.2.2 dX5_faulty_6
set_option maxHeartbeats 4000000 in
set_option maxRecDepth 100000 in
theorem s_XreadSort (l : Launch) (dC : Nat → ClassId) (dI : Nat → Nat → Nat) (cI cZ cII cIII : ClassId) (h0 sz : Nat) (μ : va_M) (n : Int) (htb : tpB μ) (hat : 0 ≤ μ 1 7 ∧ μ 1 7 < n ∧ n ≤ 400) : Met l yX5_readSort (Cond.code yX5_readSort cX5_readSort 2 (some .int) :: wsG) ({ frames := 1, cells := 0, slots := 0, locals := 14 } : Room) (va_Pc [.ref (h0 + 1), .int (iZ (n))] (fun U => U.heap.size = sz ∧ va_P (dC, dI) vwCl (fw (sE cI cZ cII cIII h0) h0 233 μ) U.heap ∧ va_K (dC, dI) vwCl (sT cI cZ cII cIII) U ∧ xM U)) (va_Qi (fun (r9 : Int32) (u : va_M × Int) => r9 = iZ u.2 ∧ (fun (u : va_M) (r : Int) => (bC μ n (μ 1 7) ≠ 60 → u = μ ∧ r = 2) ∧ (bC μ n (μ 1 7) = 60 → fr (fun x y => x = 1 ∧ y = 7) μ u ∧ r = tkS (bC μ n) (μ 1 7) ∧ u 1 7 = tkN (bC μ n) (μ 1 7) ∧ u 1 7 ≤ n)) u.1 u.2) (fun u t => va_P (dC, dI) vwCl (fw (sE cI cZ cII cIII h0) h0 233 u.1) t.heap ∧ va_K (dC, dI) vwCl (sT cI cZ cII cIII) t) (fA h0 233 sz)) 0 0 (fA h0 233 sz) := by
  refine Met.ofW (cc := cX5_readSort) (maxL := 2) (ret := (some .int)) (by decide) rfl ?_
  intro p e s m args below meth c s₁ B hml hv
  obtain ⟨rfl, hsz, hP, hK, hM⟩ := hv
  have hx := B.exec
  have hb := B.bytes
  have hr := B.returns
  have hts : ∀ w ∈ wsG, w.before _ s = true := hG_of (atoms_spec (ws := (Cond.code yX5_readSort cX5_readSort 2 (some .int) :: wsG)) B.pre)
  have hown : s.vm.findClass RX5 = some m.cls := findClass_of_methodNamed B.named
  have hlocks := B.notSynchronized
  subst hsz
  have hS : va_S (fA h0 233 s.heap.size) s.heap s.heap [] := va_S.rf
  have hl := lv_entry ([.ref (h0 + 1), .int (iZ (n))]) (n := 2) (Nat.le_of_ble_eq_true rfl)
  rw [lg_entry_eq]
  generalize (lg_sl ([.ref (h0 + 1), .int (iZ (n))]) ++ List.replicate (2 - (lg_sl ([.ref (h0 + 1), .int (iZ (n))])).length) Slot.unset).toArray = ls at hl ⊢
  have hl : lv_has ls 2 [(0, .ref (h0 + 1)), (1, .int (iZ (n)))] := hl
  have hb1 := htb (μ 1 7).toNat
  have hb2 := htb (μ 1 7 + 1).toNat
  have hbe := bC_lt (μ := μ) (n := n) (k := μ 1 7) (by (first | ((try clear hbe); (try clear hb2); (try clear hb1); (try clear hsz); (try clear s₁); omega) | omega))
  refine lv_aload_n hx hb dX5_readSort_0 rfl (lv_at hl 0 rfl) ?_
  refine fz_get (D := (dC, dI)) (ci := 5) (v := .ref (h0 + 2)) (C := RX5) (T := TX5) (N := 8) hx hb hts inG5 hown hK hP (k := 1) (by decide) (F := (sF1 h0)) sE_1 rfl 0 (by decide) (hts _ k35) (fun _ h9 => h9) rfl dX5_readSort_1 ?_
  refine lv_aload_n hx hb dX5_readSort_4 rfl (lv_at hl 0 rfl) ?_
  refine fz_get (D := (dC, dI)) (ci := 5) (v := .int (iZ (μ 1 7))) (C := RX5) (T := TX5) (N := 8) hx hb hts inG5 hown hK hP (k := 1) (by decide) (F := (sF1 h0)) sE_1 rfl 7 (by decide) (hts _ k47) (fun _ h9 => h9) rfl dX5_readSort_5 ?_
  refine fz_ld (k := 2) (n := 400) hx hb hK hP 0 (by decide) sE_2 rfl ⟨by (first | ((try clear hbe); (try clear hb2); (try clear hb1); (try clear hsz); (try clear s₁); omega) | omega), by (first | ((try clear hbe); (try clear hb2); (try clear hb1); (try clear hsz); (try clear s₁); omega) | omega)⟩ (by decide) dX5_readSort_8 ?_
  refine lv_bipush (v := iZ 60) hx hb dX5_readSort_9 rfl ?_
  refine fz_icmp_eq (tgt := 16) (by constructor <;> (first | ((try clear hb2); (try clear hsz); (try clear s₁); (try clear hat); omega) | omega)) (by decide) hx hb dX5_readSort_11 (by decide) (fun c11_ => ?_) (fun c11_ => ?_)
  · refine lv_aload_n hx hb dX5_readSort_16 rfl (lv_at hl 0 rfl) ?_
    refine lv_dup hx hb dX5_readSort_17 rfl ?_
    refine fz_get (D := (dC, dI)) (ci := 5) (v := .int (iZ (μ 1 7))) (C := RX5) (T := TX5) (N := 8) hx hb hts inG5 hown hK hP (k := 1) (by decide) (F := (sF1 h0)) sE_1 rfl 7 (by decide) (hts _ k47) (fun _ h9 => h9) rfl dX5_readSort_18 ?_
    refine lv_iconst (v := iZ 1) hx hb dX5_readSort_21 rfl ?_
    refine lv_iadd hx hb dX5_readSort_22 ?_
    refine lv_topi (fun x9 ex9 => ?_)
    obtain rfl : x9 = iZ ((μ 1 7) + 1) := ex9.trans (iZ_add _ _)
    refine fz_put (D := (dC, dI)) (ci := 5) (ty := .int) (z := ((μ 1 7) + 1)) (C := RX5) (T := TX5) (N := 8) hx hb hts inG5 tyX5 tyX5_ok nmX5 hown hK hP fA_in hS (k := 1) (by decide) (F := (sF1 h0)) sE_1 rfl 7 (by decide) (hts _ k47) (fun _ h9 => h9) rfl (by decide +kernel) rfl rfl (fun _ => Nat.le_of_ble_eq_true rfl) (fun _ _ => rfl) dX5_readSort_23 (fun H locs hP hS => ?_)
    obtain ⟨μ1, eμ1⟩ : ∃ x : va_M, x = uz μ 1 7 ((μ 1 7) + 1) := ⟨_, rfl⟩
    rw [← eμ1] at hP
    refine lv_aload_n hx hb dX5_readSort_26 rfl (lv_at hl 0 rfl) ?_
    refine fz_get (D := (dC, dI)) (ci := 5) (v := .int (iZ (μ1 1 7))) (C := RX5) (T := TX5) (N := 8) hx hb hts inG5 hown hK hP (k := 1) (by decide) (F := (sF1 h0)) sE_1 rfl 7 (by decide) (hts _ k47) (fun _ h9 => h9) rfl dX5_readSort_27 ?_
    rw [show μ1 1 7 = (μ 1 7) + 1 from by rw [eμ1, uz_s]]
    refine lv_iload_n hx hb dX5_readSort_30 rfl (lv_at hl 1 rfl) ?_
    refine fz_icmp_ge (tgt := 60) (by constructor <;> (first | ((try clear x); (try clear eμ1); (try clear μ1); (try clear ex9); (try clear c11_); (try clear hbe); (try clear hb2); (try clear hb1); (try clear hsz); (try clear s₁); omega) | omega)) (by constructor <;> (first | ((try clear x); (try clear eμ1); (try clear μ1); (try clear ex9); (try clear c11_); (try clear hbe); (try clear hb2); (try clear hb1); (try clear hsz); (try clear s₁); omega) | omega)) hx hb dX5_readSort_31 (by decide) (fun c31_ => ?_) (fun c31_ => ?_)
    · have hbf := bC_ge (μ := μ) (n := n) (k := μ 1 7 + 1) (by (first | ((try clear hbf); (try clear x); (try clear eμ1); (try clear μ1); (try clear ex9); (try clear c11_); (try clear hbe); (try clear hb2); (try clear hb1); (try clear hsz); (try clear s₁); (try clear hat); omega) | omega))
      refine lv_iconst (v := iZ 0) hx hb dX5_readSort_60 rfl ?_
      exact W.iret (v := iZ (0)) hx hb hr (fun t9 ht9 hW9 => ⟨⟨iZ (0), (μ1, 0), rfl, ⟨rfl, (by
                    dsimp only
                    refine ⟨fun h => absurd h (by (first | ((try clear h); (try clear hbf); (try clear c31_); (try clear x); (try clear eμ1); (try clear μ1); (try clear ex9); (try clear hb2); (try clear hb1); (try clear hsz); (try clear s₁); (try clear hat); omega) | omega)), fun _ => ⟨by rw [eμ1]; exact fr_uz fr_rfl ⟨rfl, rfl⟩, ?_, ?_, ?_⟩⟩
                    · unfold tkS
                      rw [if_neg (by (first | ((try clear hbf); (try clear c31_); (try clear x); (try clear eμ1); (try clear μ1); (try clear ex9); (try clear hb2); (try clear hb1); (try clear hsz); (try clear s₁); (try clear hat); omega) | omega)), if_neg (by (first | ((try clear c31_); (try clear x); (try clear eμ1); (try clear μ1); (try clear ex9); (try clear c11_); (try clear hbe); (try clear hb2); (try clear hb1); (try clear hsz); (try clear s₁); (try clear hat); omega) | omega))]
                    · unfold tkN
                      rw [if_neg (by (first | ((try clear hbf); (try clear c31_); (try clear x); (try clear eμ1); (try clear μ1); (try clear ex9); (try clear hb2); (try clear hb1); (try clear hsz); (try clear s₁); (try clear hat); omega) | omega)), if_neg (by (first | ((try clear c31_); (try clear x); (try clear eμ1); (try clear μ1); (try clear ex9); (try clear c11_); (try clear hbe); (try clear hb2); (try clear hb1); (try clear hsz); (try clear s₁); (try clear hat); omega) | omega)), eμ1, uz_s]
                    · rw [eμ1, uz_s]; (first | ((try clear hbf); (try clear x); (try clear eμ1); (try clear μ1); (try clear ex9); (try clear c11_); (try clear hbe); (try clear hb2); (try clear hb1); (try clear hsz); (try clear s₁); omega) | omega))⟩, by rw [ht9]; exact hP, va_K.moved hW9.alike hK⟩, hS.F ht9⟩) hS.2.2 dX5_readSort_61
    · have hbf := bC_lt (μ := μ) (n := n) (k := μ 1 7 + 1) (by (first | ((try clear hbf); (try clear x); (try clear eμ1); (try clear μ1); (try clear ex9); (try clear c11_); (try clear hbe); (try clear hb2); (try clear hb1); (try clear hsz); (try clear s₁); (try clear hat); omega) | omega))
      refine lv_aload_n hx hb dX5_readSort_34 rfl (lv_at hl 0 rfl) ?_
      refine fz_get (D := (dC, dI)) (ci := 5) (v := .ref (h0 + 2)) (C := RX5) (T := TX5) (N := 8) hx hb hts inG5 hown hK hP (k := 1) (by decide) (F := (sF1 h0)) sE_1 rfl 0 (by decide) (hts _ k35) (fun _ h9 => h9) rfl dX5_readSort_35 ?_
      refine lv_aload_n hx hb dX5_readSort_38 rfl (lv_at hl 0 rfl) ?_
      refine fz_get (D := (dC, dI)) (ci := 5) (v := .int (iZ (μ1 1 7))) (C := RX5) (T := TX5) (N := 8) hx hb hts inG5 hown hK hP (k := 1) (by decide) (F := (sF1 h0)) sE_1 rfl 7 (by decide) (hts _ k47) (fun _ h9 => h9) rfl dX5_readSort_39 ?_
      rw [show μ1 1 7 = (μ 1 7) + 1 from by rw [eμ1, uz_s]]
      refine fz_ld (k := 2) (n := 400) hx hb hK hP 0 (by decide) sE_2 rfl ⟨by (first | ((try clear hbf); (try clear c31_); (try clear x); (try clear eμ1); (try clear μ1); (try clear ex9); (try clear c11_); (try clear hbe); (try clear hb2); (try clear hb1); (try clear hsz); (try clear s₁); omega) | omega), by (first | ((try clear hbf); (try clear x); (try clear eμ1); (try clear μ1); (try clear ex9); (try clear c11_); (try clear hbe); (try clear hb2); (try clear hb1); (try clear hsz); (try clear s₁); omega) | omega)⟩ (by decide) dX5_readSort_42 ?_
      rw [show μ1 2 ((μ 1 7) + 1).toNat = μ 2 ((μ 1 7) + 1).toNat from by rw [eμ1, uz_n (by (first | ((try clear hbf); (try clear c31_); (try clear x); (try clear eμ1); (try clear μ1); (try clear ex9); (try clear c11_); (try clear hbe); (try clear hb2); (try clear hb1); (try clear hsz); (try clear s₁); (try clear hat); omega) | omega))]]
      refine lv_bipush (v := iZ 47) hx hb dX5_readSort_43 rfl ?_
      refine fz_icmp_ne (tgt := 60) (by constructor <;> (first | ((try clear c31_); (try clear x); (try clear eμ1); (try clear μ1); (try clear ex9); (try clear c11_); (try clear hbe); (try clear hb1); (try clear hsz); (try clear s₁); (try clear hat); omega) | omega)) (by decide) hx hb dX5_readSort_45 (by decide) (fun c45_ => ?_) (fun c45_ => ?_)
      · refine lv_iconst (v := iZ 0) hx hb dX5_readSort_60 rfl ?_
        exact W.iret (v := iZ (0)) hx hb hr (fun t9 ht9 hW9 => ⟨⟨iZ (0), (μ1, 0), rfl, ⟨rfl, (by
                        dsimp only
                        refine ⟨fun h => absurd h (by (first | ((try clear h); (try clear c45_); (try clear hbf); (try clear c31_); (try clear x); (try clear eμ1); (try clear μ1); (try clear ex9); (try clear hb2); (try clear hb1); (try clear hsz); (try clear s₁); (try clear hat); omega) | omega)), fun _ => ⟨by rw [eμ1]; exact fr_uz fr_rfl ⟨rfl, rfl⟩, ?_, ?_, ?_⟩⟩
                        · unfold tkS
                          rw [if_neg (by (first | ((try clear c45_); (try clear hbf); (try clear c31_); (try clear x); (try clear eμ1); (try clear μ1); (try clear ex9); (try clear hb2); (try clear hb1); (try clear hsz); (try clear s₁); (try clear hat); omega) | omega)), if_neg (by (first | ((try clear c31_); (try clear x); (try clear eμ1); (try clear μ1); (try clear ex9); (try clear c11_); (try clear hbe); (try clear hb2); (try clear hb1); (try clear hsz); (try clear s₁); (try clear hat); omega) | omega))]
                        · unfold tkN
                          rw [if_neg (by (first | ((try clear c45_); (try clear hbf); (try clear c31_); (try clear x); (try clear eμ1); (try clear μ1); (try clear ex9); (try clear hb2); (try clear hb1); (try clear hsz); (try clear s₁); (try clear hat); omega) | omega)), if_neg (by (first | ((try clear c31_); (try clear x); (try clear eμ1); (try clear μ1); (try clear ex9); (try clear c11_); (try clear hbe); (try clear hb2); (try clear hb1); (try clear hsz); (try clear s₁); (try clear hat); omega) | omega)), eμ1, uz_s]
                        · rw [eμ1, uz_s]; (first | ((try clear c45_); (try clear hbf); (try clear x); (try clear eμ1); (try clear μ1); (try clear ex9); (try clear c11_); (try clear hbe); (try clear hb2); (try clear hb1); (try clear hsz); (try clear s₁); (try clear hat); omega) | omega))⟩, by rw [ht9]; exact hP, va_K.moved hW9.alike hK⟩, hS.F ht9⟩) hS.2.2 dX5_readSort_61
      · refine lv_aload_n hx hb dX5_readSort_48 rfl (lv_at hl 0 rfl) ?_
        refine lv_dup hx hb dX5_readSort_49 rfl ?_
        refine fz_get (D := (dC, dI)) (ci := 5) (v := .int (iZ (μ1 1 7))) (C := RX5) (T := TX5) (N := 8) hx hb hts inG5 hown hK hP (k := 1) (by decide) (F := (sF1 h0)) sE_1 rfl 7 (by decide) (hts _ k47) (fun _ h9 => h9) rfl dX5_readSort_50 ?_
        rw [show μ1 1 7 = (μ 1 7) + 1 from by rw [eμ1, uz_s]]
        refine lv_iconst (v := iZ 1) hx hb dX5_readSort_53 rfl ?_
        refine lv_iadd hx hb dX5_readSort_54 ?_
        refine lv_topi (fun x9 ex9 => ?_)
        obtain rfl : x9 = iZ (((μ 1 7) + 1) + 1) := ex9.trans (iZ_add _ _)
        refine fz_put (D := (dC, dI)) (ci := 5) (ty := .int) (z := (((μ 1 7) + 1) + 1)) (C := RX5) (T := TX5) (N := 8) hx hb hts inG5 tyX5 tyX5_ok nmX5 hown hK hP fA_in hS (k := 1) (by decide) (F := (sF1 h0)) sE_1 rfl 7 (by decide) (hts _ k47) (fun _ h9 => h9) rfl (by decide +kernel) rfl rfl (fun _ => Nat.le_of_ble_eq_true rfl) (fun _ _ => rfl) dX5_readSort_55 (fun H locs hP hS => ?_)
        obtain ⟨μ2, eμ2⟩ : ∃ x : va_M, x = uz μ1 1 7 (((μ 1 7) + 1) + 1) := ⟨_, rfl⟩
        rw [← eμ2] at hP
        refine lv_iconst (v := iZ 1) hx hb dX5_readSort_58 rfl ?_
        exact W.iret (v := iZ (1)) hx hb hr (fun t9 ht9 hW9 => ⟨⟨iZ (1), (μ2, 1), rfl, ⟨rfl, (by
                        dsimp only
                        refine ⟨fun h => absurd h (by (first | ((try clear h); (try clear μ1); (try clear x); (try clear eμ2); (try clear μ2); (try clear ex9); (try clear c45_); (try clear hbf); (try clear c31_); (try clear eμ1); (try clear hb2); (try clear hb1); (try clear hsz); (try clear s₁); (try clear hat); omega) | omega)), fun _ => ⟨by rw [eμ2, eμ1]; exact fr_uz (fr_uz fr_rfl ⟨rfl, rfl⟩) ⟨rfl, rfl⟩, ?_, ?_, ?_⟩⟩
                        · unfold tkS
                          rw [if_neg (by (first | ((try clear μ1); (try clear x); (try clear eμ2); (try clear μ2); (try clear ex9); (try clear c45_); (try clear hbf); (try clear c31_); (try clear eμ1); (try clear hb2); (try clear hb1); (try clear hsz); (try clear s₁); (try clear hat); omega) | omega)), if_pos (by (first | ((try clear μ1); (try clear x); (try clear eμ2); (try clear μ2); (try clear ex9); (try clear c31_); (try clear eμ1); (try clear c11_); (try clear hbe); (try clear hb2); (try clear hb1); (try clear hsz); (try clear s₁); (try clear hat); omega) | omega))]
                        · unfold tkN
                          rw [if_neg (by (first | ((try clear μ1); (try clear x); (try clear eμ2); (try clear μ2); (try clear ex9); (try clear c45_); (try clear hbf); (try clear c31_); (try clear eμ1); (try clear hb2); (try clear hb1); (try clear hsz); (try clear s₁); (try clear hat); omega) | omega)), if_pos (by (first | ((try clear μ1); (try clear x); (try clear eμ2); (try clear μ2); (try clear ex9); (try clear c31_); (try clear eμ1); (try clear c11_); (try clear hbe); (try clear hb2); (try clear hb1); (try clear hsz); (try clear s₁); (try clear hat); omega) | omega)), eμ2, eμ1, uz_s]
                          (first | ((try clear μ1); (try clear x); (try clear eμ2); (try clear μ2); (try clear ex9); (try clear c45_); (try clear hbf); (try clear c31_); (try clear eμ1); (try clear c11_); (try clear hbe); (try clear hb2); (try clear hb1); (try clear hsz); (try clear s₁); (try clear hat); omega) | omega)
                        · rw [eμ2, eμ1, uz_s]; (first | ((try clear μ1); (try clear x); (try clear eμ2); (try clear μ2); (try clear ex9); (try clear c45_); (try clear hbf); (try clear eμ1); (try clear c11_); (try clear hbe); (try clear hb2); (try clear hb1); (try clear hsz); (try clear s₁); (try clear hat); omega) | omega))⟩, by rw [ht9]; exact hP, va_K.moved hW9.alike hK⟩, hS.F ht9⟩) hS.2.2 dX5_readSort_59
  · refine lv_iconst (v := iZ 2) hx hb dX5_readSort_14 rfl ?_
    exact W.iret (v := iZ (2)) hx hb hr (fun t9 ht9 hW9 => ⟨⟨iZ (2), (μ, 2), rfl, ⟨rfl, (by
                dsimp only
                exact ⟨fun _ => ⟨rfl, rfl⟩, fun h => absurd h (by (first | ((try clear hb2); (try clear hb1); (try clear hsz); (try clear s₁); (try clear hat); omega) | omega))⟩)⟩, by rw [ht9]; exact hP, va_K.moved hW9.alike hK⟩, hS.F ht9⟩) hS.2.2 dX5_readSort_15
set_option maxHeartbeats 4000000 in
set_option maxRecDepth 100000 in
theorem LX5_readName_4 {p : Program} {l : Launch} {e : Env} {R : Room} {s : State} {m : MethodId} {args : Array Value} {below : List Frame} {meth : Method} {c : Code} {cells slots : Nat} {Q : State → Prop} {dC : Nat → ClassId} {dI : Nat → Nat → Nat} {h0 : Nat} {cI cZ cII cIII : ClassId} (hx : p.tables.exec = Jvm.exec) (hb : c.code = cX5_readName) (hml : c.maxLocals = 4) (hown : s.vm.findClass RX5 = some m.cls) (hts : ∀ w ∈ wsG, w.before args s = true) (hK : va_K (dC, dI) vwCl (sT cI cZ cII cIII) s) (hM : xM s) (hRf : 2 ≤ R.frames) (hRl : 35 ≤ R.locals) (hRc : cells ≤ R.cells) (hRs : slots ≤ R.slots) (μ0 : va_M) (n : Int) (htb : tpB μ0) (hat : 0 ≤ μ0 1 7 ∧ μ0 1 7 ≤ n ∧ n ≤ 400) (hexit45 : ∀ (i : Int) (nv : Int) (μ : va_M) (H : Heap) (locs : List Loc) (ls : Array Slot), (fr (fun x y => x = 1 ∧ y = 7) μ0 μ) → (μ 1 7 = μ0 1 7 + lets (bC μ0 n) 6 (μ0 1 7)) → (nv = nval (bC μ0 n) (μ0 1 7) (lets (bC μ0 n) 6 (μ0 1 7))) → (μ 1 7 ≤ n) → va_P (dC, dI) vwCl (fw (sE cI cZ cII cIII h0) h0 233 μ) H → va_S (fA h0 233 s.heap.size) s.heap H locs → lv_has ls 4 [(2, .int (iZ (nv)))] → W p l e R s m args below meth c H locs cells slots Q (F0 m 45 ls [])) :
    ∀ (n9 : Nat) (i : Int) (nv : Int) (μ : va_M) (H : Heap) (locs : List Loc) (ls : Array Slot), (0 ≤ i ∧ i ≤ 6) → (fr (fun x y => x = 1 ∧ y = 7) μ0 μ) → (μ 1 7 = μ0 1 7 + i) → (∀ j : Nat, j < i.toNat → 97 ≤ bC μ0 n (μ0 1 7 + j) ∧ bC μ0 n (μ0 1 7 + j) ≤ 122) → (nv = nval (bC μ0 n) (μ0 1 7) i.toNat) → (7 - i).toNat < n9 → va_P (dC, dI) vwCl (fw (sE cI cZ cII cIII h0) h0 233 μ) H → va_S (fA h0 233 s.heap.size) s.heap H locs → lv_has ls 4 [(3, .int (iZ (i))), (2, .int (iZ (nv))), (1, .int (iZ (n))), (0, .ref (h0 + 1))] → W p l e R s m args below meth c H locs cells slots Q (F0 m 4 ls []) := by
  intro n9
  induction n9 with
  | zero => intro i nv μ H locs ls hi hf ha hle hnv hm9 hP hS hl; exact absurd hm9 (Nat.not_lt_zero _)
  | succ n9 ih =>
    intro i nv μ H locs ls hi hf ha hle hnv hm9 hP hS hl
    have hbe : bC μ n = bC μ0 n := bC_fr (fun y => hf _ _ (by (first | ((try clear hbe); (try clear hm9); (try clear hnv); (try clear hle); (try clear ha); (try clear hf); (try clear hi); (try clear hexit45); (try clear hat); (try clear hRs); (try clear hRc); (try clear hRl); (try clear hRf); omega) | omega)))
    have htb1 : tpB μ := fun j => by rw [hf _ _ (by (first | ((try clear hbe); (try clear hm9); (try clear hnv); (try clear hle); (try clear ha); (try clear hf); (try clear hi); (try clear hexit45); (try clear hat); (try clear hRs); (try clear hRc); (try clear hRl); (try clear hRf); omega) | omega))]; exact htb j
    have hn6 := nval_6 (b := bC μ0 n) (s := μ0 1 7) (k := i.toNat) (by (first | ((try clear hn6); (try clear hbe); (try clear hm9); (try clear hnv); (try clear hle); (try clear ha); (try clear hf); (try clear hexit45); (try clear hat); (try clear hRs); (try clear hRc); (try clear hRl); (try clear hRf); omega) | omega)) hle
    have han : μ 1 7 ≤ n := by
      rcases Int.lt_or_le n (μ 1 7) with h9 | h9
      · exfalso
        have h8 := (hle (i.toNat - 1) (by (first | ((try clear h8); (try clear han); (try clear hn6); (try clear hbe); (try clear hm9); (try clear hnv); (try clear hle); (try clear hf); (try clear hexit45); (try clear hRs); (try clear hRc); (try clear hRl); (try clear hRf); omega) | omega))).1
        rw [bC_ge (by (first | ((try clear h8); (try clear han); (try clear hn6); (try clear hbe); (try clear hm9); (try clear hnv); (try clear hle); (try clear hf); (try clear hexit45); (try clear hRs); (try clear hRc); (try clear hRl); (try clear hRf); omega) | omega))] at h8
        (first | ((try clear han); (try clear hn6); (try clear hbe); (try clear hm9); (try clear hnv); (try clear hle); (try clear ha); (try clear hf); (try clear hi); (try clear hexit45); (try clear hat); (try clear hRs); (try clear hRc); (try clear hRl); (try clear hRf); omega) | omega)
      · exact h9
    refine lv_iload_n hx hb dX5_readName_4 rfl (lv_at hl 0 rfl) ?_
    refine lv_bipush (v := iZ 6) hx hb dX5_readName_5 rfl ?_
    refine fz_icmp_ge (tgt := 45) (by constructor <;> (first | ((try clear han); (try clear hn6); (try clear hbe); (try clear hm9); (try clear hnv); (try clear hle); (try clear ha); (try clear hf); (try clear hexit45); (try clear hat); (try clear hRs); (try clear hRc); (try clear hRl); (try clear hRf); omega) | omega)) (by decide) hx hb dX5_readName_7 (by decide) (fun c7_ => ?_) (fun c7_ => ?_)
    · have hL9 : lets (bC μ0 n) 6 (μ0 1 7) = i.toNat := by
        rw [lets_6 6 (μ0 1 7) (fun j hj => hle j (by (first | ((try clear han); (try clear hn6); (try clear hbe); (try clear hm9); (try clear hnv); (try clear hle); (try clear ha); (try clear hf); (try clear hexit45); (try clear hat); (try clear hRs); (try clear hRc); (try clear hRl); (try clear hRf); omega) | omega)))]; (first | ((try clear han); (try clear hn6); (try clear hbe); (try clear hm9); (try clear hnv); (try clear hle); (try clear ha); (try clear hf); (try clear hexit45); (try clear hat); (try clear hRs); (try clear hRc); (try clear hRl); (try clear hRf); omega) | omega)
      exact hexit45 (i) (nv) μ H locs ls (by exact hf) (by rw [hL9, ha]; (first | ((try clear han); (try clear hn6); (try clear hbe); (try clear hm9); (try clear hnv); (try clear hle); (try clear ha); (try clear hf); (try clear hexit45); (try clear hat); (try clear hRs); (try clear hRc); (try clear hRl); (try clear hRf); omega) | omega)) (by rw [hL9]; exact hnv) (by exact han) hP hS (lv_sub hl [1] rfl)
    · refine lv_aload_n hx hb dX5_readName_10 rfl (lv_at hl 3 rfl) ?_
      refine lv_iload_n hx hb dX5_readName_11 rfl (lv_at hl 2 rfl) ?_
      refine va_calli (va_runV (As := [.int (iZ (n))]) (rest := []) ⟨hx, hb, hml, hown, hts⟩ (s_XletterAt l dC dI cI cZ cII cIII h0 H.size μ (n) (by exact htb1) (by first | assumption | (first | ((try clear hn6); (try clear hbe); (try clear hm9); (try clear hnv); (try clear hle); (try clear hf); (try clear hexit45); (try clear hRs); (try clear hRc); (try clear hRl); (try clear hRf); omega) | omega) | exact ⟨by omega, by omega⟩)) (cwV 1 hts (gV_G k698 k700 ks_yX5_letterAt k2 k701) rfl rfl rfl (by decide +kernel) ⟨by show 1 + 1 ≤ _; (first | ((try clear c7_); (try clear han); (try clear hn6); (try clear hbe); (try clear hm9); (try clear hnv); (try clear hle); (try clear ha); (try clear hf); (try clear hi); (try clear hexit45); (try clear hat); (try clear hRs); (try clear hRc); (try clear hRl); omega) | omega), by show 8 + (2 + 11) + (14) ≤ _; (first | ((try clear c7_); (try clear han); (try clear hn6); (try clear hbe); (try clear hm9); (try clear hnv); (try clear hle); (try clear ha); (try clear hf); (try clear hi); (try clear hexit45); (try clear hat); (try clear hRs); (try clear hRc); (try clear hRf); omega) | omega)⟩) ⟨fun a U g mk q => by obtain ⟨q0, q1, qP, qK, qM⟩ := q; exact ⟨q0, q1, qP, va_K.moved (u := U) (U := U.calling g mk a) (Vm.Alike.refl U.vm) qK, qM⟩, va_recv hK hP (ci := 5) (q0 := 1) rfl ((fw_get (by decide)).trans (by rw [sE_1])), fun U hU hW => ⟨rfl, by rw [hU], by rw [hU]; exact hP, va_K.moved hW.alike hK, xM_warm hW hM⟩⟩ rfl rfl hl.1 rfl (lv_room (Nat.le_of_ble_eq_true rfl)) dX5_readName_12 ⟨hRc, hRs⟩) hS (fun q _ h => fA_le hS.1 q h) (fA_le hS.1) (fun r9 u9 t9 H1 locs ht9 hvm9 hw9 hB9 hz9 hk9 hS => ?_)
      obtain ⟨μl, rl⟩ := u9
      obtain ⟨hP, -⟩ := hB9
      rw [ht9] at hP
      generalize H1 = H at hP hS ⊢
      obtain ⟨e9, hw9⟩ := hw9
      have e9 : r9 = iZ rl := e9
      subst e9
      simp only at hP hw9
      have hμl := hw9; clear hw9
      rw [hμl.1] at hP; have hμl := hμl.2
      have hrl := hμl
      rw [hbe, ha] at hrl
      have hr0 : 0 ≤ rl ∧ rl ≤ 26 := by
        split at hrl <;> (first | ((try clear hr0); (try clear hμl); (try clear hz9); (try clear c7_); (try clear han); (try clear hn6); (try clear hbe); (try clear hm9); (try clear hnv); (try clear hle); (try clear ha); (try clear hf); (try clear hi); (try clear hexit45); (try clear hat); (try clear hRs); (try clear hRc); (try clear hRl); (try clear hRf); omega) | omega)
      refine fz_if_eq (tgt := 45) (by constructor <;> (first | ((try clear hμl); (try clear hz9); (try clear c7_); (try clear han); (try clear hn6); (try clear hbe); (try clear hm9); (try clear hnv); (try clear hle); (try clear ha); (try clear hf); (try clear hi); (try clear hexit45); (try clear hat); (try clear hRs); (try clear hRc); (try clear hRl); (try clear hRf); omega) | omega)) hx hb dX5_readName_15 (by decide) (fun c15_ => ?_) (fun c15_ => ?_)
      · have hL9 : lets (bC μ0 n) 6 (μ0 1 7) = i.toNat := by
          refine lets_of 6 (μ0 1 7) i.toNat hle (by (first | ((try clear c15_); (try clear hr0); (try clear hrl); (try clear hμl); (try clear μl); (try clear hz9); (try clear han); (try clear hn6); (try clear hbe); (try clear hm9); (try clear hnv); (try clear hle); (try clear ha); (try clear hf); (try clear hexit45); (try clear hat); (try clear hRs); (try clear hRc); (try clear hRl); (try clear hRf); omega) | omega)) (fun h9 => ?_)
          rw [show ((i.toNat : Nat) : Int) = i by (first | ((try clear h9); (try clear c15_); (try clear hr0); (try clear hrl); (try clear hμl); (try clear μl); (try clear hz9); (try clear han); (try clear hn6); (try clear hbe); (try clear hm9); (try clear hnv); (try clear hle); (try clear ha); (try clear hf); (try clear hexit45); (try clear hat); (try clear hRs); (try clear hRc); (try clear hRl); (try clear hRf); omega) | omega)] at h9
          rw [if_pos h9] at hrl
          (first | ((try clear hr0); (try clear hμl); (try clear hz9); (try clear c7_); (try clear han); (try clear hn6); (try clear hbe); (try clear hm9); (try clear hnv); (try clear hle); (try clear ha); (try clear hf); (try clear hi); (try clear hexit45); (try clear hat); (try clear hRs); (try clear hRc); (try clear hRl); (try clear hRf); omega) | omega)
        exact hexit45 (i) (nv) μ H locs ls (by exact hf) (by rw [hL9, ha]; (first | ((try clear c15_); (try clear hr0); (try clear hrl); (try clear hμl); (try clear μl); (try clear hz9); (try clear han); (try clear hn6); (try clear hbe); (try clear hm9); (try clear hnv); (try clear hle); (try clear ha); (try clear hf); (try clear hexit45); (try clear hat); (try clear hRs); (try clear hRc); (try clear hRl); (try clear hRf); omega) | omega)) (by rw [hL9]; exact hnv) (by exact han) hP hS (lv_sub hl [1] rfl)
      · refine lv_iload_n hx hb dX5_readName_18 rfl (lv_at hl 1 rfl) ?_
        refine lv_bipush (v := iZ 27) hx hb dX5_readName_19 rfl ?_
        refine lv_imul hx hb dX5_readName_21 ?_
        refine lv_topi (fun x9 ex9 => ?_)
        obtain rfl : x9 = iZ (nv * 27) := ex9.trans (iZ_mul _ _)
        refine lv_aload_n hx hb dX5_readName_22 rfl (lv_at hl 3 rfl) ?_
        refine lv_iload_n hx hb dX5_readName_23 rfl (lv_at hl 2 rfl) ?_
        refine va_calli (va_runV (As := [.int (iZ (n))]) (rest := [.int (iZ (nv * 27))]) ⟨hx, hb, hml, hown, hts⟩ (s_XletterAt l dC dI cI cZ cII cIII h0 H.size μ (n) (by exact htb1) (by first | assumption | (first | ((try clear ex9); (try clear c15_); (try clear hr0); (try clear hrl); (try clear hμl); (try clear μl); (try clear hz9); (try clear hn6); (try clear hbe); (try clear hm9); (try clear hnv); (try clear hle); (try clear hf); (try clear hexit45); (try clear hRs); (try clear hRc); (try clear hRl); (try clear hRf); omega) | omega) | exact ⟨by omega, by omega⟩)) (cwV 1 hts (gV_G k698 k700 ks_yX5_letterAt k2 k701) rfl rfl rfl (by decide +kernel) ⟨by show 1 + 1 ≤ _; (first | ((try clear ex9); (try clear c15_); (try clear hr0); (try clear hrl); (try clear hμl); (try clear rl); (try clear μl); (try clear hz9); (try clear c7_); (try clear han); (try clear hn6); (try clear hbe); (try clear hm9); (try clear hnv); (try clear hle); (try clear ha); (try clear hf); (try clear hi); (try clear hexit45); (try clear hat); (try clear hRs); (try clear hRc); (try clear hRl); omega) | omega), by show 8 + (2 + 11) + (14) ≤ _; (first | ((try clear ex9); (try clear c15_); (try clear hr0); (try clear hrl); (try clear hμl); (try clear rl); (try clear μl); (try clear hz9); (try clear c7_); (try clear han); (try clear hn6); (try clear hbe); (try clear hm9); (try clear hnv); (try clear hle); (try clear ha); (try clear hf); (try clear hi); (try clear hexit45); (try clear hat); (try clear hRs); (try clear hRc); (try clear hRf); omega) | omega)⟩) ⟨fun a U g mk q => by obtain ⟨q0, q1, qP, qK, qM⟩ := q; exact ⟨q0, q1, qP, va_K.moved (u := U) (U := U.calling g mk a) (Vm.Alike.refl U.vm) qK, qM⟩, va_recv hK hP (ci := 5) (q0 := 1) rfl ((fw_get (by decide)).trans (by rw [sE_1])), fun U hU hW => ⟨rfl, by rw [hU], by rw [hU]; exact hP, va_K.moved hW.alike hK, xM_warm hW hM⟩⟩ rfl rfl hl.1 rfl (lv_room (Nat.le_of_ble_eq_true rfl)) dX5_readName_24 ⟨hRc, hRs⟩) hS (fun q _ h => fA_le hS.1 q h) (fA_le hS.1) (fun r9 u9 t9 H1 locs ht9 hvm9 hw9 hB9 hz9 hk9 hS => ?_)
        obtain ⟨μm, rm⟩ := u9
        obtain ⟨hP, -⟩ := hB9
        rw [ht9] at hP
        generalize H1 = H at hP hS ⊢
        obtain ⟨e9, hw9⟩ := hw9
        have e9 : r9 = iZ rm := e9
        subst e9
        simp only at hP hw9
        have hμm := hw9; clear hw9
        rw [hμm.1] at hP; have hμm := hμm.2
        have hrm := hμm
        rw [hbe, ha] at hrm
        have hlt : 97 ≤ bC μ0 n (μ0 1 7 + i) ∧ bC μ0 n (μ0 1 7 + i) ≤ 122 := by
          by_cases h9 : 97 ≤ bC μ0 n (μ0 1 7 + i) ∧ bC μ0 n (μ0 1 7 + i) ≤ 122
          · exact h9
          · rw [if_neg h9] at hrl; (first | ((try clear hlt); (try clear hrm); (try clear hμm); (try clear μm); (try clear hz9); (try clear ex9); (try clear hr0); (try clear hμl); (try clear c7_); (try clear han); (try clear hn6); (try clear hbe); (try clear hm9); (try clear hnv); (try clear hle); (try clear ha); (try clear hf); (try clear hi); (try clear hexit45); (try clear hat); (try clear hRs); (try clear hRc); (try clear hRl); (try clear hRf); omega) | omega)
        rw [if_pos hlt] at hrm
        refine lv_iadd hx hb dX5_readName_27 ?_
        refine lv_topi (fun x9 ex9 => ?_)
        obtain rfl : x9 = iZ ((nv * 27) + rm) := ex9.trans (iZ_add _ _)
        refine lv_istore_n (lv' := [(2, .int (iZ ((nv * 27) + rm))), (3, .int (iZ (i))), (1, .int (iZ (n))), (0, .ref (h0 + 1))]) hx hb dX5_readName_28 rfl hl (by decide) rfl (fun ls hl => ?_)
        refine lv_aload_n hx hb dX5_readName_29 rfl (lv_at hl 3 rfl) ?_
        refine lv_dup hx hb dX5_readName_30 rfl ?_
        refine fz_get (D := (dC, dI)) (ci := 5) (v := .int (iZ (μ 1 7))) (C := RX5) (T := TX5) (N := 8) hx hb hts inG5 hown hK hP (k := 1) (by decide) (F := (sF1 h0)) sE_1 rfl 7 (by decide) (hts _ k47) (fun _ h9 => h9) rfl dX5_readName_31 ?_
        refine lv_iconst (v := iZ 1) hx hb dX5_readName_34 rfl ?_
        refine lv_iadd hx hb dX5_readName_35 ?_
        refine lv_topi (fun x9 ex9 => ?_)
        obtain rfl : x9 = iZ ((μ 1 7) + 1) := ex9.trans (iZ_add _ _)
        refine fz_put (D := (dC, dI)) (ci := 5) (ty := .int) (z := ((μ 1 7) + 1)) (C := RX5) (T := TX5) (N := 8) hx hb hts inG5 tyX5 tyX5_ok nmX5 hown hK hP fA_in hS (k := 1) (by decide) (F := (sF1 h0)) sE_1 rfl 7 (by decide) (hts _ k47) (fun _ h9 => h9) rfl (by decide +kernel) rfl rfl (fun _ => Nat.le_of_ble_eq_true rfl) (fun _ _ => rfl) dX5_readName_36 (fun H locs hP hS => ?_)
        obtain ⟨μ1, eμ1⟩ : ∃ x : va_M, x = uz μ 1 7 ((μ 1 7) + 1) := ⟨_, rfl⟩
        rw [← eμ1] at hP
        refine lv_iinc (v := iZ (i + 1)) (lv' := [(3, .int (iZ (i + 1))), (2, .int (iZ ((nv * 27) + rm))), (1, .int (iZ (n))), (0, .ref (h0 + 1))]) hx hb dX5_readName_39 hl (k := 1) rfl (iZ_add _ _) (by decide) rfl (fun ls hl => ?_)
        refine lv_goto (tgt := 4) hx hb dX5_readName_42 (by decide) ?_
        exact ih (i + 1) ((nv * 27) + rm) μ1 H locs ls (by (first | ((try clear x); (try clear eμ1); (try clear μ1); (try clear ex9); (try clear hlt); (try clear hrm); (try clear hμm); (try clear μm); (try clear hz9); (try clear c15_); (try clear hr0); (try clear hrl); (try clear hμl); (try clear μl); (try clear han); (try clear hn6); (try clear hbe); (try clear hm9); (try clear hnv); (try clear hle); (try clear ha); (try clear hf); (try clear hexit45); (try clear hat); (try clear hRs); (try clear hRc); (try clear hRl); (try clear hRf); omega) | omega)) (by rw [eμ1]; exact fr_uz hf ⟨rfl, rfl⟩) (by rw [eμ1, uz_s]; (first | ((try clear x); (try clear eμ1); (try clear μ1); (try clear ex9); (try clear hlt); (try clear hrm); (try clear hμm); (try clear μm); (try clear hz9); (try clear c15_); (try clear hr0); (try clear hrl); (try clear hμl); (try clear μl); (try clear c7_); (try clear han); (try clear hn6); (try clear hbe); (try clear hm9); (try clear hnv); (try clear hle); (try clear hf); (try clear hi); (try clear hexit45); (try clear hat); (try clear hRs); (try clear hRc); (try clear hRl); (try clear hRf); omega) | omega)) (by
                        intro j hj
                        by_cases h9 : j = i.toNat
                        · rw [h9, show ((i.toNat : Nat) : Int) = i by (first | ((try clear hj); (try clear x); (try clear eμ1); (try clear μ1); (try clear ex9); (try clear hlt); (try clear hrm); (try clear hμm); (try clear μm); (try clear hz9); (try clear c15_); (try clear hr0); (try clear hrl); (try clear hμl); (try clear μl); (try clear han); (try clear hn6); (try clear hbe); (try clear hm9); (try clear hnv); (try clear hle); (try clear ha); (try clear hf); (try clear hexit45); (try clear hat); (try clear hRs); (try clear hRc); (try clear hRl); (try clear hRf); omega) | omega)]; exact hlt
                        · exact hle j (by (first | ((try clear x); (try clear eμ1); (try clear μ1); (try clear ex9); (try clear hlt); (try clear hrm); (try clear hμm); (try clear μm); (try clear hz9); (try clear c15_); (try clear hr0); (try clear hrl); (try clear hμl); (try clear μl); (try clear han); (try clear hn6); (try clear hbe); (try clear hm9); (try clear hnv); (try clear hle); (try clear ha); (try clear hf); (try clear hexit45); (try clear hat); (try clear hRs); (try clear hRc); (try clear hRl); (try clear hRf); omega) | omega))) (by rw [show (i + 1).toNat = i.toNat + 1 by (first | ((try clear h9); (try clear hj); (try clear j); (try clear x); (try clear eμ1); (try clear μ1); (try clear ex9); (try clear hlt); (try clear hrm); (try clear hμm); (try clear μm); (try clear hz9); (try clear c15_); (try clear hr0); (try clear hrl); (try clear hμl); (try clear μl); (try clear han); (try clear hn6); (try clear hbe); (try clear hm9); (try clear hnv); (try clear hle); (try clear ha); (try clear hf); (try clear hexit45); (try clear hat); (try clear hRs); (try clear hRc); (try clear hRl); (try clear hRf); omega) | omega), nval, show ((i.toNat : Nat) : Int) = i by (first | ((try clear h9); (try clear hj); (try clear j); (try clear x); (try clear eμ1); (try clear μ1); (try clear ex9); (try clear hlt); (try clear hrm); (try clear hμm); (try clear μm); (try clear hz9); (try clear c15_); (try clear hr0); (try clear hrl); (try clear hμl); (try clear μl); (try clear han); (try clear hn6); (try clear hbe); (try clear hm9); (try clear hnv); (try clear hle); (try clear ha); (try clear hf); (try clear hexit45); (try clear hat); (try clear hRs); (try clear hRc); (try clear hRl); (try clear hRf); omega) | omega), ← hnv]; (first | ((try clear h9); (try clear hj); (try clear j); (try clear x); (try clear eμ1); (try clear μ1); (try clear ex9); (try clear hlt); (try clear hμm); (try clear μm); (try clear hz9); (try clear c15_); (try clear hr0); (try clear hrl); (try clear hμl); (try clear μl); (try clear c7_); (try clear han); (try clear hn6); (try clear hbe); (try clear hm9); (try clear hnv); (try clear hle); (try clear ha); (try clear hf); (try clear hi); (try clear hexit45); (try clear hat); (try clear hRs); (try clear hRc); (try clear hRl); (try clear hRf); omega) | omega)) (by (first | ((try clear h9); (try clear hj); (try clear j); (try clear x); (try clear eμ1); (try clear μ1); (try clear ex9); (try clear hμm); (try clear hz9); (try clear hμl); (try clear han); (try clear hbe); (try clear hnv); (try clear hle); (try clear ha); (try clear hf); (try clear hexit45); (try clear hat); (try clear hRs); (try clear hRc); (try clear hRl); (try clear hRf); omega) | omega)) hP hS (lv_sub hl [0, 1, 2, 3] rfl)
set_option maxHeartbeats 4000000 in
set_option maxRecDepth 100000 in
theorem s_XreadName (l : Launch) (dC : Nat → ClassId) (dI : Nat → Nat → Nat) (cI cZ cII cIII : ClassId) (h0 sz : Nat) (μ : va_M) (n : Int) (htb : tpB μ) (hat : 0 ≤ μ 1 7 ∧ μ 1 7 ≤ n ∧ n ≤ 400) : Met l yX5_readName (Cond.code yX5_readName cX5_readName 4 (some .int) :: wsG) ({ frames := 2, cells := 0, slots := 0, locals := 35 } : Room) (va_Pc [.ref (h0 + 1), .int (iZ (n))] (fun U => U.heap.size = sz ∧ va_P (dC, dI) vwCl (fw (sE cI cZ cII cIII h0) h0 233 μ) U.heap ∧ va_K (dC, dI) vwCl (sT cI cZ cII cIII) U ∧ xM U)) (va_Qi (fun (r9 : Int32) (u : va_M × Int) => r9 = iZ u.2 ∧ (fun (u : va_M) (r : Int) => fr (fun x y => x = 1 ∧ y = 7) μ u ∧ u 1 7 = μ 1 7 + lets (bC μ n) 6 (μ 1 7) ∧ u 1 7 ≤ n ∧ r = nval (bC μ n) (μ 1 7) (lets (bC μ n) 6 (μ 1 7))) u.1 u.2) (fun u t => va_P (dC, dI) vwCl (fw (sE cI cZ cII cIII h0) h0 233 u.1) t.heap ∧ va_K (dC, dI) vwCl (sT cI cZ cII cIII) t) (fA h0 233 sz)) 0 0 (fA h0 233 sz) := by
  refine Met.ofW (cc := cX5_readName) (maxL := 4) (ret := (some .int)) (by decide) rfl ?_
  intro p e s m args below meth c s₁ B hml hv
  obtain ⟨rfl, hsz, hP, hK, hM⟩ := hv
  have hx := B.exec
  have hb := B.bytes
  have hr := B.returns
  have hts : ∀ w ∈ wsG, w.before _ s = true := hG_of (atoms_spec (ws := (Cond.code yX5_readName cX5_readName 4 (some .int) :: wsG)) B.pre)
  have hown : s.vm.findClass RX5 = some m.cls := findClass_of_methodNamed B.named
  have hlocks := B.notSynchronized
  subst hsz
  have hS : va_S (fA h0 233 s.heap.size) s.heap s.heap [] := va_S.rf
  have hl := lv_entry ([.ref (h0 + 1), .int (iZ (n))]) (n := 4) (Nat.le_of_ble_eq_true rfl)
  rw [lg_entry_eq]
  generalize (lg_sl ([.ref (h0 + 1), .int (iZ (n))]) ++ List.replicate (4 - (lg_sl ([.ref (h0 + 1), .int (iZ (n))])).length) Slot.unset).toArray = ls at hl ⊢
  have hl : lv_has ls 4 [(0, .ref (h0 + 1)), (1, .int (iZ (n)))] := hl
  refine lv_iconst (v := iZ 0) hx hb dX5_readName_0 rfl ?_
  refine lv_istore_n (lv' := [(2, .int (iZ (0))), (0, .ref (h0 + 1)), (1, .int (iZ (n)))]) hx hb dX5_readName_1 rfl hl (by decide) rfl (fun ls hl => ?_)
  refine lv_iconst (v := iZ 0) hx hb dX5_readName_2 rfl ?_
  refine lv_istore_n (lv' := [(3, .int (iZ (0))), (2, .int (iZ (0))), (0, .ref (h0 + 1)), (1, .int (iZ (n)))]) hx hb dX5_readName_3 rfl hl (by decide) rfl (fun ls hl => ?_)
  refine LX5_readName_4 hx hb hml hown hts hK hM (Nat.le_of_ble_eq_true rfl) (Nat.le_of_ble_eq_true rfl) (Nat.le_of_ble_eq_true rfl) (Nat.le_of_ble_eq_true rfl) (μ) (n) (by assumption) (by assumption) ?_ _ (0) (0) μ s.heap [] ls (by decide) (by exact fr_rfl) (by (first | ((try clear hsz); (try clear s₁); (try clear hat); omega) | omega)) (by intro j hj; (first | ((try clear hsz); (try clear s₁); (try clear hat); omega) | omega)) (by rfl) (Nat.lt_succ_self _) hP hS (lv_sub hl [0, 1, 3, 2] rfl)
  · intro i_2 nv_2 μ2_ H locs ls q1_2 q2_2 q3_2 q4_2 hP hS hl
    have hl : lv_has ls 4 [(2, .int (iZ (nv_2)))] := hl
    refine lv_iload_n hx hb dX5_readName_45 rfl (lv_at hl 0 rfl) ?_
    exact W.iret (v := iZ (nv_2)) hx hb hr (fun t9 ht9 hW9 => ⟨⟨iZ (nv_2), (μ2_, nv_2), rfl, ⟨rfl, (by
                dsimp only
                exact ⟨q1_2, q2_2, q4_2, q3_2⟩)⟩, by rw [ht9]; exact hP, va_K.moved hW9.alike hK⟩, hS.F ht9⟩) hS.2.2 dX5_readName_46
set_option maxHeartbeats 4000000 in
set_option maxRecDepth 100000 in
theorem LX5_keep_18 {p : Program} {l : Launch} {e : Env} {R : Room} {s : State} {m : MethodId} {args : Array Value} {below : List Frame} {meth : Method} {c : Code} {cells slots : Nat} {Q : State → Prop} {dC : Nat → ClassId} {dI : Nat → Nat → Nat} {h0 : Nat} {cI cZ cII cIII : ClassId} (hx : p.tables.exec = Jvm.exec) (hb : c.code = cX5_keep) (hml : c.maxLocals = 4) (hown : s.vm.findClass RX5 = some m.cls) (hts : ∀ w ∈ wsG, w.before args s = true) (hK : va_K (dC, dI) vwCl (sT cI cZ cII cIII) s) (hM : xM s) (hRf : 2 ≤ R.frames) (hRl : 36 ≤ R.locals) (hRc : cells ≤ R.cells) (hRs : slots ≤ R.slots) (μ0 : va_M) (ky : Int) (bg : Int) (T : List Tk) (S : List Int) (sq : Int) (v : Int) (L : Nat) (hT : tabC μ0 T) (hS9 : fndC μ0 S) (hkq : 0 ≤ sq ∧ sq ≤ 2) (hkv : 0 ≤ v ∧ v ≤ 387420488) (hky : ky = v * 3 + sq) (hexit42 : ∀ (i : Int) (μ : va_M) (H : Heap) (locs : List Loc) (ls : Array Slot), (μ = μ0) → (i = idx sq v T) → (0 ≤ i ∧ i ≤ μ0 1 3) → va_P (dC, dI) vwCl (fw (sE cI cZ cII cIII h0) h0 233 μ) H → va_S (fA h0 233 s.heap.size) s.heap H locs → lv_has ls 4 [(3, .int (iZ (i))), (2, .int (iZ (bg))), (1, .int (iZ (ky))), (0, .ref (h0 + 1))] → W p l e R s m args below meth c H locs cells slots Q (F0 m 42 ls [])) :
    ∀ (n9 : Nat) (i : Int) (μ : va_M) (H : Heap) (locs : List Loc) (ls : Array Slot), (μ = μ0) → (0 ≤ i ∧ i ≤ μ0 1 3) → (∀ (j : Nat) (y : Tk), (j : Int) < i → T[j]? = some y → ¬ (y.1 = sq ∧ y.2.1 = v)) → (201 - i).toNat < n9 → va_P (dC, dI) vwCl (fw (sE cI cZ cII cIII h0) h0 233 μ) H → va_S (fA h0 233 s.heap.size) s.heap H locs → lv_has ls 4 [(3, .int (iZ (i))), (2, .int (iZ (bg))), (1, .int (iZ (ky))), (0, .ref (h0 + 1))] → W p l e R s m args below meth c H locs cells slots Q (F0 m 18 ls []) := by
  intro n9
  induction n9 with
  | zero => intro i μ H locs ls hm9_ hi hno hm9 hP hS hl; exact absurd hm9 (Nat.not_lt_zero _)
  | succ n9 ih =>
    intro i μ H locs ls hm9_ hi hno hm9 hP hS hl
    subst hm9_
    have hT1 := hT.1
    refine lv_iload_n hx hb dX5_keep_18 rfl (lv_at hl 0 rfl) ?_
    refine lv_aload_n hx hb dX5_keep_19 rfl (lv_at hl 3 rfl) ?_
    refine fz_get (D := (dC, dI)) (ci := 5) (v := .int (iZ (μ 1 3))) (C := RX5) (T := TX5) (N := 8) hx hb hts inG5 hown hK hP (k := 1) (by decide) (F := (sF1 h0)) sE_1 rfl 3 (by decide) (hts _ k39) (fun _ h9 => h9) rfl dX5_keep_20 ?_
    refine fz_icmp_ge (tgt := 42) (by constructor <;> (first | ((try clear hm9); (try clear hno); (try clear hm9_); (try clear hexit42); (try clear hky); (try clear hkv); (try clear hkq); (try clear hRs); (try clear hRc); (try clear hRl); (try clear hRf); omega) | omega)) (by constructor <;> (first | ((try clear hm9); (try clear hno); (try clear hi); (try clear hm9_); (try clear hexit42); (try clear hky); (try clear hkv); (try clear hkq); (try clear hRs); (try clear hRc); (try clear hRl); (try clear hRf); omega) | omega)) hx hb dX5_keep_23 (by decide) (fun c23_ => ?_) (fun c23_ => ?_)
    · exact hexit42 (i) μ H locs ls (by rfl) (by
                    rw [idx_no T (fun j y hy => hno j y (by
                      have hjl := List.getElem?_eq_some_iff.mp hy
                      obtain ⟨hjl, _⟩ := hjl
                      (first | ((try clear hy); (try clear hm9); (try clear hno); (try clear hm9_); (try clear hexit42); (try clear hky); (try clear hkv); (try clear hkq); (try clear hRs); (try clear hRc); (try clear hRl); (try clear hRf); omega) | omega)) hy)]
                    (first | ((try clear hjl); (try clear hy); (try clear hm9); (try clear hno); (try clear hm9_); (try clear hexit42); (try clear hky); (try clear hkv); (try clear hkq); (try clear hRs); (try clear hRc); (try clear hRl); (try clear hRf); omega) | omega)) (by (first | ((try clear c23_); (try clear hT1); (try clear hm9); (try clear hno); (try clear hm9_); (try clear hexit42); (try clear hky); (try clear hkv); (try clear hkq); (try clear hRs); (try clear hRc); (try clear hRl); (try clear hRf); omega) | omega)) hP hS (lv_sub hl [0, 1, 2, 3] rfl)
    · obtain ⟨e, e1_, e2_, e3_, e4_⟩ := tabC_in hT (k := i.toNat) (by (first | ((try clear e4_); (try clear e3_); (try clear e2_); (try clear e1_); (try clear hm9); (try clear hno); (try clear hm9_); (try clear hexit42); (try clear hky); (try clear hkv); (try clear hkq); (try clear hRs); (try clear hRc); (try clear hRl); (try clear hRf); omega) | omega))
      refine lv_aload_n hx hb dX5_keep_26 rfl (lv_at hl 3 rfl) ?_
      refine fz_get (D := (dC, dI)) (ci := 5) (v := .ref (h0 + 3)) (C := RX5) (T := TX5) (N := 8) hx hb hts inG5 hown hK hP (k := 1) (by decide) (F := (sF1 h0)) sE_1 rfl 2 (by decide) (hts _ k38) (fun _ h9 => h9) rfl dX5_keep_27 ?_
      refine lv_iload_n hx hb dX5_keep_30 rfl (lv_at hl 0 rfl) ?_
      refine fz_ld (k := 3) (n := 200) hx hb hK hP 0 (by decide) sE_3 rfl ⟨by (first | ((try clear e4_); (try clear e3_); (try clear e2_); (try clear e1_); (try clear c23_); (try clear hT1); (try clear hm9); (try clear hno); (try clear hm9_); (try clear hexit42); (try clear hky); (try clear hkv); (try clear hkq); (try clear hRs); (try clear hRc); (try clear hRl); (try clear hRf); omega) | omega), by (first | ((try clear e4_); (try clear e3_); (try clear e2_); (try clear e1_); (try clear hm9); (try clear hno); (try clear hi); (try clear hm9_); (try clear hexit42); (try clear hky); (try clear hkv); (try clear hkq); (try clear hRs); (try clear hRc); (try clear hRl); (try clear hRf); omega) | omega)⟩ (by decide) dX5_keep_31 ?_
      refine lv_iload_n hx hb dX5_keep_32 rfl (lv_at hl 2 rfl) ?_
      refine fz_icmp_eq (tgt := 42) (by constructor <;> (first | ((try clear e1_); (try clear c23_); (try clear hT1); (try clear hm9); (try clear hno); (try clear hi); (try clear hm9_); (try clear hexit42); (try clear hky); (try clear hkv); (try clear hkq); (try clear hRs); (try clear hRc); (try clear hRl); (try clear hRf); omega) | omega)) (by constructor <;> (first | ((try clear e4_); (try clear e3_); (try clear e2_); (try clear e1_); (try clear c23_); (try clear hT1); (try clear hm9); (try clear hno); (try clear hi); (try clear hm9_); (try clear hexit42); (try clear hRs); (try clear hRc); (try clear hRl); (try clear hRf); omega) | omega)) hx hb dX5_keep_33 (by decide) (fun c33_ => ?_) (fun c33_ => ?_)
      · exact hexit42 (i) μ H locs ls (by rfl) (by
                        have h9 := (key_eq (v := e.2.1) (v2 := v) e2_ hkq).mp (by (first | ((try clear h9); (try clear e3_); (try clear e2_); (try clear e1_); (try clear c23_); (try clear hT1); (try clear hm9); (try clear hno); (try clear hi); (try clear hm9_); (try clear hexit42); (try clear hkv); (try clear hkq); (try clear hRs); (try clear hRc); (try clear hRl); (try clear hRf); omega) | omega))
                        rw [idx_is T i.toNat e e1_ h9.1 h9.2 (fun j y hj hy => hno j y (by (first | ((try clear hy); (try clear h9); (try clear c33_); (try clear e4_); (try clear e3_); (try clear e2_); (try clear e1_); (try clear c23_); (try clear hT1); (try clear hm9); (try clear hno); (try clear hm9_); (try clear hexit42); (try clear hky); (try clear hkv); (try clear hkq); (try clear hRs); (try clear hRc); (try clear hRl); (try clear hRf); omega) | omega)) hy)]
                        (first | ((try clear h9); (try clear c33_); (try clear e4_); (try clear e3_); (try clear e2_); (try clear e1_); (try clear c23_); (try clear hT1); (try clear hm9); (try clear hno); (try clear hm9_); (try clear hexit42); (try clear hky); (try clear hkv); (try clear hkq); (try clear hRs); (try clear hRc); (try clear hRl); (try clear hRf); omega) | omega)) (by (first | ((try clear h9); (try clear c33_); (try clear e4_); (try clear e3_); (try clear e2_); (try clear e1_); (try clear c23_); (try clear hT1); (try clear hm9); (try clear hno); (try clear hm9_); (try clear hexit42); (try clear hky); (try clear hkv); (try clear hkq); (try clear hRs); (try clear hRc); (try clear hRl); (try clear hRf); omega) | omega)) hP hS (lv_sub hl [0, 1, 2, 3] rfl)
      · refine lv_iinc (v := iZ (i + 1)) (lv' := [(3, .int (iZ (i + 1))), (2, .int (iZ (bg))), (1, .int (iZ (ky))), (0, .ref (h0 + 1))]) hx hb dX5_keep_36 hl (k := 0) rfl (iZ_add _ _) (by decide) rfl (fun ls hl => ?_)
        refine lv_goto (tgt := 18) hx hb dX5_keep_39 (by decide) ?_
        exact ih (i + 1) μ H locs ls (by rfl) (by (first | ((try clear c33_); (try clear e4_); (try clear e3_); (try clear e2_); (try clear e1_); (try clear hm9); (try clear hno); (try clear hm9_); (try clear hexit42); (try clear hky); (try clear hkv); (try clear hkq); (try clear hRs); (try clear hRc); (try clear hRl); (try clear hRf); omega) | omega)) (by
                        intro j y hj hy
                        by_cases h9 : j = i.toNat
                        · rw [h9, e1_] at hy
                          cases hy
                          intro ⟨h7, h8⟩
                          rw [h7, h8] at e4_
                          (first | ((try clear h8); (try clear h7); (try clear h9); (try clear hy); (try clear hj); (try clear e3_); (try clear e2_); (try clear e1_); (try clear c23_); (try clear hT1); (try clear hm9); (try clear hno); (try clear hi); (try clear hm9_); (try clear hexit42); (try clear hkv); (try clear hkq); (try clear hRs); (try clear hRc); (try clear hRl); (try clear hRf); omega) | omega)
                        · exact hno j y (by (first | ((try clear hy); (try clear c33_); (try clear e4_); (try clear e3_); (try clear e2_); (try clear e1_); (try clear c23_); (try clear hT1); (try clear hm9); (try clear hno); (try clear hi); (try clear hm9_); (try clear hexit42); (try clear hky); (try clear hkv); (try clear hkq); (try clear hRs); (try clear hRc); (try clear hRl); (try clear hRf); omega) | omega)) hy) (by (first | ((try clear h9); (try clear hy); (try clear hj); (try clear e4_); (try clear e3_); (try clear e2_); (try clear e1_); (try clear hno); (try clear hm9_); (try clear hexit42); (try clear hky); (try clear hkv); (try clear hkq); (try clear hRs); (try clear hRc); (try clear hRl); (try clear hRf); omega) | omega)) hP hS (lv_sub hl [0, 1, 2, 3] rfl)
set_option maxHeartbeats 4000000 in
set_option maxRecDepth 100000 in
theorem s_Xkeep (l : Launch) (dC : Nat → ClassId) (dI : Nat → Nat → Nat) (cI cZ cII cIII : ClassId) (h0 sz : Nat) (μ : va_M) (ky : Int) (bg : Int) (T : List Tk) (S : List Int) (sq : Int) (v : Int) (L : Nat) (hT : tabC μ T) (hS9 : fndC μ S) (hkq : 0 ≤ sq ∧ sq ≤ 2) (hkv : 0 ≤ v ∧ v ≤ 387420488) (hky : ky = v * 3 + sq) : Met l yX5_keep (Cond.code yX5_keep cX5_keep 4 (some .int) :: wsG) ({ frames := 2, cells := 0, slots := 0, locals := 36 } : Room) (va_Pc [.ref (h0 + 1), .int (iZ (ky)), .int (iZ (bg))] (fun U => U.heap.size = sz ∧ va_P (dC, dI) vwCl (fw (sE cI cZ cII cIII h0) h0 233 μ) U.heap ∧ va_K (dC, dI) vwCl (sT cI cZ cII cIII) U ∧ xM U)) (va_Qi (fun (r9 : Int32) (u : va_M × Int) => r9 = iZ u.2 ∧ (fun (u : va_M) (r : Int) => (r = 0 → S.length < 60 ∧ μ 1 3 ≤ u 1 3 ∧ fr (fun x y => (x = 1 ∧ (y = 3 ∨ y = 5)) ∨ x = 3 ∨ x = 4) μ u ∧ ((idx sq v T < T.length ∧ tabC u T ∧ fndC u (S ++ [(idx sq v T : Int)])) ∨ (¬ idx sq v T < T.length ∧ T.length ≠ 200 ∧ tabC u (T ++ [(sq, v, L)]) ∧ fndC u (S ++ [(T.length : Int)])))) ∧ (r ≠ 0 → r = 2 ∧ (S.length = 60 ∨ (¬ idx sq v T < T.length ∧ T.length = 200)) ∧ fr (fun x y => x = 1 ∧ y = 6) μ u)) u.1 u.2) (fun u t => va_P (dC, dI) vwCl (fw (sE cI cZ cII cIII h0) h0 233 u.1) t.heap ∧ va_K (dC, dI) vwCl (sT cI cZ cII cIII) t) (fA h0 233 sz)) 0 0 (fA h0 233 sz) := by
  refine Met.ofW (cc := cX5_keep) (maxL := 4) (ret := (some .int)) (by decide) rfl ?_
  intro p e s m args below meth c s₁ B hml hv
  obtain ⟨rfl, hsz, hP, hK, hM⟩ := hv
  have hx := B.exec
  have hb := B.bytes
  have hr := B.returns
  have hts : ∀ w ∈ wsG, w.before _ s = true := hG_of (atoms_spec (ws := (Cond.code yX5_keep cX5_keep 4 (some .int) :: wsG)) B.pre)
  have hown : s.vm.findClass RX5 = some m.cls := findClass_of_methodNamed B.named
  have hlocks := B.notSynchronized
  subst hsz
  have hS : va_S (fA h0 233 s.heap.size) s.heap s.heap [] := va_S.rf
  have hl := lv_entry ([.ref (h0 + 1), .int (iZ (ky)), .int (iZ (bg))]) (n := 4) (Nat.le_of_ble_eq_true rfl)
  rw [lg_entry_eq]
  generalize (lg_sl ([.ref (h0 + 1), .int (iZ (ky)), .int (iZ (bg))]) ++ List.replicate (4 - (lg_sl ([.ref (h0 + 1), .int (iZ (ky)), .int (iZ (bg))])).length) Slot.unset).toArray = ls at hl ⊢
  have hl : lv_has ls 4 [(0, .ref (h0 + 1)), (1, .int (iZ (ky))), (2, .int (iZ (bg)))] := hl
  have hT1 := hT.1
  have hS1 := hS9.1
  refine lv_aload_n hx hb dX5_keep_0 rfl (lv_at hl 0 rfl) ?_
  refine fz_get (D := (dC, dI)) (ci := 5) (v := .int (iZ (μ 1 5))) (C := RX5) (T := TX5) (N := 8) hx hb hts inG5 hown hK hP (k := 1) (by decide) (F := (sF1 h0)) sE_1 rfl 5 (by decide) (hts _ k43) (fun _ h9 => h9) rfl dX5_keep_1 ?_
  refine lv_bipush (v := iZ 60) hx hb dX5_keep_4 rfl ?_
  refine fz_icmp_lt (tgt := 16) (by constructor <;> (first | ((try clear hT1); (try clear hsz); (try clear s₁); (try clear hky); (try clear hkv); (try clear hkq); omega) | omega)) (by decide) hx hb dX5_keep_6 (by decide) (fun c6_ => ?_) (fun c6_ => ?_)
  · refine lv_iconst (v := iZ 0) hx hb dX5_keep_16 rfl ?_
    refine lv_istore_n (lv' := [(3, .int (iZ (0))), (0, .ref (h0 + 1)), (1, .int (iZ (ky))), (2, .int (iZ (bg)))]) hx hb dX5_keep_17 rfl hl (by decide) rfl (fun ls hl => ?_)
    refine LX5_keep_18 hx hb hml hown hts hK hM (Nat.le_of_ble_eq_true rfl) (Nat.le_of_ble_eq_true rfl) (Nat.le_of_ble_eq_true rfl) (Nat.le_of_ble_eq_true rfl) (μ) (ky) (bg) (T) (S) (sq) (v) (L) (by exact hT) (by exact hS9) (by assumption) (by assumption) (by assumption) ?_ _ (0) μ s.heap [] ls (by rfl) (by have := hT.1; (first | ((try clear c6_); (try clear hS1); (try clear hsz); (try clear s₁); (try clear hky); (try clear hkv); (try clear hkq); omega) | omega)) (by intro j y hj; (first | ((try clear y); (try clear c6_); (try clear hS1); (try clear hT1); (try clear hsz); (try clear s₁); (try clear hky); (try clear hkv); (try clear hkq); omega) | omega)) (Nat.lt_succ_self _) hP hS (lv_sub hl [0, 3, 2, 1] rfl)
    · intro i_1 μ1_ H locs ls q1_1 q2_1 q3_1 hP hS hl
      have hl : lv_has ls 4 [(3, .int (iZ (i_1))), (2, .int (iZ (bg))), (1, .int (iZ (ky))), (0, .ref (h0 + 1))] := hl
      have hPn42 := hP
      obtain rfl := q1_1
      have hP := hPn42
      have hix := q2_1
      have hiy := q3_1
      refine lv_iload_n hx hb dX5_keep_42 rfl (lv_at hl 0 rfl) ?_
      refine lv_sipush (v := iZ 200) hx hb dX5_keep_43 rfl ?_
      refine fz_icmp_lt (tgt := 56) (by constructor <;> (first | ((try clear hiy); (try clear hix); (try clear hPn42); (try clear q1_1); (try clear c6_); (try clear hS1); (try clear hsz); (try clear s₁); (try clear hky); (try clear hkv); (try clear hkq); omega) | omega)) (by decide) hx hb dX5_keep_46 (by decide) (fun c46_ => ?_) (fun c46_ => ?_)
      · refine lv_iload_n hx hb dX5_keep_56 rfl (lv_at hl 0 rfl) ?_
        refine lv_aload_n hx hb dX5_keep_57 rfl (lv_at hl 3 rfl) ?_
        refine fz_get (D := (dC, dI)) (ci := 5) (v := .int (iZ (μ1_ 1 3))) (C := RX5) (T := TX5) (N := 8) hx hb hts inG5 hown hK hP (k := 1) (by decide) (F := (sF1 h0)) sE_1 rfl 3 (by decide) (hts _ k39) (fun _ h9 => h9) rfl dX5_keep_58 ?_
        refine fz_icmp_ne (tgt := 81) (by constructor <;> (first | ((try clear hiy); (try clear hix); (try clear hPn42); (try clear q3_1); (try clear q1_1); (try clear c6_); (try clear hS1); (try clear hT1); (try clear hsz); (try clear s₁); (try clear hky); (try clear hkv); (try clear hkq); omega) | omega)) (by constructor <;> (first | ((try clear c46_); (try clear hiy); (try clear hix); (try clear hPn42); (try clear q3_1); (try clear q2_1); (try clear q1_1); (try clear c6_); (try clear hS1); (try clear hsz); (try clear s₁); (try clear hky); (try clear hkv); (try clear hkq); omega) | omega)) hx hb dX5_keep_61 (by decide) (fun c61_ => ?_) (fun c61_ => ?_)
        · refine lv_aload_n hx hb dX5_keep_81 rfl (lv_at hl 3 rfl) ?_
          refine fz_get (D := (dC, dI)) (ci := 5) (v := .ref (h0 + 4)) (C := RX5) (T := TX5) (N := 8) hx hb hts inG5 hown hK hP (k := 1) (by decide) (F := (sF1 h0)) sE_1 rfl 4 (by decide) (hts _ k41) (fun _ h9 => h9) rfl dX5_keep_82 ?_
          refine lv_aload_n hx hb dX5_keep_85 rfl (lv_at hl 3 rfl) ?_
          refine fz_get (D := (dC, dI)) (ci := 5) (v := .int (iZ (μ1_ 1 5))) (C := RX5) (T := TX5) (N := 8) hx hb hts inG5 hown hK hP (k := 1) (by decide) (F := (sF1 h0)) sE_1 rfl 5 (by decide) (hts _ k43) (fun _ h9 => h9) rfl dX5_keep_86 ?_
          refine lv_iload_n hx hb dX5_keep_89 rfl (lv_at hl 0 rfl) ?_
          refine fz_st (k := 4) (n := 60) (i := (μ1_ 1 5)) (z := i_1) hx hb hK hP fA_in hS 0 (by decide) sE_4 rfl ⟨by (first | ((try clear c61_); (try clear c46_); (try clear hiy); (try clear hix); (try clear hPn42); (try clear q3_1); (try clear q2_1); (try clear q1_1); (try clear hT1); (try clear hsz); (try clear s₁); (try clear hky); (try clear hkv); (try clear hkq); omega) | omega), by (first | ((try clear c61_); (try clear c46_); (try clear hiy); (try clear hix); (try clear hPn42); (try clear q3_1); (try clear q2_1); (try clear q1_1); (try clear μ1_); (try clear i_1); (try clear hS1); (try clear hT1); (try clear hsz); (try clear s₁); (try clear hky); (try clear hkv); (try clear hkq); omega) | omega)⟩ (by decide) dX5_keep_90 (fun H locs hP hS => ?_)
          obtain ⟨μ2, eμ2⟩ : ∃ x : va_M, x = uz μ1_ 4 (μ1_ 1 5).toNat (i_1) := ⟨_, rfl⟩
          rw [← eμ2] at hP
          refine lv_aload_n hx hb dX5_keep_91 rfl (lv_at hl 3 rfl) ?_
          refine lv_dup hx hb dX5_keep_92 rfl ?_
          refine fz_get (D := (dC, dI)) (ci := 5) (v := .int (iZ (μ2 1 5))) (C := RX5) (T := TX5) (N := 8) hx hb hts inG5 hown hK hP (k := 1) (by decide) (F := (sF1 h0)) sE_1 rfl 5 (by decide) (hts _ k43) (fun _ h9 => h9) rfl dX5_keep_93 ?_
          rw [show μ2 1 5 = μ1_ 1 5 from by rw [eμ2, uz_n (by (first | ((try clear x); (try clear eμ2); (try clear μ2); (try clear c61_); (try clear c46_); (try clear hiy); (try clear hix); (try clear hPn42); (try clear q3_1); (try clear q2_1); (try clear q1_1); (try clear c6_); (try clear hS1); (try clear hT1); (try clear hsz); (try clear s₁); (try clear hky); (try clear hkv); (try clear hkq); omega) | omega))]]
          refine lv_iconst (v := iZ 1) hx hb dX5_keep_96 rfl ?_
          refine lv_iadd hx hb dX5_keep_97 ?_
          refine lv_topi (fun x9 ex9 => ?_)
          obtain rfl : x9 = iZ ((μ1_ 1 5) + 1) := ex9.trans (iZ_add _ _)
          refine fz_put (D := (dC, dI)) (ci := 5) (ty := .int) (z := ((μ1_ 1 5) + 1)) (C := RX5) (T := TX5) (N := 8) hx hb hts inG5 tyX5 tyX5_ok nmX5 hown hK hP fA_in hS (k := 1) (by decide) (F := (sF1 h0)) sE_1 rfl 5 (by decide) (hts _ k43) (fun _ h9 => h9) rfl (by decide +kernel) rfl rfl (fun _ => Nat.le_of_ble_eq_true rfl) (fun _ _ => rfl) dX5_keep_98 (fun H locs hP hS => ?_)
          obtain ⟨μ3, eμ3⟩ : ∃ x : va_M, x = uz μ2 1 5 ((μ1_ 1 5) + 1) := ⟨_, rfl⟩
          rw [← eμ3] at hP
          refine lv_iconst (v := iZ 0) hx hb dX5_keep_101 rfl ?_
          exact W.iret (v := iZ (0)) hx hb hr (fun t9 ht9 hW9 => ⟨⟨iZ (0), (μ3, 0), rfl, ⟨rfl, (by
                            dsimp only
                            refine ⟨fun _ => ?_, fun h => absurd rfl h⟩
                            have w5 : μ3 1 5 = μ1_ 1 5 + 1 := by rw [eμ3, eμ2]; first | rw [uz_s] | (rw [uz_s]; rfl)
                            have w4 : μ3 4 (μ1_ 1 5).toNat = i_1 := by
                              rw [eμ3, eμ2]
                              repeat rw [uz_n (by (first | ((try clear w4); (try clear w5); (try clear μ2); (try clear x); (try clear eμ3); (try clear ex9); (try clear eμ2); (try clear c61_); (try clear c46_); (try clear hiy); (try clear hix); (try clear hPn42); (try clear q3_1); (try clear q2_1); (try clear q1_1); (try clear c6_); (try clear hS1); (try clear hT1); (try clear hsz); (try clear s₁); (try clear hky); (try clear hkv); (try clear hkq); omega) | omega))]
                              rw [uz_s]
                            have w4b : ∀ y, y ≠ (μ1_ 1 5).toNat → μ3 4 y = μ1_ 4 y := fun y hy => by
                              rw [eμ3, eμ2]
                              repeat rw [uz_n (by (first | ((try clear w4b); (try clear w4); (try clear w5); (try clear μ2); (try clear x); (try clear eμ3); (try clear ex9); (try clear eμ2); (try clear c61_); (try clear c46_); (try clear hiy); (try clear hix); (try clear hPn42); (try clear q3_1); (try clear q2_1); (try clear q1_1); (try clear c6_); (try clear hS1); (try clear hT1); (try clear hsz); (try clear s₁); (try clear hky); (try clear hkv); (try clear hkq); omega) | omega))]
                            have w3 : μ3 1 3 = μ1_ 1 3 := by
                              rw [eμ3, eμ2]
                              repeat rw [uz_n (by (first | ((try clear w3); (try clear w4b); (try clear w4); (try clear w5); (try clear μ2); (try clear x); (try clear eμ3); (try clear ex9); (try clear eμ2); (try clear c61_); (try clear c46_); (try clear hiy); (try clear hix); (try clear hPn42); (try clear q3_1); (try clear q2_1); (try clear q1_1); (try clear c6_); (try clear hS1); (try clear hT1); (try clear hsz); (try clear s₁); (try clear hky); (try clear hkv); (try clear hkq); omega) | omega))]
                            refine ⟨by (first | ((try clear w3); (try clear w4b); (try clear w4); (try clear μ2); (try clear x); (try clear eμ3); (try clear ex9); (try clear eμ2); (try clear c61_); (try clear c46_); (try clear hiy); (try clear hix); (try clear hPn42); (try clear q3_1); (try clear q2_1); (try clear q1_1); (try clear hT1); (try clear hsz); (try clear s₁); (try clear hky); (try clear hkv); (try clear hkq); omega) | omega), ?_, by rw [eμ3, eμ2]; exact fr_uz (fr_uz fr_rfl (Or.inr (Or.inr rfl))) (Or.inl ⟨rfl, Or.inr rfl⟩), Or.inl ⟨by (first | ((try clear w4b); (try clear w5); (try clear μ2); (try clear x); (try clear eμ3); (try clear ex9); (try clear eμ2); (try clear c46_); (try clear hiy); (try clear hix); (try clear hPn42); (try clear q1_1); (try clear c6_); (try clear hS1); (try clear hsz); (try clear s₁); (try clear hky); (try clear hkv); (try clear hkq); omega) | omega), tabC_fr hT w3 (fun y => by
                              rw [eμ3, eμ2]
                              repeat rw [uz_n (by (first | ((try clear w3); (try clear w4b); (try clear w4); (try clear w5); (try clear μ2); (try clear x); (try clear eμ3); (try clear ex9); (try clear eμ2); (try clear c61_); (try clear c46_); (try clear hiy); (try clear hix); (try clear hPn42); (try clear q3_1); (try clear q2_1); (try clear q1_1); (try clear c6_); (try clear hS1); (try clear hT1); (try clear hsz); (try clear s₁); (try clear hky); (try clear hkv); (try clear hkq); omega) | omega))]), ?_⟩⟩
                            · rw [w3]; exact Int.le_refl _
                            · rw [← hix]
                              exact fndC_add hS9 (by (first | ((try clear w3); (try clear w4b); (try clear w4); (try clear μ2); (try clear x); (try clear eμ3); (try clear ex9); (try clear eμ2); (try clear c61_); (try clear c46_); (try clear hiy); (try clear hix); (try clear hPn42); (try clear q3_1); (try clear q2_1); (try clear q1_1); (try clear hT1); (try clear hsz); (try clear s₁); (try clear hky); (try clear hkv); (try clear hkq); omega) | omega)) (by (first | ((try clear w4b); (try clear w5); (try clear μ2); (try clear x); (try clear eμ3); (try clear ex9); (try clear eμ2); (try clear hiy); (try clear hix); (try clear hPn42); (try clear q1_1); (try clear c6_); (try clear hS1); (try clear hsz); (try clear s₁); (try clear hky); (try clear hkv); (try clear hkq); omega) | omega)) (by (first | ((try clear w4b); (try clear w4); (try clear w5); (try clear μ2); (try clear x); (try clear eμ3); (try clear ex9); (try clear eμ2); (try clear c61_); (try clear c46_); (try clear hiy); (try clear hix); (try clear hPn42); (try clear q3_1); (try clear q2_1); (try clear q1_1); (try clear c6_); (try clear hS1); (try clear hsz); (try clear s₁); (try clear hky); (try clear hkv); (try clear hkq); omega) | omega)) w5 w4b w4)⟩, by rw [ht9]; exact hP, va_K.moved hW9.alike hK⟩, hS.F ht9⟩) hS.2.2 dX5_keep_102
        · refine lv_aload_n hx hb dX5_keep_64 rfl (lv_at hl 3 rfl) ?_
          refine fz_get (D := (dC, dI)) (ci := 5) (v := .ref (h0 + 3)) (C := RX5) (T := TX5) (N := 8) hx hb hts inG5 hown hK hP (k := 1) (by decide) (F := (sF1 h0)) sE_1 rfl 2 (by decide) (hts _ k38) (fun _ h9 => h9) rfl dX5_keep_65 ?_
          refine lv_iload_n hx hb dX5_keep_68 rfl (lv_at hl 0 rfl) ?_
          refine lv_iload_n hx hb dX5_keep_69 rfl (lv_at hl 2 rfl) ?_
          refine fz_st (k := 3) (n := 200) (i := i_1) (z := ky) hx hb hK hP fA_in hS 0 (by decide) sE_3 rfl ⟨by (first | ((try clear hiy); (try clear hix); (try clear hPn42); (try clear q3_1); (try clear q1_1); (try clear c6_); (try clear hS1); (try clear hsz); (try clear s₁); (try clear hky); (try clear hkv); (try clear hkq); omega) | omega), by (first | ((try clear c61_); (try clear hiy); (try clear hix); (try clear hPn42); (try clear q3_1); (try clear q2_1); (try clear q1_1); (try clear μ1_); (try clear i_1); (try clear c6_); (try clear hS1); (try clear hT1); (try clear hsz); (try clear s₁); (try clear hky); (try clear hkv); (try clear hkq); omega) | omega)⟩ (by decide) dX5_keep_70 (fun H locs hP hS => ?_)
          obtain ⟨μ4, eμ4⟩ : ∃ x : va_M, x = uz μ1_ 3 (i_1).toNat (ky) := ⟨_, rfl⟩
          rw [← eμ4] at hP
          refine lv_aload_n hx hb dX5_keep_71 rfl (lv_at hl 3 rfl) ?_
          refine lv_dup hx hb dX5_keep_72 rfl ?_
          refine fz_get (D := (dC, dI)) (ci := 5) (v := .int (iZ (μ4 1 3))) (C := RX5) (T := TX5) (N := 8) hx hb hts inG5 hown hK hP (k := 1) (by decide) (F := (sF1 h0)) sE_1 rfl 3 (by decide) (hts _ k39) (fun _ h9 => h9) rfl dX5_keep_73 ?_
          rw [show μ4 1 3 = μ1_ 1 3 from by rw [eμ4, uz_n (by (first | ((try clear x); (try clear eμ4); (try clear μ4); (try clear c61_); (try clear c46_); (try clear hiy); (try clear hix); (try clear hPn42); (try clear q3_1); (try clear q2_1); (try clear q1_1); (try clear c6_); (try clear hS1); (try clear hT1); (try clear hsz); (try clear s₁); (try clear hky); (try clear hkv); (try clear hkq); omega) | omega))]]
          refine lv_iconst (v := iZ 1) hx hb dX5_keep_76 rfl ?_
          refine lv_iadd hx hb dX5_keep_77 ?_
          refine lv_topi (fun x9 ex9 => ?_)
          obtain rfl : x9 = iZ ((μ1_ 1 3) + 1) := ex9.trans (iZ_add _ _)
          refine fz_put (D := (dC, dI)) (ci := 5) (ty := .int) (z := ((μ1_ 1 3) + 1)) (C := RX5) (T := TX5) (N := 8) hx hb hts inG5 tyX5 tyX5_ok nmX5 hown hK hP fA_in hS (k := 1) (by decide) (F := (sF1 h0)) sE_1 rfl 3 (by decide) (hts _ k39) (fun _ h9 => h9) rfl (by decide +kernel) rfl rfl (fun _ => Nat.le_of_ble_eq_true rfl) (fun _ _ => rfl) dX5_keep_78 (fun H locs hP hS => ?_)
          obtain ⟨μ5, eμ5⟩ : ∃ x : va_M, x = uz μ4 1 3 ((μ1_ 1 3) + 1) := ⟨_, rfl⟩
          rw [← eμ5] at hP
          refine lv_aload_n hx hb dX5_keep_81 rfl (lv_at hl 3 rfl) ?_
          refine fz_get (D := (dC, dI)) (ci := 5) (v := .ref (h0 + 4)) (C := RX5) (T := TX5) (N := 8) hx hb hts inG5 hown hK hP (k := 1) (by decide) (F := (sF1 h0)) sE_1 rfl 4 (by decide) (hts _ k41) (fun _ h9 => h9) rfl dX5_keep_82 ?_
          refine lv_aload_n hx hb dX5_keep_85 rfl (lv_at hl 3 rfl) ?_
          refine fz_get (D := (dC, dI)) (ci := 5) (v := .int (iZ (μ5 1 5))) (C := RX5) (T := TX5) (N := 8) hx hb hts inG5 hown hK hP (k := 1) (by decide) (F := (sF1 h0)) sE_1 rfl 5 (by decide) (hts _ k43) (fun _ h9 => h9) rfl dX5_keep_86 ?_
          rw [show μ5 1 5 = μ1_ 1 5 from by rw [eμ5, uz_n (by (first | ((try clear μ4); (try clear x); (try clear eμ5); (try clear μ5); (try clear ex9); (try clear eμ4); (try clear c61_); (try clear c46_); (try clear hiy); (try clear hix); (try clear hPn42); (try clear q3_1); (try clear q2_1); (try clear q1_1); (try clear c6_); (try clear hS1); (try clear hT1); (try clear hsz); (try clear s₁); (try clear hky); (try clear hkv); (try clear hkq); omega) | omega)), eμ4, uz_n (by (first | ((try clear μ4); (try clear x); (try clear eμ5); (try clear μ5); (try clear ex9); (try clear eμ4); (try clear c61_); (try clear c46_); (try clear hiy); (try clear hix); (try clear hPn42); (try clear q3_1); (try clear q2_1); (try clear q1_1); (try clear c6_); (try clear hS1); (try clear hT1); (try clear hsz); (try clear s₁); (try clear hky); (try clear hkv); (try clear hkq); omega) | omega))]]
          refine lv_iload_n hx hb dX5_keep_89 rfl (lv_at hl 0 rfl) ?_
          refine fz_st (k := 4) (n := 60) (i := (μ1_ 1 5)) (z := i_1) hx hb hK hP fA_in hS 0 (by decide) sE_4 rfl ⟨by (first | ((try clear μ4); (try clear x); (try clear eμ5); (try clear μ5); (try clear ex9); (try clear eμ4); (try clear c61_); (try clear c46_); (try clear hiy); (try clear hix); (try clear hPn42); (try clear q3_1); (try clear q2_1); (try clear q1_1); (try clear hT1); (try clear hsz); (try clear s₁); (try clear hky); (try clear hkv); (try clear hkq); omega) | omega), by (first | ((try clear μ1_); (try clear μ4); (try clear x); (try clear eμ5); (try clear μ5); (try clear ex9); (try clear i_1); (try clear eμ4); (try clear c61_); (try clear c46_); (try clear hiy); (try clear hix); (try clear hPn42); (try clear q3_1); (try clear q2_1); (try clear q1_1); (try clear hS1); (try clear hT1); (try clear hsz); (try clear s₁); (try clear hky); (try clear hkv); (try clear hkq); omega) | omega)⟩ (by decide) dX5_keep_90 (fun H locs hP hS => ?_)
          obtain ⟨μ6, eμ6⟩ : ∃ x : va_M, x = uz μ5 4 (μ1_ 1 5).toNat (i_1) := ⟨_, rfl⟩
          rw [← eμ6] at hP
          refine lv_aload_n hx hb dX5_keep_91 rfl (lv_at hl 3 rfl) ?_
          refine lv_dup hx hb dX5_keep_92 rfl ?_
          refine fz_get (D := (dC, dI)) (ci := 5) (v := .int (iZ (μ6 1 5))) (C := RX5) (T := TX5) (N := 8) hx hb hts inG5 hown hK hP (k := 1) (by decide) (F := (sF1 h0)) sE_1 rfl 5 (by decide) (hts _ k43) (fun _ h9 => h9) rfl dX5_keep_93 ?_
          rw [show μ6 1 5 = μ1_ 1 5 from by rw [eμ6, uz_n (by (first | ((try clear μ5); (try clear x); (try clear eμ6); (try clear μ6); (try clear μ4); (try clear eμ5); (try clear ex9); (try clear eμ4); (try clear c61_); (try clear c46_); (try clear hiy); (try clear hix); (try clear hPn42); (try clear q3_1); (try clear q2_1); (try clear q1_1); (try clear c6_); (try clear hS1); (try clear hT1); (try clear hsz); (try clear s₁); (try clear hky); (try clear hkv); (try clear hkq); omega) | omega)), eμ5, uz_n (by (first | ((try clear μ5); (try clear x); (try clear eμ6); (try clear μ6); (try clear μ4); (try clear eμ5); (try clear ex9); (try clear eμ4); (try clear c61_); (try clear c46_); (try clear hiy); (try clear hix); (try clear hPn42); (try clear q3_1); (try clear q2_1); (try clear q1_1); (try clear c6_); (try clear hS1); (try clear hT1); (try clear hsz); (try clear s₁); (try clear hky); (try clear hkv); (try clear hkq); omega) | omega)), eμ4, uz_n (by (first | ((try clear μ5); (try clear x); (try clear eμ6); (try clear μ6); (try clear μ4); (try clear eμ5); (try clear ex9); (try clear eμ4); (try clear c61_); (try clear c46_); (try clear hiy); (try clear hix); (try clear hPn42); (try clear q3_1); (try clear q2_1); (try clear q1_1); (try clear c6_); (try clear hS1); (try clear hT1); (try clear hsz); (try clear s₁); (try clear hky); (try clear hkv); (try clear hkq); omega) | omega))]]
          refine lv_iconst (v := iZ 1) hx hb dX5_keep_96 rfl ?_
          refine lv_iadd hx hb dX5_keep_97 ?_
          refine lv_topi (fun x9 ex9 => ?_)
          obtain rfl : x9 = iZ ((μ1_ 1 5) + 1) := ex9.trans (iZ_add _ _)
          refine fz_put (D := (dC, dI)) (ci := 5) (ty := .int) (z := ((μ1_ 1 5) + 1)) (C := RX5) (T := TX5) (N := 8) hx hb hts inG5 tyX5 tyX5_ok nmX5 hown hK hP fA_in hS (k := 1) (by decide) (F := (sF1 h0)) sE_1 rfl 5 (by decide) (hts _ k43) (fun _ h9 => h9) rfl (by decide +kernel) rfl rfl (fun _ => Nat.le_of_ble_eq_true rfl) (fun _ _ => rfl) dX5_keep_98 (fun H locs hP hS => ?_)
          obtain ⟨μ7, eμ7⟩ : ∃ x : va_M, x = uz μ6 1 5 ((μ1_ 1 5) + 1) := ⟨_, rfl⟩
          rw [← eμ7] at hP
          refine lv_iconst (v := iZ 0) hx hb dX5_keep_101 rfl ?_
          exact W.iret (v := iZ (0)) hx hb hr (fun t9 ht9 hW9 => ⟨⟨iZ (0), (μ7, 0), rfl, ⟨rfl, (by
                            dsimp only
                            refine ⟨fun _ => ?_, fun h => absurd rfl h⟩
                            have w5 : μ7 1 5 = μ1_ 1 5 + 1 := by rw [eμ7, eμ6, eμ5, eμ4]; first | rw [uz_s] | (rw [uz_s]; rfl)
                            have w4 : μ7 4 (μ1_ 1 5).toNat = i_1 := by
                              rw [eμ7, eμ6, eμ5, eμ4]
                              repeat rw [uz_n (by (first | ((try clear w4); (try clear w5); (try clear μ6); (try clear x); (try clear eμ7); (try clear ex9); (try clear μ5); (try clear eμ6); (try clear μ4); (try clear eμ5); (try clear eμ4); (try clear c61_); (try clear c46_); (try clear hiy); (try clear hix); (try clear hPn42); (try clear q3_1); (try clear q2_1); (try clear q1_1); (try clear c6_); (try clear hS1); (try clear hT1); (try clear hsz); (try clear s₁); (try clear hky); (try clear hkv); (try clear hkq); omega) | omega))]
                              rw [uz_s]
                            have w4b : ∀ y, y ≠ (μ1_ 1 5).toNat → μ7 4 y = μ1_ 4 y := fun y hy => by
                              rw [eμ7, eμ6, eμ5, eμ4]
                              repeat rw [uz_n (by (first | ((try clear w4b); (try clear w4); (try clear w5); (try clear μ6); (try clear x); (try clear eμ7); (try clear ex9); (try clear μ5); (try clear eμ6); (try clear μ4); (try clear eμ5); (try clear eμ4); (try clear c61_); (try clear c46_); (try clear hiy); (try clear hix); (try clear hPn42); (try clear q3_1); (try clear q2_1); (try clear q1_1); (try clear c6_); (try clear hS1); (try clear hT1); (try clear hsz); (try clear s₁); (try clear hky); (try clear hkv); (try clear hkq); omega) | omega))]
                            have w3 : μ7 1 3 = μ1_ 1 3 + 1 := by
                              rw [eμ7, eμ6, eμ5, eμ4]
                              repeat rw [uz_n (by (first | ((try clear w3); (try clear w4b); (try clear w4); (try clear w5); (try clear μ6); (try clear x); (try clear eμ7); (try clear ex9); (try clear μ5); (try clear eμ6); (try clear μ4); (try clear eμ5); (try clear eμ4); (try clear c61_); (try clear c46_); (try clear hiy); (try clear hix); (try clear hPn42); (try clear q3_1); (try clear q2_1); (try clear q1_1); (try clear c6_); (try clear hS1); (try clear hT1); (try clear hsz); (try clear s₁); (try clear hky); (try clear hkv); (try clear hkq); omega) | omega))]
                              rw [uz_s]
                            refine ⟨by (first | ((try clear w3); (try clear w4b); (try clear w4); (try clear μ6); (try clear x); (try clear eμ7); (try clear ex9); (try clear μ5); (try clear eμ6); (try clear μ4); (try clear eμ5); (try clear eμ4); (try clear c61_); (try clear c46_); (try clear hiy); (try clear hix); (try clear hPn42); (try clear q3_1); (try clear q2_1); (try clear q1_1); (try clear hT1); (try clear hsz); (try clear s₁); (try clear hky); (try clear hkv); (try clear hkq); omega) | omega), by (first | ((try clear w4b); (try clear w5); (try clear μ6); (try clear x); (try clear eμ7); (try clear ex9); (try clear μ5); (try clear eμ6); (try clear μ4); (try clear eμ5); (try clear eμ4); (try clear c46_); (try clear hiy); (try clear hix); (try clear hPn42); (try clear q3_1); (try clear q1_1); (try clear c6_); (try clear hS1); (try clear hsz); (try clear s₁); (try clear hky); (try clear hkv); (try clear hkq); omega) | omega), by rw [eμ7, eμ6, eμ5, eμ4]; exact fr_uz (fr_uz (fr_uz (fr_uz fr_rfl (Or.inr (Or.inl rfl))) (Or.inl ⟨rfl, Or.inl rfl⟩)) (Or.inr (Or.inr rfl))) (Or.inl ⟨rfl, Or.inr rfl⟩), Or.inr ⟨by (first | ((try clear w3); (try clear w4b); (try clear w4); (try clear w5); (try clear μ6); (try clear x); (try clear eμ7); (try clear ex9); (try clear μ5); (try clear eμ6); (try clear μ4); (try clear eμ5); (try clear eμ4); (try clear c46_); (try clear hiy); (try clear hix); (try clear hPn42); (try clear q3_1); (try clear q1_1); (try clear c6_); (try clear hS1); (try clear hsz); (try clear s₁); (try clear hky); (try clear hkv); (try clear hkq); omega) | omega), by (first | ((try clear w4b); (try clear w5); (try clear μ6); (try clear x); (try clear eμ7); (try clear ex9); (try clear μ5); (try clear eμ6); (try clear μ4); (try clear eμ5); (try clear eμ4); (try clear hiy); (try clear hix); (try clear hPn42); (try clear q3_1); (try clear q1_1); (try clear c6_); (try clear hS1); (try clear hsz); (try clear s₁); (try clear hky); (try clear hkv); (try clear hkq); omega) | omega), tabC_new hT (by (first | ((try clear w4b); (try clear w5); (try clear μ6); (try clear x); (try clear eμ7); (try clear ex9); (try clear μ5); (try clear eμ6); (try clear μ4); (try clear eμ5); (try clear eμ4); (try clear hiy); (try clear hix); (try clear hPn42); (try clear q3_1); (try clear q1_1); (try clear c6_); (try clear hS1); (try clear hsz); (try clear s₁); (try clear hky); (try clear hkv); (try clear hkq); omega) | omega)) hkq hkv w3 (fun y hy => by
                              rw [eμ7, eμ6, eμ5, eμ4]
                              rw [uz_n (by (first | ((try clear hy); (try clear w3); (try clear w4b); (try clear w4); (try clear w5); (try clear μ6); (try clear x); (try clear eμ7); (try clear ex9); (try clear μ5); (try clear eμ6); (try clear μ4); (try clear eμ5); (try clear eμ4); (try clear c61_); (try clear c46_); (try clear hiy); (try clear hix); (try clear hPn42); (try clear q3_1); (try clear q2_1); (try clear q1_1); (try clear c6_); (try clear hS1); (try clear hT1); (try clear hsz); (try clear s₁); (try clear hky); (try clear hkv); (try clear hkq); omega) | omega)), uz_n (by (first | ((try clear hy); (try clear w3); (try clear w4b); (try clear w4); (try clear w5); (try clear μ6); (try clear x); (try clear eμ7); (try clear ex9); (try clear μ5); (try clear eμ6); (try clear μ4); (try clear eμ5); (try clear eμ4); (try clear c61_); (try clear c46_); (try clear hiy); (try clear hix); (try clear hPn42); (try clear q3_1); (try clear q2_1); (try clear q1_1); (try clear c6_); (try clear hS1); (try clear hT1); (try clear hsz); (try clear s₁); (try clear hky); (try clear hkv); (try clear hkq); omega) | omega)), uz_n (by (first | ((try clear hy); (try clear w3); (try clear w4b); (try clear w4); (try clear w5); (try clear μ6); (try clear x); (try clear eμ7); (try clear ex9); (try clear μ5); (try clear eμ6); (try clear μ4); (try clear eμ5); (try clear eμ4); (try clear c61_); (try clear c46_); (try clear hiy); (try clear hix); (try clear hPn42); (try clear q3_1); (try clear q2_1); (try clear q1_1); (try clear c6_); (try clear hS1); (try clear hT1); (try clear hsz); (try clear s₁); (try clear hky); (try clear hkv); (try clear hkq); omega) | omega)), uz_n (by (first | ((try clear w4b); (try clear w5); (try clear μ6); (try clear x); (try clear eμ7); (try clear ex9); (try clear μ5); (try clear eμ6); (try clear μ4); (try clear eμ5); (try clear eμ4); (try clear hiy); (try clear hix); (try clear hPn42); (try clear q3_1); (try clear q1_1); (try clear c6_); (try clear hS1); (try clear hsz); (try clear s₁); (try clear hky); (try clear hkv); (try clear hkq); omega) | omega))]) ?_, ?_⟩⟩
                            · rw [eμ7, eμ6, eμ5, eμ4, uz_n (by (first | ((try clear w3); (try clear w4b); (try clear w4); (try clear w5); (try clear μ6); (try clear x); (try clear eμ7); (try clear ex9); (try clear μ5); (try clear eμ6); (try clear μ4); (try clear eμ5); (try clear eμ4); (try clear c61_); (try clear c46_); (try clear hiy); (try clear hix); (try clear hPn42); (try clear q3_1); (try clear q2_1); (try clear q1_1); (try clear c6_); (try clear hS1); (try clear hT1); (try clear hsz); (try clear s₁); (try clear hky); (try clear hkv); (try clear hkq); omega) | omega)), uz_n (by (first | ((try clear w3); (try clear w4b); (try clear w4); (try clear w5); (try clear μ6); (try clear x); (try clear eμ7); (try clear ex9); (try clear μ5); (try clear eμ6); (try clear μ4); (try clear eμ5); (try clear eμ4); (try clear c61_); (try clear c46_); (try clear hiy); (try clear hix); (try clear hPn42); (try clear q3_1); (try clear q2_1); (try clear q1_1); (try clear c6_); (try clear hS1); (try clear hT1); (try clear hsz); (try clear s₁); (try clear hky); (try clear hkv); (try clear hkq); omega) | omega)), uz_n (by (first | ((try clear w3); (try clear w4b); (try clear w4); (try clear w5); (try clear μ6); (try clear x); (try clear eμ7); (try clear ex9); (try clear μ5); (try clear eμ6); (try clear μ4); (try clear eμ5); (try clear eμ4); (try clear c61_); (try clear c46_); (try clear hiy); (try clear hix); (try clear hPn42); (try clear q3_1); (try clear q2_1); (try clear q1_1); (try clear c6_); (try clear hS1); (try clear hT1); (try clear hsz); (try clear s₁); (try clear hky); (try clear hkv); (try clear hkq); omega) | omega)), show (μ1_ 1 3).toNat = (i_1).toNat by (first | ((try clear w4b); (try clear w5); (try clear μ6); (try clear x); (try clear eμ7); (try clear ex9); (try clear μ5); (try clear eμ6); (try clear μ4); (try clear eμ5); (try clear eμ4); (try clear hiy); (try clear hix); (try clear hPn42); (try clear q3_1); (try clear q1_1); (try clear c6_); (try clear hS1); (try clear hsz); (try clear s₁); (try clear hky); (try clear hkv); (try clear hkq); omega) | omega), uz_s]; exact hky
                            · rw [show ((T.length : Nat) : Int) = i_1 by (first | ((try clear w3); (try clear w4b); (try clear w4); (try clear w5); (try clear μ6); (try clear x); (try clear eμ7); (try clear ex9); (try clear μ5); (try clear eμ6); (try clear μ4); (try clear eμ5); (try clear eμ4); (try clear c46_); (try clear hiy); (try clear hix); (try clear hPn42); (try clear q3_1); (try clear q1_1); (try clear c6_); (try clear hS1); (try clear hsz); (try clear s₁); (try clear hky); (try clear hkv); (try clear hkq); omega) | omega)]
                              exact fndC_add hS9 (by (first | ((try clear w3); (try clear w4b); (try clear w4); (try clear μ6); (try clear x); (try clear eμ7); (try clear ex9); (try clear μ5); (try clear eμ6); (try clear μ4); (try clear eμ5); (try clear eμ4); (try clear c61_); (try clear c46_); (try clear hiy); (try clear hix); (try clear hPn42); (try clear q3_1); (try clear q2_1); (try clear q1_1); (try clear hT1); (try clear hsz); (try clear s₁); (try clear hky); (try clear hkv); (try clear hkq); omega) | omega)) (by (first | ((try clear w4b); (try clear w5); (try clear μ6); (try clear x); (try clear eμ7); (try clear ex9); (try clear μ5); (try clear eμ6); (try clear μ4); (try clear eμ5); (try clear eμ4); (try clear hiy); (try clear hix); (try clear hPn42); (try clear q3_1); (try clear q1_1); (try clear c6_); (try clear hS1); (try clear hsz); (try clear s₁); (try clear hky); (try clear hkv); (try clear hkq); omega) | omega)) (by (first | ((try clear w4b); (try clear w5); (try clear μ6); (try clear x); (try clear eμ7); (try clear ex9); (try clear μ5); (try clear eμ6); (try clear μ4); (try clear eμ5); (try clear eμ4); (try clear c46_); (try clear hiy); (try clear hix); (try clear hPn42); (try clear q3_1); (try clear q1_1); (try clear c6_); (try clear hS1); (try clear hsz); (try clear s₁); (try clear hky); (try clear hkv); (try clear hkq); omega) | omega)) w5 w4b w4)⟩, by rw [ht9]; exact hP, va_K.moved hW9.alike hK⟩, hS.F ht9⟩) hS.2.2 dX5_keep_102
      · refine lv_aload_n hx hb dX5_keep_49 rfl (lv_at hl 3 rfl) ?_
        refine lv_iconst (v := iZ 2) hx hb dX5_keep_50 rfl ?_
        refine lv_iload_n hx hb dX5_keep_51 rfl (lv_at hl 1 rfl) ?_
        refine va_calli (va_runV (As := [.int (iZ (2)), .int (iZ (bg))]) (rest := []) ⟨hx, hb, hml, hown, hts⟩ (s_Xfaulty l dC dI cI cZ cII cIII h0 H.size μ1_ (2) (bg) ) (cwV 2 hts (gV_G k702 k704 ks_yX5_faulty k2 k705) rfl rfl rfl (by decide +kernel) ⟨Nat.le_of_ble_eq_true rfl, Nat.le_of_ble_eq_true rfl⟩) ⟨fun a U g mk q => by obtain ⟨q0, q1, qP, qK, qM⟩ := q; exact ⟨q0, q1, qP, va_K.moved (u := U) (U := U.calling g mk a) (Vm.Alike.refl U.vm) qK, qM⟩, va_recv hK hP (ci := 5) (q0 := 1) rfl ((fw_get (by decide)).trans (by rw [sE_1])), fun U hU hW => ⟨rfl, by rw [hU], by rw [hU]; exact hP, va_K.moved hW.alike hK, xM_warm hW hM⟩⟩ rfl rfl hl.1 rfl (lv_room (Nat.le_of_ble_eq_true rfl)) dX5_keep_52 ⟨Nat.le_of_ble_eq_true rfl, Nat.le_of_ble_eq_true rfl⟩) hS (fun q _ h => fA_le hS.1 q h) (fA_le hS.1) (fun r9 u9 t9 H1 locs ht9 hvm9 hw9 hB9 hz9 hk9 hS => ?_)
        obtain ⟨μf, rf⟩ := u9
        obtain ⟨hP, -⟩ := hB9
        rw [ht9] at hP
        generalize H1 = H at hP hS ⊢
        obtain ⟨e9, hw9⟩ := hw9
        have e9 : r9 = iZ rf := e9
        subst e9
        simp only at hP hw9
        have hμf := hw9; clear hw9
        obtain ⟨f1_, f2_⟩ := hμf
        exact W.iret (v := iZ (rf)) hx hb hr (fun t9 ht9 hW9 => ⟨⟨iZ (rf), (μf, rf), rfl, ⟨rfl, (by
                        dsimp only
                        exact ⟨fun h => absurd h (by (first | ((try clear f1_); (try clear hμf); (try clear μf); (try clear hz9); (try clear c46_); (try clear hiy); (try clear hix); (try clear hPn42); (try clear q3_1); (try clear q2_1); (try clear q1_1); (try clear c6_); (try clear hS1); (try clear hT1); (try clear hsz); (try clear s₁); (try clear hky); (try clear hkv); (try clear hkq); omega) | omega)), fun _ => ⟨by (first | ((try clear h); (try clear f1_); (try clear hμf); (try clear rf); (try clear μf); (try clear hz9); (try clear c46_); (try clear hiy); (try clear hix); (try clear hPn42); (try clear q3_1); (try clear q2_1); (try clear q1_1); (try clear μ1_); (try clear i_1); (try clear c6_); (try clear hS1); (try clear hT1); (try clear hsz); (try clear s₁); (try clear hky); (try clear hkv); (try clear hkq); omega) | omega), Or.inr ⟨by (first | ((try clear h); (try clear f2_); (try clear f1_); (try clear hμf); (try clear μf); (try clear hz9); (try clear hiy); (try clear hix); (try clear hPn42); (try clear q3_1); (try clear q1_1); (try clear c6_); (try clear hS1); (try clear hsz); (try clear s₁); (try clear hky); (try clear hkv); (try clear hkq); omega) | omega), by (first | ((try clear h); (try clear f2_); (try clear f1_); (try clear hμf); (try clear μf); (try clear hz9); (try clear hiy); (try clear hix); (try clear hPn42); (try clear q1_1); (try clear c6_); (try clear hS1); (try clear hsz); (try clear s₁); (try clear hky); (try clear hkv); (try clear hkq); omega) | omega)⟩, by rw [f1_]; exact fr_uz fr_rfl ⟨rfl, rfl⟩⟩⟩)⟩, by rw [ht9]; exact hP, va_K.moved hW9.alike hK⟩, hS.F ht9⟩) hS.2.2 dX5_keep_55
  · refine lv_aload_n hx hb dX5_keep_9 rfl (lv_at hl 0 rfl) ?_
    refine lv_iconst (v := iZ 2) hx hb dX5_keep_10 rfl ?_
    refine lv_iload_n hx hb dX5_keep_11 rfl (lv_at hl 2 rfl) ?_
    refine va_calli (va_runV (As := [.int (iZ (2)), .int (iZ (bg))]) (rest := []) ⟨hx, hb, hml, hown, hts⟩ (s_Xfaulty l dC dI cI cZ cII cIII h0 s.heap.size μ (2) (bg) ) (cwV 2 hts (gV_G k702 k704 ks_yX5_faulty k2 k705) rfl rfl rfl (by decide +kernel) ⟨Nat.le_of_ble_eq_true rfl, Nat.le_of_ble_eq_true rfl⟩) ⟨fun a U g mk q => by obtain ⟨q0, q1, qP, qK, qM⟩ := q; exact ⟨q0, q1, qP, va_K.moved (u := U) (U := U.calling g mk a) (Vm.Alike.refl U.vm) qK, qM⟩, va_recv hK hP (ci := 5) (q0 := 1) rfl ((fw_get (by decide)).trans (by rw [sE_1])), fun U hU hW => ⟨rfl, by rw [hU], by rw [hU]; exact hP, va_K.moved hW.alike hK, xM_warm hW hM⟩⟩ rfl rfl hl.1 rfl (lv_room (Nat.le_of_ble_eq_true rfl)) dX5_keep_12 ⟨Nat.le_of_ble_eq_true rfl, Nat.le_of_ble_eq_true rfl⟩) hS (fun q _ h => fA_le hS.1 q h) (fA_le hS.1) (fun r9 u9 t9 H1 locs ht9 hvm9 hw9 hB9 hz9 hk9 hS => ?_)
    obtain ⟨μf, rf⟩ := u9
    obtain ⟨hP, -⟩ := hB9
    rw [ht9] at hP
    generalize H1 = H at hP hS ⊢
    obtain ⟨e9, hw9⟩ := hw9
    have e9 : r9 = iZ rf := e9
    subst e9
    simp only at hP hw9
    have hμf := hw9; clear hw9
    obtain ⟨f1_, f2_⟩ := hμf
    exact W.iret (v := iZ (rf)) hx hb hr (fun t9 ht9 hW9 => ⟨⟨iZ (rf), (μf, rf), rfl, ⟨rfl, (by
                dsimp only
                exact ⟨fun h => absurd h (by (first | ((try clear f1_); (try clear hμf); (try clear μf); (try clear hz9); (try clear c6_); (try clear hS1); (try clear hT1); (try clear hsz); (try clear s₁); (try clear hky); (try clear hkv); (try clear hkq); omega) | omega)), fun _ => ⟨by (first | ((try clear h); (try clear f1_); (try clear hμf); (try clear rf); (try clear μf); (try clear hz9); (try clear c6_); (try clear hS1); (try clear hT1); (try clear hsz); (try clear s₁); (try clear hky); (try clear hkv); (try clear hkq); omega) | omega), Or.inl (by (first | ((try clear h); (try clear f2_); (try clear f1_); (try clear hμf); (try clear μf); (try clear hz9); (try clear hT1); (try clear hsz); (try clear s₁); (try clear hky); (try clear hkv); (try clear hkq); omega) | omega)), by rw [f1_]; exact fr_uz fr_rfl ⟨rfl, rfl⟩⟩⟩)⟩, by rw [ht9]; exact hP, va_K.moved hW9.alike hK⟩, hS.F ht9⟩) hS.2.2 dX5_keep_15

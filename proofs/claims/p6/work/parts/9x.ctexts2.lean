theorem k686 : (Cond.methodLink "PageSkeleton$Texts" (37 : Nat) ({ cls := "PageSkeleton$Texts", name := "readNext", desc := "(I)I" } : MethodName)) ∈ wsG := wsG_at 686 (by decide +kernel) (by decide +kernel)
theorem k688 : (Cond.instanceMethod ({ cls := "PageSkeleton$Texts", name := "readNext", desc := "(I)I" } : MethodName)) ∈ wsG := wsG_at 688 (by decide +kernel) (by decide +kernel)
theorem k689 : (Cond.code ({ cls := "PageSkeleton$Texts", name := "readNext", desc := "(I)I" } : MethodName) prog_7_method_4_code (5 : Nat) (Option.some FieldType.int)) ∈ wsG := wsG_at 689 (by decide +kernel) (by decide +kernel)
theorem k690 : (Cond.methodLink "PageSkeleton$Texts" (45 : Nat) ({ cls := "PageSkeleton$Texts", name := "readSort", desc := "(I)I" } : MethodName)) ∈ wsG := wsG_at 690 (by decide +kernel) (by decide +kernel)
theorem k692 : (Cond.instanceMethod ({ cls := "PageSkeleton$Texts", name := "readSort", desc := "(I)I" } : MethodName)) ∈ wsG := wsG_at 692 (by decide +kernel) (by decide +kernel)
theorem k693 : (Cond.code ({ cls := "PageSkeleton$Texts", name := "readSort", desc := "(I)I" } : MethodName) prog_7_method_5_code (2 : Nat) (Option.some FieldType.int)) ∈ wsG := wsG_at 693 (by decide +kernel) (by decide +kernel)
theorem k694 : (Cond.methodLink "PageSkeleton$Texts" (48 : Nat) ({ cls := "PageSkeleton$Texts", name := "readName", desc := "(I)I" } : MethodName)) ∈ wsG := wsG_at 694 (by decide +kernel) (by decide +kernel)
theorem k696 : (Cond.instanceMethod ({ cls := "PageSkeleton$Texts", name := "readName", desc := "(I)I" } : MethodName)) ∈ wsG := wsG_at 696 (by decide +kernel) (by decide +kernel)
theorem k697 : (Cond.code ({ cls := "PageSkeleton$Texts", name := "readName", desc := "(I)I" } : MethodName) prog_7_method_6_code (4 : Nat) (Option.some FieldType.int)) ∈ wsG := wsG_at 697 (by decide +kernel) (by decide +kernel)
theorem k706 : (Cond.methodLink "PageSkeleton$Texts" (54 : Nat) ({ cls := "PageSkeleton$Texts", name := "keep", desc := "(II)I" } : MethodName)) ∈ wsG := wsG_at 706 (by decide +kernel) (by decide +kernel)
theorem k708 : (Cond.instanceMethod ({ cls := "PageSkeleton$Texts", name := "keep", desc := "(II)I" } : MethodName)) ∈ wsG := wsG_at 708 (by decide +kernel) (by decide +kernel)
theorem k709 : (Cond.code ({ cls := "PageSkeleton$Texts", name := "keep", desc := "(II)I" } : MethodName) prog_7_method_8_code (4 : Nat) (Option.some FieldType.int)) ∈ wsG := wsG_at 709 (by decide +kernel) (by decide +kernel)
theorem ks_yX5_readSort : Cond.selects RX5 yX5_readSort yX5_readSort ∈ wsG := wsG_mem (by decide +kernel) (by decide +kernel)
theorem ks_yX5_readName : Cond.selects RX5 yX5_readName yX5_readName ∈ wsG := wsG_mem (by decide +kernel) (by decide +kernel)
theorem ks_yX5_keep : Cond.selects RX5 yX5_keep yX5_keep ∈ wsG := wsG_mem (by decide +kernel) (by decide +kernel)
theorem ks_yX5_readNext : Cond.selects RX5 yX5_readNext yX5_readNext ∈ wsG := wsG_mem (by decide +kernel) (by decide +kernel)
theorem dX5_readNext_0 : decode cX5_readNext 0 = .ok (.aload_n 0, 1) := by decide +kernel
theorem dX5_readNext_1 : decode cX5_readNext 1 = .ok (.getfield 9, 3) := by decide +kernel
theorem dX5_readNext_4 : decode cX5_readNext 4 = .ok (.aload_n 0, 1) := by decide +kernel
theorem dX5_readNext_5 : decode cX5_readNext 5 = .ok (.getfield 34, 3) := by decide +kernel
theorem dX5_readNext_8 : decode cX5_readNext 8 = .ok (.iaload, 1) := by decide +kernel
theorem dX5_readNext_9 : decode cX5_readNext 9 = .ok (.bipush 32, 2) := by decide +kernel
theorem dX5_readNext_11 : decode cX5_readNext 11 = .ok (.if_icmp .ne 15, 3) := by decide +kernel
theorem dX5_readNext_14 : decode cX5_readNext 14 = .ok (.aload_n 0, 1) := by decide +kernel
theorem dX5_readNext_15 : decode cX5_readNext 15 = .ok (.dup, 1) := by decide +kernel
theorem dX5_readNext_16 : decode cX5_readNext 16 = .ok (.getfield 34, 3) := by decide +kernel
theorem dX5_readNext_19 : decode cX5_readNext 19 = .ok (.iconst 1, 1) := by decide +kernel
theorem dX5_readNext_20 : decode cX5_readNext 20 = .ok (.iadd, 1) := by decide +kernel
theorem dX5_readNext_21 : decode cX5_readNext 21 = .ok (.putfield 34, 3) := by decide +kernel
theorem dX5_readNext_24 : decode cX5_readNext 24 = .ok (.iconst 0, 1) := by decide +kernel
theorem dX5_readNext_25 : decode cX5_readNext 25 = .ok (.ireturn, 1) := by decide +kernel
theorem dX5_readNext_26 : decode cX5_readNext 26 = .ok (.aload_n 0, 1) := by decide +kernel
theorem dX5_readNext_27 : decode cX5_readNext 27 = .ok (.getfield 34, 3) := by decide +kernel
theorem dX5_readNext_30 : decode cX5_readNext 30 = .ok (.istore_n 2, 1) := by decide +kernel
theorem dX5_readNext_31 : decode cX5_readNext 31 = .ok (.aload_n 0, 1) := by decide +kernel
theorem dX5_readNext_32 : decode cX5_readNext 32 = .ok (.iload_n 1, 1) := by decide +kernel
theorem dX5_readNext_33 : decode cX5_readNext 33 = .ok (.invokevirtual 45, 3) := by decide +kernel
theorem dX5_readNext_36 : decode cX5_readNext 36 = .ok (.istore_n 3, 1) := by decide +kernel
theorem dX5_readNext_37 : decode cX5_readNext 37 = .ok (.aload_n 0, 1) := by decide +kernel
theorem dX5_readNext_38 : decode cX5_readNext 38 = .ok (.iload_n 1, 1) := by decide +kernel
theorem dX5_readNext_39 : decode cX5_readNext 39 = .ok (.invokevirtual 48, 3) := by decide +kernel
theorem dX5_readNext_42 : decode cX5_readNext 42 = .ok (.istore 4, 2) := by decide +kernel
theorem dX5_readNext_44 : decode cX5_readNext 44 = .ok (.iload 4, 2) := by decide +kernel
theorem dX5_readNext_46 : decode cX5_readNext 46 = .ok (.ifCond .ne 13, 3) := by decide +kernel
theorem dX5_readNext_49 : decode cX5_readNext 49 = .ok (.aload_n 0, 1) := by decide +kernel
theorem dX5_readNext_50 : decode cX5_readNext 50 = .ok (.iconst 1, 1) := by decide +kernel
theorem dX5_readNext_51 : decode cX5_readNext 51 = .ok (.aload_n 0, 1) := by decide +kernel
theorem dX5_readNext_52 : decode cX5_readNext 52 = .ok (.getfield 34, 3) := by decide +kernel
theorem dX5_readNext_55 : decode cX5_readNext 55 = .ok (.invokevirtual 41, 3) := by decide +kernel
theorem dX5_readNext_58 : decode cX5_readNext 58 = .ok (.ireturn, 1) := by decide +kernel
theorem dX5_readNext_59 : decode cX5_readNext 59 = .ok (.iload_n 3, 1) := by decide +kernel
theorem dX5_readNext_60 : decode cX5_readNext 60 = .ok (.iconst 2, 1) := by decide +kernel
theorem dX5_readNext_61 : decode cX5_readNext 61 = .ok (.if_icmp .ne 21, 3) := by decide +kernel
theorem dX5_readNext_64 : decode cX5_readNext 64 = .ok (.aload_n 0, 1) := by decide +kernel
theorem dX5_readNext_65 : decode cX5_readNext 65 = .ok (.iload_n 1, 1) := by decide +kernel
theorem dX5_readNext_66 : decode cX5_readNext 66 = .ok (.invokevirtual 51, 3) := by decide +kernel
theorem dX5_readNext_69 : decode cX5_readNext 69 = .ok (.ifCond .eq 55, 3) := by decide +kernel
theorem dX5_readNext_72 : decode cX5_readNext 72 = .ok (.aload_n 0, 1) := by decide +kernel
theorem dX5_readNext_73 : decode cX5_readNext 73 = .ok (.iconst 1, 1) := by decide +kernel
theorem dX5_readNext_74 : decode cX5_readNext 74 = .ok (.aload_n 0, 1) := by decide +kernel
theorem dX5_readNext_75 : decode cX5_readNext 75 = .ok (.getfield 34, 3) := by decide +kernel
theorem dX5_readNext_78 : decode cX5_readNext 78 = .ok (.invokevirtual 41, 3) := by decide +kernel
theorem dX5_readNext_81 : decode cX5_readNext 81 = .ok (.ireturn, 1) := by decide +kernel
theorem dX5_readNext_82 : decode cX5_readNext 82 = .ok (.aload_n 0, 1) := by decide +kernel
theorem dX5_readNext_83 : decode cX5_readNext 83 = .ok (.getfield 34, 3) := by decide +kernel
theorem dX5_readNext_86 : decode cX5_readNext 86 = .ok (.iload_n 1, 1) := by decide +kernel
theorem dX5_readNext_87 : decode cX5_readNext 87 = .ok (.if_icmp .ge 17, 3) := by decide +kernel
theorem dX5_readNext_90 : decode cX5_readNext 90 = .ok (.aload_n 0, 1) := by decide +kernel
theorem dX5_readNext_91 : decode cX5_readNext 91 = .ok (.getfield 9, 3) := by decide +kernel
theorem dX5_readNext_94 : decode cX5_readNext 94 = .ok (.aload_n 0, 1) := by decide +kernel
theorem dX5_readNext_95 : decode cX5_readNext 95 = .ok (.getfield 34, 3) := by decide +kernel
theorem dX5_readNext_98 : decode cX5_readNext 98 = .ok (.iaload, 1) := by decide +kernel
theorem dX5_readNext_99 : decode cX5_readNext 99 = .ok (.bipush 62, 2) := by decide +kernel
theorem dX5_readNext_101 : decode cX5_readNext 101 = .ok (.if_icmp .eq 13, 3) := by decide +kernel
theorem dX5_readNext_104 : decode cX5_readNext 104 = .ok (.aload_n 0, 1) := by decide +kernel
theorem dX5_readNext_105 : decode cX5_readNext 105 = .ok (.iconst 1, 1) := by decide +kernel
theorem dX5_readNext_106 : decode cX5_readNext 106 = .ok (.aload_n 0, 1) := by decide +kernel
theorem dX5_readNext_107 : decode cX5_readNext 107 = .ok (.getfield 34, 3) := by decide +kernel
theorem dX5_readNext_110 : decode cX5_readNext 110 = .ok (.invokevirtual 41, 3) := by decide +kernel
theorem dX5_readNext_113 : decode cX5_readNext 113 = .ok (.ireturn, 1) := by decide +kernel
theorem dX5_readNext_114 : decode cX5_readNext 114 = .ok (.aload_n 0, 1) := by decide +kernel
theorem dX5_readNext_115 : decode cX5_readNext 115 = .ok (.dup, 1) := by decide +kernel
theorem dX5_readNext_116 : decode cX5_readNext 116 = .ok (.getfield 34, 3) := by decide +kernel
theorem dX5_readNext_119 : decode cX5_readNext 119 = .ok (.iconst 1, 1) := by decide +kernel
theorem dX5_readNext_120 : decode cX5_readNext 120 = .ok (.iadd, 1) := by decide +kernel
theorem dX5_readNext_121 : decode cX5_readNext 121 = .ok (.putfield 34, 3) := by decide +kernel
theorem dX5_readNext_124 : decode cX5_readNext 124 = .ok (.aload_n 0, 1) := by decide +kernel
theorem dX5_readNext_125 : decode cX5_readNext 125 = .ok (.iload 4, 2) := by decide +kernel
theorem dX5_readNext_127 : decode cX5_readNext 127 = .ok (.iconst 3, 1) := by decide +kernel
theorem dX5_readNext_128 : decode cX5_readNext 128 = .ok (.imul, 1) := by decide +kernel
theorem dX5_readNext_129 : decode cX5_readNext 129 = .ok (.iload_n 3, 1) := by decide +kernel
theorem dX5_readNext_130 : decode cX5_readNext 130 = .ok (.iadd, 1) := by decide +kernel
theorem dX5_readNext_131 : decode cX5_readNext 131 = .ok (.iload_n 2, 1) := by decide +kernel
theorem dX5_readNext_132 : decode cX5_readNext 132 = .ok (.invokevirtual 54, 3) := by decide +kernel
theorem dX5_readNext_135 : decode cX5_readNext 135 = .ok (.ireturn, 1) := by decide +kernel
theorem dX5_readText_0 : decode cX5_readText 0 = .ok (.aload_n 0, 1) := by decide +kernel
theorem dX5_readText_1 : decode cX5_readText 1 = .ok (.getfield 22, 3) := by decide +kernel
theorem dX5_readText_4 : decode cX5_readText 4 = .ok (.istore_n 2, 1) := by decide +kernel
theorem dX5_readText_5 : decode cX5_readText 5 = .ok (.iconst 0, 1) := by decide +kernel
theorem dX5_readText_6 : decode cX5_readText 6 = .ok (.istore_n 3, 1) := by decide +kernel
theorem dX5_readText_7 : decode cX5_readText 7 = .ok (.aload_n 0, 1) := by decide +kernel
theorem dX5_readText_8 : decode cX5_readText 8 = .ok (.iconst 0, 1) := by decide +kernel
theorem dX5_readText_9 : decode cX5_readText 9 = .ok (.putfield 34, 3) := by decide +kernel
theorem dX5_readText_12 : decode cX5_readText 12 = .ok (.aload_n 0, 1) := by decide +kernel
theorem dX5_readText_13 : decode cX5_readText 13 = .ok (.iconst 0, 1) := by decide +kernel
theorem dX5_readText_14 : decode cX5_readText 14 = .ok (.putfield 28, 3) := by decide +kernel
theorem dX5_readText_17 : decode cX5_readText 17 = .ok (.aload_n 0, 1) := by decide +kernel
theorem dX5_readText_18 : decode cX5_readText 18 = .ok (.iconst (-1), 1) := by decide +kernel
theorem dX5_readText_19 : decode cX5_readText 19 = .ok (.putfield 31, 3) := by decide +kernel
theorem dX5_readText_22 : decode cX5_readText 22 = .ok (.iconst 0, 1) := by decide +kernel
theorem dX5_readText_23 : decode cX5_readText 23 = .ok (.istore 4, 2) := by decide +kernel
theorem dX5_readText_25 : decode cX5_readText 25 = .ok (.iload 4, 2) := by decide +kernel
theorem dX5_readText_27 : decode cX5_readText 27 = .ok (.iload_n 1, 1) := by decide +kernel
theorem dX5_readText_28 : decode cX5_readText 28 = .ok (.if_icmp .ge 27, 3) := by decide +kernel
theorem dX5_readText_31 : decode cX5_readText 31 = .ok (.aload_n 0, 1) := by decide +kernel
theorem dX5_readText_32 : decode cX5_readText 32 = .ok (.getfield 34, 3) := by decide +kernel
theorem dX5_readText_35 : decode cX5_readText 35 = .ok (.iload_n 1, 1) := by decide +kernel
theorem dX5_readText_36 : decode cX5_readText 36 = .ok (.if_icmp .ge 19, 3) := by decide +kernel
theorem dX5_readText_39 : decode cX5_readText 39 = .ok (.iload_n 3, 1) := by decide +kernel
theorem dX5_readText_40 : decode cX5_readText 40 = .ok (.ifCond .ne 15, 3) := by decide +kernel
theorem dX5_readText_43 : decode cX5_readText 43 = .ok (.aload_n 0, 1) := by decide +kernel
theorem dX5_readText_44 : decode cX5_readText 44 = .ok (.iload_n 1, 1) := by decide +kernel
theorem dX5_readText_45 : decode cX5_readText 45 = .ok (.invokevirtual 37, 3) := by decide +kernel
theorem dX5_readText_48 : decode cX5_readText 48 = .ok (.istore_n 3, 1) := by decide +kernel
theorem dX5_readText_49 : decode cX5_readText 49 = .ok (.iinc 4 1, 3) := by decide +kernel
theorem dX5_readText_52 : decode cX5_readText 52 = .ok (.goto (-27), 3) := by decide +kernel
theorem dX5_readText_55 : decode cX5_readText 55 = .ok (.iload_n 3, 1) := by decide +kernel
theorem dX5_readText_56 : decode cX5_readText 56 = .ok (.ifCond .ne 17, 3) := by decide +kernel
theorem dX5_readText_59 : decode cX5_readText 59 = .ok (.aload_n 0, 1) := by decide +kernel
theorem dX5_readText_60 : decode cX5_readText 60 = .ok (.getfield 28, 3) := by decide +kernel
theorem dX5_readText_63 : decode cX5_readText 63 = .ok (.ifCond .ne 10, 3) := by decide +kernel
theorem dX5_readText_66 : decode cX5_readText 66 = .ok (.aload_n 0, 1) := by decide +kernel
theorem dX5_readText_67 : decode cX5_readText 67 = .ok (.iconst 1, 1) := by decide +kernel
theorem dX5_readText_68 : decode cX5_readText 68 = .ok (.iload_n 1, 1) := by decide +kernel
theorem dX5_readText_69 : decode cX5_readText 69 = .ok (.invokevirtual 41, 3) := by decide +kernel
theorem dX5_readText_72 : decode cX5_readText 72 = .ok (.istore_n 3, 1) := by decide +kernel
theorem dX5_readText_73 : decode cX5_readText 73 = .ok (.iload_n 3, 1) := by decide +kernel
theorem dX5_readText_74 : decode cX5_readText 74 = .ok (.ifCond .eq 8, 3) := by decide +kernel
theorem dX5_readText_77 : decode cX5_readText 77 = .ok (.aload_n 0, 1) := by decide +kernel
theorem dX5_readText_78 : decode cX5_readText 78 = .ok (.iload_n 2, 1) := by decide +kernel
theorem dX5_readText_79 : decode cX5_readText 79 = .ok (.putfield 22, 3) := by decide +kernel
theorem dX5_readText_82 : decode cX5_readText 82 = .ok (.iload_n 3, 1) := by decide +kernel
theorem dX5_readText_83 : decode cX5_readText 83 = .ok (.ireturn, 1) := by decide +kernel
/-! the class reads a text, as the reference does -/
theorem pg_bad {b : Int → Int} {n a : Int} {T : List Tk} {S : List Int} (h : a < n) (h1 : b a ≠ 32) (h2 : ¬ (b a = 60 ∨ (97 ≤ b a ∧ b a ≤ 122)) ∨ S.length = 60 ∨ ¬ tkGood b a) : pg b n a T S = none := by
  rw [pg_S h, if_neg h1]
  by_cases h3 : ¬ (b a = 60 ∨ (97 ≤ b a ∧ b a ≤ 122))
  · rw [if_pos h3]
  · rw [if_neg h3]
    by_cases h4 : S.length = 60
    · rw [if_pos h4]
    · rw [if_neg h4]
      have h5 : ¬ tkGood b a := by
        rcases h2 with h2 | h2 | h2
        · exact absurd h2 h3
        · exact absurd h2 h4
        · exact h2
      rw [if_pos h5]
theorem pg_ok {b : Int → Int} {n a : Int} {T : List Tk} {S : List Int} (h : a < n) (h1 : b a ≠ 32) (h2 : b a = 60 ∨ (97 ≤ b a ∧ b a ≤ 122)) (h3 : S.length ≠ 60) (h4 : tkGood b a) : pg b n a T S = if idx (tkS b a) (tkV b a) T < T.length then pg b n (tkX b a) T (S ++ [(idx (tkS b a) (tkV b a) T : Int)])
    else if T.length = 200 then none
    else pg b n (tkX b a) (T ++ [(tkS b a, tkV b a, tkL b a)]) (S ++ [(T.length : Int)]) := by
  rw [pg_S h, if_neg h1, if_neg (fun h9 => h9 h2), if_neg h3, if_neg (fun h9 => h9 h4)]
/-- what is read of a token: its sort s, and that its name begins at m -/
def tkH (b : Int → Int) (a s m : Int) : Prop := (b a ≠ 60 ∧ s = 2 ∧ m = a) ∨ (b a = 60 ∧ s = tkS b a ∧ m = tkN b a)
theorem tkH_s {b : Int → Int} {a s m : Int} (h : tkH b a s m) : 0 ≤ s ∧ s ≤ 2 := by
  rcases h with ⟨_, h, _⟩ | ⟨_, h, _⟩
  · omega
  · unfold tkS at h
    split at h
    · omega
    · split at h <;> omega
theorem tkH_is {b : Int → Int} {a s m : Int} (h : tkH b a s m) (hL : 1 ≤ lets b 6 m) : (b a = 60 ∨ (97 ≤ b a ∧ b a ≤ 122)) ∧ s = tkS b a ∧ m = tkN b a ∧ lets b 6 m = tkL b a ∧ nval b m (lets b 6 m) = tkV b a := by
  have key : m = tkN b a → lets b 6 m = tkL b a ∧ nval b m (lets b 6 m) = tkV b a := fun e => by subst e; exact ⟨rfl, rfl⟩
  rcases h with ⟨h1, h2, h3⟩ | ⟨h1, h2, h3⟩
  · have h4 := lets_sm (b := b) 6 m 0 hL
    rw [show m + ((0 : Nat) : Int) = a by omega] at h4
    have e1 : s = tkS b a := by unfold tkS; rw [if_pos h4]; exact h2
    have e2 : m = tkN b a := by unfold tkN; rw [if_pos h4]; exact h3
    exact ⟨Or.inr h4, e1, e2, key e2⟩
  · exact ⟨Or.inl h1, h2, h3, key h3⟩
theorem tkH_no {b : Int → Int} {a s m : Int} (h : tkH b a s m) (hL : lets b 6 m = 0) : ¬ (b a = 60 ∨ (97 ≤ b a ∧ b a ≤ 122)) ∨ ¬ tkGood b a := by
  rcases h with ⟨h1, h2, h3⟩ | ⟨h1, h2, h3⟩
  · left
    intro h9
    have h4 : 97 ≤ b a ∧ b a ≤ 122 := h9.elim (fun h => absurd h h1) id
    rw [h3, lets, if_pos h4] at hL
    omega
  · right
    intro h9
    have := h9.1
    unfold tkL at this
    rw [← h3] at this
    omega
/-- back to the tokens that were known -/
theorem tabC_cut {μ0 μ u : va_M} {T X : List Tk} (h : tabC μ (T ++ X)) (h0 : tabC μ0 T) (h1 : u 1 3 = μ0 1 3) (h3 : ∀ y, u 3 y = μ 3 y) : tabC u T := by
  refine ⟨by rw [h1]; exact h0.1, fun k e he => ?_⟩
  rw [h3]
  have hk : k < T.length := (List.getElem?_eq_some_iff.mp he).1
  exact h.2 k e (by rw [List.getElem?_append_left hk]; exact he)
set_option maxHeartbeats 4000000 in
set_option maxRecDepth 100000 in
theorem s_XreadNext (l : Launch) (dC : Nat → ClassId) (dI : Nat → Nat → Nat) (cI cZ cII cIII : ClassId) (h0 sz : Nat) (μ : va_M) (n : Int) (T : List Tk) (S : List Int) (htb : tpB μ) (hat : 0 ≤ μ 1 7 ∧ μ 1 7 < n ∧ n ≤ 400) (hT : tabC μ T) (hS9 : fndC μ S) : Met l yX5_readNext (Cond.code yX5_readNext cX5_readNext 5 (some .int) :: wsG) ({ frames := 3, cells := 0, slots := 0, locals := 59 } : Room) (va_Pc [.ref (h0 + 1), .int (iZ (n))] (fun U => U.heap.size = sz ∧ va_P (dC, dI) vwCl (fw (sE cI cZ cII cIII h0) h0 233 μ) U.heap ∧ va_K (dC, dI) vwCl (sT cI cZ cII cIII) U ∧ xM U)) (va_Qi (fun (r9 : Int32) (u : va_M × Int) => r9 = iZ u.2 ∧ (fun (u : va_M) (r : Int) => fr (fun x y => (x = 1 ∧ 3 ≤ y) ∨ x = 3 ∨ x = 4) μ u ∧ (0 ≤ u 1 7 ∧ u 1 7 ≤ n) ∧ (r = 0 → ∃ (X : List Tk) (T2 : List Tk) (S2 : List Int), T2 = T ++ X ∧ tabC u T2 ∧ fndC u S2 ∧ pg (bC μ n) n (μ 1 7) T S = pg (bC μ n) n (u 1 7) T2 S2 ∧ μ 1 7 < u 1 7 ∧ u 1 7 ≤ n) ∧ (r ≠ 0 → (1 ≤ r ∧ r ≤ 2) ∧ pg (bC μ n) n (μ 1 7) T S = none ∧ tabC u T)) u.1 u.2) (fun u t => va_P (dC, dI) vwCl (fw (sE cI cZ cII cIII h0) h0 233 u.1) t.heap ∧ va_K (dC, dI) vwCl (sT cI cZ cII cIII) t) (fA h0 233 sz)) 0 0 (fA h0 233 sz) := by
  refine Met.ofW (cc := cX5_readNext) (maxL := 5) (ret := (some .int)) (by decide) rfl ?_
  intro p e s m args below meth c s₁ B hml hv
  obtain ⟨rfl, hsz, hP, hK, hM⟩ := hv
  have hx := B.exec
  have hb := B.bytes
  have hr := B.returns
  have hts : ∀ w ∈ wsG, w.before _ s = true := hG_of (atoms_spec (ws := (Cond.code yX5_readNext cX5_readNext 5 (some .int) :: wsG)) B.pre)
  have hown : s.vm.findClass RX5 = some m.cls := findClass_of_methodNamed B.named
  have hlocks := B.notSynchronized
  subst hsz
  have hS : va_S (fA h0 233 s.heap.size) s.heap s.heap [] := va_S.rf
  have hl := lv_entry ([.ref (h0 + 1), .int (iZ (n))]) (n := 5) (Nat.le_of_ble_eq_true rfl)
  rw [lg_entry_eq]
  generalize (lg_sl ([.ref (h0 + 1), .int (iZ (n))]) ++ List.replicate (5 - (lg_sl ([.ref (h0 + 1), .int (iZ (n))])).length) Slot.unset).toArray = ls at hl ⊢
  have hl : lv_has ls 5 [(0, .ref (h0 + 1)), (1, .int (iZ (n)))] := hl
  have hb1 := htb (μ 1 7).toNat
  have hbe := bC_lt (μ := μ) (n := n) (k := μ 1 7) (by omega)
  refine lv_aload_n hx hb dX5_readNext_0 rfl (lv_at hl 0 rfl) ?_
  refine fz_get (D := (dC, dI)) (ci := 5) (v := .ref (h0 + 2)) (C := RX5) (T := TX5) (N := 8) hx hb hts inG5 hown hK hP (k := 1) (by decide) (F := (sF1 h0)) sE_1 rfl 0 (by decide) (hts _ k35) (fun _ h9 => h9) rfl dX5_readNext_1 ?_
  refine lv_aload_n hx hb dX5_readNext_4 rfl (lv_at hl 0 rfl) ?_
  refine fz_get (D := (dC, dI)) (ci := 5) (v := .int (iZ (μ 1 7))) (C := RX5) (T := TX5) (N := 8) hx hb hts inG5 hown hK hP (k := 1) (by decide) (F := (sF1 h0)) sE_1 rfl 7 (by decide) (hts _ k47) (fun _ h9 => h9) rfl dX5_readNext_5 ?_
  refine fz_ld (k := 2) (n := 400) hx hb hK hP 0 (by decide) sE_2 rfl ⟨by omega, by omega⟩ (by decide) dX5_readNext_8 ?_
  refine lv_bipush (v := iZ 32) hx hb dX5_readNext_9 rfl ?_
  refine fz_icmp_ne (tgt := 26) (by constructor <;> omega) (by decide) hx hb dX5_readNext_11 (by decide) (fun c11_ => ?_) (fun c11_ => ?_)
  · refine lv_aload_n hx hb dX5_readNext_26 rfl (lv_at hl 0 rfl) ?_
    refine fz_get (D := (dC, dI)) (ci := 5) (v := .int (iZ (μ 1 7))) (C := RX5) (T := TX5) (N := 8) hx hb hts inG5 hown hK hP (k := 1) (by decide) (F := (sF1 h0)) sE_1 rfl 7 (by decide) (hts _ k47) (fun _ h9 => h9) rfl dX5_readNext_27 ?_
    refine lv_istore_n (lv' := [(2, .int (iZ (μ 1 7))), (0, .ref (h0 + 1)), (1, .int (iZ (n)))]) hx hb dX5_readNext_30 rfl hl (by decide) rfl (fun ls hl => ?_)
    refine lv_aload_n hx hb dX5_readNext_31 rfl (lv_at hl 1 rfl) ?_
    refine lv_iload_n hx hb dX5_readNext_32 rfl (lv_at hl 2 rfl) ?_
    refine va_calli (va_runV (As := [.int (iZ (n))]) (rest := []) ⟨hx, hb, hml, hown, hts⟩ (s_XreadSort l dC dI cI cZ cII cIII h0 s.heap.size μ (n) (by first | assumption | omega | exact ⟨by omega, by omega⟩) (by omega)) (cwV 1 hts (gV_G k690 k692 ks_yX5_readSort k2 k693) rfl rfl rfl (by decide +kernel) ⟨Nat.le_of_ble_eq_true rfl, Nat.le_of_ble_eq_true rfl⟩) ⟨fun a U g mk q => by obtain ⟨q0, q1, qP, qK, qM⟩ := q; exact ⟨q0, q1, qP, va_K.moved (u := U) (U := U.calling g mk a) (Vm.Alike.refl U.vm) qK, qM⟩, va_recv hK hP (ci := 5) (q0 := 1) rfl ((fw_get (by decide)).trans (by rw [sE_1])), fun U hU hW => ⟨rfl, by rw [hU], by rw [hU]; exact hP, va_K.moved hW.alike hK, xM_warm hW hM⟩⟩ rfl rfl hl.1 rfl (lv_room (Nat.le_of_ble_eq_true rfl)) dX5_readNext_33 ⟨Nat.le_of_ble_eq_true rfl, Nat.le_of_ble_eq_true rfl⟩) hS (fun q _ h => fA_le hS.1 q h) (fA_le hS.1) (fun r9 u9 t9 H1 locs ht9 hvm9 hw9 hB9 hz9 hk9 hS => ?_)
    obtain ⟨μs, rs⟩ := u9
    obtain ⟨hP, -⟩ := hB9
    rw [ht9] at hP
    generalize H1 = H at hP hS ⊢
    obtain ⟨e9, hw9⟩ := hw9
    have e9 : r9 = iZ rs := e9
    subst e9
    simp only at hP hw9
    have hμs := hw9; clear hw9
    obtain ⟨q1_, q2_⟩ := hμs
    have s1_ : fr (fun x y => x = 1 ∧ y = 7) μ μs := by
      by_cases h9 : bC μ n (μ 1 7) = 60
      · exact (q2_ h9).1
      · rw [(q1_ h9).1]; exact fr_rfl
    have hH : tkH (bC μ n) (μ 1 7) rs (μs 1 7) := by
      by_cases h9 : bC μ n (μ 1 7) = 60
      · exact Or.inr ⟨h9, (q2_ h9).2.1, (q2_ h9).2.2.1⟩
      · exact Or.inl ⟨h9, (q1_ h9).2, by rw [(q1_ h9).1]⟩
    have s7_ : μ 1 7 ≤ μs 1 7 ∧ μs 1 7 ≤ n := by
      by_cases h9 : bC μ n (μ 1 7) = 60
      · have e := (q2_ h9).2.2
        unfold tkN at e
        rw [if_neg (by omega)] at e
        refine ⟨?_, e.2⟩
        have e1 := e.1
        split at e1 <;> omega
      · rw [(q1_ h9).1]; omega
    clear q1_ q2_
    refine lv_istore_n (lv' := [(3, .int (iZ (rs))), (2, .int (iZ (μ 1 7))), (0, .ref (h0 + 1)), (1, .int (iZ (n)))]) hx hb dX5_readNext_36 rfl hl (by decide) rfl (fun ls hl => ?_)
    refine lv_aload_n hx hb dX5_readNext_37 rfl (lv_at hl 2 rfl) ?_
    refine lv_iload_n hx hb dX5_readNext_38 rfl (lv_at hl 3 rfl) ?_
    refine va_calli (va_runV (As := [.int (iZ (n))]) (rest := []) ⟨hx, hb, hml, hown, hts⟩ (s_XreadName l dC dI cI cZ cII cIII h0 H.size μs (n) (by intro j; rw [s1_ _ _ (by omega)]; exact htb j) (by omega)) (cwV 1 hts (gV_G k694 k696 ks_yX5_readName k2 k697) rfl rfl rfl (by decide +kernel) ⟨Nat.le_of_ble_eq_true rfl, Nat.le_of_ble_eq_true rfl⟩) ⟨fun a U g mk q => by obtain ⟨q0, q1, qP, qK, qM⟩ := q; exact ⟨q0, q1, qP, va_K.moved (u := U) (U := U.calling g mk a) (Vm.Alike.refl U.vm) qK, qM⟩, va_recv hK hP (ci := 5) (q0 := 1) rfl ((fw_get (by decide)).trans (by rw [sE_1])), fun U hU hW => ⟨rfl, by rw [hU], by rw [hU]; exact hP, va_K.moved hW.alike hK, xM_warm hW hM⟩⟩ rfl rfl hl.1 rfl (lv_room (Nat.le_of_ble_eq_true rfl)) dX5_readNext_39 ⟨Nat.le_of_ble_eq_true rfl, Nat.le_of_ble_eq_true rfl⟩) hS (fun q _ h => fA_le hS.1 q h) (fA_le hS.1) (fun r9 u9 t9 H1 locs ht9 hvm9 hw9 hB9 hz9 hk9 hS => ?_)
    obtain ⟨μn, rn⟩ := u9
    obtain ⟨hP, -⟩ := hB9
    rw [ht9] at hP
    generalize H1 = H at hP hS ⊢
    obtain ⟨e9, hw9⟩ := hw9
    have e9 : r9 = iZ rn := e9
    subst e9
    simp only at hP hw9
    have hμn := hw9; clear hw9
    obtain ⟨n1_, n2_, n3_, n4_⟩ := hμn
    have bn : bC μs n = bC μ n := bC_fr (fun y => s1_ _ _ (by omega))
    rw [bn] at n2_ n4_
    obtain ⟨L, hL⟩ : ∃ x, x = lets (bC μ n) 6 (μs 1 7) := ⟨_, rfl⟩
    rw [← hL] at n2_ n4_
    have hsm : ∀ i : Nat, i < L → 97 ≤ bC μ n (μs 1 7 + i) ∧ bC μ n (μs 1 7 + i) ≤ 122 := fun i hi => lets_sm 6 _ i (by rw [← hL]; exact hi)
    have hL6 : L ≤ 6 := by rw [hL]; exact lets_le 6 _
    have hnv := nval_6 hL6 hsm
    have F2 : fr (fun x y => x = 1 ∧ y = 7) μ μn := fr_trans s1_ n1_
    have bN : bC μn n = bC μ n := bC_fr (fun y => F2 _ _ (by omega))
    have tbn : tpB μn := fun j => by rw [F2 _ _ (by omega)]; exact htb j
    have hs02 := tkH_s hH
    have tabn : tabC μn T := tabC_fr hT (F2 _ _ (by omega)) (fun y => F2 _ _ (by omega))
    have fndn : fndC μn S := fndC_fr hS9 (F2 _ _ (by omega)) (by rw [F2 _ _ (by omega)]; exact Int.le_refl _) (fun y => F2 _ _ (by omega))
    have b7 := tbn (μn 1 7).toNat
    refine lv_istore (lv' := [(4, .int (iZ (rn))), (3, .int (iZ (rs))), (2, .int (iZ (μ 1 7))), (0, .ref (h0 + 1)), (1, .int (iZ (n)))]) hx hb dX5_readNext_42 hl (by decide) rfl (fun ls hl => ?_)
    refine lv_iload hx hb dX5_readNext_44 (lv_at hl 0 rfl) ?_
    refine fz_if_ne (tgt := 59) (by constructor <;> omega) hx hb dX5_readNext_46 (by decide) (fun c46_ => ?_) (fun c46_ => ?_)
    · have hL1 : 1 ≤ L := by
        rcases Nat.eq_zero_or_pos L with h9 | h9
        · exfalso
          rw [h9] at n4_
          have e0 : nval (bC μ n) (μs 1 7) 0 = 0 := rfl
          omega
        · exact h9
      obtain ⟨i1_, i2_, i3_, i4_, i5_⟩ := tkH_is hH (by rw [← hL]; exact hL1)
      rw [← hL] at i4_ i5_
      have hnn := hnv.2.2 hL1
      refine lv_iload_n hx hb dX5_readNext_59 rfl (lv_at hl 1 rfl) ?_
      refine lv_iconst (v := iZ 2) hx hb dX5_readNext_60 rfl ?_
      refine fz_icmp_ne (tgt := 82) (by constructor <;> omega) (by decide) hx hb dX5_readNext_61 (by decide) (fun c61_ => ?_) (fun c61_ => ?_)
      · refine lv_aload_n hx hb dX5_readNext_82 rfl (lv_at hl 3 rfl) ?_
        refine fz_get (D := (dC, dI)) (ci := 5) (v := .int (iZ (μn 1 7))) (C := RX5) (T := TX5) (N := 8) hx hb hts inG5 hown hK hP (k := 1) (by decide) (F := (sF1 h0)) sE_1 rfl 7 (by decide) (hts _ k47) (fun _ h9 => h9) rfl dX5_readNext_83 ?_
        refine lv_iload_n hx hb dX5_readNext_86 rfl (lv_at hl 4 rfl) ?_
        refine fz_icmp_ge (tgt := 104) (by constructor <;> omega) (by constructor <;> omega) hx hb dX5_readNext_87 (by decide) (fun c87_ => ?_) (fun c87_ => ?_)
        · refine lv_aload_n hx hb dX5_readNext_104 rfl (lv_at hl 3 rfl) ?_
          refine lv_iconst (v := iZ 1) hx hb dX5_readNext_105 rfl ?_
          refine lv_aload_n hx hb dX5_readNext_106 rfl (lv_at hl 3 rfl) ?_
          refine fz_get (D := (dC, dI)) (ci := 5) (v := .int (iZ (μn 1 7))) (C := RX5) (T := TX5) (N := 8) hx hb hts inG5 hown hK hP (k := 1) (by decide) (F := (sF1 h0)) sE_1 rfl 7 (by decide) (hts _ k47) (fun _ h9 => h9) rfl dX5_readNext_107 ?_
          refine va_calli (va_runV (As := [.int (iZ (1)), .int (iZ (μn 1 7))]) (rest := []) ⟨hx, hb, hml, hown, hts⟩ (s_Xfaulty l dC dI cI cZ cII cIII h0 H.size μn (1) (μn 1 7) ) (cwV 2 hts (gV_G k702 k704 ks_yX5_faulty k2 k705) rfl rfl rfl (by decide +kernel) ⟨Nat.le_of_ble_eq_true rfl, Nat.le_of_ble_eq_true rfl⟩) ⟨fun a U g mk q => by obtain ⟨q0, q1, qP, qK, qM⟩ := q; exact ⟨q0, q1, qP, va_K.moved (u := U) (U := U.calling g mk a) (Vm.Alike.refl U.vm) qK, qM⟩, va_recv hK hP (ci := 5) (q0 := 1) rfl ((fw_get (by decide)).trans (by rw [sE_1])), fun U hU hW => ⟨rfl, by rw [hU], by rw [hU]; exact hP, va_K.moved hW.alike hK, xM_warm hW hM⟩⟩ rfl rfl hl.1 rfl (lv_room (Nat.le_of_ble_eq_true rfl)) dX5_readNext_110 ⟨Nat.le_of_ble_eq_true rfl, Nat.le_of_ble_eq_true rfl⟩) hS (fun q _ h => fA_le hS.1 q h) (fA_le hS.1) (fun r9 u9 t9 H1 locs ht9 hvm9 hw9 hB9 hz9 hk9 hS => ?_)
          obtain ⟨μf, rf⟩ := u9
          obtain ⟨hP, -⟩ := hB9
          rw [ht9] at hP
          generalize H1 = H at hP hS ⊢
          obtain ⟨e9, hw9⟩ := hw9
          have e9 : r9 = iZ rf := e9
          subst e9
          simp only at hP hw9
          have hμf := hw9; clear hw9
          exact W.iret (v := iZ (rf)) hx hb hr (fun t9 ht9 hW9 => ⟨⟨iZ (rf), (μf, rf), rfl, ⟨rfl, (by
                            dsimp only
                            have F3 : fr (fun x y => (x = 1 ∧ 3 ≤ y) ∨ x = 3 ∨ x = 4) μ μf := by
                              rw [hμf.1]
                              exact fr_uz (fr_mono F2 (fun x y h => Or.inl ⟨h.1, by omega⟩)) (Or.inl ⟨rfl, by omega⟩)
                            have hpg : pg (bC μ n) n (μ 1 7) T S = none := pg_bad (by omega) (by omega) (Or.inr (Or.inr (fun h9 => by
                              have h8 := h9.2.2 (by omega)
                              rw [← i3_, ← i4_, ← n2_, ← bN] at h8
                              rw [bC_ge (by omega)] at h8
                              exact absurd h8 (by decide))))
                            have hr9 := hμf.2
                            exact ⟨F3, by rw [hμf.1, uz_n (by omega)]; omega, fun h => absurd h (by omega), fun _ => ⟨by omega, hpg, tabC_fr tabn (by rw [hμf.1, uz_n (by omega)]) (fun y => by rw [hμf.1, uz_n (by omega)])⟩⟩)⟩, by rw [ht9]; exact hP, va_K.moved hW9.alike hK⟩, hS.F ht9⟩) hS.2.2 dX5_readNext_113
        · refine lv_aload_n hx hb dX5_readNext_90 rfl (lv_at hl 3 rfl) ?_
          refine fz_get (D := (dC, dI)) (ci := 5) (v := .ref (h0 + 2)) (C := RX5) (T := TX5) (N := 8) hx hb hts inG5 hown hK hP (k := 1) (by decide) (F := (sF1 h0)) sE_1 rfl 0 (by decide) (hts _ k35) (fun _ h9 => h9) rfl dX5_readNext_91 ?_
          refine lv_aload_n hx hb dX5_readNext_94 rfl (lv_at hl 3 rfl) ?_
          refine fz_get (D := (dC, dI)) (ci := 5) (v := .int (iZ (μn 1 7))) (C := RX5) (T := TX5) (N := 8) hx hb hts inG5 hown hK hP (k := 1) (by decide) (F := (sF1 h0)) sE_1 rfl 7 (by decide) (hts _ k47) (fun _ h9 => h9) rfl dX5_readNext_95 ?_
          refine fz_ld (k := 2) (n := 400) hx hb hK hP 0 (by decide) sE_2 rfl ⟨by omega, by omega⟩ (by decide) dX5_readNext_98 ?_
          refine lv_bipush (v := iZ 62) hx hb dX5_readNext_99 rfl ?_
          refine fz_icmp_eq (tgt := 114) (by constructor <;> omega) (by decide) hx hb dX5_readNext_101 (by decide) (fun c101_ => ?_) (fun c101_ => ?_)
          · have h62 : bC μ n (μn 1 7) = 62 := by rw [← bN, bC_lt (by omega)]; omega
            have hgood : tkGood (bC μ n) (μ 1 7) := by
              rw [n2_, i3_, i4_] at h62
              exact ⟨by omega, by omega, fun _ => h62⟩
            refine lv_aload_n hx hb dX5_readNext_114 rfl (lv_at hl 3 rfl) ?_
            refine lv_dup hx hb dX5_readNext_115 rfl ?_
            refine fz_get (D := (dC, dI)) (ci := 5) (v := .int (iZ (μn 1 7))) (C := RX5) (T := TX5) (N := 8) hx hb hts inG5 hown hK hP (k := 1) (by decide) (F := (sF1 h0)) sE_1 rfl 7 (by decide) (hts _ k47) (fun _ h9 => h9) rfl dX5_readNext_116 ?_
            refine lv_iconst (v := iZ 1) hx hb dX5_readNext_119 rfl ?_
            refine lv_iadd hx hb dX5_readNext_120 ?_
            refine lv_topi (fun x9 ex9 => ?_)
            obtain rfl : x9 = iZ ((μn 1 7) + 1) := ex9.trans (iZ_add _ _)
            refine fz_put (D := (dC, dI)) (ci := 5) (ty := .int) (z := ((μn 1 7) + 1)) (C := RX5) (T := TX5) (N := 8) hx hb hts inG5 tyX5 tyX5_ok nmX5 hown hK hP fA_in hS (k := 1) (by decide) (F := (sF1 h0)) sE_1 rfl 7 (by decide) (hts _ k47) (fun _ h9 => h9) rfl (by decide +kernel) rfl rfl (fun _ => Nat.le_of_ble_eq_true rfl) (fun _ _ => rfl) dX5_readNext_121 (fun H locs hP hS => ?_)
            obtain ⟨μ1, eμ1⟩ : ∃ x : va_M, x = uz μn 1 7 ((μn 1 7) + 1) := ⟨_, rfl⟩
            rw [← eμ1] at hP
            have x17 : μ1 1 7 = tkX (bC μ n) (μ 1 7) ∧ μ1 1 7 ≤ n ∧ fr (fun x y => x = 1 ∧ y = 7) μ μ1 ∧ tabC μ1 T ∧ fndC μ1 S := by
              unfold tkX
              rw [← i2_, ← i3_, ← i4_]
              rw [if_pos (by omega)]
              have e7 : μ1 1 7 = μn 1 7 + 1 := by rw [eμ1, uz_s]
              exact ⟨by omega, by omega, by rw [eμ1]; exact fr_uz F2 ⟨rfl, rfl⟩, tabC_fr tabn (by rw [eμ1, uz_n (by omega)]) (fun y => by rw [eμ1, uz_n (by omega)]), fndC_fr fndn (by rw [eμ1, uz_n (by omega)]) (by rw [eμ1, uz_n (by omega)]; exact Int.le_refl _) (fun y => by rw [eμ1, uz_n (by omega)])⟩
            obtain ⟨x1_, x2_, x3_, x4_, x5_⟩ := x17
            refine lv_aload_n hx hb dX5_readNext_124 rfl (lv_at hl 3 rfl) ?_
            refine lv_iload hx hb dX5_readNext_125 (lv_at hl 0 rfl) ?_
            refine lv_iconst (v := iZ 3) hx hb dX5_readNext_127 rfl ?_
            refine lv_imul hx hb dX5_readNext_128 ?_
            refine lv_topi (fun x9 ex9 => ?_)
            obtain rfl : x9 = iZ (rn * 3) := ex9.trans (iZ_mul _ _)
            refine lv_iload_n hx hb dX5_readNext_129 rfl (lv_at hl 1 rfl) ?_
            refine lv_iadd hx hb dX5_readNext_130 ?_
            refine lv_topi (fun x9 ex9 => ?_)
            obtain rfl : x9 = iZ ((rn * 3) + rs) := ex9.trans (iZ_add _ _)
            refine lv_iload_n hx hb dX5_readNext_131 rfl (lv_at hl 2 rfl) ?_
            refine va_calli (va_runV (As := [.int (iZ ((rn * 3) + rs)), .int (iZ (μ 1 7))]) (rest := []) ⟨hx, hb, hml, hown, hts⟩ (s_Xkeep l dC dI cI cZ cII cIII h0 H.size μ1 ((rn * 3) + rs) (μ 1 7) (T) (S) (rs) (rn) (L) (by exact x4_) (by exact x5_) (by exact hs02) (by omega) (by rfl)) (cwV 2 hts (gV_G k706 k708 ks_yX5_keep k2 k709) rfl rfl rfl (by decide +kernel) ⟨Nat.le_of_ble_eq_true rfl, Nat.le_of_ble_eq_true rfl⟩) ⟨fun a U g mk q => by obtain ⟨q0, q1, qP, qK, qM⟩ := q; exact ⟨q0, q1, qP, va_K.moved (u := U) (U := U.calling g mk a) (Vm.Alike.refl U.vm) qK, qM⟩, va_recv hK hP (ci := 5) (q0 := 1) rfl ((fw_get (by decide)).trans (by rw [sE_1])), fun U hU hW => ⟨rfl, by rw [hU], by rw [hU]; exact hP, va_K.moved hW.alike hK, xM_warm hW hM⟩⟩ rfl rfl hl.1 rfl (lv_room (Nat.le_of_ble_eq_true rfl)) dX5_readNext_132 ⟨Nat.le_of_ble_eq_true rfl, Nat.le_of_ble_eq_true rfl⟩) hS (fun q _ h => fA_le hS.1 q h) (fA_le hS.1) (fun r9 u9 t9 H1 locs ht9 hvm9 hw9 hB9 hz9 hk9 hS => ?_)
            obtain ⟨μk, rk⟩ := u9
            obtain ⟨hP, -⟩ := hB9
            rw [ht9] at hP
            generalize H1 = H at hP hS ⊢
            obtain ⟨e9, hw9⟩ := hw9
            have e9 : r9 = iZ rk := e9
            subst e9
            simp only at hP hw9
            have hμk := hw9; clear hw9
            obtain ⟨k1_, k2_⟩ := hμk
            exact W.iret (v := iZ (rk)) hx hb hr (fun t9 ht9 hW9 => ⟨⟨iZ (rk), (μk, rk), rfl, ⟨rfl, (by
                                dsimp only
                                have hf9 : fr (fun x y => (x = 1 ∧ 3 ≤ y) ∨ x = 3 ∨ x = 4) μ μk := by
                                  refine fr_trans (fr_mono x3_ (fun x y h => Or.inl ⟨h.1, by omega⟩)) ?_
                                  by_cases h9 : rk = 0
                                  · exact fr_mono (k1_ h9).2.2.1 (fun x y h => by omega)
                                  · exact fr_mono (k2_ h9).2.2 (fun x y h => by omega)
                                have hlo : μ 1 7 + 1 ≤ tkX (bC μ n) (μ 1 7) := (tkX_lt (b := bC μ n) (a := μ 1 7)).elim id (fun h => absurd hgood h)
                                have hb9 : 0 ≤ μk 1 7 ∧ μk 1 7 ≤ n := by
                                  by_cases h9 : rk = 0
                                  · rw [(k1_ h9).2.2.1 1 7 (by omega)]; omega
                                  · rw [(k2_ h9).2.2 1 7 (by omega)]; omega
                                refine ⟨hf9, hb9, fun h9 => ?_, fun h9 => ?_⟩
                                · obtain ⟨c1, c2, c3, c4⟩ := k1_ h9
                                  have e7 : μk 1 7 = tkX (bC μ n) (μ 1 7) := by rw [c3 _ _ (by omega)]; exact x1_
                                  have hlow : μ 1 7 < μk 1 7 := by
                                    rw [e7]
                                    rcases tkX_lt (b := bC μ n) (a := μ 1 7) with h | h
                                    · omega
                                    · exact absurd hgood h
                                  have hup : μk 1 7 ≤ n := by rw [c3 _ _ (by omega)]; exact x2_
                                  have hpk := pg_ok (T := T) (S := S) (show μ 1 7 < n by omega) (by omega) i1_ (by omega) hgood
                                  rw [← i2_, ← i5_, ← i4_, ← n4_, ← e7] at hpk
                                  rcases c4 with ⟨d1, d2, d3⟩ | ⟨d1, d2, d3, d4⟩
                                  · rw [if_pos d1] at hpk
                                    exact ⟨[], T, _, by rw [List.append_nil], d2, d3, hpk, hlow, hup⟩
                                  · rw [if_neg d1, if_neg d2] at hpk
                                    exact ⟨_, _, _, rfl, d3, d4, hpk, hlow, hup⟩
                                · obtain ⟨c1, c2, c3⟩ := k2_ h9
                                  refine ⟨by omega, ?_, tabC_fr x4_ (c3 _ _ (by omega)) (fun y => c3 _ _ (by omega))⟩
                                  by_cases h8 : S.length = 60
                                  · exact pg_bad (by omega) (by omega) (Or.inr (Or.inl h8))
                                  · have hpk := pg_ok (T := T) (S := S) (show μ 1 7 < n by omega) (by omega) i1_ h8 hgood
                                    rw [← i2_, ← i5_, ← i4_, ← n4_] at hpk
                                    rcases c2 with d1 | ⟨d1, d2⟩
                                    · exact absurd d1 h8
                                    · rw [if_neg d1, if_pos d2] at hpk
                                      exact hpk)⟩, by rw [ht9]; exact hP, va_K.moved hW9.alike hK⟩, hS.F ht9⟩) hS.2.2 dX5_readNext_135
          · refine lv_aload_n hx hb dX5_readNext_104 rfl (lv_at hl 3 rfl) ?_
            refine lv_iconst (v := iZ 1) hx hb dX5_readNext_105 rfl ?_
            refine lv_aload_n hx hb dX5_readNext_106 rfl (lv_at hl 3 rfl) ?_
            refine fz_get (D := (dC, dI)) (ci := 5) (v := .int (iZ (μn 1 7))) (C := RX5) (T := TX5) (N := 8) hx hb hts inG5 hown hK hP (k := 1) (by decide) (F := (sF1 h0)) sE_1 rfl 7 (by decide) (hts _ k47) (fun _ h9 => h9) rfl dX5_readNext_107 ?_
            refine va_calli (va_runV (As := [.int (iZ (1)), .int (iZ (μn 1 7))]) (rest := []) ⟨hx, hb, hml, hown, hts⟩ (s_Xfaulty l dC dI cI cZ cII cIII h0 H.size μn (1) (μn 1 7) ) (cwV 2 hts (gV_G k702 k704 ks_yX5_faulty k2 k705) rfl rfl rfl (by decide +kernel) ⟨Nat.le_of_ble_eq_true rfl, Nat.le_of_ble_eq_true rfl⟩) ⟨fun a U g mk q => by obtain ⟨q0, q1, qP, qK, qM⟩ := q; exact ⟨q0, q1, qP, va_K.moved (u := U) (U := U.calling g mk a) (Vm.Alike.refl U.vm) qK, qM⟩, va_recv hK hP (ci := 5) (q0 := 1) rfl ((fw_get (by decide)).trans (by rw [sE_1])), fun U hU hW => ⟨rfl, by rw [hU], by rw [hU]; exact hP, va_K.moved hW.alike hK, xM_warm hW hM⟩⟩ rfl rfl hl.1 rfl (lv_room (Nat.le_of_ble_eq_true rfl)) dX5_readNext_110 ⟨Nat.le_of_ble_eq_true rfl, Nat.le_of_ble_eq_true rfl⟩) hS (fun q _ h => fA_le hS.1 q h) (fA_le hS.1) (fun r9 u9 t9 H1 locs ht9 hvm9 hw9 hB9 hz9 hk9 hS => ?_)
            obtain ⟨μf, rf⟩ := u9
            obtain ⟨hP, -⟩ := hB9
            rw [ht9] at hP
            generalize H1 = H at hP hS ⊢
            obtain ⟨e9, hw9⟩ := hw9
            have e9 : r9 = iZ rf := e9
            subst e9
            simp only at hP hw9
            have hμf := hw9; clear hw9
            exact W.iret (v := iZ (rf)) hx hb hr (fun t9 ht9 hW9 => ⟨⟨iZ (rf), (μf, rf), rfl, ⟨rfl, (by
                                dsimp only
                                have F3 : fr (fun x y => (x = 1 ∧ 3 ≤ y) ∨ x = 3 ∨ x = 4) μ μf := by
                                  rw [hμf.1]
                                  exact fr_uz (fr_mono F2 (fun x y h => Or.inl ⟨h.1, by omega⟩)) (Or.inl ⟨rfl, by omega⟩)
                                have hpg : pg (bC μ n) n (μ 1 7) T S = none := pg_bad (by omega) (by omega) (Or.inr (Or.inr (fun h9 => by
                                  have h8 := h9.2.2 (by omega)
                                  rw [← i3_, ← i4_, ← n2_, ← bN] at h8
                                  rw [bC_lt (by omega)] at h8
                                  omega)))
                                have hr9 := hμf.2
                                exact ⟨F3, by rw [hμf.1, uz_n (by omega)]; omega, fun h => absurd h (by omega), fun _ => ⟨by omega, hpg, tabC_fr tabn (by rw [hμf.1, uz_n (by omega)]) (fun y => by rw [hμf.1, uz_n (by omega)])⟩⟩)⟩, by rw [ht9]; exact hP, va_K.moved hW9.alike hK⟩, hS.F ht9⟩) hS.2.2 dX5_readNext_113
      · refine lv_aload_n hx hb dX5_readNext_64 rfl (lv_at hl 3 rfl) ?_
        refine lv_iload_n hx hb dX5_readNext_65 rfl (lv_at hl 4 rfl) ?_
        refine va_calli (va_runV (As := [.int (iZ (n))]) (rest := []) ⟨hx, hb, hml, hown, hts⟩ (s_XletterAt l dC dI cI cZ cII cIII h0 H.size μn (n) (by exact tbn) (by omega)) (cwV 1 hts (gV_G k698 k700 ks_yX5_letterAt k2 k701) rfl rfl rfl (by decide +kernel) ⟨Nat.le_of_ble_eq_true rfl, Nat.le_of_ble_eq_true rfl⟩) ⟨fun a U g mk q => by obtain ⟨q0, q1, qP, qK, qM⟩ := q; exact ⟨q0, q1, qP, va_K.moved (u := U) (U := U.calling g mk a) (Vm.Alike.refl U.vm) qK, qM⟩, va_recv hK hP (ci := 5) (q0 := 1) rfl ((fw_get (by decide)).trans (by rw [sE_1])), fun U hU hW => ⟨rfl, by rw [hU], by rw [hU]; exact hP, va_K.moved hW.alike hK, xM_warm hW hM⟩⟩ rfl rfl hl.1 rfl (lv_room (Nat.le_of_ble_eq_true rfl)) dX5_readNext_66 ⟨Nat.le_of_ble_eq_true rfl, Nat.le_of_ble_eq_true rfl⟩) hS (fun q _ h => fA_le hS.1 q h) (fA_le hS.1) (fun r9 u9 t9 H1 locs ht9 hvm9 hw9 hB9 hz9 hk9 hS => ?_)
        obtain ⟨μl, rl⟩ := u9
        obtain ⟨hP, -⟩ := hB9
        rw [ht9] at hP
        generalize H1 = H at hP hS ⊢
        obtain ⟨e9, hw9⟩ := hw9
        have e9 : r9 = iZ rl := e9
        subst e9
        simp only at hP hw9
        have hμl := hw9; clear hw9
        rw [hμl.1] at hP; have hμl := hμl.2
        have hrl := hμl
        rw [bN] at hrl
        have hr0 : 0 ≤ rl ∧ rl ≤ 26 := by
          split at hrl <;> omega
        refine fz_if_eq (tgt := 124) (by constructor <;> omega) hx hb dX5_readNext_69 (by decide) (fun c69_ => ?_) (fun c69_ => ?_)
        · have hlt : ¬ (97 ≤ bC μ n (μn 1 7) ∧ bC μ n (μn 1 7) ≤ 122) := fun h9 => by rw [if_pos h9] at hrl; omega
          have hgood : tkGood (bC μ n) (μ 1 7) := by
            rw [n2_, i3_, i4_] at hlt
            exact ⟨by omega, hlt, fun h9 => by omega⟩
          have x17 : μn 1 7 = tkX (bC μ n) (μ 1 7) ∧ μn 1 7 ≤ n ∧ fr (fun x y => x = 1 ∧ y = 7) μ μn ∧ tabC μn T ∧ fndC μn S := by
            unfold tkX
            rw [← i2_, ← i3_, ← i4_]
            rw [if_neg (by omega)]
            exact ⟨by omega, n3_, F2, tabn, fndn⟩
          obtain ⟨x1_, x2_, x3_, x4_, x5_⟩ := x17
          refine lv_aload_n hx hb dX5_readNext_124 rfl (lv_at hl 3 rfl) ?_
          refine lv_iload hx hb dX5_readNext_125 (lv_at hl 0 rfl) ?_
          refine lv_iconst (v := iZ 3) hx hb dX5_readNext_127 rfl ?_
          refine lv_imul hx hb dX5_readNext_128 ?_
          refine lv_topi (fun x9 ex9 => ?_)
          obtain rfl : x9 = iZ (rn * 3) := ex9.trans (iZ_mul _ _)
          refine lv_iload_n hx hb dX5_readNext_129 rfl (lv_at hl 1 rfl) ?_
          refine lv_iadd hx hb dX5_readNext_130 ?_
          refine lv_topi (fun x9 ex9 => ?_)
          obtain rfl : x9 = iZ ((rn * 3) + rs) := ex9.trans (iZ_add _ _)
          refine lv_iload_n hx hb dX5_readNext_131 rfl (lv_at hl 2 rfl) ?_
          refine va_calli (va_runV (As := [.int (iZ ((rn * 3) + rs)), .int (iZ (μ 1 7))]) (rest := []) ⟨hx, hb, hml, hown, hts⟩ (s_Xkeep l dC dI cI cZ cII cIII h0 H.size μn ((rn * 3) + rs) (μ 1 7) (T) (S) (rs) (rn) (L) (by exact x4_) (by exact x5_) (by exact hs02) (by omega) (by rfl)) (cwV 2 hts (gV_G k706 k708 ks_yX5_keep k2 k709) rfl rfl rfl (by decide +kernel) ⟨Nat.le_of_ble_eq_true rfl, Nat.le_of_ble_eq_true rfl⟩) ⟨fun a U g mk q => by obtain ⟨q0, q1, qP, qK, qM⟩ := q; exact ⟨q0, q1, qP, va_K.moved (u := U) (U := U.calling g mk a) (Vm.Alike.refl U.vm) qK, qM⟩, va_recv hK hP (ci := 5) (q0 := 1) rfl ((fw_get (by decide)).trans (by rw [sE_1])), fun U hU hW => ⟨rfl, by rw [hU], by rw [hU]; exact hP, va_K.moved hW.alike hK, xM_warm hW hM⟩⟩ rfl rfl hl.1 rfl (lv_room (Nat.le_of_ble_eq_true rfl)) dX5_readNext_132 ⟨Nat.le_of_ble_eq_true rfl, Nat.le_of_ble_eq_true rfl⟩) hS (fun q _ h => fA_le hS.1 q h) (fA_le hS.1) (fun r9 u9 t9 H1 locs ht9 hvm9 hw9 hB9 hz9 hk9 hS => ?_)
          obtain ⟨μk, rk⟩ := u9
          obtain ⟨hP, -⟩ := hB9
          rw [ht9] at hP
          generalize H1 = H at hP hS ⊢
          obtain ⟨e9, hw9⟩ := hw9
          have e9 : r9 = iZ rk := e9
          subst e9
          simp only at hP hw9
          have hμk := hw9; clear hw9
          obtain ⟨k1_, k2_⟩ := hμk
          exact W.iret (v := iZ (rk)) hx hb hr (fun t9 ht9 hW9 => ⟨⟨iZ (rk), (μk, rk), rfl, ⟨rfl, (by
                            dsimp only
                            have hf9 : fr (fun x y => (x = 1 ∧ 3 ≤ y) ∨ x = 3 ∨ x = 4) μ μk := by
                              refine fr_trans (fr_mono x3_ (fun x y h => Or.inl ⟨h.1, by omega⟩)) ?_
                              by_cases h9 : rk = 0
                              · exact fr_mono (k1_ h9).2.2.1 (fun x y h => by omega)
                              · exact fr_mono (k2_ h9).2.2 (fun x y h => by omega)
                            have hlo : μ 1 7 + 1 ≤ tkX (bC μ n) (μ 1 7) := (tkX_lt (b := bC μ n) (a := μ 1 7)).elim id (fun h => absurd hgood h)
                            have hb9 : 0 ≤ μk 1 7 ∧ μk 1 7 ≤ n := by
                              by_cases h9 : rk = 0
                              · rw [(k1_ h9).2.2.1 1 7 (by omega)]; omega
                              · rw [(k2_ h9).2.2 1 7 (by omega)]; omega
                            refine ⟨hf9, hb9, fun h9 => ?_, fun h9 => ?_⟩
                            · obtain ⟨c1, c2, c3, c4⟩ := k1_ h9
                              have e7 : μk 1 7 = tkX (bC μ n) (μ 1 7) := by rw [c3 _ _ (by omega)]; exact x1_
                              have hlow : μ 1 7 < μk 1 7 := by
                                rw [e7]
                                rcases tkX_lt (b := bC μ n) (a := μ 1 7) with h | h
                                · omega
                                · exact absurd hgood h
                              have hup : μk 1 7 ≤ n := by rw [c3 _ _ (by omega)]; exact x2_
                              have hpk := pg_ok (T := T) (S := S) (show μ 1 7 < n by omega) (by omega) i1_ (by omega) hgood
                              rw [← i2_, ← i5_, ← i4_, ← n4_, ← e7] at hpk
                              rcases c4 with ⟨d1, d2, d3⟩ | ⟨d1, d2, d3, d4⟩
                              · rw [if_pos d1] at hpk
                                exact ⟨[], T, _, by rw [List.append_nil], d2, d3, hpk, hlow, hup⟩
                              · rw [if_neg d1, if_neg d2] at hpk
                                exact ⟨_, _, _, rfl, d3, d4, hpk, hlow, hup⟩
                            · obtain ⟨c1, c2, c3⟩ := k2_ h9
                              refine ⟨by omega, ?_, tabC_fr x4_ (c3 _ _ (by omega)) (fun y => c3 _ _ (by omega))⟩
                              by_cases h8 : S.length = 60
                              · exact pg_bad (by omega) (by omega) (Or.inr (Or.inl h8))
                              · have hpk := pg_ok (T := T) (S := S) (show μ 1 7 < n by omega) (by omega) i1_ h8 hgood
                                rw [← i2_, ← i5_, ← i4_, ← n4_] at hpk
                                rcases c2 with d1 | ⟨d1, d2⟩
                                · exact absurd d1 h8
                                · rw [if_neg d1, if_pos d2] at hpk
                                  exact hpk)⟩, by rw [ht9]; exact hP, va_K.moved hW9.alike hK⟩, hS.F ht9⟩) hS.2.2 dX5_readNext_135
        · have hlt : 97 ≤ bC μ n (μn 1 7) ∧ bC μ n (μn 1 7) ≤ 122 := by
            by_cases h9 : 97 ≤ bC μ n (μn 1 7) ∧ bC μ n (μn 1 7) ≤ 122
            · exact h9
            · rw [if_neg h9] at hrl; omega
          refine lv_aload_n hx hb dX5_readNext_72 rfl (lv_at hl 3 rfl) ?_
          refine lv_iconst (v := iZ 1) hx hb dX5_readNext_73 rfl ?_
          refine lv_aload_n hx hb dX5_readNext_74 rfl (lv_at hl 3 rfl) ?_
          refine fz_get (D := (dC, dI)) (ci := 5) (v := .int (iZ (μn 1 7))) (C := RX5) (T := TX5) (N := 8) hx hb hts inG5 hown hK hP (k := 1) (by decide) (F := (sF1 h0)) sE_1 rfl 7 (by decide) (hts _ k47) (fun _ h9 => h9) rfl dX5_readNext_75 ?_
          refine va_calli (va_runV (As := [.int (iZ (1)), .int (iZ (μn 1 7))]) (rest := []) ⟨hx, hb, hml, hown, hts⟩ (s_Xfaulty l dC dI cI cZ cII cIII h0 H.size μn (1) (μn 1 7) ) (cwV 2 hts (gV_G k702 k704 ks_yX5_faulty k2 k705) rfl rfl rfl (by decide +kernel) ⟨Nat.le_of_ble_eq_true rfl, Nat.le_of_ble_eq_true rfl⟩) ⟨fun a U g mk q => by obtain ⟨q0, q1, qP, qK, qM⟩ := q; exact ⟨q0, q1, qP, va_K.moved (u := U) (U := U.calling g mk a) (Vm.Alike.refl U.vm) qK, qM⟩, va_recv hK hP (ci := 5) (q0 := 1) rfl ((fw_get (by decide)).trans (by rw [sE_1])), fun U hU hW => ⟨rfl, by rw [hU], by rw [hU]; exact hP, va_K.moved hW.alike hK, xM_warm hW hM⟩⟩ rfl rfl hl.1 rfl (lv_room (Nat.le_of_ble_eq_true rfl)) dX5_readNext_78 ⟨Nat.le_of_ble_eq_true rfl, Nat.le_of_ble_eq_true rfl⟩) hS (fun q _ h => fA_le hS.1 q h) (fA_le hS.1) (fun r9 u9 t9 H1 locs ht9 hvm9 hw9 hB9 hz9 hk9 hS => ?_)
          obtain ⟨μf, rf⟩ := u9
          obtain ⟨hP, -⟩ := hB9
          rw [ht9] at hP
          generalize H1 = H at hP hS ⊢
          obtain ⟨e9, hw9⟩ := hw9
          have e9 : r9 = iZ rf := e9
          subst e9
          simp only at hP hw9
          have hμf := hw9; clear hw9
          exact W.iret (v := iZ (rf)) hx hb hr (fun t9 ht9 hW9 => ⟨⟨iZ (rf), (μf, rf), rfl, ⟨rfl, (by
                            dsimp only
                            have F3 : fr (fun x y => (x = 1 ∧ 3 ≤ y) ∨ x = 3 ∨ x = 4) μ μf := by
                              rw [hμf.1]
                              exact fr_uz (fr_mono F2 (fun x y h => Or.inl ⟨h.1, by omega⟩)) (Or.inl ⟨rfl, by omega⟩)
                            have hpg : pg (bC μ n) n (μ 1 7) T S = none := pg_bad (by omega) (by omega) (Or.inr (Or.inr (fun h9 => by
                              rw [n2_, i3_, i4_] at hlt
                              exact h9.2.1 hlt)))
                            have hr9 := hμf.2
                            exact ⟨F3, by rw [hμf.1, uz_n (by omega)]; omega, fun h => absurd h (by omega), fun _ => ⟨by omega, hpg, tabC_fr tabn (by rw [hμf.1, uz_n (by omega)]) (fun y => by rw [hμf.1, uz_n (by omega)])⟩⟩)⟩, by rw [ht9]; exact hP, va_K.moved hW9.alike hK⟩, hS.F ht9⟩) hS.2.2 dX5_readNext_81
    · refine lv_aload_n hx hb dX5_readNext_49 rfl (lv_at hl 3 rfl) ?_
      refine lv_iconst (v := iZ 1) hx hb dX5_readNext_50 rfl ?_
      refine lv_aload_n hx hb dX5_readNext_51 rfl (lv_at hl 3 rfl) ?_
      refine fz_get (D := (dC, dI)) (ci := 5) (v := .int (iZ (μn 1 7))) (C := RX5) (T := TX5) (N := 8) hx hb hts inG5 hown hK hP (k := 1) (by decide) (F := (sF1 h0)) sE_1 rfl 7 (by decide) (hts _ k47) (fun _ h9 => h9) rfl dX5_readNext_52 ?_
      refine va_calli (va_runV (As := [.int (iZ (1)), .int (iZ (μn 1 7))]) (rest := []) ⟨hx, hb, hml, hown, hts⟩ (s_Xfaulty l dC dI cI cZ cII cIII h0 H.size μn (1) (μn 1 7) ) (cwV 2 hts (gV_G k702 k704 ks_yX5_faulty k2 k705) rfl rfl rfl (by decide +kernel) ⟨Nat.le_of_ble_eq_true rfl, Nat.le_of_ble_eq_true rfl⟩) ⟨fun a U g mk q => by obtain ⟨q0, q1, qP, qK, qM⟩ := q; exact ⟨q0, q1, qP, va_K.moved (u := U) (U := U.calling g mk a) (Vm.Alike.refl U.vm) qK, qM⟩, va_recv hK hP (ci := 5) (q0 := 1) rfl ((fw_get (by decide)).trans (by rw [sE_1])), fun U hU hW => ⟨rfl, by rw [hU], by rw [hU]; exact hP, va_K.moved hW.alike hK, xM_warm hW hM⟩⟩ rfl rfl hl.1 rfl (lv_room (Nat.le_of_ble_eq_true rfl)) dX5_readNext_55 ⟨Nat.le_of_ble_eq_true rfl, Nat.le_of_ble_eq_true rfl⟩) hS (fun q _ h => fA_le hS.1 q h) (fA_le hS.1) (fun r9 u9 t9 H1 locs ht9 hvm9 hw9 hB9 hz9 hk9 hS => ?_)
      obtain ⟨μf, rf⟩ := u9
      obtain ⟨hP, -⟩ := hB9
      rw [ht9] at hP
      generalize H1 = H at hP hS ⊢
      obtain ⟨e9, hw9⟩ := hw9
      have e9 : r9 = iZ rf := e9
      subst e9
      simp only at hP hw9
      have hμf := hw9; clear hw9
      exact W.iret (v := iZ (rf)) hx hb hr (fun t9 ht9 hW9 => ⟨⟨iZ (rf), (μf, rf), rfl, ⟨rfl, (by
                    dsimp only
                    have F3 : fr (fun x y => (x = 1 ∧ 3 ≤ y) ∨ x = 3 ∨ x = 4) μ μf := by
                      rw [hμf.1]
                      exact fr_uz (fr_mono F2 (fun x y h => Or.inl ⟨h.1, by omega⟩)) (Or.inl ⟨rfl, by omega⟩)
                    have hpg : pg (bC μ n) n (μ 1 7) T S = none := pg_bad (by omega) (by omega) ((tkH_no hH (by
                      rw [← hL]
                      rcases Nat.eq_zero_or_pos L with h9 | h9
                      · exact h9
                      · have := hnv.2.2 h9; omega)).elim Or.inl (fun h => Or.inr (Or.inr h)))
                    have hr9 := hμf.2
                    exact ⟨F3, by rw [hμf.1, uz_n (by omega)]; omega, fun h => absurd h (by omega), fun _ => ⟨by omega, hpg, tabC_fr tabn (by rw [hμf.1, uz_n (by omega)]) (fun y => by rw [hμf.1, uz_n (by omega)])⟩⟩)⟩, by rw [ht9]; exact hP, va_K.moved hW9.alike hK⟩, hS.F ht9⟩) hS.2.2 dX5_readNext_58
  · refine lv_aload_n hx hb dX5_readNext_14 rfl (lv_at hl 0 rfl) ?_
    refine lv_dup hx hb dX5_readNext_15 rfl ?_
    refine fz_get (D := (dC, dI)) (ci := 5) (v := .int (iZ (μ 1 7))) (C := RX5) (T := TX5) (N := 8) hx hb hts inG5 hown hK hP (k := 1) (by decide) (F := (sF1 h0)) sE_1 rfl 7 (by decide) (hts _ k47) (fun _ h9 => h9) rfl dX5_readNext_16 ?_
    refine lv_iconst (v := iZ 1) hx hb dX5_readNext_19 rfl ?_
    refine lv_iadd hx hb dX5_readNext_20 ?_
    refine lv_topi (fun x9 ex9 => ?_)
    obtain rfl : x9 = iZ ((μ 1 7) + 1) := ex9.trans (iZ_add _ _)
    refine fz_put (D := (dC, dI)) (ci := 5) (ty := .int) (z := ((μ 1 7) + 1)) (C := RX5) (T := TX5) (N := 8) hx hb hts inG5 tyX5 tyX5_ok nmX5 hown hK hP fA_in hS (k := 1) (by decide) (F := (sF1 h0)) sE_1 rfl 7 (by decide) (hts _ k47) (fun _ h9 => h9) rfl (by decide +kernel) rfl rfl (fun _ => Nat.le_of_ble_eq_true rfl) (fun _ _ => rfl) dX5_readNext_21 (fun H locs hP hS => ?_)
    obtain ⟨μ2, eμ2⟩ : ∃ x : va_M, x = uz μ 1 7 ((μ 1 7) + 1) := ⟨_, rfl⟩
    rw [← eμ2] at hP
    refine lv_iconst (v := iZ 0) hx hb dX5_readNext_24 rfl ?_
    exact W.iret (v := iZ (0)) hx hb hr (fun t9 ht9 hW9 => ⟨⟨iZ (0), (μ2, 0), rfl, ⟨rfl, (by
                dsimp only
                have e7 : μ2 1 7 = μ 1 7 + 1 := by rw [eμ2, uz_s]
                refine ⟨by rw [eμ2]; exact fr_uz fr_rfl (Or.inl ⟨rfl, by omega⟩), by omega, fun _ => ⟨[], T, S, by rw [List.append_nil], tabC_fr hT (by rw [eμ2, uz_n (by omega)]) (fun y => by rw [eμ2, uz_n (by omega)]), fndC_fr hS9 (by rw [eμ2, uz_n (by omega)]) (by rw [eμ2, uz_n (by omega)]; exact Int.le_refl _) (fun y => by rw [eμ2, uz_n (by omega)]), ?_, by omega, by omega⟩, fun h => absurd rfl h⟩
                rw [e7, pg_S (by omega), if_pos (by omega)])⟩, by rw [ht9]; exact hP, va_K.moved hW9.alike hK⟩, hS.F ht9⟩) hS.2.2 dX5_readNext_25
set_option maxHeartbeats 4000000 in
set_option maxRecDepth 100000 in
theorem LX5_readText_25 {p : Program} {l : Launch} {e : Env} {R : Room} {s : State} {m : MethodId} {args : Array Value} {below : List Frame} {meth : Method} {c : Code} {cells slots : Nat} {Q : State → Prop} {dC : Nat → ClassId} {dI : Nat → Nat → Nat} {h0 : Nat} {cI cZ cII cIII : ClassId} (hx : p.tables.exec = Jvm.exec) (hb : c.code = cX5_readText) (hml : c.maxLocals = 5) (hown : s.vm.findClass RX5 = some m.cls) (hts : ∀ w ∈ wsG, w.before args s = true) (hK : va_K (dC, dI) vwCl (sT cI cZ cII cIII) s) (hM : xM s) (hRf : 4 ≤ R.frames) (hRl : 83 ≤ R.locals) (hRc : cells ≤ R.cells) (hRs : slots ≤ R.slots) (μ0 : va_M) (n : Int) (T : List Tk) (htb : tpB μ0) (hn : 0 ≤ n ∧ n ≤ 400) (hexit55 : ∀ (tu : Int) (wr : Int) (X : List Tk) (T2 : List Tk) (S2 : List Int) (μ : va_M) (H : Heap) (locs : List Loc) (ls : Array Slot), (fr (fun x y => (x = 1 ∧ 3 ≤ y) ∨ x = 3 ∨ x = 4) μ0 μ) → (0 ≤ wr ∧ wr ≤ 2) → (wr = 0 → T2 = T ++ X ∧ tabC μ T2 ∧ fndC μ S2 ∧ pg (bC μ0 n) n 0 T [] = pg (bC μ0 n) n (μ 1 7) T2 S2 ∧ tu ≤ μ 1 7 ∧ μ 1 7 ≤ n) → (wr ≠ 0 → pg (bC μ0 n) n 0 T [] = none ∧ ∃ X9 : List Tk, tabC μ (T ++ X9)) → (wr = 0 → n ≤ μ 1 7) → va_P (dC, dI) vwCl (fw (sE cI cZ cII cIII h0) h0 233 μ) H → va_S (fA h0 233 s.heap.size) s.heap H locs → lv_has ls 5 [(3, .int (iZ (wr))), (2, .int (iZ (μ0 1 3))), (1, .int (iZ (n))), (0, .ref (h0 + 1))] → W p l e R s m args below meth c H locs cells slots Q (F0 m 55 ls [])) :
    ∀ (n9 : Nat) (tu : Int) (wr : Int) (X : List Tk) (T2 : List Tk) (S2 : List Int) (μ : va_M) (H : Heap) (locs : List Loc) (ls : Array Slot), ((0 ≤ tu ∧ tu ≤ n) ∧ 0 ≤ μ 1 7 ∧ μ 1 7 ≤ 400) → (fr (fun x y => (x = 1 ∧ 3 ≤ y) ∨ x = 3 ∨ x = 4) μ0 μ) → (0 ≤ wr ∧ wr ≤ 2) → (wr = 0 → T2 = T ++ X ∧ tabC μ T2 ∧ fndC μ S2 ∧ pg (bC μ0 n) n 0 T [] = pg (bC μ0 n) n (μ 1 7) T2 S2 ∧ tu ≤ μ 1 7 ∧ μ 1 7 ≤ n) → (wr ≠ 0 → pg (bC μ0 n) n 0 T [] = none ∧ ∃ X9 : List Tk, tabC μ (T ++ X9)) → (n - tu).toNat < n9 → va_P (dC, dI) vwCl (fw (sE cI cZ cII cIII h0) h0 233 μ) H → va_S (fA h0 233 s.heap.size) s.heap H locs → lv_has ls 5 [(4, .int (iZ (tu))), (3, .int (iZ (wr))), (2, .int (iZ (μ0 1 3))), (1, .int (iZ (n))), (0, .ref (h0 + 1))] → W p l e R s m args below meth c H locs cells slots Q (F0 m 25 ls []) := by
  intro n9
  induction n9 with
  | zero => intro tu wr X T2 S2 μ H locs ls ht hf hw9 hok hno hm9 hP hS hl; exact absurd hm9 (Nat.not_lt_zero _)
  | succ n9 ih =>
    intro tu wr X T2 S2 μ H locs ls ht hf hw9 hok hno hm9 hP hS hl
    have htb1 : tpB μ := fun j => by rw [hf _ _ (by omega)]; exact htb j
    refine lv_iload hx hb dX5_readText_25 (lv_at hl 0 rfl) ?_
    refine lv_iload_n hx hb dX5_readText_27 rfl (lv_at hl 3 rfl) ?_
    refine fz_icmp_ge (tgt := 55) (by constructor <;> omega) (by constructor <;> omega) hx hb dX5_readText_28 (by decide) (fun c28_ => ?_) (fun c28_ => ?_)
    · exact hexit55 (tu) (wr) (X) (T2) (S2) μ H locs ls (by exact hf) (by exact hw9) (by exact hok) (by exact hno) (by
                    intro h9
                    have := hok h9
                    omega) hP hS (lv_sub hl [1, 2, 3, 4] rfl)
    · refine lv_aload_n hx hb dX5_readText_31 rfl (lv_at hl 4 rfl) ?_
      refine fz_get (D := (dC, dI)) (ci := 5) (v := .int (iZ (μ 1 7))) (C := RX5) (T := TX5) (N := 8) hx hb hts inG5 hown hK hP (k := 1) (by decide) (F := (sF1 h0)) sE_1 rfl 7 (by decide) (hts _ k47) (fun _ h9 => h9) rfl dX5_readText_32 ?_
      refine lv_iload_n hx hb dX5_readText_35 rfl (lv_at hl 3 rfl) ?_
      refine fz_icmp_ge (tgt := 55) (by constructor <;> omega) (by constructor <;> omega) hx hb dX5_readText_36 (by decide) (fun c36_ => ?_) (fun c36_ => ?_)
      · exact hexit55 (tu) (wr) (X) (T2) (S2) μ H locs ls (by exact hf) (by exact hw9) (by exact hok) (by exact hno) (by
                        intro h9
                        have := hok h9
                        omega) hP hS (lv_sub hl [1, 2, 3, 4] rfl)
      · refine lv_iload_n hx hb dX5_readText_39 rfl (lv_at hl 1 rfl) ?_
        refine fz_if_ne (tgt := 55) (by constructor <;> omega) hx hb dX5_readText_40 (by decide) (fun c40_ => ?_) (fun c40_ => ?_)
        · exact hexit55 (tu) (wr) (X) (T2) (S2) μ H locs ls (by exact hf) (by exact hw9) (by exact hok) (by exact hno) (by
                            intro h9
                            have := hok h9
                            omega) hP hS (lv_sub hl [1, 2, 3, 4] rfl)
        · obtain ⟨a1_, a2_, a3_, a4_, a5_, a6_⟩ := hok (by omega)
          have bE : bC μ n = bC μ0 n := bC_fr (fun y => hf _ _ (by omega))
          refine lv_aload_n hx hb dX5_readText_43 rfl (lv_at hl 4 rfl) ?_
          refine lv_iload_n hx hb dX5_readText_44 rfl (lv_at hl 3 rfl) ?_
          refine va_calli (va_runV (As := [.int (iZ (n))]) (rest := []) ⟨hx, hb, hml, hown, hts⟩ (s_XreadNext l dC dI cI cZ cII cIII h0 H.size μ (n) (T2) (S2) (by exact htb1) (by omega) (by exact a2_) (by exact a3_)) (cwV 1 hts (gV_G k686 k688 ks_yX5_readNext k2 k689) rfl rfl rfl (by decide +kernel) ⟨by show 3 + 1 ≤ _; omega, by show 8 + (5 + 11) + (59) ≤ _; omega⟩) ⟨fun a U g mk q => by obtain ⟨q0, q1, qP, qK, qM⟩ := q; exact ⟨q0, q1, qP, va_K.moved (u := U) (U := U.calling g mk a) (Vm.Alike.refl U.vm) qK, qM⟩, va_recv hK hP (ci := 5) (q0 := 1) rfl ((fw_get (by decide)).trans (by rw [sE_1])), fun U hU hW => ⟨rfl, by rw [hU], by rw [hU]; exact hP, va_K.moved hW.alike hK, xM_warm hW hM⟩⟩ rfl rfl hl.1 rfl (lv_room (Nat.le_of_ble_eq_true rfl)) dX5_readText_45 ⟨hRc, hRs⟩) hS (fun q _ h => fA_le hS.1 q h) (fA_le hS.1) (fun r9 u9 t9 H1 locs ht9 hvm9 hw9 hB9 hz9 hk9 hS => ?_)
          obtain ⟨μr, rr⟩ := u9
          obtain ⟨hP, -⟩ := hB9
          rw [ht9] at hP
          generalize H1 = H at hP hS ⊢
          obtain ⟨e9, hw9⟩ := hw9
          have e9 : r9 = iZ rr := e9
          subst e9
          simp only at hP hw9
          have hμr := hw9; clear hw9
          obtain ⟨f1_, g1_, o1_, n1_⟩ := hμr
          rw [bE] at o1_ n1_
          obtain ⟨X3, T3, S3, ok3⟩ : ∃ (X3 : List Tk) (T3 : List Tk) (S3 : List Int), rr = 0 → T3 = T ++ X3 ∧ tabC μr T3 ∧ fndC μr S3 ∧ pg (bC μ0 n) n (μ 1 7) T2 S2 = pg (bC μ0 n) n (μr 1 7) T3 S3 ∧ μ 1 7 < μr 1 7 ∧ μr 1 7 ≤ n := by
            by_cases h9 : rr = 0
            · obtain ⟨X3, T3, S3, e1, e2⟩ := o1_ h9
              exact ⟨X ++ X3, T3, S3, fun _ => ⟨by rw [e1, a1_, List.append_assoc], e2⟩⟩
            · exact ⟨[], T2, S2, fun h => absurd h h9⟩
          have rr02 : 0 ≤ rr ∧ rr ≤ 2 := by
            by_cases h9 : rr = 0
            · omega
            · have := (n1_ h9).1; omega
          refine lv_istore_n (lv' := [(3, .int (iZ (rr))), (4, .int (iZ (tu))), (2, .int (iZ (μ0 1 3))), (1, .int (iZ (n))), (0, .ref (h0 + 1))]) hx hb dX5_readText_48 rfl hl (by decide) rfl (fun ls hl => ?_)
          refine lv_iinc (v := iZ (tu + 1)) (lv' := [(4, .int (iZ (tu + 1))), (3, .int (iZ (rr))), (2, .int (iZ (μ0 1 3))), (1, .int (iZ (n))), (0, .ref (h0 + 1))]) hx hb dX5_readText_49 hl (k := 1) rfl (iZ_add _ _) (by decide) rfl (fun ls hl => ?_)
          refine lv_goto (tgt := 25) hx hb dX5_readText_52 (by decide) ?_
          exact ih (tu + 1) (rr) (X3) (T3) (S3) μr H locs ls (by omega) (by exact fr_trans hf f1_) (by exact rr02) (by
                            intro h9
                            obtain ⟨e1, e2, e3, e4, e5, e6⟩ := ok3 h9
                            exact ⟨e1, e2, e3, a4_.trans e4, by omega, e6⟩) (by
                            intro h9
                            obtain ⟨e1, e2, e3⟩ := n1_ h9
                            exact ⟨a4_.trans e2, X, by rw [← a1_]; exact e3⟩) (by omega) hP hS (lv_sub hl [0, 1, 2, 3, 4] rfl)
set_option maxHeartbeats 4000000 in
set_option maxRecDepth 100000 in
theorem s_XreadText (l : Launch) (dC : Nat → ClassId) (dI : Nat → Nat → Nat) (cI cZ cII cIII : ClassId) (h0 sz : Nat) (μ : va_M) (n : Int) (T : List Tk) (htb : tpB μ) (hn : 0 ≤ n ∧ n ≤ 400) (hT : tabC μ T) : Met l yX5_readText (Cond.code yX5_readText cX5_readText 5 (some .int) :: wsG) ({ frames := 4, cells := 0, slots := 0, locals := 83 } : Room) (va_Pc [.ref (h0 + 1), .int (iZ (n))] (fun U => U.heap.size = sz ∧ va_P (dC, dI) vwCl (fw (sE cI cZ cII cIII h0) h0 233 μ) U.heap ∧ va_K (dC, dI) vwCl (sT cI cZ cII cIII) U ∧ xM U)) (va_Qi (fun (r9 : Int32) (u : va_M × Int) => r9 = iZ u.2 ∧ (fun (u : va_M) (r : Int) => fr (fun x y => (x = 1 ∧ 3 ≤ y) ∨ x = 3 ∨ x = 4) μ u ∧ ((r = 0 ∧ ∃ (T2 : List Tk) (S2 : List Int), pg (bC μ n) n 0 T [] = some (T2, S2) ∧ tabC u T2 ∧ fndC u S2) ∨ (1 ≤ r ∧ r ≤ 2 ∧ pg (bC μ n) n 0 T [] = none ∧ tabC u T))) u.1 u.2) (fun u t => va_P (dC, dI) vwCl (fw (sE cI cZ cII cIII h0) h0 233 u.1) t.heap ∧ va_K (dC, dI) vwCl (sT cI cZ cII cIII) t) (fA h0 233 sz)) 0 0 (fA h0 233 sz) := by
  refine Met.ofW (cc := cX5_readText) (maxL := 5) (ret := (some .int)) (by decide) rfl ?_
  intro p e s m args below meth c s₁ B hml hv
  obtain ⟨rfl, hsz, hP, hK, hM⟩ := hv
  have hx := B.exec
  have hb := B.bytes
  have hr := B.returns
  have hts : ∀ w ∈ wsG, w.before _ s = true := hG_of (atoms_spec (ws := (Cond.code yX5_readText cX5_readText 5 (some .int) :: wsG)) B.pre)
  have hown : s.vm.findClass RX5 = some m.cls := findClass_of_methodNamed B.named
  have hlocks := B.notSynchronized
  subst hsz
  have hS : va_S (fA h0 233 s.heap.size) s.heap s.heap [] := va_S.rf
  have hl := lv_entry ([.ref (h0 + 1), .int (iZ (n))]) (n := 5) (Nat.le_of_ble_eq_true rfl)
  rw [lg_entry_eq]
  generalize (lg_sl ([.ref (h0 + 1), .int (iZ (n))]) ++ List.replicate (5 - (lg_sl ([.ref (h0 + 1), .int (iZ (n))])).length) Slot.unset).toArray = ls at hl ⊢
  have hl : lv_has ls 5 [(0, .ref (h0 + 1)), (1, .int (iZ (n)))] := hl
  refine lv_aload_n hx hb dX5_readText_0 rfl (lv_at hl 0 rfl) ?_
  refine fz_get (D := (dC, dI)) (ci := 5) (v := .int (iZ (μ 1 3))) (C := RX5) (T := TX5) (N := 8) hx hb hts inG5 hown hK hP (k := 1) (by decide) (F := (sF1 h0)) sE_1 rfl 3 (by decide) (hts _ k39) (fun _ h9 => h9) rfl dX5_readText_1 ?_
  refine lv_istore_n (lv' := [(2, .int (iZ (μ 1 3))), (0, .ref (h0 + 1)), (1, .int (iZ (n)))]) hx hb dX5_readText_4 rfl hl (by decide) rfl (fun ls hl => ?_)
  refine lv_iconst (v := iZ 0) hx hb dX5_readText_5 rfl ?_
  refine lv_istore_n (lv' := [(3, .int (iZ (0))), (2, .int (iZ (μ 1 3))), (0, .ref (h0 + 1)), (1, .int (iZ (n)))]) hx hb dX5_readText_6 rfl hl (by decide) rfl (fun ls hl => ?_)
  refine lv_aload_n hx hb dX5_readText_7 rfl (lv_at hl 2 rfl) ?_
  refine lv_iconst (v := iZ 0) hx hb dX5_readText_8 rfl ?_
  refine fz_put (D := (dC, dI)) (ci := 5) (ty := .int) (z := 0) (C := RX5) (T := TX5) (N := 8) hx hb hts inG5 tyX5 tyX5_ok nmX5 hown hK hP fA_in hS (k := 1) (by decide) (F := (sF1 h0)) sE_1 rfl 7 (by decide) (hts _ k47) (fun _ h9 => h9) rfl (by decide +kernel) rfl rfl (fun _ => Nat.le_of_ble_eq_true rfl) (fun _ _ => rfl) dX5_readText_9 (fun H locs hP hS => ?_)
  obtain ⟨μ1, eμ1⟩ : ∃ x : va_M, x = uz μ 1 7 (0) := ⟨_, rfl⟩
  rw [← eμ1] at hP
  refine lv_aload_n hx hb dX5_readText_12 rfl (lv_at hl 2 rfl) ?_
  refine lv_iconst (v := iZ 0) hx hb dX5_readText_13 rfl ?_
  refine fz_put (D := (dC, dI)) (ci := 5) (ty := .int) (z := 0) (C := RX5) (T := TX5) (N := 8) hx hb hts inG5 tyX5 tyX5_ok nmX5 hown hK hP fA_in hS (k := 1) (by decide) (F := (sF1 h0)) sE_1 rfl 5 (by decide) (hts _ k43) (fun _ h9 => h9) rfl (by decide +kernel) rfl rfl (fun _ => Nat.le_of_ble_eq_true rfl) (fun _ _ => rfl) dX5_readText_14 (fun H locs hP hS => ?_)
  obtain ⟨μ2, eμ2⟩ : ∃ x : va_M, x = uz μ1 1 5 (0) := ⟨_, rfl⟩
  rw [← eμ2] at hP
  refine lv_aload_n hx hb dX5_readText_17 rfl (lv_at hl 2 rfl) ?_
  refine lv_iconst (v := iZ (-1)) hx hb dX5_readText_18 rfl ?_
  refine fz_put (D := (dC, dI)) (ci := 5) (ty := .int) (z := ((-1))) (C := RX5) (T := TX5) (N := 8) hx hb hts inG5 tyX5 tyX5_ok nmX5 hown hK hP fA_in hS (k := 1) (by decide) (F := (sF1 h0)) sE_1 rfl 6 (by decide) (hts _ k45) (fun _ h9 => h9) rfl (by decide +kernel) rfl rfl (fun _ => Nat.le_of_ble_eq_true rfl) (fun _ _ => rfl) dX5_readText_19 (fun H locs hP hS => ?_)
  obtain ⟨μ3, eμ3⟩ : ∃ x : va_M, x = uz μ2 1 6 ((-1)) := ⟨_, rfl⟩
  rw [← eμ3] at hP
  have F0 : fr (fun x y => (x = 1 ∧ 3 ≤ y) ∨ x = 3 ∨ x = 4) μ μ3 := by rw [eμ3, eμ2, eμ1]; exact fr_uz (fr_uz (fr_uz fr_rfl (Or.inl ⟨rfl, by omega⟩)) (Or.inl ⟨rfl, by omega⟩)) (Or.inl ⟨rfl, by omega⟩)
  have e7 : μ3 1 7 = 0 := by rw [eμ3, eμ2, eμ1, uz_n (by omega), uz_n (by omega), uz_s]
  have e5 : μ3 1 5 = 0 := by rw [eμ3, eμ2, eμ1, uz_n (by omega), uz_s]
  have t0 : tabC μ3 T := tabC_fr hT (by rw [eμ3, eμ2, eμ1, uz_n (by omega), uz_n (by omega), uz_n (by omega)]) (fun y => by rw [eμ3, eμ2, eμ1, uz_n (by omega), uz_n (by omega), uz_n (by omega)])
  have s0 : fndC μ3 [] := ⟨⟨by rw [e5]; rfl, by decide⟩, fun k e he => by rw [List.getElem?_nil] at he; cases he⟩
  refine lv_iconst (v := iZ 0) hx hb dX5_readText_22 rfl ?_
  refine lv_istore (lv' := [(4, .int (iZ (0))), (3, .int (iZ (0))), (2, .int (iZ (μ 1 3))), (0, .ref (h0 + 1)), (1, .int (iZ (n)))]) hx hb dX5_readText_23 hl (by decide) rfl (fun ls hl => ?_)
  refine LX5_readText_25 hx hb hml hown hts hK hM (Nat.le_of_ble_eq_true rfl) (Nat.le_of_ble_eq_true rfl) (Nat.le_of_ble_eq_true rfl) (Nat.le_of_ble_eq_true rfl) (μ) (n) (T) (by exact htb) (by assumption) ?_ _ (0) (0) ([]) (T) ([]) μ3 H locs ls (by omega) (by exact F0) (by decide) (by intro _; exact ⟨by rw [List.append_nil], t0, s0, by rw [e7], by omega, by omega⟩) (by intro h; exact absurd rfl h) (Nat.lt_succ_self _) hP hS (lv_sub hl [0, 1, 2, 4, 3] rfl)
  · intro tu_4 wr_4 X_4 T2_4 S2_4 μ4_ H locs ls q1_4 q2_4 q3_4 q4_4 q5_4 hP hS hl
    have hl : lv_has ls 5 [(3, .int (iZ (wr_4))), (2, .int (iZ (μ 1 3))), (1, .int (iZ (n))), (0, .ref (h0 + 1))] := hl
    have Q1 := q1_4
    have Q2 := q2_4
    have Q3 := q3_4
    have Q4 := q4_4
    have Q5 := q5_4
    refine lv_iload_n hx hb dX5_readText_55 rfl (lv_at hl 0 rfl) ?_
    refine fz_if_ne (tgt := 73) (by constructor <;> omega) hx hb dX5_readText_56 (by decide) (fun c56_ => ?_) (fun c56_ => ?_)
    · refine lv_iload_n hx hb dX5_readText_73 rfl (lv_at hl 0 rfl) ?_
      refine fz_if_eq (tgt := 82) (by constructor <;> omega) hx hb dX5_readText_74 (by decide) (fun h9 => (by omega)) (fun c74_ => ?_)
      refine lv_aload_n hx hb dX5_readText_77 rfl (lv_at hl 3 rfl) ?_
      refine lv_iload_n hx hb dX5_readText_78 rfl (lv_at hl 1 rfl) ?_
      refine fz_put (D := (dC, dI)) (ci := 5) (ty := .int) (z := (μ 1 3)) (C := RX5) (T := TX5) (N := 8) hx hb hts inG5 tyX5 tyX5_ok nmX5 hown hK hP fA_in hS (k := 1) (by decide) (F := (sF1 h0)) sE_1 rfl 3 (by decide) (hts _ k39) (fun _ h9 => h9) rfl (by decide +kernel) rfl rfl (fun _ => Nat.le_of_ble_eq_true rfl) (fun _ _ => rfl) dX5_readText_79 (fun H locs hP hS => ?_)
      obtain ⟨μ5, eμ5⟩ : ∃ x : va_M, x = uz μ4_ 1 3 (μ 1 3) := ⟨_, rfl⟩
      rw [← eμ5] at hP
      refine lv_iload_n hx hb dX5_readText_82 rfl (lv_at hl 0 rfl) ?_
      exact W.iret (v := iZ (wr_4)) hx hb hr (fun t9 ht9 hW9 => ⟨⟨iZ (wr_4), (μ5, wr_4), rfl, ⟨rfl, (by
                    dsimp only
                    obtain ⟨c1, X9, c2⟩ := Q4 (by omega)
                    refine ⟨by rw [eμ5]; exact fr_uz Q1 (Or.inl ⟨rfl, by omega⟩), Or.inr ⟨by omega, by omega, c1, ?_⟩⟩
                    exact tabC_cut c2 hT (by rw [eμ5, uz_s]) (fun y => by rw [eμ5, uz_n (by omega)]))⟩, by rw [ht9]; exact hP, va_K.moved hW9.alike hK⟩, hS.F ht9⟩) hS.2.2 dX5_readText_83
    · refine lv_aload_n hx hb dX5_readText_59 rfl (lv_at hl 3 rfl) ?_
      have hfc := (Q3 (by omega)).2.2.1.1
      refine fz_get (D := (dC, dI)) (ci := 5) (v := .int (iZ (μ4_ 1 5))) (C := RX5) (T := TX5) (N := 8) hx hb hts inG5 hown hK hP (k := 1) (by decide) (F := (sF1 h0)) sE_1 rfl 5 (by decide) (hts _ k43) (fun _ h9 => h9) rfl dX5_readText_60 ?_
      refine fz_if_ne (tgt := 73) (by constructor <;> omega) hx hb dX5_readText_63 (by decide) (fun c63_ => ?_) (fun c63_ => ?_)
      · refine lv_iload_n hx hb dX5_readText_73 rfl (lv_at hl 0 rfl) ?_
        refine fz_if_eq (tgt := 82) (by constructor <;> omega) hx hb dX5_readText_74 (by decide) (fun c74_ => ?_) (fun h9 => (by omega))
        refine lv_iload_n hx hb dX5_readText_82 rfl (lv_at hl 0 rfl) ?_
        exact W.iret (v := iZ (wr_4)) hx hb hr (fun t9 ht9 hW9 => ⟨⟨iZ (wr_4), (μ4_, wr_4), rfl, ⟨rfl, (by
                        dsimp only
                        obtain ⟨c1, c2, c3, c4, c5, c6⟩ := Q3 (by omega)
                        have hpe := pg_end (b := bC μ n) (T := T2_4) (S := S2_4) (Q5 (by omega))
                        rw [if_neg (by have := c3.1; omega)] at hpe
                        exact ⟨Q1, Or.inl ⟨by omega, _, _, c4.trans hpe, c2, c3⟩⟩)⟩, by rw [ht9]; exact hP, va_K.moved hW9.alike hK⟩, hS.F ht9⟩) hS.2.2 dX5_readText_83
      · refine lv_aload_n hx hb dX5_readText_66 rfl (lv_at hl 3 rfl) ?_
        refine lv_iconst (v := iZ 1) hx hb dX5_readText_67 rfl ?_
        refine lv_iload_n hx hb dX5_readText_68 rfl (lv_at hl 2 rfl) ?_
        refine va_calli (va_runV (As := [.int (iZ (1)), .int (iZ (n))]) (rest := []) ⟨hx, hb, hml, hown, hts⟩ (s_Xfaulty l dC dI cI cZ cII cIII h0 H.size μ4_ (1) (n) ) (cwV 2 hts (gV_G k702 k704 ks_yX5_faulty k2 k705) rfl rfl rfl (by decide +kernel) ⟨Nat.le_of_ble_eq_true rfl, Nat.le_of_ble_eq_true rfl⟩) ⟨fun a U g mk q => by obtain ⟨q0, q1, qP, qK, qM⟩ := q; exact ⟨q0, q1, qP, va_K.moved (u := U) (U := U.calling g mk a) (Vm.Alike.refl U.vm) qK, qM⟩, va_recv hK hP (ci := 5) (q0 := 1) rfl ((fw_get (by decide)).trans (by rw [sE_1])), fun U hU hW => ⟨rfl, by rw [hU], by rw [hU]; exact hP, va_K.moved hW.alike hK, xM_warm hW hM⟩⟩ rfl rfl hl.1 rfl (lv_room (Nat.le_of_ble_eq_true rfl)) dX5_readText_69 ⟨Nat.le_of_ble_eq_true rfl, Nat.le_of_ble_eq_true rfl⟩) hS (fun q _ h => fA_le hS.1 q h) (fA_le hS.1) (fun r9 u9 t9 H1 locs ht9 hvm9 hw9 hB9 hz9 hk9 hS => ?_)
        obtain ⟨μf, rf⟩ := u9
        obtain ⟨hP, -⟩ := hB9
        rw [ht9] at hP
        generalize H1 = H at hP hS ⊢
        obtain ⟨e9, hw9⟩ := hw9
        have e9 : r9 = iZ rf := e9
        subst e9
        simp only at hP hw9
        have hμf := hw9; clear hw9
        obtain ⟨g1_, g2_⟩ := hμf
        refine lv_istore_n (lv' := [(3, .int (iZ (rf))), (2, .int (iZ (μ 1 3))), (1, .int (iZ (n))), (0, .ref (h0 + 1))]) hx hb dX5_readText_72 rfl hl (by decide) rfl (fun ls hl => ?_)
        refine lv_iload_n hx hb dX5_readText_73 rfl (lv_at hl 0 rfl) ?_
        refine fz_if_eq (tgt := 82) (by constructor <;> omega) hx hb dX5_readText_74 (by decide) (fun h9 => (by omega)) (fun c74_ => ?_)
        refine lv_aload_n hx hb dX5_readText_77 rfl (lv_at hl 3 rfl) ?_
        refine lv_iload_n hx hb dX5_readText_78 rfl (lv_at hl 1 rfl) ?_
        refine fz_put (D := (dC, dI)) (ci := 5) (ty := .int) (z := (μ 1 3)) (C := RX5) (T := TX5) (N := 8) hx hb hts inG5 tyX5 tyX5_ok nmX5 hown hK hP fA_in hS (k := 1) (by decide) (F := (sF1 h0)) sE_1 rfl 3 (by decide) (hts _ k39) (fun _ h9 => h9) rfl (by decide +kernel) rfl rfl (fun _ => Nat.le_of_ble_eq_true rfl) (fun _ _ => rfl) dX5_readText_79 (fun H locs hP hS => ?_)
        obtain ⟨μ6, eμ6⟩ : ∃ x : va_M, x = uz μf 1 3 (μ 1 3) := ⟨_, rfl⟩
        rw [← eμ6] at hP
        refine lv_iload_n hx hb dX5_readText_82 rfl (lv_at hl 0 rfl) ?_
        exact W.iret (v := iZ (rf)) hx hb hr (fun t9 ht9 hW9 => ⟨⟨iZ (rf), (μ6, rf), rfl, ⟨rfl, (by
                        dsimp only
                        obtain ⟨c1, c2, c3, c4, c5, c6⟩ := Q3 (by omega)
                        have hpe := pg_end (b := bC μ n) (T := T2_4) (S := S2_4) (Q5 (by omega))
                        rw [if_pos (by have := c3.1; omega)] at hpe
                        refine ⟨by rw [eμ6, g1_]; exact fr_uz (fr_uz Q1 (Or.inl ⟨rfl, by omega⟩)) (Or.inl ⟨rfl, by omega⟩), Or.inr ⟨by omega, by omega, c4.trans hpe, ?_⟩⟩
                        rw [c1] at c2
                        exact tabC_cut c2 hT (by rw [eμ6, uz_s]) (fun y => by rw [eμ6, uz_n (by omega), g1_, uz_n (by omega)]))⟩, by rw [ht9]; exact hP, va_K.moved hW9.alike hK⟩, hS.F ht9⟩) hS.2.2 dX5_readText_83

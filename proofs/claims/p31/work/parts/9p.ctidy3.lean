set_option maxRecDepth 100000 in
theorem k96 : (Cond.fieldLink "PageSkeleton$Tidier" (32 : Nat) "PageSkeleton$Row" "length" "I") ∈ wsG := wsG_a1 96 rfl rfl
set_option maxRecDepth 100000 in
theorem k428 : (Cond.constant "PageSkeleton$Tidier" (31 : Nat) (1000000 : Int32)) ∈ wsG := wsG_a2 188 rfl rfl
set_option maxRecDepth 100000 in
theorem k429 : (Cond.methodLink "PageSkeleton$Tidier" (43 : Nat) ({ cls := "PageSkeleton$Tidier", name := "tidyRange", desc := "(LPageSkeleton$Row;II)I" } : MethodName)) ∈ wsG := wsG_a2 189 rfl rfl
set_option maxRecDepth 100000 in
theorem k431 : (Cond.instanceMethod ({ cls := "PageSkeleton$Tidier", name := "tidyRange", desc := "(LPageSkeleton$Row;II)I" } : MethodName)) ∈ wsG := wsG_a2 191 rfl rfl
set_option maxRecDepth 100000 in
theorem k432 : (Cond.code ({ cls := "PageSkeleton$Tidier", name := "tidyRange", desc := "(LPageSkeleton$Row;II)I" } : MethodName) prog_8_method_3_code (9 : Nat) (Option.some FieldType.int)) ∈ wsG := wsG_a2 192 rfl rfl
set_option maxRecDepth 100000 in
theorem k433 : (Cond.methodLink "PageSkeleton$Tidier" (47 : Nat) ({ cls := "PageSkeleton$Tidier", name := "joinTwins", desc := "(LPageSkeleton$Row;II)Z" } : MethodName)) ∈ wsG := wsG_a2 193 rfl rfl
set_option maxRecDepth 100000 in
theorem k435 : (Cond.instanceMethod ({ cls := "PageSkeleton$Tidier", name := "joinTwins", desc := "(LPageSkeleton$Row;II)Z" } : MethodName)) ∈ wsG := wsG_a2 195 rfl rfl
set_option maxRecDepth 100000 in
theorem k436 : (Cond.code ({ cls := "PageSkeleton$Tidier", name := "joinTwins", desc := "(LPageSkeleton$Row;II)Z" } : MethodName) prog_8_method_4_code (7 : Nat) (Option.some FieldType.boolean)) ∈ wsG := wsG_a2 196 rfl rfl
set_option maxRecDepth 100000 in
theorem k468 : (Cond.methodLink "PageSkeleton$Tidier" (51 : Nat) ({ cls := "PageSkeleton$Tidier", name := "joinAhead", desc := "(LPageSkeleton$Row;II)Z" } : MethodName)) ∈ wsG := wsG_a2 228 rfl rfl
set_option maxRecDepth 100000 in
theorem k470 : (Cond.instanceMethod ({ cls := "PageSkeleton$Tidier", name := "joinAhead", desc := "(LPageSkeleton$Row;II)Z" } : MethodName)) ∈ wsG := wsG_a2 230 rfl rfl
set_option maxRecDepth 100000 in
theorem k471 : (Cond.code ({ cls := "PageSkeleton$Tidier", name := "joinAhead", desc := "(LPageSkeleton$Row;II)Z" } : MethodName) prog_8_method_5_code (6 : Nat) (Option.some FieldType.boolean)) ∈ wsG := wsG_a2 231 rfl rfl
set_option maxRecDepth 100000 in
theorem k472 : (Cond.methodLink "PageSkeleton$Tidier" (54 : Nat) ({ cls := "PageSkeleton$Tidier", name := "joinBehind", desc := "(LPageSkeleton$Row;II)Z" } : MethodName)) ∈ wsG := wsG_a2 232 rfl rfl
set_option maxRecDepth 100000 in
theorem k474 : (Cond.instanceMethod ({ cls := "PageSkeleton$Tidier", name := "joinBehind", desc := "(LPageSkeleton$Row;II)Z" } : MethodName)) ∈ wsG := wsG_a2 234 rfl rfl
set_option maxRecDepth 100000 in
theorem k475 : (Cond.code ({ cls := "PageSkeleton$Tidier", name := "joinBehind", desc := "(LPageSkeleton$Row;II)Z" } : MethodName) prog_8_method_6_code (7 : Nat) (Option.some FieldType.boolean)) ∈ wsG := wsG_a2 235 rfl rfl
set_option maxRecDepth 100000 in
theorem k476 : (Cond.methodLink "PageSkeleton$Tidier" (57 : Nat) ({ cls := "PageSkeleton$Tidier", name := "foldOnce", desc := "(LPageSkeleton$Row;II)Z" } : MethodName)) ∈ wsG := wsG_a2 236 rfl rfl
set_option maxRecDepth 100000 in
theorem k477 : (Cond.instanceMethod ({ cls := "PageSkeleton$Tidier", name := "foldOnce", desc := "(LPageSkeleton$Row;II)Z" } : MethodName)) ∈ wsG := wsG_a2 237 rfl rfl
set_option maxRecDepth 100000 in
theorem k478 : (Cond.selects "PageSkeleton$Tidier" ({ cls := "PageSkeleton$Tidier", name := "foldOnce", desc := "(LPageSkeleton$Row;II)Z" } : MethodName) ({ cls := "PageSkeleton$Tidier", name := "foldOnce", desc := "(LPageSkeleton$Row;II)Z" } : MethodName)) ∈ wsG := wsG_a2 238 rfl rfl
set_option maxRecDepth 100000 in
theorem k479 : (Cond.code ({ cls := "PageSkeleton$Tidier", name := "foldOnce", desc := "(LPageSkeleton$Row;II)Z" } : MethodName) prog_8_method_8_code (8 : Nat) (Option.some FieldType.boolean)) ∈ wsG := wsG_a2 239 rfl rfl
set_option maxRecDepth 100000 in
theorem ks_yX6_joinTwins : Cond.selects RX6 yX6_joinTwins yX6_joinTwins ∈ wsG := wsG_p 2 rfl rfl
set_option maxRecDepth 100000 in
theorem ks_yX6_joinAhead : Cond.selects RX6 yX6_joinAhead yX6_joinAhead ∈ wsG := wsG_p 4 rfl rfl
set_option maxRecDepth 100000 in
theorem ks_yX6_joinBehind : Cond.selects RX6 yX6_joinBehind yX6_joinBehind ∈ wsG := wsG_p 5 rfl rfl
set_option maxRecDepth 100000 in
theorem ks_yX6_tidyRange : Cond.selects RX6 yX6_tidyRange yX6_tidyRange ∈ wsG := wsG_p 1 rfl rfl
theorem dX6_tidyAll_0 : decode cX6_tidyAll 0 = .ok (.iconst 0, 1) := by decide +kernel
theorem dX6_tidyAll_1 : decode cX6_tidyAll 1 = .ok (.istore_n 2, 1) := by decide +kernel
theorem dX6_tidyAll_2 : decode cX6_tidyAll 2 = .ok (.iconst 0, 1) := by decide +kernel
theorem dX6_tidyAll_3 : decode cX6_tidyAll 3 = .ok (.istore_n 3, 1) := by decide +kernel
theorem dX6_tidyAll_4 : decode cX6_tidyAll 4 = .ok (.iconst 0, 1) := by decide +kernel
theorem dX6_tidyAll_5 : decode cX6_tidyAll 5 = .ok (.istore 4, 2) := by decide +kernel
theorem dX6_tidyAll_7 : decode cX6_tidyAll 7 = .ok (.iload 4, 2) := by decide +kernel
theorem dX6_tidyAll_9 : decode cX6_tidyAll 9 = .ok (.ldc 31, 2) := by decide +kernel
theorem dX6_tidyAll_11 : decode cX6_tidyAll 11 = .ok (.if_icmp .ge 66, 3) := by decide +kernel
theorem dX6_tidyAll_14 : decode cX6_tidyAll 14 = .ok (.iload_n 3, 1) := by decide +kernel
theorem dX6_tidyAll_15 : decode cX6_tidyAll 15 = .ok (.aload_n 1, 1) := by decide +kernel
theorem dX6_tidyAll_16 : decode cX6_tidyAll 16 = .ok (.getfield 32, 3) := by decide +kernel
theorem dX6_tidyAll_19 : decode cX6_tidyAll 19 = .ok (.if_icmp .ge 58, 3) := by decide +kernel
theorem dX6_tidyAll_22 : decode cX6_tidyAll 22 = .ok (.aload_n 1, 1) := by decide +kernel
theorem dX6_tidyAll_23 : decode cX6_tidyAll 23 = .ok (.getfield 37, 3) := by decide +kernel
theorem dX6_tidyAll_26 : decode cX6_tidyAll 26 = .ok (.iload_n 3, 1) := by decide +kernel
theorem dX6_tidyAll_27 : decode cX6_tidyAll 27 = .ok (.iaload, 1) := by decide +kernel
theorem dX6_tidyAll_28 : decode cX6_tidyAll 28 = .ok (.sipush 515, 3) := by decide +kernel
theorem dX6_tidyAll_31 : decode cX6_tidyAll 31 = .ok (.if_icmp .ne 37, 3) := by decide +kernel
theorem dX6_tidyAll_34 : decode cX6_tidyAll 34 = .ok (.aload_n 1, 1) := by decide +kernel
theorem dX6_tidyAll_35 : decode cX6_tidyAll 35 = .ok (.getfield 40, 3) := by decide +kernel
theorem dX6_tidyAll_38 : decode cX6_tidyAll 38 = .ok (.iload_n 3, 1) := by decide +kernel
theorem dX6_tidyAll_39 : decode cX6_tidyAll 39 = .ok (.iaload, 1) := by decide +kernel
theorem dX6_tidyAll_40 : decode cX6_tidyAll 40 = .ok (.istore 5, 2) := by decide +kernel
theorem dX6_tidyAll_42 : decode cX6_tidyAll 42 = .ok (.iload_n 2, 1) := by decide +kernel
theorem dX6_tidyAll_43 : decode cX6_tidyAll 43 = .ok (.aload_n 0, 1) := by decide +kernel
theorem dX6_tidyAll_44 : decode cX6_tidyAll 44 = .ok (.aload_n 1, 1) := by decide +kernel
theorem dX6_tidyAll_45 : decode cX6_tidyAll 45 = .ok (.iload 5, 2) := by decide +kernel
theorem dX6_tidyAll_47 : decode cX6_tidyAll 47 = .ok (.iconst 1, 1) := by decide +kernel
theorem dX6_tidyAll_48 : decode cX6_tidyAll 48 = .ok (.iadd, 1) := by decide +kernel
theorem dX6_tidyAll_49 : decode cX6_tidyAll 49 = .ok (.iload_n 3, 1) := by decide +kernel
theorem dX6_tidyAll_50 : decode cX6_tidyAll 50 = .ok (.invokevirtual 43, 3) := by decide +kernel
theorem dX6_tidyAll_53 : decode cX6_tidyAll 53 = .ok (.iadd, 1) := by decide +kernel
theorem dX6_tidyAll_54 : decode cX6_tidyAll 54 = .ok (.istore_n 2, 1) := by decide +kernel
theorem dX6_tidyAll_55 : decode cX6_tidyAll 55 = .ok (.aload_n 1, 1) := by decide +kernel
theorem dX6_tidyAll_56 : decode cX6_tidyAll 56 = .ok (.getfield 40, 3) := by decide +kernel
theorem dX6_tidyAll_59 : decode cX6_tidyAll 59 = .ok (.iload 5, 2) := by decide +kernel
theorem dX6_tidyAll_61 : decode cX6_tidyAll 61 = .ok (.iaload, 1) := by decide +kernel
theorem dX6_tidyAll_62 : decode cX6_tidyAll 62 = .ok (.iconst 1, 1) := by decide +kernel
theorem dX6_tidyAll_63 : decode cX6_tidyAll 63 = .ok (.iadd, 1) := by decide +kernel
theorem dX6_tidyAll_64 : decode cX6_tidyAll 64 = .ok (.istore_n 3, 1) := by decide +kernel
theorem dX6_tidyAll_65 : decode cX6_tidyAll 65 = .ok (.goto 6, 3) := by decide +kernel
theorem dX6_tidyAll_68 : decode cX6_tidyAll 68 = .ok (.iinc 3 1, 3) := by decide +kernel
theorem dX6_tidyAll_71 : decode cX6_tidyAll 71 = .ok (.iinc 4 1, 3) := by decide +kernel
theorem dX6_tidyAll_74 : decode cX6_tidyAll 74 = .ok (.goto (-67), 3) := by decide +kernel
theorem dX6_tidyAll_77 : decode cX6_tidyAll 77 = .ok (.iload_n 2, 1) := by decide +kernel
theorem dX6_tidyAll_78 : decode cX6_tidyAll 78 = .ok (.aload_n 0, 1) := by decide +kernel
theorem dX6_tidyAll_79 : decode cX6_tidyAll 79 = .ok (.aload_n 1, 1) := by decide +kernel
theorem dX6_tidyAll_80 : decode cX6_tidyAll 80 = .ok (.iconst 0, 1) := by decide +kernel
theorem dX6_tidyAll_81 : decode cX6_tidyAll 81 = .ok (.aload_n 1, 1) := by decide +kernel
theorem dX6_tidyAll_82 : decode cX6_tidyAll 82 = .ok (.getfield 32, 3) := by decide +kernel
theorem dX6_tidyAll_85 : decode cX6_tidyAll 85 = .ok (.invokevirtual 43, 3) := by decide +kernel
theorem dX6_tidyAll_88 : decode cX6_tidyAll 88 = .ok (.iadd, 1) := by decide +kernel
theorem dX6_tidyAll_89 : decode cX6_tidyAll 89 = .ok (.ireturn, 1) := by decide +kernel
theorem dX6_tidyRange_0 : decode cX6_tidyRange 0 = .ok (.aload_n 1, 1) := by decide +kernel
theorem dX6_tidyRange_1 : decode cX6_tidyRange 1 = .ok (.getfield 32, 3) := by decide +kernel
theorem dX6_tidyRange_4 : decode cX6_tidyRange 4 = .ok (.iload_n 3, 1) := by decide +kernel
theorem dX6_tidyRange_5 : decode cX6_tidyRange 5 = .ok (.isub, 1) := by decide +kernel
theorem dX6_tidyRange_6 : decode cX6_tidyRange 6 = .ok (.istore 4, 2) := by decide +kernel
theorem dX6_tidyRange_8 : decode cX6_tidyRange 8 = .ok (.iconst 0, 1) := by decide +kernel
theorem dX6_tidyRange_9 : decode cX6_tidyRange 9 = .ok (.istore 5, 2) := by decide +kernel
theorem dX6_tidyRange_11 : decode cX6_tidyRange 11 = .ok (.iconst 1, 1) := by decide +kernel
theorem dX6_tidyRange_12 : decode cX6_tidyRange 12 = .ok (.istore 6, 2) := by decide +kernel
theorem dX6_tidyRange_14 : decode cX6_tidyRange 14 = .ok (.iconst 0, 1) := by decide +kernel
theorem dX6_tidyRange_15 : decode cX6_tidyRange 15 = .ok (.istore 7, 2) := by decide +kernel
theorem dX6_tidyRange_17 : decode cX6_tidyRange 17 = .ok (.iload 7, 2) := by decide +kernel
theorem dX6_tidyRange_19 : decode cX6_tidyRange 19 = .ok (.ldc 31, 2) := by decide +kernel
theorem dX6_tidyRange_21 : decode cX6_tidyRange 21 = .ok (.if_icmp .ge 89, 3) := by decide +kernel
theorem dX6_tidyRange_24 : decode cX6_tidyRange 24 = .ok (.iload 6, 2) := by decide +kernel
theorem dX6_tidyRange_26 : decode cX6_tidyRange 26 = .ok (.ifCond .eq 84, 3) := by decide +kernel
theorem dX6_tidyRange_29 : decode cX6_tidyRange 29 = .ok (.aload_n 1, 1) := by decide +kernel
theorem dX6_tidyRange_30 : decode cX6_tidyRange 30 = .ok (.getfield 32, 3) := by decide +kernel
theorem dX6_tidyRange_33 : decode cX6_tidyRange 33 = .ok (.iload 4, 2) := by decide +kernel
theorem dX6_tidyRange_35 : decode cX6_tidyRange 35 = .ok (.isub, 1) := by decide +kernel
theorem dX6_tidyRange_36 : decode cX6_tidyRange 36 = .ok (.istore 8, 2) := by decide +kernel
theorem dX6_tidyRange_38 : decode cX6_tidyRange 38 = .ok (.aload_n 0, 1) := by decide +kernel
theorem dX6_tidyRange_39 : decode cX6_tidyRange 39 = .ok (.aload_n 1, 1) := by decide +kernel
theorem dX6_tidyRange_40 : decode cX6_tidyRange 40 = .ok (.iload_n 2, 1) := by decide +kernel
theorem dX6_tidyRange_41 : decode cX6_tidyRange 41 = .ok (.iload 8, 2) := by decide +kernel
theorem dX6_tidyRange_43 : decode cX6_tidyRange 43 = .ok (.invokevirtual 47, 3) := by decide +kernel
theorem dX6_tidyRange_46 : decode cX6_tidyRange 46 = .ok (.ifCond .ne 36, 3) := by decide +kernel
theorem dX6_tidyRange_49 : decode cX6_tidyRange 49 = .ok (.aload_n 0, 1) := by decide +kernel
theorem dX6_tidyRange_50 : decode cX6_tidyRange 50 = .ok (.aload_n 1, 1) := by decide +kernel
theorem dX6_tidyRange_51 : decode cX6_tidyRange 51 = .ok (.iload_n 2, 1) := by decide +kernel
theorem dX6_tidyRange_52 : decode cX6_tidyRange 52 = .ok (.iload 8, 2) := by decide +kernel
theorem dX6_tidyRange_54 : decode cX6_tidyRange 54 = .ok (.invokevirtual 51, 3) := by decide +kernel
theorem dX6_tidyRange_57 : decode cX6_tidyRange 57 = .ok (.ifCond .ne 25, 3) := by decide +kernel
theorem dX6_tidyRange_60 : decode cX6_tidyRange 60 = .ok (.aload_n 0, 1) := by decide +kernel
theorem dX6_tidyRange_61 : decode cX6_tidyRange 61 = .ok (.aload_n 1, 1) := by decide +kernel
theorem dX6_tidyRange_62 : decode cX6_tidyRange 62 = .ok (.iload_n 2, 1) := by decide +kernel
theorem dX6_tidyRange_63 : decode cX6_tidyRange 63 = .ok (.iload 8, 2) := by decide +kernel
theorem dX6_tidyRange_65 : decode cX6_tidyRange 65 = .ok (.invokevirtual 54, 3) := by decide +kernel
theorem dX6_tidyRange_68 : decode cX6_tidyRange 68 = .ok (.ifCond .ne 14, 3) := by decide +kernel
theorem dX6_tidyRange_71 : decode cX6_tidyRange 71 = .ok (.aload_n 0, 1) := by decide +kernel
theorem dX6_tidyRange_72 : decode cX6_tidyRange 72 = .ok (.aload_n 1, 1) := by decide +kernel
theorem dX6_tidyRange_73 : decode cX6_tidyRange 73 = .ok (.iload_n 2, 1) := by decide +kernel
theorem dX6_tidyRange_74 : decode cX6_tidyRange 74 = .ok (.iload 8, 2) := by decide +kernel
theorem dX6_tidyRange_76 : decode cX6_tidyRange 76 = .ok (.invokevirtual 57, 3) := by decide +kernel
theorem dX6_tidyRange_79 : decode cX6_tidyRange 79 = .ok (.ifCond .eq 7, 3) := by decide +kernel
theorem dX6_tidyRange_82 : decode cX6_tidyRange 82 = .ok (.iconst 1, 1) := by decide +kernel
theorem dX6_tidyRange_83 : decode cX6_tidyRange 83 = .ok (.goto 4, 3) := by decide +kernel
theorem dX6_tidyRange_86 : decode cX6_tidyRange 86 = .ok (.iconst 0, 1) := by decide +kernel
theorem dX6_tidyRange_87 : decode cX6_tidyRange 87 = .ok (.istore 6, 2) := by decide +kernel
theorem dX6_tidyRange_89 : decode cX6_tidyRange 89 = .ok (.iload 5, 2) := by decide +kernel
theorem dX6_tidyRange_91 : decode cX6_tidyRange 91 = .ok (.iload 6, 2) := by decide +kernel
theorem dX6_tidyRange_93 : decode cX6_tidyRange 93 = .ok (.ifCond .eq 7, 3) := by decide +kernel
theorem dX6_tidyRange_96 : decode cX6_tidyRange 96 = .ok (.iconst 1, 1) := by decide +kernel
theorem dX6_tidyRange_97 : decode cX6_tidyRange 97 = .ok (.goto 4, 3) := by decide +kernel
theorem dX6_tidyRange_100 : decode cX6_tidyRange 100 = .ok (.iconst 0, 1) := by decide +kernel
theorem dX6_tidyRange_101 : decode cX6_tidyRange 101 = .ok (.iadd, 1) := by decide +kernel
theorem dX6_tidyRange_102 : decode cX6_tidyRange 102 = .ok (.istore 5, 2) := by decide +kernel
theorem dX6_tidyRange_104 : decode cX6_tidyRange 104 = .ok (.iinc 7 1, 3) := by decide +kernel
theorem dX6_tidyRange_107 : decode cX6_tidyRange 107 = .ok (.goto (-90), 3) := by decide +kernel
theorem dX6_tidyRange_110 : decode cX6_tidyRange 110 = .ok (.iload 5, 2) := by decide +kernel
theorem dX6_tidyRange_112 : decode cX6_tidyRange 112 = .ok (.ireturn, 1) := by decide +kernel
/-! the tidier: a stretch, a whole row -/
theorem rng_0 {μ : va_M} {q rm : Nat} (h : rG μ q rm) : rng μ q 0 0 := by
  refine ⟨by decide, fun _ => ?_⟩
  rw [Int.sub_zero]
  exact rG_seg h
/-- what is ahead of an end, back to its beginning -/
theorem rng_cl {μ : va_M} {q rm : Nat} {i : Int} (hq : rm = 1100 ∨ rm = 96) (h : rG μ q rm) (h0 : 0 ≤ i ∧ i < μ q 5) (hs : μ (q + 1) i.toNat = 515) : (0 ≤ μ (q + 2) i.toNat ∧ μ (q + 2) i.toNat < i) ∧ rng μ q (μ (q + 2) i.toNat + 1) (μ q 5 - i) := by
  have hl := rG_len h
  obtain ⟨m, m1, m2, m3, m4⟩ := (rG_at h (i := i.toNat) (by omega)).1.2.2 hs
  obtain ⟨x, x1, x2, x3, x4, x5, x6⟩ := (rG_at h (i := m) (by omega)).1.2.1 m3
  obtain rfl : x = i.toNat := by omega
  have d1 := Dp_s (μ (q + 1)) m
  have d2 := Dp_s (μ (q + 1)) i.toNat
  rw [dl_1 m3] at d1
  rw [hs, dl_m] at d2
  refine ⟨by omega, by omega, fun _ => ?_⟩
  rw [m1, show ((m : Int) + 1).toNat = m + 1 by omega, show (μ q 5 - (μ q 5 - i)).toNat = i.toNat by omega]
  exact ⟨by omega, by omega, fun j h8 h9 => by have := x5 j (by omega) h9; omega⟩

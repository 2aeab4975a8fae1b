theorem k96 : (Cond.fieldLink "PageSkeleton$Tidier" (32 : Nat) "PageSkeleton$Row" "length" "I") ∈ wsG := wsG_at 96 (by decide +kernel) (by decide +kernel)
theorem k428 : (Cond.constant "PageSkeleton$Tidier" (31 : Nat) (1000000 : Int32)) ∈ wsG := wsG_at 428 (by decide +kernel) (by decide +kernel)
theorem k429 : (Cond.methodLink "PageSkeleton$Tidier" (43 : Nat) ({ cls := "PageSkeleton$Tidier", name := "tidyRange", desc := "(LPageSkeleton$Row;II)I" } : MethodName)) ∈ wsG := wsG_at 429 (by decide +kernel) (by decide +kernel)
theorem k431 : (Cond.instanceMethod ({ cls := "PageSkeleton$Tidier", name := "tidyRange", desc := "(LPageSkeleton$Row;II)I" } : MethodName)) ∈ wsG := wsG_at 431 (by decide +kernel) (by decide +kernel)
theorem k432 : (Cond.code ({ cls := "PageSkeleton$Tidier", name := "tidyRange", desc := "(LPageSkeleton$Row;II)I" } : MethodName) prog_8_method_3_code (9 : Nat) (Option.some FieldType.int)) ∈ wsG := wsG_at 432 (by decide +kernel) (by decide +kernel)
theorem k433 : (Cond.methodLink "PageSkeleton$Tidier" (47 : Nat) ({ cls := "PageSkeleton$Tidier", name := "joinTwins", desc := "(LPageSkeleton$Row;II)Z" } : MethodName)) ∈ wsG := wsG_at 433 (by decide +kernel) (by decide +kernel)
theorem k435 : (Cond.instanceMethod ({ cls := "PageSkeleton$Tidier", name := "joinTwins", desc := "(LPageSkeleton$Row;II)Z" } : MethodName)) ∈ wsG := wsG_at 435 (by decide +kernel) (by decide +kernel)
theorem k436 : (Cond.code ({ cls := "PageSkeleton$Tidier", name := "joinTwins", desc := "(LPageSkeleton$Row;II)Z" } : MethodName) prog_8_method_4_code (7 : Nat) (Option.some FieldType.boolean)) ∈ wsG := wsG_at 436 (by decide +kernel) (by decide +kernel)
theorem k468 : (Cond.methodLink "PageSkeleton$Tidier" (51 : Nat) ({ cls := "PageSkeleton$Tidier", name := "joinAhead", desc := "(LPageSkeleton$Row;II)Z" } : MethodName)) ∈ wsG := wsG_at 468 (by decide +kernel) (by decide +kernel)
theorem k470 : (Cond.instanceMethod ({ cls := "PageSkeleton$Tidier", name := "joinAhead", desc := "(LPageSkeleton$Row;II)Z" } : MethodName)) ∈ wsG := wsG_at 470 (by decide +kernel) (by decide +kernel)
theorem k471 : (Cond.code ({ cls := "PageSkeleton$Tidier", name := "joinAhead", desc := "(LPageSkeleton$Row;II)Z" } : MethodName) prog_8_method_5_code (6 : Nat) (Option.some FieldType.boolean)) ∈ wsG := wsG_at 471 (by decide +kernel) (by decide +kernel)
theorem k472 : (Cond.methodLink "PageSkeleton$Tidier" (54 : Nat) ({ cls := "PageSkeleton$Tidier", name := "joinBehind", desc := "(LPageSkeleton$Row;II)Z" } : MethodName)) ∈ wsG := wsG_at 472 (by decide +kernel) (by decide +kernel)
theorem k474 : (Cond.instanceMethod ({ cls := "PageSkeleton$Tidier", name := "joinBehind", desc := "(LPageSkeleton$Row;II)Z" } : MethodName)) ∈ wsG := wsG_at 474 (by decide +kernel) (by decide +kernel)
theorem k475 : (Cond.code ({ cls := "PageSkeleton$Tidier", name := "joinBehind", desc := "(LPageSkeleton$Row;II)Z" } : MethodName) prog_8_method_6_code (7 : Nat) (Option.some FieldType.boolean)) ∈ wsG := wsG_at 475 (by decide +kernel) (by decide +kernel)
theorem k476 : (Cond.methodLink "PageSkeleton$Tidier" (57 : Nat) ({ cls := "PageSkeleton$Tidier", name := "foldOnce", desc := "(LPageSkeleton$Row;II)Z" } : MethodName)) ∈ wsG := wsG_at 476 (by decide +kernel) (by decide +kernel)
theorem k477 : (Cond.instanceMethod ({ cls := "PageSkeleton$Tidier", name := "foldOnce", desc := "(LPageSkeleton$Row;II)Z" } : MethodName)) ∈ wsG := wsG_at 477 (by decide +kernel) (by decide +kernel)
theorem k478 : (Cond.selects "PageSkeleton$Tidier" ({ cls := "PageSkeleton$Tidier", name := "foldOnce", desc := "(LPageSkeleton$Row;II)Z" } : MethodName) ({ cls := "PageSkeleton$Tidier", name := "foldOnce", desc := "(LPageSkeleton$Row;II)Z" } : MethodName)) ∈ wsG := wsG_at 478 (by decide +kernel) (by decide +kernel)
theorem k479 : (Cond.code ({ cls := "PageSkeleton$Tidier", name := "foldOnce", desc := "(LPageSkeleton$Row;II)Z" } : MethodName) prog_8_method_8_code (8 : Nat) (Option.some FieldType.boolean)) ∈ wsG := wsG_at 479 (by decide +kernel) (by decide +kernel)
theorem ks_yX6_joinTwins : Cond.selects RX6 yX6_joinTwins yX6_joinTwins ∈ wsG := wsG_mem (by decide +kernel) (by decide +kernel)
theorem ks_yX6_joinAhead : Cond.selects RX6 yX6_joinAhead yX6_joinAhead ∈ wsG := wsG_mem (by decide +kernel) (by decide +kernel)
theorem ks_yX6_joinBehind : Cond.selects RX6 yX6_joinBehind yX6_joinBehind ∈ wsG := wsG_mem (by decide +kernel) (by decide +kernel)
theorem ks_yX6_tidyRange : Cond.selects RX6 yX6_tidyRange yX6_tidyRange ∈ wsG := wsG_mem (by decide +kernel) (by decide +kernel)
theorem dX6_tidyAll_0 : decode cX6_tidyAll 0 = .ok (.iconst 0, 1) := by decide +kernel
theorem dX6_tidyAll_1 : decode cX6_tidyAll 1 = .ok (.istore_n 2, 1) := by decide +kernel
theorem dX6_tidyAll_2 : decode cX6_tidyAll 2 = .ok (.iconst 0, 1) := by decide +kernel
theorem dX6_tidyAll_3 : decode cX6_tidyAll 3 = .ok (.istore_n 3, 1) := by decide +kernel
theorem dX6_tidyAll_4 : decode cX6_tidyAll 4 = .ok (.iconst 0, 1) := by decide +kernel
theorem dX6_tidyAll_5 : decode cX6_tidyAll 5 = .ok (.istore 4, 2) := by decide +kernel
theorem dX6_tidyAll_7 : decode cX6_tidyAll 7 = .ok (.iload 4, 2) := by decide +kernel
theorem dX6_tidyAll_9 : decode cX6_tidyAll 9 = .ok (.ldc 31, 2) := by decide +kernel
theorem dX6_tidyAll_11 : decode cX6_tidyAll 11 = .ok (.if_icmp .ge 66, 3) := by decide +kernel
theorem dX6_tidyAll_14 : decode cX6_tidyAll 14 = .ok (.iload_n 3, 1) := by decide +kernel
theorem dX6_tidyAll_15 : decode cX6_tidyAll 15 = .ok (.aload_n 1, 1) := by decide +kernel
theorem dX6_tidyAll_16 : decode cX6_tidyAll 16 = .ok (.getfield 32, 3) := by decide +kernel
theorem dX6_tidyAll_19 : decode cX6_tidyAll 19 = .ok (.if_icmp .ge 58, 3) := by decide +kernel
theorem dX6_tidyAll_22 : decode cX6_tidyAll 22 = .ok (.aload_n 1, 1) := by decide +kernel
theorem dX6_tidyAll_23 : decode cX6_tidyAll 23 = .ok (.getfield 37, 3) := by decide +kernel
theorem dX6_tidyAll_26 : decode cX6_tidyAll 26 = .ok (.iload_n 3, 1) := by decide +kernel
theorem dX6_tidyAll_27 : decode cX6_tidyAll 27 = .ok (.iaload, 1) := by decide +kernel
theorem dX6_tidyAll_28 : decode cX6_tidyAll 28 = .ok (.sipush 515, 3) := by decide +kernel
theorem dX6_tidyAll_31 : decode cX6_tidyAll 31 = .ok (.if_icmp .ne 37, 3) := by decide +kernel
theorem dX6_tidyAll_34 : decode cX6_tidyAll 34 = .ok (.aload_n 1, 1) := by decide +kernel
theorem dX6_tidyAll_35 : decode cX6_tidyAll 35 = .ok (.getfield 40, 3) := by decide +kernel
theorem dX6_tidyAll_38 : decode cX6_tidyAll 38 = .ok (.iload_n 3, 1) := by decide +kernel
theorem dX6_tidyAll_39 : decode cX6_tidyAll 39 = .ok (.iaload, 1) := by decide +kernel
theorem dX6_tidyAll_40 : decode cX6_tidyAll 40 = .ok (.istore 5, 2) := by decide +kernel
theorem dX6_tidyAll_42 : decode cX6_tidyAll 42 = .ok (.iload_n 2, 1) := by decide +kernel
theorem dX6_tidyAll_43 : decode cX6_tidyAll 43 = .ok (.aload_n 0, 1) := by decide +kernel
theorem dX6_tidyAll_44 : decode cX6_tidyAll 44 = .ok (.aload_n 1, 1) := by decide +kernel
theorem dX6_tidyAll_45 : decode cX6_tidyAll 45 = .ok (.iload 5, 2) := by decide +kernel
theorem dX6_tidyAll_47 : decode cX6_tidyAll 47 = .ok (.iconst 1, 1) := by decide +kernel
theorem dX6_tidyAll_48 : decode cX6_tidyAll 48 = .ok (.iadd, 1) := by decide +kernel
theorem dX6_tidyAll_49 : decode cX6_tidyAll 49 = .ok (.iload_n 3, 1) := by decide +kernel
theorem dX6_tidyAll_50 : decode cX6_tidyAll 50 = .ok (.invokevirtual 43, 3) := by decide +kernel
theorem dX6_tidyAll_53 : decode cX6_tidyAll 53 = .ok (.iadd, 1) := by decide +kernel
theorem dX6_tidyAll_54 : decode cX6_tidyAll 54 = .ok (.istore_n 2, 1) := by decide +kernel
theorem dX6_tidyAll_55 : decode cX6_tidyAll 55 = .ok (.aload_n 1, 1) := by decide +kernel
theorem dX6_tidyAll_56 : decode cX6_tidyAll 56 = .ok (.getfield 40, 3) := by decide +kernel
theorem dX6_tidyAll_59 : decode cX6_tidyAll 59 = .ok (.iload 5, 2) := by decide +kernel
theorem dX6_tidyAll_61 : decode cX6_tidyAll 61 = .ok (.iaload, 1) := by decide +kernel
theorem dX6_tidyAll_62 : decode cX6_tidyAll 62 = .ok (.iconst 1, 1) := by decide +kernel
theorem dX6_tidyAll_63 : decode cX6_tidyAll 63 = .ok (.iadd, 1) := by decide +kernel
theorem dX6_tidyAll_64 : decode cX6_tidyAll 64 = .ok (.istore_n 3, 1) := by decide +kernel
theorem dX6_tidyAll_65 : decode cX6_tidyAll 65 = .ok (.goto 6, 3) := by decide +kernel
theorem dX6_tidyAll_68 : decode cX6_tidyAll 68 = .ok (.iinc 3 1, 3) := by decide +kernel
theorem dX6_tidyAll_71 : decode cX6_tidyAll 71 = .ok (.iinc 4 1, 3) := by decide +kernel
theorem dX6_tidyAll_74 : decode cX6_tidyAll 74 = .ok (.goto (-67), 3) := by decide +kernel
theorem dX6_tidyAll_77 : decode cX6_tidyAll 77 = .ok (.iload_n 2, 1) := by decide +kernel
theorem dX6_tidyAll_78 : decode cX6_tidyAll 78 = .ok (.aload_n 0, 1) := by decide +kernel
theorem dX6_tidyAll_79 : decode cX6_tidyAll 79 = .ok (.aload_n 1, 1) := by decide +kernel
theorem dX6_tidyAll_80 : decode cX6_tidyAll 80 = .ok (.iconst 0, 1) := by decide +kernel
theorem dX6_tidyAll_81 : decode cX6_tidyAll 81 = .ok (.aload_n 1, 1) := by decide +kernel
theorem dX6_tidyAll_82 : decode cX6_tidyAll 82 = .ok (.getfield 32, 3) := by decide +kernel
theorem dX6_tidyAll_85 : decode cX6_tidyAll 85 = .ok (.invokevirtual 43, 3) := by decide +kernel
theorem dX6_tidyAll_88 : decode cX6_tidyAll 88 = .ok (.iadd, 1) := by decide +kernel
theorem dX6_tidyAll_89 : decode cX6_tidyAll 89 = .ok (.ireturn, 1) := by decide +kernel
theorem dX6_tidyRange_0 : decode cX6_tidyRange 0 = .ok (.aload_n 1, 1) := by decide +kernel
theorem dX6_tidyRange_1 : decode cX6_tidyRange 1 = .ok (.getfield 32, 3) := by decide +kernel
theorem dX6_tidyRange_4 : decode cX6_tidyRange 4 = .ok (.iload_n 3, 1) := by decide +kernel
theorem dX6_tidyRange_5 : decode cX6_tidyRange 5 = .ok (.isub, 1) := by decide +kernel
theorem dX6_tidyRange_6 : decode cX6_tidyRange 6 = .ok (.istore 4, 2) := by decide +kernel
theorem dX6_tidyRange_8 : decode cX6_tidyRange 8 = .ok (.iconst 0, 1) := by decide +kernel
theorem dX6_tidyRange_9 : decode cX6_tidyRange 9 = .ok (.istore 5, 2) := by decide +kernel
theorem dX6_tidyRange_11 : decode cX6_tidyRange 11 = .ok (.iconst 1, 1) := by decide +kernel
theorem dX6_tidyRange_12 : decode cX6_tidyRange 12 = .ok (.istore 6, 2) := by decide +kernel
theorem dX6_tidyRange_14 : decode cX6_tidyRange 14 = .ok (.iconst 0, 1) := by decide +kernel
theorem dX6_tidyRange_15 : decode cX6_tidyRange 15 = .ok (.istore 7, 2) := by decide +kernel
theorem dX6_tidyRange_17 : decode cX6_tidyRange 17 = .ok (.iload 7, 2) := by decide +kernel
theorem dX6_tidyRange_19 : decode cX6_tidyRange 19 = .ok (.ldc 31, 2) := by decide +kernel
theorem dX6_tidyRange_21 : decode cX6_tidyRange 21 = .ok (.if_icmp .ge 89, 3) := by decide +kernel
theorem dX6_tidyRange_24 : decode cX6_tidyRange 24 = .ok (.iload 6, 2) := by decide +kernel
theorem dX6_tidyRange_26 : decode cX6_tidyRange 26 = .ok (.ifCond .eq 84, 3) := by decide +kernel
theorem dX6_tidyRange_29 : decode cX6_tidyRange 29 = .ok (.aload_n 1, 1) := by decide +kernel
theorem dX6_tidyRange_30 : decode cX6_tidyRange 30 = .ok (.getfield 32, 3) := by decide +kernel
theorem dX6_tidyRange_33 : decode cX6_tidyRange 33 = .ok (.iload 4, 2) := by decide +kernel
theorem dX6_tidyRange_35 : decode cX6_tidyRange 35 = .ok (.isub, 1) := by decide +kernel
theorem dX6_tidyRange_36 : decode cX6_tidyRange 36 = .ok (.istore 8, 2) := by decide +kernel
theorem dX6_tidyRange_38 : decode cX6_tidyRange 38 = .ok (.aload_n 0, 1) := by decide +kernel
theorem dX6_tidyRange_39 : decode cX6_tidyRange 39 = .ok (.aload_n 1, 1) := by decide +kernel
theorem dX6_tidyRange_40 : decode cX6_tidyRange 40 = .ok (.iload_n 2, 1) := by decide +kernel
theorem dX6_tidyRange_41 : decode cX6_tidyRange 41 = .ok (.iload 8, 2) := by decide +kernel
theorem dX6_tidyRange_43 : decode cX6_tidyRange 43 = .ok (.invokevirtual 47, 3) := by decide +kernel
theorem dX6_tidyRange_46 : decode cX6_tidyRange 46 = .ok (.ifCond .ne 36, 3) := by decide +kernel
theorem dX6_tidyRange_49 : decode cX6_tidyRange 49 = .ok (.aload_n 0, 1) := by decide +kernel
theorem dX6_tidyRange_50 : decode cX6_tidyRange 50 = .ok (.aload_n 1, 1) := by decide +kernel
theorem dX6_tidyRange_51 : decode cX6_tidyRange 51 = .ok (.iload_n 2, 1) := by decide +kernel
theorem dX6_tidyRange_52 : decode cX6_tidyRange 52 = .ok (.iload 8, 2) := by decide +kernel
theorem dX6_tidyRange_54 : decode cX6_tidyRange 54 = .ok (.invokevirtual 51, 3) := by decide +kernel
theorem dX6_tidyRange_57 : decode cX6_tidyRange 57 = .ok (.ifCond .ne 25, 3) := by decide +kernel
theorem dX6_tidyRange_60 : decode cX6_tidyRange 60 = .ok (.aload_n 0, 1) := by decide +kernel
theorem dX6_tidyRange_61 : decode cX6_tidyRange 61 = .ok (.aload_n 1, 1) := by decide +kernel
theorem dX6_tidyRange_62 : decode cX6_tidyRange 62 = .ok (.iload_n 2, 1) := by decide +kernel
theorem dX6_tidyRange_63 : decode cX6_tidyRange 63 = .ok (.iload 8, 2) := by decide +kernel
theorem dX6_tidyRange_65 : decode cX6_tidyRange 65 = .ok (.invokevirtual 54, 3) := by decide +kernel
theorem dX6_tidyRange_68 : decode cX6_tidyRange 68 = .ok (.ifCond .ne 14, 3) := by decide +kernel
theorem dX6_tidyRange_71 : decode cX6_tidyRange 71 = .ok (.aload_n 0, 1) := by decide +kernel
theorem dX6_tidyRange_72 : decode cX6_tidyRange 72 = .ok (.aload_n 1, 1) := by decide +kernel
theorem dX6_tidyRange_73 : decode cX6_tidyRange 73 = .ok (.iload_n 2, 1) := by decide +kernel
theorem dX6_tidyRange_74 : decode cX6_tidyRange 74 = .ok (.iload 8, 2) := by decide +kernel
theorem dX6_tidyRange_76 : decode cX6_tidyRange 76 = .ok (.invokevirtual 57, 3) := by decide +kernel
theorem dX6_tidyRange_79 : decode cX6_tidyRange 79 = .ok (.ifCond .eq 7, 3) := by decide +kernel
theorem dX6_tidyRange_82 : decode cX6_tidyRange 82 = .ok (.iconst 1, 1) := by decide +kernel
theorem dX6_tidyRange_83 : decode cX6_tidyRange 83 = .ok (.goto 4, 3) := by decide +kernel
theorem dX6_tidyRange_86 : decode cX6_tidyRange 86 = .ok (.iconst 0, 1) := by decide +kernel
theorem dX6_tidyRange_87 : decode cX6_tidyRange 87 = .ok (.istore 6, 2) := by decide +kernel
theorem dX6_tidyRange_89 : decode cX6_tidyRange 89 = .ok (.iload 5, 2) := by decide +kernel
theorem dX6_tidyRange_91 : decode cX6_tidyRange 91 = .ok (.iload 6, 2) := by decide +kernel
theorem dX6_tidyRange_93 : decode cX6_tidyRange 93 = .ok (.ifCond .eq 7, 3) := by decide +kernel
theorem dX6_tidyRange_96 : decode cX6_tidyRange 96 = .ok (.iconst 1, 1) := by decide +kernel
theorem dX6_tidyRange_97 : decode cX6_tidyRange 97 = .ok (.goto 4, 3) := by decide +kernel
theorem dX6_tidyRange_100 : decode cX6_tidyRange 100 = .ok (.iconst 0, 1) := by decide +kernel
theorem dX6_tidyRange_101 : decode cX6_tidyRange 101 = .ok (.iadd, 1) := by decide +kernel
theorem dX6_tidyRange_102 : decode cX6_tidyRange 102 = .ok (.istore 5, 2) := by decide +kernel
theorem dX6_tidyRange_104 : decode cX6_tidyRange 104 = .ok (.iinc 7 1, 3) := by decide +kernel
theorem dX6_tidyRange_107 : decode cX6_tidyRange 107 = .ok (.goto (-90), 3) := by decide +kernel
theorem dX6_tidyRange_110 : decode cX6_tidyRange 110 = .ok (.iload 5, 2) := by decide +kernel
theorem dX6_tidyRange_112 : decode cX6_tidyRange 112 = .ok (.ireturn, 1) := by decide +kernel
/-! the tidier: a stretch, a whole row -/
theorem rng_0 {μ : va_M} {q rm : Nat} (h : rG μ q rm) : rng μ q 0 0 := by
  refine ⟨by decide, fun _ => ?_⟩
  rw [Int.sub_zero]
  exact rG_seg h
/-- what is ahead of an end, back to its beginning -/
theorem rng_cl {μ : va_M} {q rm : Nat} {i : Int} (hq : rm = 1100 ∨ rm = 96) (h : rG μ q rm) (h0 : 0 ≤ i ∧ i < μ q 5) (hs : μ (q + 1) i.toNat = 515) : (0 ≤ μ (q + 2) i.toNat ∧ μ (q + 2) i.toNat < i) ∧ rng μ q (μ (q + 2) i.toNat + 1) (μ q 5 - i) := by
  have hl := rG_len h
  obtain ⟨m, m1, m2, m3, m4⟩ := (rG_at h (i := i.toNat) (by omega)).1.2.2 hs
  obtain ⟨x, x1, x2, x3, x4, x5, x6⟩ := (rG_at h (i := m) (by omega)).1.2.1 m3
  obtain rfl : x = i.toNat := by omega
  have d1 := Dp_s (μ (q + 1)) m
  have d2 := Dp_s (μ (q + 1)) i.toNat
  rw [dl_1 m3] at d1
  rw [hs, dl_m] at d2
  refine ⟨by omega, by omega, fun _ => ?_⟩
  rw [m1, show ((m : Int) + 1).toNat = m + 1 by omega, show (μ q 5 - (μ q 5 - i)).toNat = i.toNat by omega]
  exact ⟨by omega, by omega, fun j h8 h9 => by have := x5 j (by omega) h9; omega⟩
set_option maxHeartbeats 4000000 in
set_option maxRecDepth 100000 in
theorem LX6_tidyRange_17 {p : Program} {l : Launch} {e : Env} {R : Room} {s : State} {m : MethodId} {args : Array Value} {below : List Frame} {meth : Method} {c : Code} {cells slots : Nat} {Q : State → Prop} {dC : Nat → ClassId} {dI : Nat → Nat → Nat} {h0 : Nat} {cI cZ cII cIII : ClassId} (hx : p.tables.exec = Jvm.exec) (hb : c.code = cX6_tidyRange) (hml : c.maxLocals = 9) (hown : s.vm.findClass RX6 = some m.cls) (hts : ∀ w ∈ wsG, w.before args s = true) (hK : va_K (dC, dI) vwCl (sT cI cZ cII cIII) s) (hM : xM s) (hRf : 5 ≤ R.frames) (hRl : 124 ≤ R.locals) (hRc : cells ≤ R.cells) (hRs : slots ≤ R.slots) (μ0 : va_M) (q : Nat) (rm : Nat) (p1 : Int) (p2 : Int) (bh : Int) (hq : rowB q rm) (hqt : q + 6 ≤ 38 ∨ 41 ≤ q) (hexit110 : ∀ (tu : Int) (dn : Int) (mo : Int) (μ : va_M) (H : Heap) (locs : List Loc) (ls : Array Slot), (fr (LTq q) μ0 μ) → (rG μ q rm) → va_P (dC, dI) vwCl (fw (sE cI cZ cII cIII h0) h0 233 μ) H → va_S (fA h0 233 s.heap.size) s.heap H locs → lv_has ls 9 [(5, .int (iZ (dn)))] → W p l e R s m args below meth c H locs cells slots Q (F0 m 110 ls [])) :
    ∀ (n9 : Nat) (tu : Int) (dn : Int) (mo : Int) (μ : va_M) (H : Heap) (locs : List Loc) (ls : Array Slot), (0 ≤ tu ∧ tu ≤ 1000000 ∧ 0 ≤ mo ∧ mo ≤ 1) → (fr (LTq q) μ0 μ) → (rG μ q rm) → (rng μ q p1 bh) → (1000000 - tu).toNat < n9 → va_P (dC, dI) vwCl (fw (sE cI cZ cII cIII h0) h0 233 μ) H → va_S (fA h0 233 s.heap.size) s.heap H locs → lv_has ls 9 [(7, .int (iZ (tu))), (6, .int (iZ (mo))), (5, .int (iZ (dn))), (4, .int (iZ (bh))), (2, .int (iZ (p1))), (1, .ref (h0 + q)), (0, .ref (h0 + 38))] → W p l e R s m args below meth c H locs cells slots Q (F0 m 17 ls []) := by
  intro n9
  induction n9 with
  | zero => intro tu dn mo μ H locs ls ht hf hG hrg hm9 hP hS hl; exact absurd hm9 (Nat.not_lt_zero _)
  | succ n9 ih =>
    intro tu dn mo μ H locs ls ht hf hG hrg hm9 hP hS hl
    have hrm := rG_rm hq hG
    have hqb := rowB_b hq
    have hr1 := hrg.1
    refine lv_iload hx hb dX6_tidyRange_17 (lv_at hl 0 rfl) ?_
    refine lv_ldc (v := iZ 1000000) hx hb hown (hts _ k428) dX6_tidyRange_19 ?_
    refine fz_icmp_ge (tgt := 110) (by constructor <;> omega) (by decide) hx hb dX6_tidyRange_21 (by decide) (fun c21_ => ?_) (fun c21_ => ?_)
    · exact hexit110 (tu) (dn) (mo) μ H locs ls (by exact hf) (by exact hG) hP hS (lv_sub hl [2] rfl)
    · refine lv_iload hx hb dX6_tidyRange_24 (lv_at hl 1 rfl) ?_
      refine fz_if_eq (tgt := 110) (by constructor <;> omega) hx hb dX6_tidyRange_26 (by decide) (fun c26_ => ?_) (fun c26_ => ?_)
      · exact hexit110 (tu) (dn) (mo) μ H locs ls (by exact hf) (by exact hG) hP hS (lv_sub hl [2] rfl)
      · refine lv_aload_n hx hb dX6_tidyRange_29 rfl (lv_at hl 5 rfl) ?_
        refine fz_get (D := (dC, dI)) (ci := 4) (v := .int (iZ (μ q 5))) (C := RX4) (T := TX4) (N := 8) hx hb hts inG4 hown hK hP (k := q) (by omega) (F := (sRF h0 q)) (sE_rowO hq) rfl 5 (by decide) (hts _ k96) (fun _ h9 => h9) rfl dX6_tidyRange_30 ?_
        refine lv_iload hx hb dX6_tidyRange_33 (lv_at hl 3 rfl) ?_
        refine lv_isub hx hb dX6_tidyRange_35 ?_
        refine lv_topi (fun x9 ex9 => ?_)
        obtain rfl : x9 = iZ ((μ q 5) - bh) := ex9.trans (iZ_sub _ _)
        refine lv_istore (lv' := [(8, .int (iZ ((μ q 5) - bh))), (7, .int (iZ (tu))), (6, .int (iZ (mo))), (5, .int (iZ (dn))), (4, .int (iZ (bh))), (2, .int (iZ (p1))), (1, .ref (h0 + q)), (0, .ref (h0 + 38))]) hx hb dX6_tidyRange_36 hl (by decide) rfl (fun ls hl => ?_)
        refine lv_aload_n hx hb dX6_tidyRange_38 rfl (lv_at hl 7 rfl) ?_
        refine lv_aload_n hx hb dX6_tidyRange_39 rfl (lv_at hl 6 rfl) ?_
        refine lv_iload_n hx hb dX6_tidyRange_40 rfl (lv_at hl 5 rfl) ?_
        refine lv_iload hx hb dX6_tidyRange_41 (lv_at hl 0 rfl) ?_
        refine va_calli (va_runV (As := [.ref (h0 + q), .int (iZ (p1)), .int (iZ ((μ q 5) - bh))]) (rest := []) ⟨hx, hb, hml, hown, hts⟩ (s_TjoinTwins l dC dI cI cZ cII cIII h0 H.size μ (q) (rm) (p1) ((μ q 5) - bh) (bh) (hq) (by exact hG) (by exact hrg) (by omega)) (cwV 3 hts (gV_G k433 k435 ks_yX6_joinTwins k6 k436) rfl rfl rfl (by decide +kernel) ⟨by show 4 + 1 ≤ _; omega, by show 8 + (7 + 11) + (94) ≤ _; omega⟩) ⟨fun a U g mk q => by obtain ⟨q0, q1, qP, qK, qM⟩ := q; exact ⟨q0, q1, qP, va_K.moved (u := U) (U := U.calling g mk a) (Vm.Alike.refl U.vm) qK, qM⟩, va_recv hK hP (ci := 6) (q0 := 38) rfl ((fw_get (by decide)).trans (by rw [sE_38])), fun U hU hW => ⟨rfl, by rw [hU], by rw [hU]; exact hP, va_K.moved hW.alike hK, xM_warm hW hM⟩⟩ rfl rfl hl.1 rfl (lv_room (Nat.le_of_ble_eq_true rfl)) dX6_tidyRange_43 ⟨hRc, hRs⟩) hS (fun q _ h => fA_le hS.1 q h) (fA_le hS.1) (fun r9 u9 t9 H1 locs ht9 hvm9 hw9 hB9 hz9 hk9 hS => ?_)
        obtain ⟨μ1c, r1c⟩ := u9
        obtain ⟨hP, -⟩ := hB9
        rw [ht9] at hP
        generalize H1 = H at hP hS ⊢
        obtain ⟨e9, hw9⟩ := hw9
        have e9 : r9 = iZ r1c := e9
        subst e9
        simp only at hP hw9
        have hμ1c := hw9; clear hw9
        obtain ⟨a1_, b1_, c1_, d1_, e1_⟩ := hμ1c
        refine fz_if_ne (tgt := 82) (by constructor <;> omega) hx hb dX6_tidyRange_46 (by decide) (fun c46_ => ?_) (fun c46_ => ?_)
        · refine lv_iconst (v := iZ 1) hx hb dX6_tidyRange_82 rfl ?_
          refine lv_goto (tgt := 87) hx hb dX6_tidyRange_83 (by decide) ?_
          refine lv_istore (lv' := [(6, .int (iZ (1))), (8, .int (iZ ((μ q 5) - bh))), (7, .int (iZ (tu))), (5, .int (iZ (dn))), (4, .int (iZ (bh))), (2, .int (iZ (p1))), (1, .ref (h0 + q)), (0, .ref (h0 + 38))]) hx hb dX6_tidyRange_87 hl (by decide) rfl (fun ls hl => ?_)
          refine lv_iload hx hb dX6_tidyRange_89 (lv_at hl 3 rfl) ?_
          refine lv_iload hx hb dX6_tidyRange_91 (lv_at hl 0 rfl) ?_
          refine fz_if_eq (tgt := 100) (by decide) hx hb dX6_tidyRange_93 (by decide) (fun h9 => absurd h9 (by decide)) (fun c93_ => ?_)
          refine lv_iconst (v := iZ 1) hx hb dX6_tidyRange_96 rfl ?_
          refine lv_goto (tgt := 101) hx hb dX6_tidyRange_97 (by decide) ?_
          refine lv_iadd hx hb dX6_tidyRange_101 ?_
          refine lv_topi (fun x9 ex9 => ?_)
          obtain rfl : x9 = iZ (dn + 1) := ex9.trans (iZ_add _ _)
          refine lv_istore (lv' := [(5, .int (iZ (dn + 1))), (6, .int (iZ (1))), (8, .int (iZ ((μ q 5) - bh))), (7, .int (iZ (tu))), (4, .int (iZ (bh))), (2, .int (iZ (p1))), (1, .ref (h0 + q)), (0, .ref (h0 + 38))]) hx hb dX6_tidyRange_102 hl (by decide) rfl (fun ls hl => ?_)
          refine lv_iinc (v := iZ (tu + 1)) (lv' := [(7, .int (iZ (tu + 1))), (5, .int (iZ (dn + 1))), (6, .int (iZ (1))), (8, .int (iZ ((μ q 5) - bh))), (4, .int (iZ (bh))), (2, .int (iZ (p1))), (1, .ref (h0 + q)), (0, .ref (h0 + 38))]) hx hb dX6_tidyRange_104 hl (k := 3) rfl (iZ_add _ _) (by decide) rfl (fun ls hl => ?_)
          refine lv_goto (tgt := 17) hx hb dX6_tidyRange_107 (by decide) ?_
          exact ih (tu + 1) (dn + 1) (1) μ1c H locs ls (by omega) (by exact fr_trans hf b1_) (by exact c1_) (by exact d1_) (by omega) hP hS (lv_sub hl [0, 2, 1, 4, 5, 6, 7] rfl)
        · refine lv_aload_n hx hb dX6_tidyRange_49 rfl (lv_at hl 7 rfl) ?_
          refine lv_aload_n hx hb dX6_tidyRange_50 rfl (lv_at hl 6 rfl) ?_
          refine lv_iload_n hx hb dX6_tidyRange_51 rfl (lv_at hl 5 rfl) ?_
          refine lv_iload hx hb dX6_tidyRange_52 (lv_at hl 0 rfl) ?_
          refine va_calli (va_runV (As := [.ref (h0 + q), .int (iZ (p1)), .int (iZ ((μ q 5) - bh))]) (rest := []) ⟨hx, hb, hml, hown, hts⟩ (s_TjoinAhead l dC dI cI cZ cII cIII h0 H.size μ1c (q) (rm) (p1) ((μ q 5) - bh) (bh) (hq) (by exact c1_) (by exact d1_) (by
                            have w1 := e1_ (by omega)
                            omega)) (cwV 3 hts (gV_G k468 k470 ks_yX6_joinAhead k6 k471) rfl rfl rfl (by decide +kernel) ⟨by show 4 + 1 ≤ _; omega, by show 8 + (6 + 11) + (94) ≤ _; omega⟩) ⟨fun a U g mk q => by obtain ⟨q0, q1, qP, qK, qM⟩ := q; exact ⟨q0, q1, qP, va_K.moved (u := U) (U := U.calling g mk a) (Vm.Alike.refl U.vm) qK, qM⟩, va_recv hK hP (ci := 6) (q0 := 38) rfl ((fw_get (by decide)).trans (by rw [sE_38])), fun U hU hW => ⟨rfl, by rw [hU], by rw [hU]; exact hP, va_K.moved hW.alike hK, xM_warm hW hM⟩⟩ rfl rfl hl.1 rfl (lv_room (Nat.le_of_ble_eq_true rfl)) dX6_tidyRange_54 ⟨hRc, hRs⟩) hS (fun q _ h => fA_le hS.1 q h) (fA_le hS.1) (fun r9 u9 t9 H1 locs ht9 hvm9 hw9 hB9 hz9 hk9 hS => ?_)
          obtain ⟨μ2c, r2c⟩ := u9
          obtain ⟨hP, -⟩ := hB9
          rw [ht9] at hP
          generalize H1 = H at hP hS ⊢
          obtain ⟨e9, hw9⟩ := hw9
          have e9 : r9 = iZ r2c := e9
          subst e9
          simp only at hP hw9
          have hμ2c := hw9; clear hw9
          obtain ⟨a2_, b2_, c2_, d2_, e2_⟩ := hμ2c
          refine fz_if_ne (tgt := 82) (by constructor <;> omega) hx hb dX6_tidyRange_57 (by decide) (fun c57_ => ?_) (fun c57_ => ?_)
          · refine lv_iconst (v := iZ 1) hx hb dX6_tidyRange_82 rfl ?_
            refine lv_goto (tgt := 87) hx hb dX6_tidyRange_83 (by decide) ?_
            refine lv_istore (lv' := [(6, .int (iZ (1))), (8, .int (iZ ((μ q 5) - bh))), (7, .int (iZ (tu))), (5, .int (iZ (dn))), (4, .int (iZ (bh))), (2, .int (iZ (p1))), (1, .ref (h0 + q)), (0, .ref (h0 + 38))]) hx hb dX6_tidyRange_87 hl (by decide) rfl (fun ls hl => ?_)
            refine lv_iload hx hb dX6_tidyRange_89 (lv_at hl 3 rfl) ?_
            refine lv_iload hx hb dX6_tidyRange_91 (lv_at hl 0 rfl) ?_
            refine fz_if_eq (tgt := 100) (by decide) hx hb dX6_tidyRange_93 (by decide) (fun h9 => absurd h9 (by decide)) (fun c93_ => ?_)
            refine lv_iconst (v := iZ 1) hx hb dX6_tidyRange_96 rfl ?_
            refine lv_goto (tgt := 101) hx hb dX6_tidyRange_97 (by decide) ?_
            refine lv_iadd hx hb dX6_tidyRange_101 ?_
            refine lv_topi (fun x9 ex9 => ?_)
            obtain rfl : x9 = iZ (dn + 1) := ex9.trans (iZ_add _ _)
            refine lv_istore (lv' := [(5, .int (iZ (dn + 1))), (6, .int (iZ (1))), (8, .int (iZ ((μ q 5) - bh))), (7, .int (iZ (tu))), (4, .int (iZ (bh))), (2, .int (iZ (p1))), (1, .ref (h0 + q)), (0, .ref (h0 + 38))]) hx hb dX6_tidyRange_102 hl (by decide) rfl (fun ls hl => ?_)
            refine lv_iinc (v := iZ (tu + 1)) (lv' := [(7, .int (iZ (tu + 1))), (5, .int (iZ (dn + 1))), (6, .int (iZ (1))), (8, .int (iZ ((μ q 5) - bh))), (4, .int (iZ (bh))), (2, .int (iZ (p1))), (1, .ref (h0 + q)), (0, .ref (h0 + 38))]) hx hb dX6_tidyRange_104 hl (k := 3) rfl (iZ_add _ _) (by decide) rfl (fun ls hl => ?_)
            refine lv_goto (tgt := 17) hx hb dX6_tidyRange_107 (by decide) ?_
            exact ih (tu + 1) (dn + 1) (1) μ2c H locs ls (by omega) (by exact fr_trans hf (fr_trans b1_ b2_)) (by exact c2_) (by exact d2_) (by omega) hP hS (lv_sub hl [0, 2, 1, 4, 5, 6, 7] rfl)
          · refine lv_aload_n hx hb dX6_tidyRange_60 rfl (lv_at hl 7 rfl) ?_
            refine lv_aload_n hx hb dX6_tidyRange_61 rfl (lv_at hl 6 rfl) ?_
            refine lv_iload_n hx hb dX6_tidyRange_62 rfl (lv_at hl 5 rfl) ?_
            refine lv_iload hx hb dX6_tidyRange_63 (lv_at hl 0 rfl) ?_
            refine va_calli (va_runV (As := [.ref (h0 + q), .int (iZ (p1)), .int (iZ ((μ q 5) - bh))]) (rest := []) ⟨hx, hb, hml, hown, hts⟩ (s_TjoinBehind l dC dI cI cZ cII cIII h0 H.size μ2c (q) (rm) (p1) ((μ q 5) - bh) (bh) (hq) (by exact c2_) (by exact d2_) (by
                                have w1 := e1_ (by omega)
                                have w2 := e2_ (by omega)
                                omega)) (cwV 3 hts (gV_G k472 k474 ks_yX6_joinBehind k6 k475) rfl rfl rfl (by decide +kernel) ⟨by show 4 + 1 ≤ _; omega, by show 8 + (7 + 11) + (94) ≤ _; omega⟩) ⟨fun a U g mk q => by obtain ⟨q0, q1, qP, qK, qM⟩ := q; exact ⟨q0, q1, qP, va_K.moved (u := U) (U := U.calling g mk a) (Vm.Alike.refl U.vm) qK, qM⟩, va_recv hK hP (ci := 6) (q0 := 38) rfl ((fw_get (by decide)).trans (by rw [sE_38])), fun U hU hW => ⟨rfl, by rw [hU], by rw [hU]; exact hP, va_K.moved hW.alike hK, xM_warm hW hM⟩⟩ rfl rfl hl.1 rfl (lv_room (Nat.le_of_ble_eq_true rfl)) dX6_tidyRange_65 ⟨hRc, hRs⟩) hS (fun q _ h => fA_le hS.1 q h) (fA_le hS.1) (fun r9 u9 t9 H1 locs ht9 hvm9 hw9 hB9 hz9 hk9 hS => ?_)
            obtain ⟨μ3c, r3c⟩ := u9
            obtain ⟨hP, -⟩ := hB9
            rw [ht9] at hP
            generalize H1 = H at hP hS ⊢
            obtain ⟨e9, hw9⟩ := hw9
            have e9 : r9 = iZ r3c := e9
            subst e9
            simp only at hP hw9
            have hμ3c := hw9; clear hw9
            obtain ⟨a3_, b3_, c3_, d3_, e3_⟩ := hμ3c
            refine fz_if_ne (tgt := 82) (by constructor <;> omega) hx hb dX6_tidyRange_68 (by decide) (fun c68_ => ?_) (fun c68_ => ?_)
            · refine lv_iconst (v := iZ 1) hx hb dX6_tidyRange_82 rfl ?_
              refine lv_goto (tgt := 87) hx hb dX6_tidyRange_83 (by decide) ?_
              refine lv_istore (lv' := [(6, .int (iZ (1))), (8, .int (iZ ((μ q 5) - bh))), (7, .int (iZ (tu))), (5, .int (iZ (dn))), (4, .int (iZ (bh))), (2, .int (iZ (p1))), (1, .ref (h0 + q)), (0, .ref (h0 + 38))]) hx hb dX6_tidyRange_87 hl (by decide) rfl (fun ls hl => ?_)
              refine lv_iload hx hb dX6_tidyRange_89 (lv_at hl 3 rfl) ?_
              refine lv_iload hx hb dX6_tidyRange_91 (lv_at hl 0 rfl) ?_
              refine fz_if_eq (tgt := 100) (by decide) hx hb dX6_tidyRange_93 (by decide) (fun h9 => absurd h9 (by decide)) (fun c93_ => ?_)
              refine lv_iconst (v := iZ 1) hx hb dX6_tidyRange_96 rfl ?_
              refine lv_goto (tgt := 101) hx hb dX6_tidyRange_97 (by decide) ?_
              refine lv_iadd hx hb dX6_tidyRange_101 ?_
              refine lv_topi (fun x9 ex9 => ?_)
              obtain rfl : x9 = iZ (dn + 1) := ex9.trans (iZ_add _ _)
              refine lv_istore (lv' := [(5, .int (iZ (dn + 1))), (6, .int (iZ (1))), (8, .int (iZ ((μ q 5) - bh))), (7, .int (iZ (tu))), (4, .int (iZ (bh))), (2, .int (iZ (p1))), (1, .ref (h0 + q)), (0, .ref (h0 + 38))]) hx hb dX6_tidyRange_102 hl (by decide) rfl (fun ls hl => ?_)
              refine lv_iinc (v := iZ (tu + 1)) (lv' := [(7, .int (iZ (tu + 1))), (5, .int (iZ (dn + 1))), (6, .int (iZ (1))), (8, .int (iZ ((μ q 5) - bh))), (4, .int (iZ (bh))), (2, .int (iZ (p1))), (1, .ref (h0 + q)), (0, .ref (h0 + 38))]) hx hb dX6_tidyRange_104 hl (k := 3) rfl (iZ_add _ _) (by decide) rfl (fun ls hl => ?_)
              refine lv_goto (tgt := 17) hx hb dX6_tidyRange_107 (by decide) ?_
              exact ih (tu + 1) (dn + 1) (1) μ3c H locs ls (by omega) (by exact fr_trans hf (fr_trans b1_ (fr_trans b2_ b3_))) (by exact c3_) (by exact d3_) (by omega) hP hS (lv_sub hl [0, 2, 1, 4, 5, 6, 7] rfl)
            · refine lv_aload_n hx hb dX6_tidyRange_71 rfl (lv_at hl 7 rfl) ?_
              refine lv_aload_n hx hb dX6_tidyRange_72 rfl (lv_at hl 6 rfl) ?_
              refine lv_iload_n hx hb dX6_tidyRange_73 rfl (lv_at hl 5 rfl) ?_
              refine lv_iload hx hb dX6_tidyRange_74 (lv_at hl 0 rfl) ?_
              refine va_calli (va_runV (As := [.ref (h0 + q), .int (iZ (p1)), .int (iZ ((μ q 5) - bh))]) (rest := []) ⟨hx, hb, hml, hown, hts⟩ (s_TfoldOnce l dC dI cI cZ cII cIII h0 H.size μ3c (q) (rm) (p1) ((μ q 5) - bh) (bh) (hq) (by exact c3_) (by exact hqt) (by exact d3_) (by
                                    have w1 := e1_ (by omega)
                                    have w2 := e2_ (by omega)
                                    have w3 := e3_ (by omega)
                                    omega)) (cwV 3 hts (gV_G k476 k477 k478 k6 k479) rfl rfl rfl (by decide +kernel) ⟨by show 4 + 1 ≤ _; omega, by show 8 + (8 + 11) + (97) ≤ _; omega⟩) ⟨fun a U g mk q => by obtain ⟨q0, q1, qP, qK, qM⟩ := q; exact ⟨q0, q1, qP, va_K.moved (u := U) (U := U.calling g mk a) (Vm.Alike.refl U.vm) qK, qM⟩, va_recv hK hP (ci := 6) (q0 := 38) rfl ((fw_get (by decide)).trans (by rw [sE_38])), fun U hU hW => ⟨rfl, by rw [hU], by rw [hU]; exact hP, va_K.moved hW.alike hK, xM_warm hW hM⟩⟩ rfl rfl hl.1 rfl (lv_room (Nat.le_of_ble_eq_true rfl)) dX6_tidyRange_76 ⟨hRc, hRs⟩) hS (fun q _ h => fA_le hS.1 q h) (fA_le hS.1) (fun r9 u9 t9 H1 locs ht9 hvm9 hw9 hB9 hz9 hk9 hS => ?_)
              obtain ⟨μ4c, r4c⟩ := u9
              obtain ⟨hP, -⟩ := hB9
              rw [ht9] at hP
              generalize H1 = H at hP hS ⊢
              obtain ⟨e9, hw9⟩ := hw9
              have e9 : r9 = iZ r4c := e9
              subst e9
              simp only at hP hw9
              have hμ4c := hw9; clear hw9
              obtain ⟨a4_, b4_, c4_, d4_, e4_⟩ := hμ4c
              refine fz_if_eq (tgt := 86) (by constructor <;> omega) hx hb dX6_tidyRange_79 (by decide) (fun c79_ => ?_) (fun c79_ => ?_)
              · refine lv_iconst (v := iZ 0) hx hb dX6_tidyRange_86 rfl ?_
                refine lv_istore (lv' := [(6, .int (iZ (0))), (8, .int (iZ ((μ q 5) - bh))), (7, .int (iZ (tu))), (5, .int (iZ (dn))), (4, .int (iZ (bh))), (2, .int (iZ (p1))), (1, .ref (h0 + q)), (0, .ref (h0 + 38))]) hx hb dX6_tidyRange_87 hl (by decide) rfl (fun ls hl => ?_)
                refine lv_iload hx hb dX6_tidyRange_89 (lv_at hl 3 rfl) ?_
                refine lv_iload hx hb dX6_tidyRange_91 (lv_at hl 0 rfl) ?_
                refine fz_if_eq (tgt := 100) (by decide) hx hb dX6_tidyRange_93 (by decide) (fun c93_ => ?_) (fun h9 => absurd h9 (by decide))
                refine lv_iconst (v := iZ 0) hx hb dX6_tidyRange_100 rfl ?_
                refine lv_iadd hx hb dX6_tidyRange_101 ?_
                refine lv_topi (fun x9 ex9 => ?_)
                obtain rfl : x9 = iZ (dn + 0) := ex9.trans (iZ_add _ _)
                refine lv_istore (lv' := [(5, .int (iZ (dn + 0))), (6, .int (iZ (0))), (8, .int (iZ ((μ q 5) - bh))), (7, .int (iZ (tu))), (4, .int (iZ (bh))), (2, .int (iZ (p1))), (1, .ref (h0 + q)), (0, .ref (h0 + 38))]) hx hb dX6_tidyRange_102 hl (by decide) rfl (fun ls hl => ?_)
                refine lv_iinc (v := iZ (tu + 1)) (lv' := [(7, .int (iZ (tu + 1))), (5, .int (iZ (dn + 0))), (6, .int (iZ (0))), (8, .int (iZ ((μ q 5) - bh))), (4, .int (iZ (bh))), (2, .int (iZ (p1))), (1, .ref (h0 + q)), (0, .ref (h0 + 38))]) hx hb dX6_tidyRange_104 hl (k := 3) rfl (iZ_add _ _) (by decide) rfl (fun ls hl => ?_)
                refine lv_goto (tgt := 17) hx hb dX6_tidyRange_107 (by decide) ?_
                exact ih (tu + 1) (dn + 0) (0) μ4c H locs ls (by omega) (by exact fr_trans hf (fr_trans b1_ (fr_trans b2_ (fr_trans b3_ b4_)))) (by exact c4_) (by exact d4_) (by omega) hP hS (lv_sub hl [0, 2, 1, 4, 5, 6, 7] rfl)
              · refine lv_iconst (v := iZ 1) hx hb dX6_tidyRange_82 rfl ?_
                refine lv_goto (tgt := 87) hx hb dX6_tidyRange_83 (by decide) ?_
                refine lv_istore (lv' := [(6, .int (iZ (1))), (8, .int (iZ ((μ q 5) - bh))), (7, .int (iZ (tu))), (5, .int (iZ (dn))), (4, .int (iZ (bh))), (2, .int (iZ (p1))), (1, .ref (h0 + q)), (0, .ref (h0 + 38))]) hx hb dX6_tidyRange_87 hl (by decide) rfl (fun ls hl => ?_)
                refine lv_iload hx hb dX6_tidyRange_89 (lv_at hl 3 rfl) ?_
                refine lv_iload hx hb dX6_tidyRange_91 (lv_at hl 0 rfl) ?_
                refine fz_if_eq (tgt := 100) (by decide) hx hb dX6_tidyRange_93 (by decide) (fun h9 => absurd h9 (by decide)) (fun c93_ => ?_)
                refine lv_iconst (v := iZ 1) hx hb dX6_tidyRange_96 rfl ?_
                refine lv_goto (tgt := 101) hx hb dX6_tidyRange_97 (by decide) ?_
                refine lv_iadd hx hb dX6_tidyRange_101 ?_
                refine lv_topi (fun x9 ex9 => ?_)
                obtain rfl : x9 = iZ (dn + 1) := ex9.trans (iZ_add _ _)
                refine lv_istore (lv' := [(5, .int (iZ (dn + 1))), (6, .int (iZ (1))), (8, .int (iZ ((μ q 5) - bh))), (7, .int (iZ (tu))), (4, .int (iZ (bh))), (2, .int (iZ (p1))), (1, .ref (h0 + q)), (0, .ref (h0 + 38))]) hx hb dX6_tidyRange_102 hl (by decide) rfl (fun ls hl => ?_)
                refine lv_iinc (v := iZ (tu + 1)) (lv' := [(7, .int (iZ (tu + 1))), (5, .int (iZ (dn + 1))), (6, .int (iZ (1))), (8, .int (iZ ((μ q 5) - bh))), (4, .int (iZ (bh))), (2, .int (iZ (p1))), (1, .ref (h0 + q)), (0, .ref (h0 + 38))]) hx hb dX6_tidyRange_104 hl (k := 3) rfl (iZ_add _ _) (by decide) rfl (fun ls hl => ?_)
                refine lv_goto (tgt := 17) hx hb dX6_tidyRange_107 (by decide) ?_
                exact ih (tu + 1) (dn + 1) (1) μ4c H locs ls (by omega) (by exact fr_trans hf (fr_trans b1_ (fr_trans b2_ (fr_trans b3_ b4_)))) (by exact c4_) (by exact d4_) (by omega) hP hS (lv_sub hl [0, 2, 1, 4, 5, 6, 7] rfl)
set_option maxHeartbeats 4000000 in
set_option maxRecDepth 100000 in
theorem s_TtidyRange (l : Launch) (dC : Nat → ClassId) (dI : Nat → Nat → Nat) (cI cZ cII cIII : ClassId) (h0 sz : Nat) (μ : va_M) (q : Nat) (rm : Nat) (p1 : Int) (p2 : Int) (bh : Int) (hq : rowB q rm) (hG : rG μ q rm) (hqt : q + 6 ≤ 38 ∨ 41 ≤ q) (hrg : rng μ q p1 bh) (hp2 : p2 = μ q 5 - bh) : Met l yX6_tidyRange (Cond.code yX6_tidyRange cX6_tidyRange 9 (some .int) :: wsG) ({ frames := 5, cells := 0, slots := 0, locals := 124 } : Room) (va_Pc [.ref (h0 + 38), .ref (h0 + q), .int (iZ (p1)), .int (iZ (p2))] (fun U => U.heap.size = sz ∧ va_P (dC, dI) vwCl (fw (sE cI cZ cII cIII h0) h0 233 μ) U.heap ∧ va_K (dC, dI) vwCl (sT cI cZ cII cIII) U ∧ xM U)) (va_Qi (fun (r9 : Int32) (u : va_M × Int) => r9 = iZ u.2 ∧ (fun (u : va_M) (r : Int) => fr (LTq q) μ u ∧ rG u q rm) u.1 u.2) (fun u t => va_P (dC, dI) vwCl (fw (sE cI cZ cII cIII h0) h0 233 u.1) t.heap ∧ va_K (dC, dI) vwCl (sT cI cZ cII cIII) t) (fA h0 233 sz)) 0 0 (fA h0 233 sz) := by
  refine Met.ofW (cc := cX6_tidyRange) (maxL := 9) (ret := (some .int)) (by decide) rfl ?_
  intro p e s m args below meth c s₁ B hml hv
  obtain ⟨rfl, hsz, hP, hK, hM⟩ := hv
  have hx := B.exec
  have hb := B.bytes
  have hr := B.returns
  have hts : ∀ w ∈ wsG, w.before _ s = true := hG_of (atoms_spec (ws := (Cond.code yX6_tidyRange cX6_tidyRange 9 (some .int) :: wsG)) B.pre)
  have hown : s.vm.findClass RX6 = some m.cls := findClass_of_methodNamed B.named
  have hlocks := B.notSynchronized
  subst hsz
  have hS : va_S (fA h0 233 s.heap.size) s.heap s.heap [] := va_S.rf
  have hl := lv_entry ([.ref (h0 + 38), .ref (h0 + q), .int (iZ (p1)), .int (iZ (p2))]) (n := 9) (Nat.le_of_ble_eq_true rfl)
  rw [lg_entry_eq]
  generalize (lg_sl ([.ref (h0 + 38), .ref (h0 + q), .int (iZ (p1)), .int (iZ (p2))]) ++ List.replicate (9 - (lg_sl ([.ref (h0 + 38), .ref (h0 + q), .int (iZ (p1)), .int (iZ (p2))])).length) Slot.unset).toArray = ls at hl ⊢
  have hl : lv_has ls 9 [(0, .ref (h0 + 38)), (1, .ref (h0 + q)), (2, .int (iZ (p1))), (3, .int (iZ (p2)))] := hl
  have hqb := rowB_b hq
  have hrm := rG_rm hq hG
  have hr1 := hrg.1
  refine lv_aload_n hx hb dX6_tidyRange_0 rfl (lv_at hl 1 rfl) ?_
  refine fz_get (D := (dC, dI)) (ci := 4) (v := .int (iZ (μ q 5))) (C := RX4) (T := TX4) (N := 8) hx hb hts inG4 hown hK hP (k := q) (by omega) (F := (sRF h0 q)) (sE_rowO hq) rfl 5 (by decide) (hts _ k96) (fun _ h9 => h9) rfl dX6_tidyRange_1 ?_
  refine lv_iload_n hx hb dX6_tidyRange_4 rfl (lv_at hl 3 rfl) ?_
  refine lv_isub hx hb dX6_tidyRange_5 ?_
  refine lv_topi (fun x9 ex9 => ?_)
  obtain rfl : x9 = iZ ((μ q 5) - p2) := ex9.trans (iZ_sub _ _)
  rw [show (μ q 5) - p2 = bh from (by omega)]
  refine lv_istore (lv' := [(4, .int (iZ (bh))), (0, .ref (h0 + 38)), (1, .ref (h0 + q)), (2, .int (iZ (p1))), (3, .int (iZ (p2)))]) hx hb dX6_tidyRange_6 hl (by decide) rfl (fun ls hl => ?_)
  refine lv_iconst (v := iZ 0) hx hb dX6_tidyRange_8 rfl ?_
  refine lv_istore (lv' := [(5, .int (iZ (0))), (4, .int (iZ (bh))), (0, .ref (h0 + 38)), (1, .ref (h0 + q)), (2, .int (iZ (p1))), (3, .int (iZ (p2)))]) hx hb dX6_tidyRange_9 hl (by decide) rfl (fun ls hl => ?_)
  refine lv_iconst (v := iZ 1) hx hb dX6_tidyRange_11 rfl ?_
  refine lv_istore (lv' := [(6, .int (iZ (1))), (5, .int (iZ (0))), (4, .int (iZ (bh))), (0, .ref (h0 + 38)), (1, .ref (h0 + q)), (2, .int (iZ (p1))), (3, .int (iZ (p2)))]) hx hb dX6_tidyRange_12 hl (by decide) rfl (fun ls hl => ?_)
  refine lv_iconst (v := iZ 0) hx hb dX6_tidyRange_14 rfl ?_
  refine lv_istore (lv' := [(7, .int (iZ (0))), (6, .int (iZ (1))), (5, .int (iZ (0))), (4, .int (iZ (bh))), (0, .ref (h0 + 38)), (1, .ref (h0 + q)), (2, .int (iZ (p1))), (3, .int (iZ (p2)))]) hx hb dX6_tidyRange_15 hl (by decide) rfl (fun ls hl => ?_)
  refine LX6_tidyRange_17 hx hb hml hown hts hK hM (Nat.le_of_ble_eq_true rfl) (Nat.le_of_ble_eq_true rfl) (Nat.le_of_ble_eq_true rfl) (Nat.le_of_ble_eq_true rfl) (μ) (q) (rm) (p1) (p2) (bh) (by assumption) (by exact hqt) ?_ _ (0) (0) (1) μ s.heap [] ls (by omega) (by exact fr_rfl) (by exact hG) (by exact hrg) (Nat.lt_succ_self _) hP hS (lv_sub hl [0, 1, 2, 3, 6, 5, 4] rfl)
  · intro tu_1 dn_1 mo_1 μ1_ H locs ls q1_1 q2_1 hP hS hl
    have hl : lv_has ls 9 [(5, .int (iZ (dn_1)))] := hl
    refine lv_iload hx hb dX6_tidyRange_110 (lv_at hl 0 rfl) ?_
    exact W.iret (v := iZ (dn_1)) hx hb hr (fun t9 ht9 hW9 => ⟨⟨iZ (dn_1), (μ1_, dn_1), rfl, ⟨rfl, (by
                dsimp only
                exact ⟨q1_1, q2_1⟩)⟩, by rw [ht9]; exact hP, va_K.moved hW9.alike hK⟩, hS.F ht9⟩) hS.2.2 dX6_tidyRange_112
set_option maxHeartbeats 4000000 in
set_option maxRecDepth 100000 in
theorem LX6_tidyAll_7 {p : Program} {l : Launch} {e : Env} {R : Room} {s : State} {m : MethodId} {args : Array Value} {below : List Frame} {meth : Method} {c : Code} {cells slots : Nat} {Q : State → Prop} {dC : Nat → ClassId} {dI : Nat → Nat → Nat} {h0 : Nat} {cI cZ cII cIII : ClassId} (hx : p.tables.exec = Jvm.exec) (hb : c.code = cX6_tidyAll) (hml : c.maxLocals = 6) (hown : s.vm.findClass RX6 = some m.cls) (hts : ∀ w ∈ wsG, w.before args s = true) (hK : va_K (dC, dI) vwCl (sT cI cZ cII cIII) s) (hM : xM s) (hRf : 6 ≤ R.frames) (hRl : 152 ≤ R.locals) (hRc : cells ≤ R.cells) (hRs : slots ≤ R.slots) (μ0 : va_M) (q : Nat) (rm : Nat) (hq : rowB q rm) (hqt : q + 6 ≤ 38 ∨ 41 ≤ q) (hexit77 : ∀ (tu : Int) (i : Int) (dn : Int) (μ : va_M) (H : Heap) (locs : List Loc) (ls : Array Slot), (fr (LTq q) μ0 μ) → (rG μ q rm) → va_P (dC, dI) vwCl (fw (sE cI cZ cII cIII h0) h0 233 μ) H → va_S (fA h0 233 s.heap.size) s.heap H locs → lv_has ls 6 [(2, .int (iZ (dn))), (1, .ref (h0 + q)), (0, .ref (h0 + 38))] → W p l e R s m args below meth c H locs cells slots Q (F0 m 77 ls [])) :
    ∀ (n9 : Nat) (tu : Int) (i : Int) (dn : Int) (μ : va_M) (H : Heap) (locs : List Loc) (ls : Array Slot), (0 ≤ tu ∧ tu ≤ 1000000 ∧ 0 ≤ i ∧ i ≤ 1100) → (fr (LTq q) μ0 μ) → (rG μ q rm) → (1000000 - tu).toNat < n9 → va_P (dC, dI) vwCl (fw (sE cI cZ cII cIII h0) h0 233 μ) H → va_S (fA h0 233 s.heap.size) s.heap H locs → lv_has ls 6 [(4, .int (iZ (tu))), (3, .int (iZ (i))), (2, .int (iZ (dn))), (1, .ref (h0 + q)), (0, .ref (h0 + 38))] → W p l e R s m args below meth c H locs cells slots Q (F0 m 7 ls []) := by
  intro n9
  induction n9 with
  | zero => intro tu i dn μ H locs ls ht hf hG hm9 hP hS hl; exact absurd hm9 (Nat.not_lt_zero _)
  | succ n9 ih =>
    intro tu i dn μ H locs ls ht hf hG hm9 hP hS hl
    have hrm := rG_rm hq hG
    have hqb := rowB_b hq
    have hs1 := hG.1 i.toNat
    refine lv_iload hx hb dX6_tidyAll_7 (lv_at hl 0 rfl) ?_
    refine lv_ldc (v := iZ 1000000) hx hb hown (hts _ k428) dX6_tidyAll_9 ?_
    refine fz_icmp_ge (tgt := 77) (by constructor <;> omega) (by decide) hx hb dX6_tidyAll_11 (by decide) (fun c11_ => ?_) (fun c11_ => ?_)
    · exact hexit77 (tu) (i) (dn) μ H locs ls (by exact hf) (by exact hG) hP hS (lv_sub hl [2, 3, 4] rfl)
    · refine lv_iload_n hx hb dX6_tidyAll_14 rfl (lv_at hl 1 rfl) ?_
      refine lv_aload_n hx hb dX6_tidyAll_15 rfl (lv_at hl 3 rfl) ?_
      refine fz_get (D := (dC, dI)) (ci := 4) (v := .int (iZ (μ q 5))) (C := RX4) (T := TX4) (N := 8) hx hb hts inG4 hown hK hP (k := q) (by omega) (F := (sRF h0 q)) (sE_rowO hq) rfl 5 (by decide) (hts _ k96) (fun _ h9 => h9) rfl dX6_tidyAll_16 ?_
      refine fz_icmp_ge (tgt := 77) (by constructor <;> omega) (by constructor <;> omega) hx hb dX6_tidyAll_19 (by decide) (fun c19_ => ?_) (fun c19_ => ?_)
      · exact hexit77 (tu) (i) (dn) μ H locs ls (by exact hf) (by exact hG) hP hS (lv_sub hl [2, 3, 4] rfl)
      · refine lv_aload_n hx hb dX6_tidyAll_22 rfl (lv_at hl 3 rfl) ?_
        refine fz_get (D := (dC, dI)) (ci := 4) (v := .ref (h0 + (q + 1))) (C := RX4) (T := TX4) (N := 8) hx hb hts inG4 hown hK hP (k := q) (by omega) (F := (sRF h0 q)) (sE_rowO hq) rfl 0 (by decide) (hts _ k79) (fun _ h9 => h9) rfl dX6_tidyAll_23 ?_
        refine lv_iload_n hx hb dX6_tidyAll_26 rfl (lv_at hl 1 rfl) ?_
        refine fz_ld (k := (q + 1)) (n := rm) hx hb hK hP 0 (by omega) (sE_rowA (r := 1) hq (by decide)) rfl ⟨by omega, by omega⟩ (by omega) dX6_tidyAll_27 ?_
        refine lv_sipush (v := iZ 515) hx hb dX6_tidyAll_28 rfl ?_
        refine fz_icmp_ne (tgt := 68) (by constructor <;> omega) (by decide) hx hb dX6_tidyAll_31 (by decide) (fun c31_ => ?_) (fun c31_ => ?_)
        · refine lv_iinc (v := iZ (i + 1)) (lv' := [(3, .int (iZ (i + 1))), (4, .int (iZ (tu))), (2, .int (iZ (dn))), (1, .ref (h0 + q)), (0, .ref (h0 + 38))]) hx hb dX6_tidyAll_68 hl (k := 1) rfl (iZ_add _ _) (by decide) rfl (fun ls hl => ?_)
          refine lv_iinc (v := iZ (tu + 1)) (lv' := [(4, .int (iZ (tu + 1))), (3, .int (iZ (i + 1))), (2, .int (iZ (dn))), (1, .ref (h0 + q)), (0, .ref (h0 + 38))]) hx hb dX6_tidyAll_71 hl (k := 1) rfl (iZ_add _ _) (by decide) rfl (fun ls hl => ?_)
          refine lv_goto (tgt := 7) hx hb dX6_tidyAll_74 (by decide) ?_
          exact ih (tu + 1) (i + 1) (dn) μ H locs ls (by omega) (by exact hf) (by exact hG) (by omega) hP hS (lv_sub hl [0, 1, 2, 3, 4] rfl)
        · obtain ⟨m1_, m2_⟩ := rng_cl (i := i) hrm.2.2 hG ⟨by omega, by omega⟩ (by omega)
          refine lv_aload_n hx hb dX6_tidyAll_34 rfl (lv_at hl 3 rfl) ?_
          refine fz_get (D := (dC, dI)) (ci := 4) (v := .ref (h0 + (q + 2))) (C := RX4) (T := TX4) (N := 8) hx hb hts inG4 hown hK hP (k := q) (by omega) (F := (sRF h0 q)) (sE_rowO hq) rfl 1 (by decide) (hts _ k84) (fun _ h9 => h9) rfl dX6_tidyAll_35 ?_
          refine lv_iload_n hx hb dX6_tidyAll_38 rfl (lv_at hl 1 rfl) ?_
          refine fz_ld (k := (q + 2)) (n := rm) hx hb hK hP 0 (by omega) (sE_rowA (r := 2) hq (by decide)) rfl ⟨by omega, by omega⟩ (by omega) dX6_tidyAll_39 ?_
          refine lv_istore (lv' := [(5, .int (iZ (μ (q + 2) (i).toNat))), (4, .int (iZ (tu))), (3, .int (iZ (i))), (2, .int (iZ (dn))), (1, .ref (h0 + q)), (0, .ref (h0 + 38))]) hx hb dX6_tidyAll_40 hl (by decide) rfl (fun ls hl => ?_)
          refine lv_iload_n hx hb dX6_tidyAll_42 rfl (lv_at hl 3 rfl) ?_
          refine lv_aload_n hx hb dX6_tidyAll_43 rfl (lv_at hl 5 rfl) ?_
          refine lv_aload_n hx hb dX6_tidyAll_44 rfl (lv_at hl 4 rfl) ?_
          refine lv_iload hx hb dX6_tidyAll_45 (lv_at hl 0 rfl) ?_
          refine lv_iconst (v := iZ 1) hx hb dX6_tidyAll_47 rfl ?_
          refine lv_iadd hx hb dX6_tidyAll_48 ?_
          refine lv_topi (fun x9 ex9 => ?_)
          obtain rfl : x9 = iZ ((μ (q + 2) (i).toNat) + 1) := ex9.trans (iZ_add _ _)
          refine lv_iload_n hx hb dX6_tidyAll_49 rfl (lv_at hl 2 rfl) ?_
          refine va_calli (va_runV (As := [.ref (h0 + q), .int (iZ ((μ (q + 2) (i).toNat) + 1)), .int (iZ (i))]) (rest := [.int (iZ (dn))]) ⟨hx, hb, hml, hown, hts⟩ (s_TtidyRange l dC dI cI cZ cII cIII h0 H.size μ (q) (rm) ((μ (q + 2) (i).toNat) + 1) (i) (μ q 5 - i) (hq) (by exact hG) (by exact hqt) (by exact m2_) (by omega)) (cwV 3 hts (gV_G k429 k431 ks_yX6_tidyRange k6 k432) rfl rfl rfl (by decide +kernel) ⟨by show 5 + 1 ≤ _; omega, by show 8 + (9 + 11) + (124) ≤ _; omega⟩) ⟨fun a U g mk q => by obtain ⟨q0, q1, qP, qK, qM⟩ := q; exact ⟨q0, q1, qP, va_K.moved (u := U) (U := U.calling g mk a) (Vm.Alike.refl U.vm) qK, qM⟩, va_recv hK hP (ci := 6) (q0 := 38) rfl ((fw_get (by decide)).trans (by rw [sE_38])), fun U hU hW => ⟨rfl, by rw [hU], by rw [hU]; exact hP, va_K.moved hW.alike hK, xM_warm hW hM⟩⟩ rfl rfl hl.1 rfl (lv_room (Nat.le_of_ble_eq_true rfl)) dX6_tidyAll_50 ⟨hRc, hRs⟩) hS (fun q _ h => fA_le hS.1 q h) (fA_le hS.1) (fun r9 u9 t9 H1 locs ht9 hvm9 hw9 hB9 hz9 hk9 hS => ?_)
          obtain ⟨μt, rt⟩ := u9
          obtain ⟨hP, -⟩ := hB9
          rw [ht9] at hP
          generalize H1 = H at hP hS ⊢
          obtain ⟨e9, hw9⟩ := hw9
          have e9 : r9 = iZ rt := e9
          subst e9
          simp only at hP hw9
          have hμt := hw9; clear hw9
          obtain ⟨b1_, c1_⟩ := hμt
          have mx_ := rG_mA c1_ (μ (q + 2) i.toNat).toNat
          refine lv_iadd hx hb dX6_tidyAll_53 ?_
          refine lv_topi (fun x9 ex9 => ?_)
          obtain rfl : x9 = iZ (dn + rt) := ex9.trans (iZ_add _ _)
          refine lv_istore_n (lv' := [(2, .int (iZ (dn + rt))), (5, .int (iZ (μ (q + 2) (i).toNat))), (4, .int (iZ (tu))), (3, .int (iZ (i))), (1, .ref (h0 + q)), (0, .ref (h0 + 38))]) hx hb dX6_tidyAll_54 rfl hl (by decide) rfl (fun ls hl => ?_)
          refine lv_aload_n hx hb dX6_tidyAll_55 rfl (lv_at hl 4 rfl) ?_
          refine fz_get (D := (dC, dI)) (ci := 4) (v := .ref (h0 + (q + 2))) (C := RX4) (T := TX4) (N := 8) hx hb hts inG4 hown hK hP (k := q) (by omega) (F := (sRF h0 q)) (sE_rowO hq) rfl 1 (by decide) (hts _ k84) (fun _ h9 => h9) rfl dX6_tidyAll_56 ?_
          refine lv_iload hx hb dX6_tidyAll_59 (lv_at hl 1 rfl) ?_
          refine fz_ld (k := (q + 2)) (n := rm) hx hb hK hP 0 (by omega) (sE_rowA (r := 2) hq (by decide)) rfl ⟨by omega, by omega⟩ (by omega) dX6_tidyAll_61 ?_
          refine lv_iconst (v := iZ 1) hx hb dX6_tidyAll_62 rfl ?_
          refine lv_iadd hx hb dX6_tidyAll_63 ?_
          refine lv_topi (fun x9 ex9 => ?_)
          obtain rfl : x9 = iZ ((μt (q + 2) (μ (q + 2) (i).toNat).toNat) + 1) := ex9.trans (iZ_add _ _)
          refine lv_istore_n (lv' := [(3, .int (iZ ((μt (q + 2) (μ (q + 2) (i).toNat).toNat) + 1))), (2, .int (iZ (dn + rt))), (5, .int (iZ (μ (q + 2) (i).toNat))), (4, .int (iZ (tu))), (1, .ref (h0 + q)), (0, .ref (h0 + 38))]) hx hb dX6_tidyAll_64 rfl hl (by decide) rfl (fun ls hl => ?_)
          refine lv_goto (tgt := 71) hx hb dX6_tidyAll_65 (by decide) ?_
          refine lv_iinc (v := iZ (tu + 1)) (lv' := [(4, .int (iZ (tu + 1))), (3, .int (iZ ((μt (q + 2) (μ (q + 2) (i).toNat).toNat) + 1))), (2, .int (iZ (dn + rt))), (5, .int (iZ (μ (q + 2) (i).toNat))), (1, .ref (h0 + q)), (0, .ref (h0 + 38))]) hx hb dX6_tidyAll_71 hl (k := 3) rfl (iZ_add _ _) (by decide) rfl (fun ls hl => ?_)
          refine lv_goto (tgt := 7) hx hb dX6_tidyAll_74 (by decide) ?_
          exact ih (tu + 1) ((μt (q + 2) (μ (q + 2) (i).toNat).toNat) + 1) (dn + rt) μt H locs ls (by omega) (by exact fr_trans hf b1_) (by exact c1_) (by omega) hP hS (lv_sub hl [0, 1, 2, 4, 5] rfl)
set_option maxHeartbeats 4000000 in
set_option maxRecDepth 100000 in
theorem s_TtidyAll (l : Launch) (dC : Nat → ClassId) (dI : Nat → Nat → Nat) (cI cZ cII cIII : ClassId) (h0 sz : Nat) (μ : va_M) (q : Nat) (rm : Nat) (hq : rowB q rm) (hG : rG μ q rm) (hqt : q + 6 ≤ 38 ∨ 41 ≤ q) : Met l yX6_tidyAll (Cond.code yX6_tidyAll cX6_tidyAll 6 (some .int) :: wsG) ({ frames := 6, cells := 0, slots := 0, locals := 152 } : Room) (va_Pc [.ref (h0 + 38), .ref (h0 + q)] (fun U => U.heap.size = sz ∧ va_P (dC, dI) vwCl (fw (sE cI cZ cII cIII h0) h0 233 μ) U.heap ∧ va_K (dC, dI) vwCl (sT cI cZ cII cIII) U ∧ xM U)) (va_Qi (fun (r9 : Int32) (u : va_M × Int) => r9 = iZ u.2 ∧ (fun (u : va_M) (r : Int) => fr (LTq q) μ u ∧ rG u q rm) u.1 u.2) (fun u t => va_P (dC, dI) vwCl (fw (sE cI cZ cII cIII h0) h0 233 u.1) t.heap ∧ va_K (dC, dI) vwCl (sT cI cZ cII cIII) t) (fA h0 233 sz)) 0 0 (fA h0 233 sz) := by
  refine Met.ofW (cc := cX6_tidyAll) (maxL := 6) (ret := (some .int)) (by decide) rfl ?_
  intro p e s m args below meth c s₁ B hml hv
  obtain ⟨rfl, hsz, hP, hK, hM⟩ := hv
  have hx := B.exec
  have hb := B.bytes
  have hr := B.returns
  have hts : ∀ w ∈ wsG, w.before _ s = true := hG_of (atoms_spec (ws := (Cond.code yX6_tidyAll cX6_tidyAll 6 (some .int) :: wsG)) B.pre)
  have hown : s.vm.findClass RX6 = some m.cls := findClass_of_methodNamed B.named
  have hlocks := B.notSynchronized
  subst hsz
  have hS : va_S (fA h0 233 s.heap.size) s.heap s.heap [] := va_S.rf
  have hl := lv_entry ([.ref (h0 + 38), .ref (h0 + q)]) (n := 6) (Nat.le_of_ble_eq_true rfl)
  rw [lg_entry_eq]
  generalize (lg_sl ([.ref (h0 + 38), .ref (h0 + q)]) ++ List.replicate (6 - (lg_sl ([.ref (h0 + 38), .ref (h0 + q)])).length) Slot.unset).toArray = ls at hl ⊢
  have hl : lv_has ls 6 [(0, .ref (h0 + 38)), (1, .ref (h0 + q))] := hl
  have hqb := rowB_b hq
  refine lv_iconst (v := iZ 0) hx hb dX6_tidyAll_0 rfl ?_
  refine lv_istore_n (lv' := [(2, .int (iZ (0))), (0, .ref (h0 + 38)), (1, .ref (h0 + q))]) hx hb dX6_tidyAll_1 rfl hl (by decide) rfl (fun ls hl => ?_)
  refine lv_iconst (v := iZ 0) hx hb dX6_tidyAll_2 rfl ?_
  refine lv_istore_n (lv' := [(3, .int (iZ (0))), (2, .int (iZ (0))), (0, .ref (h0 + 38)), (1, .ref (h0 + q))]) hx hb dX6_tidyAll_3 rfl hl (by decide) rfl (fun ls hl => ?_)
  refine lv_iconst (v := iZ 0) hx hb dX6_tidyAll_4 rfl ?_
  refine lv_istore (lv' := [(4, .int (iZ (0))), (3, .int (iZ (0))), (2, .int (iZ (0))), (0, .ref (h0 + 38)), (1, .ref (h0 + q))]) hx hb dX6_tidyAll_5 hl (by decide) rfl (fun ls hl => ?_)
  refine LX6_tidyAll_7 hx hb hml hown hts hK hM (Nat.le_of_ble_eq_true rfl) (Nat.le_of_ble_eq_true rfl) (Nat.le_of_ble_eq_true rfl) (Nat.le_of_ble_eq_true rfl) (μ) (q) (rm) (by assumption) (by exact hqt) ?_ _ (0) (0) (0) μ s.heap [] ls (by omega) (by exact fr_rfl) (by exact hG) (Nat.lt_succ_self _) hP hS (lv_sub hl [0, 1, 2, 4, 3] rfl)
  · intro tu_1 i_1 dn_1 μ1_ H locs ls q1_1 q2_1 hP hS hl
    have hl : lv_has ls 6 [(2, .int (iZ (dn_1))), (1, .ref (h0 + q)), (0, .ref (h0 + 38))] := hl
    have Q1 := q1_1
    have Q2 := q2_1
    have hrm := rG_rm hq Q2
    refine lv_iload_n hx hb dX6_tidyAll_77 rfl (lv_at hl 0 rfl) ?_
    refine lv_aload_n hx hb dX6_tidyAll_78 rfl (lv_at hl 2 rfl) ?_
    refine lv_aload_n hx hb dX6_tidyAll_79 rfl (lv_at hl 1 rfl) ?_
    refine lv_iconst (v := iZ 0) hx hb dX6_tidyAll_80 rfl ?_
    refine lv_aload_n hx hb dX6_tidyAll_81 rfl (lv_at hl 1 rfl) ?_
    refine fz_get (D := (dC, dI)) (ci := 4) (v := .int (iZ (μ1_ q 5))) (C := RX4) (T := TX4) (N := 8) hx hb hts inG4 hown hK hP (k := q) (by omega) (F := (sRF h0 q)) (sE_rowO hq) rfl 5 (by decide) (hts _ k96) (fun _ h9 => h9) rfl dX6_tidyAll_82 ?_
    refine va_calli (va_runV (As := [.ref (h0 + q), .int (iZ (0)), .int (iZ (μ1_ q 5))]) (rest := [.int (iZ (dn_1))]) ⟨hx, hb, hml, hown, hts⟩ (s_TtidyRange l dC dI cI cZ cII cIII h0 H.size μ1_ (q) (rm) (0) (μ1_ q 5) (0) (hq) (by exact Q2) (by exact hqt) (by exact rng_0 Q2) (by omega)) (cwV 3 hts (gV_G k429 k431 ks_yX6_tidyRange k6 k432) rfl rfl rfl (by decide +kernel) ⟨Nat.le_of_ble_eq_true rfl, Nat.le_of_ble_eq_true rfl⟩) ⟨fun a U g mk q => by obtain ⟨q0, q1, qP, qK, qM⟩ := q; exact ⟨q0, q1, qP, va_K.moved (u := U) (U := U.calling g mk a) (Vm.Alike.refl U.vm) qK, qM⟩, va_recv hK hP (ci := 6) (q0 := 38) rfl ((fw_get (by decide)).trans (by rw [sE_38])), fun U hU hW => ⟨rfl, by rw [hU], by rw [hU]; exact hP, va_K.moved hW.alike hK, xM_warm hW hM⟩⟩ rfl rfl hl.1 rfl (lv_room (Nat.le_of_ble_eq_true rfl)) dX6_tidyAll_85 ⟨Nat.le_of_ble_eq_true rfl, Nat.le_of_ble_eq_true rfl⟩) hS (fun q _ h => fA_le hS.1 q h) (fA_le hS.1) (fun r9 u9 t9 H1 locs ht9 hvm9 hw9 hB9 hz9 hk9 hS => ?_)
    obtain ⟨μz, rz⟩ := u9
    obtain ⟨hP, -⟩ := hB9
    rw [ht9] at hP
    generalize H1 = H at hP hS ⊢
    obtain ⟨e9, hw9⟩ := hw9
    have e9 : r9 = iZ rz := e9
    subst e9
    simp only at hP hw9
    have hμz := hw9; clear hw9
    obtain ⟨b2_, c2_⟩ := hμz
    refine lv_iadd hx hb dX6_tidyAll_88 ?_
    refine lv_topi (fun x9 ex9 => ?_)
    obtain rfl : x9 = iZ (dn_1 + rz) := ex9.trans (iZ_add _ _)
    exact W.iret (v := iZ (dn_1 + rz)) hx hb hr (fun t9 ht9 hW9 => ⟨⟨iZ (dn_1 + rz), (μz, dn_1 + rz), rfl, ⟨rfl, (by
                dsimp only
                exact ⟨fr_trans Q1 b2_, c2_⟩)⟩, by rw [ht9]; exact hP, va_K.moved hW9.alike hK⟩, hS.F ht9⟩) hS.2.2 dX6_tidyAll_89

theorem x_cases3 {p : Int32} (hq : ¬ p < 0 ∧ ¬ (2 : Int32) < p) : p = 0 ∨ p = 1 ∨ p = 2 := by
  obtain ⟨j, hj, rfl⟩ := nI_of2 (M := 2) (n := 2) (by decide +kernel) hq.1 (Int32.not_lt.mp hq.2)
  exact (show ∀ j, j ≤ 2 → (nI j = 0 ∨ nI j = 1 ∨ nI j = 2) by decide +kernel) j hj
theorem x_cases4 {p : Int32} (hq : ¬ p < 0 ∧ ¬ (3 : Int32) < p) : p = 0 ∨ p = 1 ∨ p = 2 ∨ p = 3 := by
  obtain ⟨j, hj, rfl⟩ := nI_of2 (M := 3) (n := 3) (by decide +kernel) hq.1 (Int32.not_lt.mp hq.2)
  exact (show ∀ j, j ≤ 3 → (nI j = 0 ∨ nI j = 1 ∨ nI j = 2 ∨ nI j = 3) by decide +kernel) j hj
theorem x_cases10 {p : Int32} (hq : ¬ p < 0 ∧ ¬ (9 : Int32) < p) : p = 0 ∨ p = 1 ∨ p = 2 ∨ p = 3 ∨ p = 4 ∨ p = 5 ∨ p = 6 ∨ p = 7 ∨ p = 8 ∨ p = 9 := by
  obtain ⟨j, hj, rfl⟩ := nI_of2 (M := 9) (n := 9) (by decide +kernel) hq.1 (Int32.not_lt.mp hq.2)
  exact (show ∀ j, j ≤ 9 → (nI j = 0 ∨ nI j = 1 ∨ nI j = 2 ∨ nI j = 3 ∨ nI j = 4 ∨ nI j = 5 ∨ nI j = 6 ∨ nI j = 7 ∨ nI j = 8 ∨ nI j = 9) by decide +kernel) j hj
theorem x_3 {p : Int32} (hq : ¬ (¬ p < 0 ∧ ¬ (2 : Int32) < p)) (h : ¬ p < 0) : (3 : Int32) ≤ p := by
  have h2 : (2 : Int32) < p := Decidable.byContradiction (fun z => hq ⟨h, z⟩)
  rw [Int32.lt_iff_toInt_lt] at h2
  rw [Int32.le_iff_toInt_le]
  have e2 : (2 : Int32).toInt = 2 := by decide +kernel
  have e3 : (3 : Int32).toInt = 3 := by decide +kernel
  omega
theorem k46 : (Cond.fieldLink "PageSkeleton" (127 : Nat) "PageSkeleton$Texts" "faultPlace" "I") ∈ wsG := wsG_at 46 (by decide +kernel) (by decide +kernel)
theorem k96 : (Cond.fieldLink "PageSkeleton$Tidier" (32 : Nat) "PageSkeleton$Row" "length" "I") ∈ wsG := wsG_at 96 (by decide +kernel) (by decide +kernel)
theorem k135 : (Cond.fieldLink "PageSkeleton" (162 : Nat) "PageSkeleton$Past" "count" "I") ∈ wsG := wsG_at 135 (by decide +kernel) (by decide +kernel)
theorem k382 : (Cond.methodLink "PageSkeleton" (99 : Nat) ({ cls := "PageSkeleton$Texts", name := "feedNumber", desc := "(I)V" } : MethodName)) ∈ wsG := wsG_at 382 (by decide +kernel) (by decide +kernel)
theorem k383 : (Cond.instanceMethod ({ cls := "PageSkeleton$Texts", name := "feedNumber", desc := "(I)V" } : MethodName)) ∈ wsG := wsG_at 383 (by decide +kernel) (by decide +kernel)
theorem k384 : (Cond.selects "PageSkeleton$Texts" ({ cls := "PageSkeleton$Texts", name := "feedNumber", desc := "(I)V" } : MethodName) ({ cls := "PageSkeleton$Texts", name := "feedNumber", desc := "(I)V" } : MethodName)) ∈ wsG := wsG_at 384 (by decide +kernel) (by decide +kernel)
theorem k385 : (Cond.code ({ cls := "PageSkeleton$Texts", name := "feedNumber", desc := "(I)V" } : MethodName) prog_7_method_2_code (3 : Nat) (Option.none : Option Jvm.ClassFile.FieldType)) ∈ wsG := wsG_at 385 (by decide +kernel) (by decide +kernel)
theorem k394 : (Cond.methodLink "PageSkeleton" (152 : Nat) ({ cls := "PageSkeleton", name := "tryToTidy", desc := "()I" } : MethodName)) ∈ wsG := wsG_at 394 (by decide +kernel) (by decide +kernel)
theorem k396 : (Cond.instanceMethod ({ cls := "PageSkeleton", name := "tryToTidy", desc := "()I" } : MethodName)) ∈ wsG := wsG_at 396 (by decide +kernel) (by decide +kernel)
theorem k397 : (Cond.code ({ cls := "PageSkeleton", name := "tryToTidy", desc := "()I" } : MethodName) prog_1_method_47_code (1 : Nat) (Option.some FieldType.int)) ∈ wsG := wsG_at 397 (by decide +kernel) (by decide +kernel)
theorem k398 : (Cond.methodLink "PageSkeleton" (148 : Nat) ({ cls := "PageSkeleton$Row", name := "take", desc := "(LPageSkeleton$Row;)V" } : MethodName)) ∈ wsG := wsG_at 398 (by decide +kernel) (by decide +kernel)
theorem k399 : (Cond.instanceMethod ({ cls := "PageSkeleton$Row", name := "take", desc := "(LPageSkeleton$Row;)V" } : MethodName)) ∈ wsG := wsG_at 399 (by decide +kernel) (by decide +kernel)
theorem k400 : (Cond.selects "PageSkeleton$Row" ({ cls := "PageSkeleton$Row", name := "take", desc := "(LPageSkeleton$Row;)V" } : MethodName) ({ cls := "PageSkeleton$Row", name := "take", desc := "(LPageSkeleton$Row;)V" } : MethodName)) ∈ wsG := wsG_at 400 (by decide +kernel) (by decide +kernel)
theorem k401 : (Cond.code ({ cls := "PageSkeleton$Row", name := "take", desc := "(LPageSkeleton$Row;)V" } : MethodName) prog_6_method_5_code (2 : Nat) (Option.none : Option Jvm.ClassFile.FieldType)) ∈ wsG := wsG_at 401 (by decide +kernel) (by decide +kernel)
theorem k402 : (Cond.methodLink "PageSkeleton$Row" (48 : Nat) ({ cls := "PageSkeleton$Row", name := "load", desc := "([II)V" } : MethodName)) ∈ wsG := wsG_at 402 (by decide +kernel) (by decide +kernel)
theorem k403 : (Cond.instanceMethod ({ cls := "PageSkeleton$Row", name := "load", desc := "([II)V" } : MethodName)) ∈ wsG := wsG_at 403 (by decide +kernel) (by decide +kernel)
theorem k404 : (Cond.selects "PageSkeleton$Row" ({ cls := "PageSkeleton$Row", name := "load", desc := "([II)V" } : MethodName) ({ cls := "PageSkeleton$Row", name := "load", desc := "([II)V" } : MethodName)) ∈ wsG := wsG_at 404 (by decide +kernel) (by decide +kernel)
theorem k405 : (Cond.code ({ cls := "PageSkeleton$Row", name := "load", desc := "([II)V" } : MethodName) prog_6_method_6_code (4 : Nat) (Option.none : Option Jvm.ClassFile.FieldType)) ∈ wsG := wsG_at 405 (by decide +kernel) (by decide +kernel)
theorem k406 : (Cond.methodLink "PageSkeleton$Row" (52 : Nat) ({ cls := "PageSkeleton$Row", name := "empty", desc := "()V" } : MethodName)) ∈ wsG := wsG_at 406 (by decide +kernel) (by decide +kernel)
theorem k407 : (Cond.instanceMethod ({ cls := "PageSkeleton$Row", name := "empty", desc := "()V" } : MethodName)) ∈ wsG := wsG_at 407 (by decide +kernel) (by decide +kernel)
theorem k408 : (Cond.selects "PageSkeleton$Row" ({ cls := "PageSkeleton$Row", name := "empty", desc := "()V" } : MethodName) ({ cls := "PageSkeleton$Row", name := "empty", desc := "()V" } : MethodName)) ∈ wsG := wsG_at 408 (by decide +kernel) (by decide +kernel)
theorem k409 : (Cond.code ({ cls := "PageSkeleton$Row", name := "empty", desc := "()V" } : MethodName) prog_6_method_2_code (1 : Nat) (Option.none : Option Jvm.ClassFile.FieldType)) ∈ wsG := wsG_at 409 (by decide +kernel) (by decide +kernel)
theorem k414 : (Cond.methodLink "PageSkeleton$Row" (55 : Nat) ({ cls := "PageSkeleton$Row", name := "seal", desc := "()V" } : MethodName)) ∈ wsG := wsG_at 414 (by decide +kernel) (by decide +kernel)
theorem k415 : (Cond.instanceMethod ({ cls := "PageSkeleton$Row", name := "seal", desc := "()V" } : MethodName)) ∈ wsG := wsG_at 415 (by decide +kernel) (by decide +kernel)
theorem k416 : (Cond.selects "PageSkeleton$Row" ({ cls := "PageSkeleton$Row", name := "seal", desc := "()V" } : MethodName) ({ cls := "PageSkeleton$Row", name := "seal", desc := "()V" } : MethodName)) ∈ wsG := wsG_at 416 (by decide +kernel) (by decide +kernel)
theorem k417 : (Cond.code ({ cls := "PageSkeleton$Row", name := "seal", desc := "()V" } : MethodName) prog_6_method_7_code (5 : Nat) (Option.none : Option Jvm.ClassFile.FieldType)) ∈ wsG := wsG_at 417 (by decide +kernel) (by decide +kernel)
theorem k424 : (Cond.methodLink "PageSkeleton" (313 : Nat) ({ cls := "PageSkeleton$Tidier", name := "tidyAll", desc := "(LPageSkeleton$Row;)I" } : MethodName)) ∈ wsG := wsG_at 424 (by decide +kernel) (by decide +kernel)
theorem k425 : (Cond.instanceMethod ({ cls := "PageSkeleton$Tidier", name := "tidyAll", desc := "(LPageSkeleton$Row;)I" } : MethodName)) ∈ wsG := wsG_at 425 (by decide +kernel) (by decide +kernel)
theorem k426 : (Cond.selects "PageSkeleton$Tidier" ({ cls := "PageSkeleton$Tidier", name := "tidyAll", desc := "(LPageSkeleton$Row;)I" } : MethodName) ({ cls := "PageSkeleton$Tidier", name := "tidyAll", desc := "(LPageSkeleton$Row;)I" } : MethodName)) ∈ wsG := wsG_at 426 (by decide +kernel) (by decide +kernel)
theorem k427 : (Cond.code ({ cls := "PageSkeleton$Tidier", name := "tidyAll", desc := "(LPageSkeleton$Row;)I" } : MethodName) prog_8_method_2_code (6 : Nat) (Option.some FieldType.int)) ∈ wsG := wsG_at 427 (by decide +kernel) (by decide +kernel)
theorem k428 : (Cond.constant "PageSkeleton$Tidier" (31 : Nat) (1000000 : Int32)) ∈ wsG := wsG_at 428 (by decide +kernel) (by decide +kernel)
theorem k429 : (Cond.methodLink "PageSkeleton$Tidier" (43 : Nat) ({ cls := "PageSkeleton$Tidier", name := "tidyRange", desc := "(LPageSkeleton$Row;II)I" } : MethodName)) ∈ wsG := wsG_at 429 (by decide +kernel) (by decide +kernel)
theorem k431 : (Cond.instanceMethod ({ cls := "PageSkeleton$Tidier", name := "tidyRange", desc := "(LPageSkeleton$Row;II)I" } : MethodName)) ∈ wsG := wsG_at 431 (by decide +kernel) (by decide +kernel)
theorem k432 : (Cond.code ({ cls := "PageSkeleton$Tidier", name := "tidyRange", desc := "(LPageSkeleton$Row;II)I" } : MethodName) prog_8_method_3_code (9 : Nat) (Option.some FieldType.int)) ∈ wsG := wsG_at 432 (by decide +kernel) (by decide +kernel)
theorem k433 : (Cond.methodLink "PageSkeleton$Tidier" (47 : Nat) ({ cls := "PageSkeleton$Tidier", name := "joinTwins", desc := "(LPageSkeleton$Row;II)Z" } : MethodName)) ∈ wsG := wsG_at 433 (by decide +kernel) (by decide +kernel)
theorem k435 : (Cond.instanceMethod ({ cls := "PageSkeleton$Tidier", name := "joinTwins", desc := "(LPageSkeleton$Row;II)Z" } : MethodName)) ∈ wsG := wsG_at 435 (by decide +kernel) (by decide +kernel)
theorem k436 : (Cond.code ({ cls := "PageSkeleton$Tidier", name := "joinTwins", desc := "(LPageSkeleton$Row;II)Z" } : MethodName) prog_8_method_4_code (7 : Nat) (Option.some FieldType.boolean)) ∈ wsG := wsG_at 436 (by decide +kernel) (by decide +kernel)
theorem k468 : (Cond.methodLink "PageSkeleton$Tidier" (51 : Nat) ({ cls := "PageSkeleton$Tidier", name := "joinAhead", desc := "(LPageSkeleton$Row;II)Z" } : MethodName)) ∈ wsG := wsG_at 468 (by decide +kernel) (by decide +kernel)
theorem k470 : (Cond.instanceMethod ({ cls := "PageSkeleton$Tidier", name := "joinAhead", desc := "(LPageSkeleton$Row;II)Z" } : MethodName)) ∈ wsG := wsG_at 470 (by decide +kernel) (by decide +kernel)
theorem k471 : (Cond.code ({ cls := "PageSkeleton$Tidier", name := "joinAhead", desc := "(LPageSkeleton$Row;II)Z" } : MethodName) prog_8_method_5_code (6 : Nat) (Option.some FieldType.boolean)) ∈ wsG := wsG_at 471 (by decide +kernel) (by decide +kernel)
theorem k472 : (Cond.methodLink "PageSkeleton$Tidier" (54 : Nat) ({ cls := "PageSkeleton$Tidier", name := "joinBehind", desc := "(LPageSkeleton$Row;II)Z" } : MethodName)) ∈ wsG := wsG_at 472 (by decide +kernel) (by decide +kernel)
theorem k474 : (Cond.instanceMethod ({ cls := "PageSkeleton$Tidier", name := "joinBehind", desc := "(LPageSkeleton$Row;II)Z" } : MethodName)) ∈ wsG := wsG_at 474 (by decide +kernel) (by decide +kernel)
theorem k475 : (Cond.code ({ cls := "PageSkeleton$Tidier", name := "joinBehind", desc := "(LPageSkeleton$Row;II)Z" } : MethodName) prog_8_method_6_code (7 : Nat) (Option.some FieldType.boolean)) ∈ wsG := wsG_at 475 (by decide +kernel) (by decide +kernel)
theorem k476 : (Cond.methodLink "PageSkeleton$Tidier" (57 : Nat) ({ cls := "PageSkeleton$Tidier", name := "foldOnce", desc := "(LPageSkeleton$Row;II)Z" } : MethodName)) ∈ wsG := wsG_at 476 (by decide +kernel) (by decide +kernel)
theorem k477 : (Cond.instanceMethod ({ cls := "PageSkeleton$Tidier", name := "foldOnce", desc := "(LPageSkeleton$Row;II)Z" } : MethodName)) ∈ wsG := wsG_at 477 (by decide +kernel) (by decide +kernel)
theorem k478 : (Cond.selects "PageSkeleton$Tidier" ({ cls := "PageSkeleton$Tidier", name := "foldOnce", desc := "(LPageSkeleton$Row;II)Z" } : MethodName) ({ cls := "PageSkeleton$Tidier", name := "foldOnce", desc := "(LPageSkeleton$Row;II)Z" } : MethodName)) ∈ wsG := wsG_at 478 (by decide +kernel) (by decide +kernel)
theorem k479 : (Cond.code ({ cls := "PageSkeleton$Tidier", name := "foldOnce", desc := "(LPageSkeleton$Row;II)Z" } : MethodName) prog_8_method_8_code (8 : Nat) (Option.some FieldType.boolean)) ∈ wsG := wsG_at 479 (by decide +kernel) (by decide +kernel)
theorem k480 : (Cond.methodLink "PageSkeleton$Tidier" (89 : Nat) ({ cls := "PageSkeleton$Tidier", name := "findItems", desc := "(LPageSkeleton$Row;II)V" } : MethodName)) ∈ wsG := wsG_at 480 (by decide +kernel) (by decide +kernel)
theorem k482 : (Cond.instanceMethod ({ cls := "PageSkeleton$Tidier", name := "findItems", desc := "(LPageSkeleton$Row;II)V" } : MethodName)) ∈ wsG := wsG_at 482 (by decide +kernel) (by decide +kernel)
theorem k483 : (Cond.code ({ cls := "PageSkeleton$Tidier", name := "findItems", desc := "(LPageSkeleton$Row;II)V" } : MethodName) prog_8_method_9_code (6 : Nat) (Option.none : Option Jvm.ClassFile.FieldType)) ∈ wsG := wsG_at 483 (by decide +kernel) (by decide +kernel)
theorem k513 : (Cond.methodLink "PageSkeleton" (136 : Nat) ({ cls := "PageSkeleton$Row", name := "size", desc := "()I" } : MethodName)) ∈ wsG := wsG_at 513 (by decide +kernel) (by decide +kernel)
theorem k514 : (Cond.instanceMethod ({ cls := "PageSkeleton$Row", name := "size", desc := "()I" } : MethodName)) ∈ wsG := wsG_at 514 (by decide +kernel) (by decide +kernel)
theorem k515 : (Cond.selects "PageSkeleton$Row" ({ cls := "PageSkeleton$Row", name := "size", desc := "()I" } : MethodName) ({ cls := "PageSkeleton$Row", name := "size", desc := "()I" } : MethodName)) ∈ wsG := wsG_at 515 (by decide +kernel) (by decide +kernel)
theorem k516 : (Cond.code ({ cls := "PageSkeleton$Row", name := "size", desc := "()I" } : MethodName) prog_6_method_8_code (1 : Nat) (Option.some FieldType.int)) ∈ wsG := wsG_at 516 (by decide +kernel) (by decide +kernel)
theorem k521 : (Cond.methodLink "PageSkeleton" (168 : Nat) ({ cls := "PageSkeleton$Row", name := "empty", desc := "()V" } : MethodName)) ∈ wsG := wsG_at 521 (by decide +kernel) (by decide +kernel)
theorem k522 : (Cond.methodLink "PageSkeleton" (171 : Nat) ({ cls := "PageSkeleton$Row", name := "seal", desc := "()V" } : MethodName)) ∈ wsG := wsG_at 522 (by decide +kernel) (by decide +kernel)
theorem k527 : (Cond.methodLink "PageSkeleton" (264 : Nat) ({ cls := "PageSkeleton$Row", name := "countLeaves", desc := "(ZZZ)I" } : MethodName)) ∈ wsG := wsG_at 527 (by decide +kernel) (by decide +kernel)
theorem k528 : (Cond.instanceMethod ({ cls := "PageSkeleton$Row", name := "countLeaves", desc := "(ZZZ)I" } : MethodName)) ∈ wsG := wsG_at 528 (by decide +kernel) (by decide +kernel)
theorem k529 : (Cond.selects "PageSkeleton$Row" ({ cls := "PageSkeleton$Row", name := "countLeaves", desc := "(ZZZ)I" } : MethodName) ({ cls := "PageSkeleton$Row", name := "countLeaves", desc := "(ZZZ)I" } : MethodName)) ∈ wsG := wsG_at 529 (by decide +kernel) (by decide +kernel)
theorem k530 : (Cond.code ({ cls := "PageSkeleton$Row", name := "countLeaves", desc := "(ZZZ)I" } : MethodName) prog_6_method_20_code (8 : Nat) (Option.some FieldType.int)) ∈ wsG := wsG_at 530 (by decide +kernel) (by decide +kernel)
theorem k682 : (Cond.methodLink "PageSkeleton" (109 : Nat) ({ cls := "PageSkeleton$Texts", name := "readText", desc := "(I)I" } : MethodName)) ∈ wsG := wsG_at 682 (by decide +kernel) (by decide +kernel)
theorem k683 : (Cond.instanceMethod ({ cls := "PageSkeleton$Texts", name := "readText", desc := "(I)I" } : MethodName)) ∈ wsG := wsG_at 683 (by decide +kernel) (by decide +kernel)
theorem k684 : (Cond.selects "PageSkeleton$Texts" ({ cls := "PageSkeleton$Texts", name := "readText", desc := "(I)I" } : MethodName) ({ cls := "PageSkeleton$Texts", name := "readText", desc := "(I)I" } : MethodName)) ∈ wsG := wsG_at 684 (by decide +kernel) (by decide +kernel)
theorem k685 : (Cond.code ({ cls := "PageSkeleton$Texts", name := "readText", desc := "(I)I" } : MethodName) prog_7_method_3_code (5 : Nat) (Option.some FieldType.int)) ∈ wsG := wsG_at 685 (by decide +kernel) (by decide +kernel)
theorem k702 : (Cond.methodLink "PageSkeleton$Texts" (41 : Nat) ({ cls := "PageSkeleton$Texts", name := "faulty", desc := "(II)I" } : MethodName)) ∈ wsG := wsG_at 702 (by decide +kernel) (by decide +kernel)
theorem k704 : (Cond.instanceMethod ({ cls := "PageSkeleton$Texts", name := "faulty", desc := "(II)I" } : MethodName)) ∈ wsG := wsG_at 704 (by decide +kernel) (by decide +kernel)
theorem k705 : (Cond.code ({ cls := "PageSkeleton$Texts", name := "faulty", desc := "(II)I" } : MethodName) prog_7_method_9_code (3 : Nat) (Option.some FieldType.int)) ∈ wsG := wsG_at 705 (by decide +kernel) (by decide +kernel)
theorem k844 : (Cond.methodLink "PageSkeleton" (158 : Nat) ({ cls := "PageSkeleton", name := "countFitting", desc := "(LPageSkeleton$Row;)I" } : MethodName)) ∈ wsG := wsG_at 844 (by decide +kernel) (by decide +kernel)
theorem k846 : (Cond.instanceMethod ({ cls := "PageSkeleton", name := "countFitting", desc := "(LPageSkeleton$Row;)I" } : MethodName)) ∈ wsG := wsG_at 846 (by decide +kernel) (by decide +kernel)
theorem k847 : (Cond.code ({ cls := "PageSkeleton", name := "countFitting", desc := "(LPageSkeleton$Row;)I" } : MethodName) prog_1_method_50_code (4 : Nat) (Option.some FieldType.int)) ∈ wsG := wsG_at 847 (by decide +kernel) (by decide +kernel)
theorem k856 : (Cond.methodLink "PageSkeleton" (177 : Nat) ({ cls := "PageSkeleton$Row", name := "countOf", desc := "(I)I" } : MethodName)) ∈ wsG := wsG_at 856 (by decide +kernel) (by decide +kernel)
theorem k857 : (Cond.instanceMethod ({ cls := "PageSkeleton$Row", name := "countOf", desc := "(I)I" } : MethodName)) ∈ wsG := wsG_at 857 (by decide +kernel) (by decide +kernel)
theorem k858 : (Cond.selects "PageSkeleton$Row" ({ cls := "PageSkeleton$Row", name := "countOf", desc := "(I)I" } : MethodName) ({ cls := "PageSkeleton$Row", name := "countOf", desc := "(I)I" } : MethodName)) ∈ wsG := wsG_at 858 (by decide +kernel) (by decide +kernel)
theorem k859 : (Cond.code ({ cls := "PageSkeleton$Row", name := "countOf", desc := "(I)I" } : MethodName) prog_6_method_13_code (4 : Nat) (Option.some FieldType.int)) ∈ wsG := wsG_at 859 (by decide +kernel) (by decide +kernel)
theorem ks_yX6_findItems : Cond.selects RX6 yX6_findItems yX6_findItems ∈ wsG := wsG_mem (by decide +kernel) (by decide +kernel)
theorem ks_yX6_joinTwins : Cond.selects RX6 yX6_joinTwins yX6_joinTwins ∈ wsG := wsG_mem (by decide +kernel) (by decide +kernel)
theorem ks_yX6_joinAhead : Cond.selects RX6 yX6_joinAhead yX6_joinAhead ∈ wsG := wsG_mem (by decide +kernel) (by decide +kernel)
theorem ks_yX6_joinBehind : Cond.selects RX6 yX6_joinBehind yX6_joinBehind ∈ wsG := wsG_mem (by decide +kernel) (by decide +kernel)
theorem ks_yX6_tidyRange : Cond.selects RX6 yX6_tidyRange yX6_tidyRange ∈ wsG := wsG_mem (by decide +kernel) (by decide +kernel)
theorem ks_yX9_tryToTidy : Cond.selects RX9 yX9_tryToTidy yX9_tryToTidy ∈ wsG := wsG_mem (by decide +kernel) (by decide +kernel)
theorem ks_yX9_countFitting : Cond.selects RX9 yX9_countFitting yX9_countFitting ∈ wsG := wsG_mem (by decide +kernel) (by decide +kernel)
theorem ks_yX5_faulty : Cond.selects RX5 yX5_faulty yX5_faulty ∈ wsG := wsG_mem (by decide +kernel) (by decide +kernel)
theorem dX4_size_0 : decode cX4_size 0 = .ok (.aload_n 0, 1) := by decide +kernel
theorem dX4_size_1 : decode cX4_size 1 = .ok (.getfield 35, 3) := by decide +kernel
theorem dX4_size_4 : decode cX4_size 4 = .ok (.aload_n 0, 1) := by decide +kernel
theorem dX4_size_5 : decode cX4_size 5 = .ok (.getfield 9, 3) := by decide +kernel
theorem dX4_size_8 : decode cX4_size 8 = .ok (.iaload, 1) := by decide +kernel
theorem dX4_size_9 : decode cX4_size 9 = .ok (.ireturn, 1) := by decide +kernel
theorem dX4_empty_0 : decode cX4_empty 0 = .ok (.aload_n 0, 1) := by decide +kernel
theorem dX4_empty_1 : decode cX4_empty 1 = .ok (.iconst 0, 1) := by decide +kernel
theorem dX4_empty_2 : decode cX4_empty 2 = .ok (.putfield 9, 3) := by decide +kernel
theorem dX4_empty_5 : decode cX4_empty 5 = .ok (.aload_n 0, 1) := by decide +kernel
theorem dX4_empty_6 : decode cX4_empty 6 = .ok (.iconst 0, 1) := by decide +kernel
theorem dX4_empty_7 : decode cX4_empty 7 = .ok (.putfield 18, 3) := by decide +kernel
theorem dX4_empty_10 : decode cX4_empty 10 = .ok (.return_, 1) := by decide +kernel
theorem dX4_seal_0 : decode cX4_seal 0 = .ok (.aload_n 0, 1) := by decide +kernel
theorem dX4_seal_1 : decode cX4_seal 1 = .ok (.aload_n 0, 1) := by decide +kernel
theorem dX4_seal_2 : decode cX4_seal 2 = .ok (.getfield 18, 3) := by decide +kernel
theorem dX4_seal_5 : decode cX4_seal 5 = .ok (.ifCond .eq 7, 3) := by decide +kernel
theorem dX4_seal_12 : decode cX4_seal 12 = .ok (.aload_n 0, 1) := by decide +kernel
theorem dX4_seal_13 : decode cX4_seal 13 = .ok (.getfield 9, 3) := by decide +kernel
theorem dX4_seal_16 : decode cX4_seal 16 = .ok (.putfield 9, 3) := by decide +kernel
theorem dX4_seal_19 : decode cX4_seal 19 = .ok (.aload_n 0, 1) := by decide +kernel
theorem dX4_seal_20 : decode cX4_seal 20 = .ok (.iconst 0, 1) := by decide +kernel
theorem dX4_seal_21 : decode cX4_seal 21 = .ok (.putfield 15, 3) := by decide +kernel
theorem dX4_seal_24 : decode cX4_seal 24 = .ok (.aload_n 0, 1) := by decide +kernel
theorem dX4_seal_25 : decode cX4_seal 25 = .ok (.getfield 35, 3) := by decide +kernel
theorem dX4_seal_28 : decode cX4_seal 28 = .ok (.iconst 0, 1) := by decide +kernel
theorem dX4_seal_29 : decode cX4_seal 29 = .ok (.iconst 0, 1) := by decide +kernel
theorem dX4_seal_30 : decode cX4_seal 30 = .ok (.iastore, 1) := by decide +kernel
theorem dX4_seal_31 : decode cX4_seal 31 = .ok (.iconst (-1), 1) := by decide +kernel
theorem dX4_seal_32 : decode cX4_seal 32 = .ok (.istore_n 1, 1) := by decide +kernel
theorem dX4_seal_33 : decode cX4_seal 33 = .ok (.iconst 0, 1) := by decide +kernel
theorem dX4_seal_34 : decode cX4_seal 34 = .ok (.istore_n 2, 1) := by decide +kernel
theorem dX4_seal_35 : decode cX4_seal 35 = .ok (.iload_n 2, 1) := by decide +kernel
theorem dX4_seal_36 : decode cX4_seal 36 = .ok (.aload_n 0, 1) := by decide +kernel
theorem dX4_seal_37 : decode cX4_seal 37 = .ok (.getfield 9, 3) := by decide +kernel
theorem dX4_seal_40 : decode cX4_seal 40 = .ok (.if_icmp .ge 135, 3) := by decide +kernel
theorem dX4_seal_175 : decode cX4_seal 175 = .ok (.return_, 1) := by decide +kernel
theorem dX4_load_0 : decode cX4_load 0 = .ok (.aload_n 0, 1) := by decide +kernel
theorem dX4_load_1 : decode cX4_load 1 = .ok (.invokevirtual 52, 3) := by decide +kernel
theorem dX4_load_4 : decode cX4_load 4 = .ok (.iconst 0, 1) := by decide +kernel
theorem dX4_load_5 : decode cX4_load 5 = .ok (.istore_n 3, 1) := by decide +kernel
theorem dX4_load_6 : decode cX4_load 6 = .ok (.iload_n 3, 1) := by decide +kernel
theorem dX4_load_7 : decode cX4_load 7 = .ok (.iload_n 2, 1) := by decide +kernel
theorem dX4_load_8 : decode cX4_load 8 = .ok (.if_icmp .ge 22, 3) := by decide +kernel
theorem dX4_load_30 : decode cX4_load 30 = .ok (.aload_n 0, 1) := by decide +kernel
theorem dX4_load_31 : decode cX4_load 31 = .ok (.invokevirtual 55, 3) := by decide +kernel
theorem dX4_load_34 : decode cX4_load 34 = .ok (.return_, 1) := by decide +kernel
theorem dX4_take_0 : decode cX4_take 0 = .ok (.aload_n 0, 1) := by decide +kernel
theorem dX4_take_1 : decode cX4_take 1 = .ok (.aload_n 1, 1) := by decide +kernel
theorem dX4_take_2 : decode cX4_take 2 = .ok (.getfield 28, 3) := by decide +kernel
theorem dX4_take_5 : decode cX4_take 5 = .ok (.aload_n 1, 1) := by decide +kernel
theorem dX4_take_6 : decode cX4_take 6 = .ok (.getfield 9, 3) := by decide +kernel
theorem dX4_take_9 : decode cX4_take 9 = .ok (.invokevirtual 48, 3) := by decide +kernel
theorem dX4_take_12 : decode cX4_take 12 = .ok (.return_, 1) := by decide +kernel
theorem dX4_countOf_0 : decode cX4_countOf 0 = .ok (.iconst 0, 1) := by decide +kernel
theorem dX4_countOf_1 : decode cX4_countOf 1 = .ok (.istore_n 2, 1) := by decide +kernel
theorem dX4_countOf_2 : decode cX4_countOf 2 = .ok (.iconst 0, 1) := by decide +kernel
theorem dX4_countOf_3 : decode cX4_countOf 3 = .ok (.istore_n 3, 1) := by decide +kernel
theorem dX4_countOf_4 : decode cX4_countOf 4 = .ok (.iload_n 3, 1) := by decide +kernel
theorem dX4_countOf_5 : decode cX4_countOf 5 = .ok (.aload_n 0, 1) := by decide +kernel
theorem dX4_countOf_6 : decode cX4_countOf 6 = .ok (.getfield 9, 3) := by decide +kernel
theorem dX4_countOf_9 : decode cX4_countOf 9 = .ok (.if_icmp .ge 22, 3) := by decide +kernel
theorem dX4_countOf_31 : decode cX4_countOf 31 = .ok (.iload_n 2, 1) := by decide +kernel
theorem dX4_countOf_32 : decode cX4_countOf 32 = .ok (.ireturn, 1) := by decide +kernel
theorem dX4_countLeaves_0 : decode cX4_countLeaves 0 = .ok (.iconst 0, 1) := by decide +kernel
theorem dX4_countLeaves_1 : decode cX4_countLeaves 1 = .ok (.istore 4, 2) := by decide +kernel
theorem dX4_countLeaves_3 : decode cX4_countLeaves 3 = .ok (.iconst 0, 1) := by decide +kernel
theorem dX4_countLeaves_4 : decode cX4_countLeaves 4 = .ok (.istore 5, 2) := by decide +kernel
theorem dX4_countLeaves_6 : decode cX4_countLeaves 6 = .ok (.iconst 0, 1) := by decide +kernel
theorem dX4_countLeaves_7 : decode cX4_countLeaves 7 = .ok (.istore 6, 2) := by decide +kernel
theorem dX4_countLeaves_9 : decode cX4_countLeaves 9 = .ok (.iload 6, 2) := by decide +kernel
theorem dX4_countLeaves_11 : decode cX4_countLeaves 11 = .ok (.aload_n 0, 1) := by decide +kernel
theorem dX4_countLeaves_12 : decode cX4_countLeaves 12 = .ok (.getfield 9, 3) := by decide +kernel
theorem dX4_countLeaves_15 : decode cX4_countLeaves 15 = .ok (.if_icmp .ge 124, 3) := by decide +kernel
theorem dX4_countLeaves_139 : decode cX4_countLeaves 139 = .ok (.iload 4, 2) := by decide +kernel
theorem dX4_countLeaves_141 : decode cX4_countLeaves 141 = .ok (.ireturn, 1) := by decide +kernel
theorem dX6_joinTwins_0 : decode cX6_joinTwins 0 = .ok (.iload_n 2, 1) := by decide +kernel
theorem dX6_joinTwins_1 : decode cX6_joinTwins 1 = .ok (.istore 4, 2) := by decide +kernel
theorem dX6_joinTwins_3 : decode cX6_joinTwins 3 = .ok (.iload 4, 2) := by decide +kernel
theorem dX6_joinTwins_5 : decode cX6_joinTwins 5 = .ok (.iload_n 3, 1) := by decide +kernel
theorem dX6_joinTwins_6 : decode cX6_joinTwins 6 = .ok (.if_icmp .ge 108, 3) := by decide +kernel
theorem dX6_joinTwins_114 : decode cX6_joinTwins 114 = .ok (.iconst 0, 1) := by decide +kernel
theorem dX6_joinTwins_115 : decode cX6_joinTwins 115 = .ok (.ireturn, 1) := by decide +kernel
theorem dX6_joinAhead_0 : decode cX6_joinAhead 0 = .ok (.iload_n 2, 1) := by decide +kernel
theorem dX6_joinAhead_1 : decode cX6_joinAhead 1 = .ok (.istore 4, 2) := by decide +kernel
theorem dX6_joinAhead_3 : decode cX6_joinAhead 3 = .ok (.iload 4, 2) := by decide +kernel
theorem dX6_joinAhead_5 : decode cX6_joinAhead 5 = .ok (.iload_n 3, 1) := by decide +kernel
theorem dX6_joinAhead_6 : decode cX6_joinAhead 6 = .ok (.if_icmp .ge 93, 3) := by decide +kernel
theorem dX6_joinAhead_99 : decode cX6_joinAhead 99 = .ok (.iconst 0, 1) := by decide +kernel
theorem dX6_joinAhead_100 : decode cX6_joinAhead 100 = .ok (.ireturn, 1) := by decide +kernel
theorem dX6_joinBehind_0 : decode cX6_joinBehind 0 = .ok (.iload_n 2, 1) := by decide +kernel
theorem dX6_joinBehind_1 : decode cX6_joinBehind 1 = .ok (.istore 4, 2) := by decide +kernel
theorem dX6_joinBehind_3 : decode cX6_joinBehind 3 = .ok (.iload 4, 2) := by decide +kernel
theorem dX6_joinBehind_5 : decode cX6_joinBehind 5 = .ok (.iload_n 3, 1) := by decide +kernel
theorem dX6_joinBehind_6 : decode cX6_joinBehind 6 = .ok (.if_icmp .ge 98, 3) := by decide +kernel
theorem dX6_joinBehind_104 : decode cX6_joinBehind 104 = .ok (.iconst 0, 1) := by decide +kernel
theorem dX6_joinBehind_105 : decode cX6_joinBehind 105 = .ok (.ireturn, 1) := by decide +kernel
theorem dX6_findItems_0 : decode cX6_findItems 0 = .ok (.aload_n 0, 1) := by decide +kernel
theorem dX6_findItems_1 : decode cX6_findItems 1 = .ok (.iconst 0, 1) := by decide +kernel
theorem dX6_findItems_2 : decode cX6_findItems 2 = .ok (.putfield 18, 3) := by decide +kernel
theorem dX6_findItems_5 : decode cX6_findItems 5 = .ok (.aload_n 0, 1) := by decide +kernel
theorem dX6_findItems_6 : decode cX6_findItems 6 = .ok (.getfield 15, 3) := by decide +kernel
theorem dX6_findItems_9 : decode cX6_findItems 9 = .ok (.iconst 0, 1) := by decide +kernel
theorem dX6_findItems_10 : decode cX6_findItems 10 = .ok (.iconst 0, 1) := by decide +kernel
theorem dX6_findItems_11 : decode cX6_findItems 11 = .ok (.iastore, 1) := by decide +kernel
theorem dX6_findItems_12 : decode cX6_findItems 12 = .ok (.iload_n 2, 1) := by decide +kernel
theorem dX6_findItems_13 : decode cX6_findItems 13 = .ok (.istore 4, 2) := by decide +kernel
theorem dX6_findItems_15 : decode cX6_findItems 15 = .ok (.iload 4, 2) := by decide +kernel
theorem dX6_findItems_17 : decode cX6_findItems 17 = .ok (.iload_n 3, 1) := by decide +kernel
theorem dX6_findItems_18 : decode cX6_findItems 18 = .ok (.if_icmp .ge 116, 3) := by decide +kernel
theorem dX6_findItems_134 : decode cX6_findItems 134 = .ok (.aload_n 0, 1) := by decide +kernel
theorem dX6_findItems_135 : decode cX6_findItems 135 = .ok (.getfield 9, 3) := by decide +kernel
theorem dX6_findItems_138 : decode cX6_findItems 138 = .ok (.aload_n 0, 1) := by decide +kernel
theorem dX6_findItems_139 : decode cX6_findItems 139 = .ok (.getfield 18, 3) := by decide +kernel
theorem dX6_findItems_142 : decode cX6_findItems 142 = .ok (.iload_n 3, 1) := by decide +kernel
theorem dX6_findItems_143 : decode cX6_findItems 143 = .ok (.iastore, 1) := by decide +kernel
theorem dX6_findItems_144 : decode cX6_findItems 144 = .ok (.return_, 1) := by decide +kernel
theorem dX6_foldOnce_0 : decode cX6_foldOnce 0 = .ok (.aload_n 0, 1) := by decide +kernel
theorem dX6_foldOnce_1 : decode cX6_foldOnce 1 = .ok (.aload_n 1, 1) := by decide +kernel
theorem dX6_foldOnce_2 : decode cX6_foldOnce 2 = .ok (.iload_n 2, 1) := by decide +kernel
theorem dX6_foldOnce_3 : decode cX6_foldOnce 3 = .ok (.iload_n 3, 1) := by decide +kernel
theorem dX6_foldOnce_4 : decode cX6_foldOnce 4 = .ok (.invokevirtual 89, 3) := by decide +kernel
theorem dX6_foldOnce_7 : decode cX6_foldOnce 7 = .ok (.iconst 1, 1) := by decide +kernel
theorem dX6_foldOnce_8 : decode cX6_foldOnce 8 = .ok (.istore 4, 2) := by decide +kernel
theorem dX6_foldOnce_10 : decode cX6_foldOnce 10 = .ok (.iload 4, 2) := by decide +kernel
theorem dX6_foldOnce_12 : decode cX6_foldOnce 12 = .ok (.iconst 2, 1) := by decide +kernel
theorem dX6_foldOnce_13 : decode cX6_foldOnce 13 = .ok (.imul, 1) := by decide +kernel
theorem dX6_foldOnce_14 : decode cX6_foldOnce 14 = .ok (.aload_n 0, 1) := by decide +kernel
theorem dX6_foldOnce_15 : decode cX6_foldOnce 15 = .ok (.getfield 18, 3) := by decide +kernel
theorem dX6_foldOnce_18 : decode cX6_foldOnce 18 = .ok (.if_icmp .gt 132, 3) := by decide +kernel
theorem dX6_foldOnce_150 : decode cX6_foldOnce 150 = .ok (.iconst 0, 1) := by decide +kernel
theorem dX6_foldOnce_151 : decode cX6_foldOnce 151 = .ok (.ireturn, 1) := by decide +kernel
theorem dX6_tidyRange_0 : decode cX6_tidyRange 0 = .ok (.aload_n 1, 1) := by decide +kernel
theorem dX6_tidyRange_1 : decode cX6_tidyRange 1 = .ok (.getfield 32, 3) := by decide +kernel
theorem dX6_tidyRange_4 : decode cX6_tidyRange 4 = .ok (.iload_n 3, 1) := by decide +kernel
theorem dX6_tidyRange_5 : decode cX6_tidyRange 5 = .ok (.isub, 1) := by decide +kernel
theorem dX6_tidyRange_6 : decode cX6_tidyRange 6 = .ok (.istore 4, 2) := by decide +kernel
theorem dX6_tidyRange_8 : decode cX6_tidyRange 8 = .ok (.iconst 0, 1) := by decide +kernel
theorem dX6_tidyRange_9 : decode cX6_tidyRange 9 = .ok (.istore 5, 2) := by decide +kernel
theorem dX6_tidyRange_11 : decode cX6_tidyRange 11 = .ok (.iconst 1, 1) := by decide +kernel
theorem dX6_tidyRange_12 : decode cX6_tidyRange 12 = .ok (.istore 6, 2) := by decide +kernel
theorem dX6_tidyRange_14 : decode cX6_tidyRange 14 = .ok (.iconst 0, 1) := by decide +kernel
theorem dX6_tidyRange_15 : decode cX6_tidyRange 15 = .ok (.istore 7, 2) := by decide +kernel
theorem dX6_tidyRange_17 : decode cX6_tidyRange 17 = .ok (.iload 7, 2) := by decide +kernel
theorem dX6_tidyRange_19 : decode cX6_tidyRange 19 = .ok (.ldc 31, 2) := by decide +kernel
theorem dX6_tidyRange_21 : decode cX6_tidyRange 21 = .ok (.if_icmp .ge 89, 3) := by decide +kernel
theorem dX6_tidyRange_24 : decode cX6_tidyRange 24 = .ok (.iload 6, 2) := by decide +kernel
theorem dX6_tidyRange_26 : decode cX6_tidyRange 26 = .ok (.ifCond .eq 84, 3) := by decide +kernel
theorem dX6_tidyRange_29 : decode cX6_tidyRange 29 = .ok (.aload_n 1, 1) := by decide +kernel
theorem dX6_tidyRange_30 : decode cX6_tidyRange 30 = .ok (.getfield 32, 3) := by decide +kernel
theorem dX6_tidyRange_33 : decode cX6_tidyRange 33 = .ok (.iload 4, 2) := by decide +kernel
theorem dX6_tidyRange_35 : decode cX6_tidyRange 35 = .ok (.isub, 1) := by decide +kernel
theorem dX6_tidyRange_36 : decode cX6_tidyRange 36 = .ok (.istore 8, 2) := by decide +kernel
theorem dX6_tidyRange_38 : decode cX6_tidyRange 38 = .ok (.aload_n 0, 1) := by decide +kernel
theorem dX6_tidyRange_39 : decode cX6_tidyRange 39 = .ok (.aload_n 1, 1) := by decide +kernel
theorem dX6_tidyRange_40 : decode cX6_tidyRange 40 = .ok (.iload_n 2, 1) := by decide +kernel
theorem dX6_tidyRange_41 : decode cX6_tidyRange 41 = .ok (.iload 8, 2) := by decide +kernel
theorem dX6_tidyRange_43 : decode cX6_tidyRange 43 = .ok (.invokevirtual 47, 3) := by decide +kernel
theorem dX6_tidyRange_46 : decode cX6_tidyRange 46 = .ok (.ifCond .ne 36, 3) := by decide +kernel
theorem dX6_tidyRange_49 : decode cX6_tidyRange 49 = .ok (.aload_n 0, 1) := by decide +kernel
theorem dX6_tidyRange_50 : decode cX6_tidyRange 50 = .ok (.aload_n 1, 1) := by decide +kernel
theorem dX6_tidyRange_51 : decode cX6_tidyRange 51 = .ok (.iload_n 2, 1) := by decide +kernel
theorem dX6_tidyRange_52 : decode cX6_tidyRange 52 = .ok (.iload 8, 2) := by decide +kernel
theorem dX6_tidyRange_54 : decode cX6_tidyRange 54 = .ok (.invokevirtual 51, 3) := by decide +kernel
theorem dX6_tidyRange_57 : decode cX6_tidyRange 57 = .ok (.ifCond .ne 25, 3) := by decide +kernel
theorem dX6_tidyRange_60 : decode cX6_tidyRange 60 = .ok (.aload_n 0, 1) := by decide +kernel
theorem dX6_tidyRange_61 : decode cX6_tidyRange 61 = .ok (.aload_n 1, 1) := by decide +kernel
theorem dX6_tidyRange_62 : decode cX6_tidyRange 62 = .ok (.iload_n 2, 1) := by decide +kernel
theorem dX6_tidyRange_63 : decode cX6_tidyRange 63 = .ok (.iload 8, 2) := by decide +kernel
theorem dX6_tidyRange_65 : decode cX6_tidyRange 65 = .ok (.invokevirtual 54, 3) := by decide +kernel
theorem dX6_tidyRange_68 : decode cX6_tidyRange 68 = .ok (.ifCond .ne 14, 3) := by decide +kernel
theorem dX6_tidyRange_71 : decode cX6_tidyRange 71 = .ok (.aload_n 0, 1) := by decide +kernel
theorem dX6_tidyRange_72 : decode cX6_tidyRange 72 = .ok (.aload_n 1, 1) := by decide +kernel
theorem dX6_tidyRange_73 : decode cX6_tidyRange 73 = .ok (.iload_n 2, 1) := by decide +kernel
theorem dX6_tidyRange_74 : decode cX6_tidyRange 74 = .ok (.iload 8, 2) := by decide +kernel
theorem dX6_tidyRange_76 : decode cX6_tidyRange 76 = .ok (.invokevirtual 57, 3) := by decide +kernel
theorem dX6_tidyRange_79 : decode cX6_tidyRange 79 = .ok (.ifCond .eq 7, 3) := by decide +kernel
theorem dX6_tidyRange_86 : decode cX6_tidyRange 86 = .ok (.iconst 0, 1) := by decide +kernel
theorem dX6_tidyRange_87 : decode cX6_tidyRange 87 = .ok (.istore 6, 2) := by decide +kernel
theorem dX6_tidyRange_89 : decode cX6_tidyRange 89 = .ok (.iload 5, 2) := by decide +kernel
theorem dX6_tidyRange_91 : decode cX6_tidyRange 91 = .ok (.iload 6, 2) := by decide +kernel
theorem dX6_tidyRange_93 : decode cX6_tidyRange 93 = .ok (.ifCond .eq 7, 3) := by decide +kernel
theorem dX6_tidyRange_100 : decode cX6_tidyRange 100 = .ok (.iconst 0, 1) := by decide +kernel
theorem dX6_tidyRange_101 : decode cX6_tidyRange 101 = .ok (.iadd, 1) := by decide +kernel
theorem dX6_tidyRange_102 : decode cX6_tidyRange 102 = .ok (.istore 5, 2) := by decide +kernel
theorem dX6_tidyRange_104 : decode cX6_tidyRange 104 = .ok (.iinc 7 1, 3) := by decide +kernel
theorem dX6_tidyRange_107 : decode cX6_tidyRange 107 = .ok (.goto (-90), 3) := by decide +kernel
theorem dX6_tidyRange_110 : decode cX6_tidyRange 110 = .ok (.iload 5, 2) := by decide +kernel
theorem dX6_tidyRange_112 : decode cX6_tidyRange 112 = .ok (.ireturn, 1) := by decide +kernel
theorem dX6_tidyAll_0 : decode cX6_tidyAll 0 = .ok (.iconst 0, 1) := by decide +kernel
theorem dX6_tidyAll_1 : decode cX6_tidyAll 1 = .ok (.istore_n 2, 1) := by decide +kernel
theorem dX6_tidyAll_2 : decode cX6_tidyAll 2 = .ok (.iconst 0, 1) := by decide +kernel
theorem dX6_tidyAll_3 : decode cX6_tidyAll 3 = .ok (.istore_n 3, 1) := by decide +kernel
theorem dX6_tidyAll_4 : decode cX6_tidyAll 4 = .ok (.iconst 0, 1) := by decide +kernel
theorem dX6_tidyAll_5 : decode cX6_tidyAll 5 = .ok (.istore 4, 2) := by decide +kernel
theorem dX6_tidyAll_7 : decode cX6_tidyAll 7 = .ok (.iload 4, 2) := by decide +kernel
theorem dX6_tidyAll_9 : decode cX6_tidyAll 9 = .ok (.ldc 31, 2) := by decide +kernel
theorem dX6_tidyAll_11 : decode cX6_tidyAll 11 = .ok (.if_icmp .ge 66, 3) := by decide +kernel
theorem dX6_tidyAll_14 : decode cX6_tidyAll 14 = .ok (.iload_n 3, 1) := by decide +kernel
theorem dX6_tidyAll_15 : decode cX6_tidyAll 15 = .ok (.aload_n 1, 1) := by decide +kernel
theorem dX6_tidyAll_16 : decode cX6_tidyAll 16 = .ok (.getfield 32, 3) := by decide +kernel
theorem dX6_tidyAll_19 : decode cX6_tidyAll 19 = .ok (.if_icmp .ge 58, 3) := by decide +kernel
theorem dX6_tidyAll_77 : decode cX6_tidyAll 77 = .ok (.iload_n 2, 1) := by decide +kernel
theorem dX6_tidyAll_78 : decode cX6_tidyAll 78 = .ok (.aload_n 0, 1) := by decide +kernel
theorem dX6_tidyAll_79 : decode cX6_tidyAll 79 = .ok (.aload_n 1, 1) := by decide +kernel
theorem dX6_tidyAll_80 : decode cX6_tidyAll 80 = .ok (.iconst 0, 1) := by decide +kernel
theorem dX6_tidyAll_81 : decode cX6_tidyAll 81 = .ok (.aload_n 1, 1) := by decide +kernel
theorem dX6_tidyAll_82 : decode cX6_tidyAll 82 = .ok (.getfield 32, 3) := by decide +kernel
theorem dX6_tidyAll_85 : decode cX6_tidyAll 85 = .ok (.invokevirtual 43, 3) := by decide +kernel
theorem dX6_tidyAll_88 : decode cX6_tidyAll 88 = .ok (.iadd, 1) := by decide +kernel
theorem dX6_tidyAll_89 : decode cX6_tidyAll 89 = .ok (.ireturn, 1) := by decide +kernel
theorem dX9_tryToTidy_0 : decode cX9_tryToTidy 0 = .ok (.aload_n 0, 1) := by decide +kernel
theorem dX9_tryToTidy_1 : decode cX9_tryToTidy 1 = .ok (.getfield 35, 3) := by decide +kernel
theorem dX9_tryToTidy_4 : decode cX9_tryToTidy 4 = .ok (.aload_n 0, 1) := by decide +kernel
theorem dX9_tryToTidy_5 : decode cX9_tryToTidy 5 = .ok (.getfield 31, 3) := by decide +kernel
theorem dX9_tryToTidy_8 : decode cX9_tryToTidy 8 = .ok (.invokevirtual 148, 3) := by decide +kernel
theorem dX9_tryToTidy_11 : decode cX9_tryToTidy 11 = .ok (.aload_n 0, 1) := by decide +kernel
theorem dX9_tryToTidy_12 : decode cX9_tryToTidy 12 = .ok (.getfield 54, 3) := by decide +kernel
theorem dX9_tryToTidy_15 : decode cX9_tryToTidy 15 = .ok (.aload_n 0, 1) := by decide +kernel
theorem dX9_tryToTidy_16 : decode cX9_tryToTidy 16 = .ok (.getfield 35, 3) := by decide +kernel
theorem dX9_tryToTidy_19 : decode cX9_tryToTidy 19 = .ok (.invokevirtual 313, 3) := by decide +kernel
theorem dX9_tryToTidy_22 : decode cX9_tryToTidy 22 = .ok (.ireturn, 1) := by decide +kernel
theorem dX9_tidy_0 : decode cX9_tidy 0 = .ok (.aload_n 0, 1) := by decide +kernel
theorem dX9_tidy_1 : decode cX9_tidy 1 = .ok (.invokevirtual 152, 3) := by decide +kernel
theorem dX9_tidy_4 : decode cX9_tidy 4 = .ok (.istore_n 1, 1) := by decide +kernel
theorem dX9_tidy_5 : decode cX9_tidy 5 = .ok (.iload_n 1, 1) := by decide +kernel
theorem dX9_tidy_6 : decode cX9_tidy 6 = .ok (.ifCond .le 39, 3) := by decide +kernel
theorem dX9_tidy_45 : decode cX9_tidy 45 = .ok (.iload_n 1, 1) := by decide +kernel
theorem dX9_tidy_46 : decode cX9_tidy 46 = .ok (.ireturn, 1) := by decide +kernel
theorem dX9_countFitting_0 : decode cX9_countFitting 0 = .ok (.iconst 0, 1) := by decide +kernel
theorem dX9_countFitting_1 : decode cX9_countFitting 1 = .ok (.istore_n 2, 1) := by decide +kernel
theorem dX9_countFitting_2 : decode cX9_countFitting 2 = .ok (.iconst 0, 1) := by decide +kernel
theorem dX9_countFitting_3 : decode cX9_countFitting 3 = .ok (.istore_n 3, 1) := by decide +kernel
theorem dX9_countFitting_4 : decode cX9_countFitting 4 = .ok (.iload_n 3, 1) := by decide +kernel
theorem dX9_countFitting_5 : decode cX9_countFitting 5 = .ok (.aload_n 0, 1) := by decide +kernel
theorem dX9_countFitting_6 : decode cX9_countFitting 6 = .ok (.getfield 22, 3) := by decide +kernel
theorem dX9_countFitting_9 : decode cX9_countFitting 9 = .ok (.if_icmp .ge 42, 3) := by decide +kernel
theorem dX9_countFitting_51 : decode cX9_countFitting 51 = .ok (.iload_n 2, 1) := by decide +kernel
theorem dX9_countFitting_52 : decode cX9_countFitting 52 = .ok (.ireturn, 1) := by decide +kernel
theorem dX9_tidied_10 : decode cX9_tidied 10 = .ok (.iconst 1, 1) := by decide +kernel
theorem dX9_tidied_11 : decode cX9_tidied 11 = .ok (.goto 4, 3) := by decide +kernel
theorem dX9_tidied_18 : decode cX9_tidied 18 = .ok (.aload_n 0, 1) := by decide +kernel
theorem dX9_tidied_19 : decode cX9_tidied 19 = .ok (.invokevirtual 152, 3) := by decide +kernel
theorem dX9_tidied_22 : decode cX9_tidied 22 = .ok (.istore_n 2, 1) := by decide +kernel
theorem dX9_tidied_23 : decode cX9_tidied 23 = .ok (.iload_n 1, 1) := by decide +kernel
theorem dX9_tidied_24 : decode cX9_tidied 24 = .ok (.tableswitch 46 0 2 #[28, 30, 38], 28) := by decide +kernel
theorem dX9_tidied_52 : decode cX9_tidied 52 = .ok (.iload_n 2, 1) := by decide +kernel
theorem dX9_tidied_53 : decode cX9_tidied 53 = .ok (.ireturn, 1) := by decide +kernel
theorem dX9_tidied_54 : decode cX9_tidied 54 = .ok (.aload_n 0, 1) := by decide +kernel
theorem dX9_tidied_55 : decode cX9_tidied 55 = .ok (.getfield 35, 3) := by decide +kernel
theorem dX9_tidied_58 : decode cX9_tidied 58 = .ok (.invokevirtual 136, 3) := by decide +kernel
theorem dX9_tidied_61 : decode cX9_tidied 61 = .ok (.ireturn, 1) := by decide +kernel
theorem dX9_tidied_62 : decode cX9_tidied 62 = .ok (.aload_n 0, 1) := by decide +kernel
theorem dX9_tidied_63 : decode cX9_tidied 63 = .ok (.getfield 35, 3) := by decide +kernel
theorem dX9_tidied_66 : decode cX9_tidied 66 = .ok (.getfield 155, 3) := by decide +kernel
theorem dX9_tidied_69 : decode cX9_tidied 69 = .ok (.ireturn, 1) := by decide +kernel
theorem dX9_tidied_70 : decode cX9_tidied 70 = .ok (.aload_n 0, 1) := by decide +kernel
theorem dX9_tidied_71 : decode cX9_tidied 71 = .ok (.aload_n 0, 1) := by decide +kernel
theorem dX9_tidied_72 : decode cX9_tidied 72 = .ok (.getfield 35, 3) := by decide +kernel
theorem dX9_tidied_75 : decode cX9_tidied 75 = .ok (.invokevirtual 158, 3) := by decide +kernel
theorem dX9_tidied_78 : decode cX9_tidied 78 = .ok (.ireturn, 1) := by decide +kernel
theorem dX9_told_56 : decode cX9_told 56 = .ok (.aload_n 0, 1) := by decide +kernel
theorem dX9_told_57 : decode cX9_told 57 = .ok (.getfield 22, 3) := by decide +kernel
theorem dX9_told_60 : decode cX9_told 60 = .ok (.ireturn, 1) := by decide +kernel
theorem dX9_told_61 : decode cX9_told 61 = .ok (.aload_n 0, 1) := by decide +kernel
theorem dX9_told_62 : decode cX9_told 62 = .ok (.getfield 10, 3) := by decide +kernel
theorem dX9_told_65 : decode cX9_told 65 = .ok (.getfield 174, 3) := by decide +kernel
theorem dX9_told_68 : decode cX9_told 68 = .ok (.ireturn, 1) := by decide +kernel
theorem dX9_told_69 : decode cX9_told 69 = .ok (.aload_n 0, 1) := by decide +kernel
theorem dX9_told_70 : decode cX9_told 70 = .ok (.getfield 31, 3) := by decide +kernel
theorem dX9_told_73 : decode cX9_told 73 = .ok (.getfield 155, 3) := by decide +kernel
theorem dX9_told_76 : decode cX9_told 76 = .ok (.ireturn, 1) := by decide +kernel
theorem dX9_told_77 : decode cX9_told 77 = .ok (.aload_n 0, 1) := by decide +kernel
theorem dX9_told_78 : decode cX9_told 78 = .ok (.getfield 31, 3) := by decide +kernel
theorem dX9_told_81 : decode cX9_told 81 = .ok (.invokevirtual 136, 3) := by decide +kernel
theorem dX9_told_84 : decode cX9_told 84 = .ok (.ireturn, 1) := by decide +kernel
theorem dX9_told_85 : decode cX9_told 85 = .ok (.aload_n 0, 1) := by decide +kernel
theorem dX9_told_86 : decode cX9_told 86 = .ok (.getfield 31, 3) := by decide +kernel
theorem dX9_told_89 : decode cX9_told 89 = .ok (.sipush 512, 3) := by decide +kernel
theorem dX9_told_92 : decode cX9_told 92 = .ok (.invokevirtual 177, 3) := by decide +kernel
theorem dX9_told_95 : decode cX9_told 95 = .ok (.ireturn, 1) := by decide +kernel
theorem dX9_told_96 : decode cX9_told 96 = .ok (.aload_n 0, 1) := by decide +kernel
theorem dX9_told_97 : decode cX9_told 97 = .ok (.getfield 31, 3) := by decide +kernel
theorem dX9_told_100 : decode cX9_told 100 = .ok (.sipush 513, 3) := by decide +kernel
theorem dX9_told_103 : decode cX9_told 103 = .ok (.invokevirtual 177, 3) := by decide +kernel
theorem dX9_told_106 : decode cX9_told 106 = .ok (.ireturn, 1) := by decide +kernel
theorem dX9_told_107 : decode cX9_told 107 = .ok (.aload_n 0, 1) := by decide +kernel
theorem dX9_told_108 : decode cX9_told 108 = .ok (.getfield 31, 3) := by decide +kernel
theorem dX9_told_111 : decode cX9_told 111 = .ok (.sipush 514, 3) := by decide +kernel
theorem dX9_told_114 : decode cX9_told 114 = .ok (.invokevirtual 177, 3) := by decide +kernel
theorem dX9_told_117 : decode cX9_told 117 = .ok (.ireturn, 1) := by decide +kernel
theorem dX9_told_118 : decode cX9_told 118 = .ok (.aload_n 0, 1) := by decide +kernel
theorem dX9_told_119 : decode cX9_told 119 = .ok (.getfield 47, 3) := by decide +kernel
theorem dX9_told_122 : decode cX9_told 122 = .ok (.getfield 162, 3) := by decide +kernel
theorem dX9_told_125 : decode cX9_told 125 = .ok (.ireturn, 1) := by decide +kernel
theorem dX9_told_126 : decode cX9_told 126 = .ok (.aload_n 0, 1) := by decide +kernel
theorem dX9_told_127 : decode cX9_told 127 = .ok (.getfield 38, 3) := by decide +kernel
theorem dX9_told_130 : decode cX9_told 130 = .ok (.ireturn, 1) := by decide +kernel
theorem dX9_told_131 : decode cX9_told 131 = .ok (.aload_n 0, 1) := by decide +kernel
theorem dX9_told_132 : decode cX9_told 132 = .ok (.getfield 10, 3) := by decide +kernel
theorem dX9_told_135 : decode cX9_told 135 = .ok (.getfield 96, 3) := by decide +kernel
theorem dX9_told_138 : decode cX9_told 138 = .ok (.ireturn, 1) := by decide +kernel
theorem dX9_firm_10 : decode cX9_firm 10 = .ok (.iconst 1, 1) := by decide +kernel
theorem dX9_firm_11 : decode cX9_firm 11 = .ok (.goto 4, 3) := by decide +kernel
theorem dX9_firm_18 : decode cX9_firm 18 = .ok (.aload_n 0, 1) := by decide +kernel
theorem dX9_firm_19 : decode cX9_firm 19 = .ok (.getfield 31, 3) := by decide +kernel
theorem dX9_firm_22 : decode cX9_firm 22 = .ok (.iload_n 1, 1) := by decide +kernel
theorem dX9_firm_23 : decode cX9_firm 23 = .ok (.iconst 1, 1) := by decide +kernel
theorem dX9_firm_24 : decode cX9_firm 24 = .ok (.if_icmp .eq 7, 3) := by decide +kernel
theorem dX9_firm_27 : decode cX9_firm 27 = .ok (.iconst 1, 1) := by decide +kernel
theorem dX9_firm_28 : decode cX9_firm 28 = .ok (.goto 4, 3) := by decide +kernel
theorem dX9_firm_32 : decode cX9_firm 32 = .ok (.iload_n 1, 1) := by decide +kernel
theorem dX9_firm_33 : decode cX9_firm 33 = .ok (.ifCond .eq 7, 3) := by decide +kernel
theorem dX9_firm_40 : decode cX9_firm 40 = .ok (.iconst 0, 1) := by decide +kernel
theorem dX9_firm_41 : decode cX9_firm 41 = .ok (.iconst 0, 1) := by decide +kernel
theorem dX9_firm_42 : decode cX9_firm 42 = .ok (.invokevirtual 264, 3) := by decide +kernel
theorem dX9_firm_45 : decode cX9_firm 45 = .ok (.ireturn, 1) := by decide +kernel
theorem dX9_firm_31 : decode cX9_firm 31 = .ok (.iconst 0, 1) := by decide +kernel
theorem dX9_firm_36 : decode cX9_firm 36 = .ok (.iconst 1, 1) := by decide +kernel
theorem dX9_firm_37 : decode cX9_firm 37 = .ok (.goto 4, 3) := by decide +kernel
theorem dX9_shortest_0 : decode cX9_shortest 0 = .ok (.aload_n 0, 1) := by decide +kernel
theorem dX9_shortest_1 : decode cX9_shortest 1 = .ok (.getfield 31, 3) := by decide +kernel
theorem dX9_shortest_4 : decode cX9_shortest 4 = .ok (.iconst 1, 1) := by decide +kernel
theorem dX9_shortest_5 : decode cX9_shortest 5 = .ok (.iconst 0, 1) := by decide +kernel
theorem dX9_shortest_6 : decode cX9_shortest 6 = .ok (.iconst 1, 1) := by decide +kernel
theorem dX9_shortest_7 : decode cX9_shortest 7 = .ok (.invokevirtual 264, 3) := by decide +kernel
theorem dX9_shortest_10 : decode cX9_shortest 10 = .ok (.ireturn, 1) := by decide +kernel
theorem dX9_fitting_0 : decode cX9_fitting 0 = .ok (.iconst 0, 1) := by decide +kernel
theorem dX9_fitting_1 : decode cX9_fitting 1 = .ok (.istore_n 1, 1) := by decide +kernel
theorem dX9_fitting_2 : decode cX9_fitting 2 = .ok (.iconst 0, 1) := by decide +kernel
theorem dX9_fitting_3 : decode cX9_fitting 3 = .ok (.istore_n 2, 1) := by decide +kernel
theorem dX9_fitting_4 : decode cX9_fitting 4 = .ok (.iload_n 2, 1) := by decide +kernel
theorem dX9_fitting_5 : decode cX9_fitting 5 = .ok (.aload_n 0, 1) := by decide +kernel
theorem dX9_fitting_6 : decode cX9_fitting 6 = .ok (.getfield 22, 3) := by decide +kernel
theorem dX9_fitting_9 : decode cX9_fitting 9 = .ok (.if_icmp .ge 26, 3) := by decide +kernel
theorem dX9_fitting_35 : decode cX9_fitting 35 = .ok (.iload_n 1, 1) := by decide +kernel
theorem dX9_fitting_36 : decode cX9_fitting 36 = .ok (.ireturn, 1) := by decide +kernel
theorem dX9_fault_0 : decode cX9_fault 0 = .ok (.aload_n 0, 1) := by decide +kernel
theorem dX9_fault_1 : decode cX9_fault 1 = .ok (.getfield 10, 3) := by decide +kernel
theorem dX9_fault_4 : decode cX9_fault 4 = .ok (.getfield 127, 3) := by decide +kernel
theorem dX9_fault_7 : decode cX9_fault 7 = .ok (.ireturn, 1) := by decide +kernel
theorem dX9_undo_0 : decode cX9_undo 0 = .ok (.aload_n 0, 1) := by decide +kernel
theorem dX9_undo_1 : decode cX9_undo 1 = .ok (.getfield 47, 3) := by decide +kernel
theorem dX9_undo_4 : decode cX9_undo 4 = .ok (.getfield 162, 3) := by decide +kernel
theorem dX9_undo_7 : decode cX9_undo 7 = .ok (.ifCond .ne 5, 3) := by decide +kernel
theorem dX9_undo_10 : decode cX9_undo 10 = .ok (.iconst (-1), 1) := by decide +kernel
theorem dX9_undo_11 : decode cX9_undo 11 = .ok (.ireturn, 1) := by decide +kernel
theorem dX9_clear_0 : decode cX9_clear 0 = .ok (.aload_n 0, 1) := by decide +kernel
theorem dX9_clear_1 : decode cX9_clear 1 = .ok (.getfield 31, 3) := by decide +kernel
theorem dX9_clear_4 : decode cX9_clear 4 = .ok (.invokevirtual 136, 3) := by decide +kernel
theorem dX9_clear_7 : decode cX9_clear 7 = .ok (.istore_n 1, 1) := by decide +kernel
theorem dX9_clear_8 : decode cX9_clear 8 = .ok (.aload_n 0, 1) := by decide +kernel
theorem dX9_clear_9 : decode cX9_clear 9 = .ok (.getfield 31, 3) := by decide +kernel
theorem dX9_clear_12 : decode cX9_clear 12 = .ok (.invokevirtual 168, 3) := by decide +kernel
theorem dX9_clear_15 : decode cX9_clear 15 = .ok (.aload_n 0, 1) := by decide +kernel
theorem dX9_clear_16 : decode cX9_clear 16 = .ok (.getfield 31, 3) := by decide +kernel
theorem dX9_clear_19 : decode cX9_clear 19 = .ok (.invokevirtual 171, 3) := by decide +kernel
theorem dX9_clear_22 : decode cX9_clear 22 = .ok (.aload_n 0, 1) := by decide +kernel
theorem dX9_clear_23 : decode cX9_clear 23 = .ok (.getfield 47, 3) := by decide +kernel
theorem dX9_clear_26 : decode cX9_clear 26 = .ok (.iconst 0, 1) := by decide +kernel
theorem dX9_clear_27 : decode cX9_clear 27 = .ok (.putfield 162, 3) := by decide +kernel
theorem dX9_clear_30 : decode cX9_clear 30 = .ok (.aload_n 0, 1) := by decide +kernel
theorem dX9_clear_31 : decode cX9_clear 31 = .ok (.iconst 0, 1) := by decide +kernel
theorem dX9_clear_32 : decode cX9_clear 32 = .ok (.putfield 38, 3) := by decide +kernel
theorem dX9_clear_35 : decode cX9_clear 35 = .ok (.aload_n 0, 1) := by decide +kernel
theorem dX9_clear_36 : decode cX9_clear 36 = .ok (.dup, 1) := by decide +kernel
theorem dX9_clear_37 : decode cX9_clear 37 = .ok (.getfield 41, 3) := by decide +kernel
theorem dX9_clear_40 : decode cX9_clear 40 = .ok (.iconst 1, 1) := by decide +kernel
theorem dX9_clear_41 : decode cX9_clear 41 = .ok (.iadd, 1) := by decide +kernel
theorem dX9_clear_42 : decode cX9_clear 42 = .ok (.putfield 41, 3) := by decide +kernel
theorem dX9_clear_45 : decode cX9_clear 45 = .ok (.iload_n 1, 1) := by decide +kernel
theorem dX9_clear_46 : decode cX9_clear 46 = .ok (.ireturn, 1) := by decide +kernel
theorem dX9_status_0 : decode cX9_status 0 = .ok (.iload_n 1, 1) := by decide +kernel
theorem dX9_status_1 : decode cX9_status 1 = .ok (.ifCond .lt 21, 3) := by decide +kernel
theorem dX9_status_4 : decode cX9_status 4 = .ok (.iload_n 1, 1) := by decide +kernel
theorem dX9_status_5 : decode cX9_status 5 = .ok (.aload_n 0, 1) := by decide +kernel
theorem dX9_status_6 : decode cX9_status 6 = .ok (.getfield 86, 3) := by decide +kernel
theorem dX9_status_9 : decode cX9_status 9 = .ok (.arraylength, 1) := by decide +kernel
theorem dX9_status_10 : decode cX9_status 10 = .ok (.if_icmp .ge 12, 3) := by decide +kernel
theorem dX9_status_13 : decode cX9_status 13 = .ok (.aload_n 0, 1) := by decide +kernel
theorem dX9_status_14 : decode cX9_status 14 = .ok (.getfield 86, 3) := by decide +kernel
theorem dX9_status_17 : decode cX9_status 17 = .ok (.iload_n 1, 1) := by decide +kernel
theorem dX9_status_18 : decode cX9_status 18 = .ok (.iaload, 1) := by decide +kernel
theorem dX9_status_19 : decode cX9_status 19 = .ok (.goto 4, 3) := by decide +kernel
theorem dX9_status_23 : decode cX9_status 23 = .ok (.ireturn, 1) := by decide +kernel
theorem dX9_status_22 : decode cX9_status 22 = .ok (.iconst (-1), 1) := by decide +kernel
theorem dX5_faulty_0 : decode cX5_faulty 0 = .ok (.aload_n 0, 1) := by decide +kernel
theorem dX5_faulty_1 : decode cX5_faulty 1 = .ok (.iload_n 2, 1) := by decide +kernel
theorem dX5_faulty_2 : decode cX5_faulty 2 = .ok (.putfield 31, 3) := by decide +kernel
theorem dX5_faulty_5 : decode cX5_faulty 5 = .ok (.iload_n 1, 1) := by decide +kernel
theorem dX5_faulty_6 : decode cX5_faulty 6 = .ok (.ireturn, 1) := by decide +kernel
theorem dX5_readText_0 : decode cX5_readText 0 = .ok (.aload_n 0, 1) := by decide +kernel
theorem dX5_readText_1 : decode cX5_readText 1 = .ok (.getfield 22, 3) := by decide +kernel
theorem dX5_readText_4 : decode cX5_readText 4 = .ok (.istore_n 2, 1) := by decide +kernel
theorem dX5_readText_5 : decode cX5_readText 5 = .ok (.iconst 0, 1) := by decide +kernel
theorem dX5_readText_6 : decode cX5_readText 6 = .ok (.istore_n 3, 1) := by decide +kernel
theorem dX5_readText_7 : decode cX5_readText 7 = .ok (.aload_n 0, 1) := by decide +kernel
theorem dX5_readText_8 : decode cX5_readText 8 = .ok (.iconst 0, 1) := by decide +kernel
theorem dX5_readText_9 : decode cX5_readText 9 = .ok (.putfield 34, 3) := by decide +kernel
theorem dX5_readText_12 : decode cX5_readText 12 = .ok (.aload_n 0, 1) := by decide +kernel
theorem dX5_readText_13 : decode cX5_readText 13 = .ok (.iconst 0, 1) := by decide +kernel
theorem dX5_readText_14 : decode cX5_readText 14 = .ok (.putfield 28, 3) := by decide +kernel
theorem dX5_readText_17 : decode cX5_readText 17 = .ok (.aload_n 0, 1) := by decide +kernel
theorem dX5_readText_18 : decode cX5_readText 18 = .ok (.iconst (-1), 1) := by decide +kernel
theorem dX5_readText_19 : decode cX5_readText 19 = .ok (.putfield 31, 3) := by decide +kernel
theorem dX5_readText_22 : decode cX5_readText 22 = .ok (.iconst 0, 1) := by decide +kernel
theorem dX5_readText_23 : decode cX5_readText 23 = .ok (.istore 4, 2) := by decide +kernel
theorem dX5_readText_25 : decode cX5_readText 25 = .ok (.iload 4, 2) := by decide +kernel
theorem dX5_readText_27 : decode cX5_readText 27 = .ok (.iload_n 1, 1) := by decide +kernel
theorem dX5_readText_28 : decode cX5_readText 28 = .ok (.if_icmp .ge 27, 3) := by decide +kernel
theorem dX5_readText_55 : decode cX5_readText 55 = .ok (.iload_n 3, 1) := by decide +kernel
theorem dX5_readText_56 : decode cX5_readText 56 = .ok (.ifCond .ne 17, 3) := by decide +kernel
theorem dX5_readText_59 : decode cX5_readText 59 = .ok (.aload_n 0, 1) := by decide +kernel
theorem dX5_readText_60 : decode cX5_readText 60 = .ok (.getfield 28, 3) := by decide +kernel
theorem dX5_readText_63 : decode cX5_readText 63 = .ok (.ifCond .ne 10, 3) := by decide +kernel
theorem dX5_readText_66 : decode cX5_readText 66 = .ok (.aload_n 0, 1) := by decide +kernel
theorem dX5_readText_67 : decode cX5_readText 67 = .ok (.iconst 1, 1) := by decide +kernel
theorem dX5_readText_68 : decode cX5_readText 68 = .ok (.iload_n 1, 1) := by decide +kernel
theorem dX5_readText_69 : decode cX5_readText 69 = .ok (.invokevirtual 41, 3) := by decide +kernel
theorem dX5_readText_72 : decode cX5_readText 72 = .ok (.istore_n 3, 1) := by decide +kernel
theorem dX5_readText_73 : decode cX5_readText 73 = .ok (.iload_n 3, 1) := by decide +kernel
theorem dX5_readText_74 : decode cX5_readText 74 = .ok (.ifCond .eq 8, 3) := by decide +kernel
theorem dX5_readText_77 : decode cX5_readText 77 = .ok (.aload_n 0, 1) := by decide +kernel
theorem dX5_readText_78 : decode cX5_readText 78 = .ok (.iload_n 2, 1) := by decide +kernel
theorem dX5_readText_79 : decode cX5_readText 79 = .ok (.putfield 22, 3) := by decide +kernel
theorem dX5_readText_82 : decode cX5_readText 82 = .ok (.iload_n 3, 1) := by decide +kernel
theorem dX5_readText_83 : decode cX5_readText 83 = .ok (.ireturn, 1) := by decide +kernel
theorem dX9_page_16 : decode cX9_page 16 = .ok (.iconst 1, 1) := by decide +kernel
theorem dX9_page_17 : decode cX9_page 17 = .ok (.goto 4, 3) := by decide +kernel
theorem dX9_page_24 : decode cX9_page 24 = .ok (.aload_n 0, 1) := by decide +kernel
theorem dX9_page_25 : decode cX9_page 25 = .ok (.aload_n 0, 1) := by decide +kernel
theorem dX9_page_26 : decode cX9_page 26 = .ok (.getfield 22, 3) := by decide +kernel
theorem dX9_page_29 : decode cX9_page 29 = .ok (.bipush 8, 2) := by decide +kernel
theorem dX9_page_31 : decode cX9_page 31 = .ok (.if_icmp .ge 7, 3) := by decide +kernel
theorem dX9_page_34 : decode cX9_page 34 = .ok (.iconst 1, 1) := by decide +kernel
theorem dX9_page_35 : decode cX9_page 35 = .ok (.goto 4, 3) := by decide +kernel
theorem dX9_page_39 : decode cX9_page 39 = .ok (.invokevirtual 106, 3) := by decide +kernel
theorem dX9_page_42 : decode cX9_page 42 = .ok (.aload_n 0, 1) := by decide +kernel
theorem dX9_page_43 : decode cX9_page 43 = .ok (.getfield 10, 3) := by decide +kernel
theorem dX9_page_46 : decode cX9_page 46 = .ok (.iload_n 1, 1) := by decide +kernel
theorem dX9_page_47 : decode cX9_page 47 = .ok (.invokevirtual 109, 3) := by decide +kernel
theorem dX9_page_50 : decode cX9_page 50 = .ok (.istore_n 2, 1) := by decide +kernel
theorem dX9_page_51 : decode cX9_page 51 = .ok (.aload_n 0, 1) := by decide +kernel
theorem dX9_page_52 : decode cX9_page 52 = .ok (.getfield 10, 3) := by decide +kernel
theorem dX9_page_55 : decode cX9_page 55 = .ok (.iconst 0, 1) := by decide +kernel
theorem dX9_page_56 : decode cX9_page 56 = .ok (.putfield 96, 3) := by decide +kernel
theorem dX9_page_59 : decode cX9_page 59 = .ok (.iload_n 2, 1) := by decide +kernel
theorem dX9_page_60 : decode cX9_page 60 = .ok (.ifCond .eq 8, 3) := by decide +kernel
theorem dX9_page_63 : decode cX9_page 63 = .ok (.iload_n 2, 1) := by decide +kernel
theorem dX9_page_64 : decode cX9_page 64 = .ok (.bipush 10, 2) := by decide +kernel
theorem dX9_page_66 : decode cX9_page 66 = .ok (.isub, 1) := by decide +kernel
theorem dX9_page_67 : decode cX9_page 67 = .ok (.ireturn, 1) := by decide +kernel
theorem dX5_feedNumber_0 : decode cX5_feedNumber 0 = .ok (.bipush 24, 2) := by decide +kernel
theorem dX5_feedNumber_2 : decode cX5_feedNumber 2 = .ok (.istore_n 2, 1) := by decide +kernel
theorem dX5_feedNumber_3 : decode cX5_feedNumber 3 = .ok (.iload_n 2, 1) := by decide +kernel
theorem dX5_feedNumber_4 : decode cX5_feedNumber 4 = .ok (.ifCond .lt 47, 3) := by decide +kernel
theorem dX5_feedNumber_7 : decode cX5_feedNumber 7 = .ok (.aload_n 0, 1) := by decide +kernel
theorem dX5_feedNumber_8 : decode cX5_feedNumber 8 = .ok (.getfield 15, 3) := by decide +kernel
theorem dX5_feedNumber_11 : decode cX5_feedNumber 11 = .ok (.aload_n 0, 1) := by decide +kernel
theorem dX5_feedNumber_12 : decode cX5_feedNumber 12 = .ok (.getfield 9, 3) := by decide +kernel
theorem dX5_feedNumber_15 : decode cX5_feedNumber 15 = .ok (.arraylength, 1) := by decide +kernel
theorem dX5_feedNumber_16 : decode cX5_feedNumber 16 = .ok (.if_icmp .ge 29, 3) := by decide +kernel
theorem dX5_feedNumber_19 : decode cX5_feedNumber 19 = .ok (.aload_n 0, 1) := by decide +kernel
theorem dX5_feedNumber_20 : decode cX5_feedNumber 20 = .ok (.getfield 9, 3) := by decide +kernel
theorem dX5_feedNumber_23 : decode cX5_feedNumber 23 = .ok (.aload_n 0, 1) := by decide +kernel
theorem dX5_feedNumber_24 : decode cX5_feedNumber 24 = .ok (.getfield 15, 3) := by decide +kernel
theorem dX5_feedNumber_27 : decode cX5_feedNumber 27 = .ok (.iload_n 1, 1) := by decide +kernel
theorem dX5_feedNumber_28 : decode cX5_feedNumber 28 = .ok (.iload_n 2, 1) := by decide +kernel
theorem dX5_feedNumber_29 : decode cX5_feedNumber 29 = .ok (.iushr, 1) := by decide +kernel
theorem dX5_feedNumber_30 : decode cX5_feedNumber 30 = .ok (.sipush 255, 3) := by decide +kernel
theorem dX5_feedNumber_33 : decode cX5_feedNumber 33 = .ok (.iand, 1) := by decide +kernel
theorem dX5_feedNumber_34 : decode cX5_feedNumber 34 = .ok (.iastore, 1) := by decide +kernel
theorem dX5_feedNumber_35 : decode cX5_feedNumber 35 = .ok (.aload_n 0, 1) := by decide +kernel
theorem dX5_feedNumber_36 : decode cX5_feedNumber 36 = .ok (.dup, 1) := by decide +kernel
theorem dX5_feedNumber_37 : decode cX5_feedNumber 37 = .ok (.getfield 15, 3) := by decide +kernel
theorem dX5_feedNumber_40 : decode cX5_feedNumber 40 = .ok (.iconst 1, 1) := by decide +kernel
theorem dX5_feedNumber_41 : decode cX5_feedNumber 41 = .ok (.iadd, 1) := by decide +kernel
theorem dX5_feedNumber_42 : decode cX5_feedNumber 42 = .ok (.putfield 15, 3) := by decide +kernel
theorem dX5_feedNumber_45 : decode cX5_feedNumber 45 = .ok (.iinc 2 (-8), 3) := by decide +kernel
theorem dX5_feedNumber_48 : decode cX5_feedNumber 48 = .ok (.goto (-45), 3) := by decide +kernel
theorem dX5_feedNumber_51 : decode cX5_feedNumber 51 = .ok (.return_, 1) := by decide +kernel
theorem dX9_feed_0 : decode cX9_feed 0 = .ok (.aload_n 0, 1) := by decide +kernel
theorem dX9_feed_1 : decode cX9_feed 1 = .ok (.getfield 10, 3) := by decide +kernel
theorem dX9_feed_4 : decode cX9_feed 4 = .ok (.getfield 96, 3) := by decide +kernel
theorem dX9_feed_7 : decode cX9_feed 7 = .ok (.bipush 20, 2) := by decide +kernel
theorem dX9_feed_9 : decode cX9_feed 9 = .ok (.iadd, 1) := by decide +kernel
theorem dX9_feed_10 : decode cX9_feed 10 = .ok (.sipush 400, 3) := by decide +kernel
theorem dX9_feed_13 : decode cX9_feed 13 = .ok (.if_icmp .le 5, 3) := by decide +kernel
theorem dX9_feed_18 : decode cX9_feed 18 = .ok (.aload_n 0, 1) := by decide +kernel
theorem dX9_feed_19 : decode cX9_feed 19 = .ok (.getfield 10, 3) := by decide +kernel
theorem dX9_feed_22 : decode cX9_feed 22 = .ok (.iload_n 1, 1) := by decide +kernel
theorem dX9_feed_23 : decode cX9_feed 23 = .ok (.invokevirtual 99, 3) := by decide +kernel
theorem dX9_feed_26 : decode cX9_feed 26 = .ok (.aload_n 0, 1) := by decide +kernel
theorem dX9_feed_27 : decode cX9_feed 27 = .ok (.getfield 10, 3) := by decide +kernel
theorem dX9_feed_30 : decode cX9_feed 30 = .ok (.iload_n 2, 1) := by decide +kernel
theorem dX9_feed_31 : decode cX9_feed 31 = .ok (.invokevirtual 99, 3) := by decide +kernel
theorem dX9_feed_34 : decode cX9_feed 34 = .ok (.aload_n 0, 1) := by decide +kernel
theorem dX9_feed_35 : decode cX9_feed 35 = .ok (.getfield 10, 3) := by decide +kernel
theorem dX9_feed_38 : decode cX9_feed 38 = .ok (.iload_n 3, 1) := by decide +kernel
theorem dX9_feed_39 : decode cX9_feed 39 = .ok (.invokevirtual 99, 3) := by decide +kernel
theorem dX9_feed_42 : decode cX9_feed 42 = .ok (.aload_n 0, 1) := by decide +kernel
theorem dX9_feed_43 : decode cX9_feed 43 = .ok (.getfield 10, 3) := by decide +kernel
theorem dX9_feed_46 : decode cX9_feed 46 = .ok (.iload 4, 2) := by decide +kernel
theorem dX9_feed_48 : decode cX9_feed 48 = .ok (.invokevirtual 99, 3) := by decide +kernel
theorem dX9_feed_51 : decode cX9_feed 51 = .ok (.aload_n 0, 1) := by decide +kernel
theorem dX9_feed_52 : decode cX9_feed 52 = .ok (.getfield 10, 3) := by decide +kernel
theorem dX9_feed_55 : decode cX9_feed 55 = .ok (.iload 5, 2) := by decide +kernel
theorem dX9_feed_57 : decode cX9_feed 57 = .ok (.invokevirtual 99, 3) := by decide +kernel
theorem dX9_feed_60 : decode cX9_feed 60 = .ok (.aload_n 0, 1) := by decide +kernel
theorem dX9_feed_61 : decode cX9_feed 61 = .ok (.getfield 10, 3) := by decide +kernel
theorem dX9_feed_64 : decode cX9_feed 64 = .ok (.getfield 96, 3) := by decide +kernel
theorem dX9_feed_67 : decode cX9_feed 67 = .ok (.ireturn, 1) := by decide +kernel
set_option maxHeartbeats 4000000 in
set_option maxRecDepth 100000 in
theorem c_size (l : Launch) (dC : Nat → ClassId) (dI : Nat → Nat → Nat) (sz : Nat) (w8 : Nat) (w9 : Nat) (w10 : Nat) (w11 : Nat) (w12 : Nat) (w13 : Nat) (d14 : ClassId)  : Met l yX4_size (Cond.code yX4_size cX4_size 1 (some .int) :: wsG) ({ frames := 1, cells := 0, slots := 0, locals := 14 } : Room) (va_Pc [.ref w8] (fun U => U.heap.size = sz ∧ va_P (dC, dI) vwCl [(w8, .inr (4, [.ref w9, .ref w10, .ref w11, .ref w12, .ref w13, .int 0, .int 0, .int 0])), (w11, .inl (d14, 1101, .inl (fun _ => 0)))] U.heap ∧ va_K (dC, dI) vwCl [(d14, .int)] U ∧ va_D (fun _ => True) [(w8, .inr (4, [.ref w9, .ref w10, .ref w11, .ref w12, .ref w13, .int 0, .int 0, .int 0])), (w11, .inl (d14, 1101, .inl (fun _ => 0)))])) (va_Qi (fun (r : Int32) (_ : Unit) => r = 0) (fun (_ : Unit) (t : State) => va_P (dC, dI) vwCl [(w8, .inr (4, [.ref w9, .ref w10, .ref w11, .ref w12, .ref w13, .int 0, .int 0, .int 0])), (w11, .inl (d14, 1101, .inl (fun _ => 0)))] t.heap ∧ va_K (dC, dI) vwCl [(d14, .int)] t ∧ va_D (va_A [(w8, .inr (4, [.ref w9, .ref w10, .ref w11, .ref w12, .ref w13, .int 0, .int 0, .int 0])), (w11, .inl (d14, 1101, .inl (fun _ => 0)))] sz) [(w8, .inr (4, [.ref w9, .ref w10, .ref w11, .ref w12, .ref w13, .int 0, .int 0, .int 0])), (w11, .inl (d14, 1101, .inl (fun _ => 0)))]) (va_A [(w8, .inr (4, [.ref w9, .ref w10, .ref w11, .ref w12, .ref w13, .int 0, .int 0, .int 0])), (w11, .inl (d14, 1101, .inl (fun _ => 0)))] sz)) 0 0 (va_A [(w8, .inr (4, [.ref w9, .ref w10, .ref w11, .ref w12, .ref w13, .int 0, .int 0, .int 0])), (w11, .inl (d14, 1101, .inl (fun _ => 0)))] sz) := by
  refine Met.ofW (cc := cX4_size) (maxL := 1) (ret := (some .int)) (by decide) rfl ?_
  intro p e s m args below meth c s₁ B hml hv
  obtain ⟨rfl, hsz, hP, hK, hD0⟩ := hv
  have hx := B.exec
  have hb := B.bytes
  have hr := B.returns
  have hts : ∀ w ∈ wsG, w.before _ s = true := hG_of (atoms_spec (ws := (Cond.code yX4_size cX4_size 1 (some .int) :: wsG)) B.pre)
  have hown : s.vm.findClass RX4 = some m.cls := findClass_of_methodNamed B.named
  have hlocks := B.notSynchronized
  subst hsz
  have hD := hD0.self (sz := s.heap.size)
  generalize hAe : va_A [(w8, .inr (4, [.ref w9, .ref w10, .ref w11, .ref w12, .ref w13, .int 0, .int 0, .int 0])), (w11, .inl (d14, 1101, .inl (fun _ => 0)))] s.heap.size = A at hD ⊢
  have hA : ∀ q : Nat, s.heap.size ≤ q → A q := fun q h => by rw [← hAe]; exact Or.inr h
  have hS : va_S A s.heap s.heap [] := va_S.rf
  have hl := lv_entry ([.ref w8]) (n := 1) (Nat.le_of_ble_eq_true rfl)
  rw [lg_entry_eq]
  generalize (lg_sl ([.ref w8]) ++ List.replicate (1 - (lg_sl ([.ref w8])).length) Slot.unset).toArray = ls at hl ⊢
  have hl : lv_has ls 1 [(0, .ref w8)] := hl
  refine lv_aload_n hx hb dX4_size_0 rfl (lv_at hl 0 rfl) ?_
  refine va_get (D := (dC, dI)) (ci := 4) (v := .ref w11) (C := RX4) (T := TX4) (N := 8) hx hb hts inG4 hown hK hP 0 rfl rfl 2 (by decide) (hts _ k87) (fun _ h9 => h9) rfl dX4_size_1 ?_
  refine lv_aload_n hx hb dX4_size_4 rfl (lv_at hl 0 rfl) ?_
  refine va_get (D := (dC, dI)) (ci := 4) (v := .int 0) (C := RX4) (T := TX4) (N := 8) hx hb hts inG4 hown hK hP 0 rfl rfl 5 (by decide) (hts _ k92) (fun _ h9 => h9) rfl dX4_size_5 ?_
  refine va_iald hx hb hK hP 1 0 rfl rfl (by unfold vp_in; decide +kernel) dX4_size_8 ?_
  refine lv_topi (fun x8_ ex8_ => ?_)
  obtain rfl : x8_ = 0 := ex8_
  have hP9 := hP.sub (ws' := [(w8, .inr (4, [.ref w9, .ref w10, .ref w11, .ref w12, .ref w13, .int 0, .int 0, .int 0])), (w11, .inl (d14, 1101, .inl (fun _ => 0)))]) [0, 1] rfl
  have hD9 := hD.sub (ws' := [(w8, .inr (4, [.ref w9, .ref w10, .ref w11, .ref w12, .ref w13, .int 0, .int 0, .int 0])), (w11, .inl (d14, 1101, .inl (fun _ => 0)))]) [0, 1] (by decide) rfl
  have hK9 := hK.sub (tys' := [(d14, .int)]) [0] rfl
  refine W.widen (k := 0) (n := 0) (by omega) (by omega) ?_
  exact W.iret (v := 0) hx hb hr (fun t ht hW => ⟨⟨0, (), rfl, rfl, by rw [ht]; exact hP9, va_K.moved hW.alike hK9, hD9⟩, hS.F ht⟩) hS.2.2 dX4_size_9
set_option maxHeartbeats 4000000 in
set_option maxRecDepth 100000 in
theorem c_empty (l : Launch) (dC : Nat → ClassId) (dI : Nat → Nat → Nat) (sz : Nat) (w8 : Nat) (w9 : Nat) (w10 : Nat) (w11 : Nat) (w12 : Nat) (w13 : Nat)  : Met l yX4_empty (Cond.code yX4_empty cX4_empty 1 none :: wsG) ({ frames := 1, cells := 0, slots := 0, locals := 14 } : Room) (va_Pc [.ref w8] (fun U => U.heap.size = sz ∧ va_P (dC, dI) vwCl [(w8, .inr (4, [.ref w9, .ref w10, .ref w11, .ref w12, .ref w13, .int 0, .int 0, .int 0]))] U.heap ∧ va_K (dC, dI) vwCl [] U ∧ va_D (fun _ => True) [(w8, .inr (4, [.ref w9, .ref w10, .ref w11, .ref w12, .ref w13, .int 0, .int 0, .int 0]))])) (va_Qv (fun (_ : Unit) => True) (fun (_ : Unit) (t : State) => va_P (dC, dI) vwCl [(w8, .inr (4, [.ref w9, .ref w10, .ref w11, .ref w12, .ref w13, .int 0, .int 0, .int 0]))] t.heap ∧ va_K (dC, dI) vwCl [] t ∧ va_D (va_A [(w8, .inr (4, [.ref w9, .ref w10, .ref w11, .ref w12, .ref w13, .int 0, .int 0, .int 0]))] sz) [(w8, .inr (4, [.ref w9, .ref w10, .ref w11, .ref w12, .ref w13, .int 0, .int 0, .int 0]))]) (va_A [(w8, .inr (4, [.ref w9, .ref w10, .ref w11, .ref w12, .ref w13, .int 0, .int 0, .int 0]))] sz)) 0 0 (va_A [(w8, .inr (4, [.ref w9, .ref w10, .ref w11, .ref w12, .ref w13, .int 0, .int 0, .int 0]))] sz) := by
  refine Met.ofW (cc := cX4_empty) (maxL := 1) (ret := none) (by decide) rfl ?_
  intro p e s m args below meth c s₁ B hml hv
  obtain ⟨rfl, hsz, hP, hK, hD0⟩ := hv
  have hx := B.exec
  have hb := B.bytes
  have hr := B.returns
  have hts : ∀ w ∈ wsG, w.before _ s = true := hG_of (atoms_spec (ws := (Cond.code yX4_empty cX4_empty 1 none :: wsG)) B.pre)
  have hown : s.vm.findClass RX4 = some m.cls := findClass_of_methodNamed B.named
  have hlocks := B.notSynchronized
  subst hsz
  have hD := hD0.self (sz := s.heap.size)
  generalize hAe : va_A [(w8, .inr (4, [.ref w9, .ref w10, .ref w11, .ref w12, .ref w13, .int 0, .int 0, .int 0]))] s.heap.size = A at hD ⊢
  have hA : ∀ q : Nat, s.heap.size ≤ q → A q := fun q h => by rw [← hAe]; exact Or.inr h
  have hS : va_S A s.heap s.heap [] := va_S.rf
  have hl := lv_entry ([.ref w8]) (n := 1) (Nat.le_of_ble_eq_true rfl)
  rw [lg_entry_eq]
  generalize (lg_sl ([.ref w8]) ++ List.replicate (1 - (lg_sl ([.ref w8])).length) Slot.unset).toArray = ls at hl ⊢
  have hl : lv_has ls 1 [(0, .ref w8)] := hl
  refine lv_aload_n hx hb dX4_empty_0 rfl (lv_at hl 0 rfl) ?_
  refine lv_iconst (v := 0) hx hb dX4_empty_1 (by decide) ?_
  refine va_put (D := (dC, dI)) (ci := 4) (v := .int 0) (ty := .int) (C := RX4) (T := TX4) (N := 8) hx hb hts inG4 tyX4 tyX4_ok nmX4 hown hK hP hD hS 0 rfl rfl 5 (by decide) (hts _ k92) (fun _ h9 => h9) rfl (by decide +kernel) rfl rfl (Nat.le_of_ble_eq_true rfl) dX4_empty_2 (fun H locs hP hD hS => ?_)
  have hP : va_P (dC, dI) vwCl [(w8, .inr (4, [.ref w9, .ref w10, .ref w11, .ref w12, .ref w13, .int 0, .int 0, .int 0]))] H := hP
  have hD : va_D A [(w8, .inr (4, [.ref w9, .ref w10, .ref w11, .ref w12, .ref w13, .int 0, .int 0, .int 0]))] := hD
  refine lv_aload_n hx hb dX4_empty_5 rfl (lv_at hl 0 rfl) ?_
  refine lv_iconst (v := 0) hx hb dX4_empty_6 (by decide) ?_
  refine va_put (D := (dC, dI)) (ci := 4) (v := .int 0) (ty := .boolean) (C := RX4) (T := TX4) (N := 8) hx hb hts inG4 tyX4 tyX4_ok nmX4 hown hK hP hD hS 0 rfl rfl 7 (by decide) (hts _ k103) (fun _ h9 => h9) rfl (by decide +kernel) rfl rfl (Nat.le_of_ble_eq_true rfl) dX4_empty_7 (fun H locs hP hD hS => ?_)
  have hP : va_P (dC, dI) vwCl [(w8, .inr (4, [.ref w9, .ref w10, .ref w11, .ref w12, .ref w13, .int 0, .int 0, .int 0]))] H := hP
  have hD : va_D A [(w8, .inr (4, [.ref w9, .ref w10, .ref w11, .ref w12, .ref w13, .int 0, .int 0, .int 0]))] := hD
  have hP9 := hP.sub (ws' := [(w8, .inr (4, [.ref w9, .ref w10, .ref w11, .ref w12, .ref w13, .int 0, .int 0, .int 0]))]) [0] rfl
  have hD9 := hD.sub (ws' := [(w8, .inr (4, [.ref w9, .ref w10, .ref w11, .ref w12, .ref w13, .int 0, .int 0, .int 0]))]) [0] (by decide) rfl
  have hK9 := hK.sub (tys' := []) [] rfl
  refine W.widen (k := 0) (n := 0) (by omega) (by omega) ?_
  exact W.vret hx hb hr (fun t ht hW => ⟨⟨(), rfl, trivial, by rw [ht]; exact hP9, va_K.moved hW.alike hK9, hD9⟩, hS.F ht⟩) hS.2.2 dX4_empty_10
set_option maxHeartbeats 4000000 in
set_option maxRecDepth 100000 in
theorem c_seal (l : Launch) (dC : Nat → ClassId) (dI : Nat → Nat → Nat) (sz : Nat) (w8 : Nat) (w9 : Nat) (w10 : Nat) (w11 : Nat) (w12 : Nat) (w13 : Nat) (d14 : ClassId)  : Met l yX4_seal (Cond.code yX4_seal cX4_seal 5 none :: wsG) ({ frames := 1, cells := 0, slots := 0, locals := 14 } : Room) (va_Pc [.ref w8] (fun U => U.heap.size = sz ∧ va_P (dC, dI) vwCl [(w8, .inr (4, [.ref w9, .ref w10, .ref w11, .ref w12, .ref w13, .int 0, .int 0, .int 0])), (w11, .inl (d14, 1101, .inl (fun _ => 0)))] U.heap ∧ va_K (dC, dI) vwCl [(d14, .int)] U ∧ va_D (fun _ => True) [(w8, .inr (4, [.ref w9, .ref w10, .ref w11, .ref w12, .ref w13, .int 0, .int 0, .int 0])), (w11, .inl (d14, 1101, .inl (fun _ => 0)))])) (va_Qv (fun (_ : Unit) => True) (fun (_ : Unit) (t : State) => va_P (dC, dI) vwCl [(w8, .inr (4, [.ref w9, .ref w10, .ref w11, .ref w12, .ref w13, .int 0, .int 0, .int 0])), (w11, .inl (d14, 1101, .inl (fun _ => 0)))] t.heap ∧ va_K (dC, dI) vwCl [(d14, .int)] t ∧ va_D (va_A [(w8, .inr (4, [.ref w9, .ref w10, .ref w11, .ref w12, .ref w13, .int 0, .int 0, .int 0])), (w11, .inl (d14, 1101, .inl (fun _ => 0)))] sz) [(w8, .inr (4, [.ref w9, .ref w10, .ref w11, .ref w12, .ref w13, .int 0, .int 0, .int 0])), (w11, .inl (d14, 1101, .inl (fun _ => 0)))]) (va_A [(w8, .inr (4, [.ref w9, .ref w10, .ref w11, .ref w12, .ref w13, .int 0, .int 0, .int 0])), (w11, .inl (d14, 1101, .inl (fun _ => 0)))] sz)) 0 0 (va_A [(w8, .inr (4, [.ref w9, .ref w10, .ref w11, .ref w12, .ref w13, .int 0, .int 0, .int 0])), (w11, .inl (d14, 1101, .inl (fun _ => 0)))] sz) := by
  refine Met.ofW (cc := cX4_seal) (maxL := 5) (ret := none) (by decide) rfl ?_
  intro p e s m args below meth c s₁ B hml hv
  obtain ⟨rfl, hsz, hP, hK, hD0⟩ := hv
  have hx := B.exec
  have hb := B.bytes
  have hr := B.returns
  have hts : ∀ w ∈ wsG, w.before _ s = true := hG_of (atoms_spec (ws := (Cond.code yX4_seal cX4_seal 5 none :: wsG)) B.pre)
  have hown : s.vm.findClass RX4 = some m.cls := findClass_of_methodNamed B.named
  have hlocks := B.notSynchronized
  subst hsz
  have hD := hD0.self (sz := s.heap.size)
  generalize hAe : va_A [(w8, .inr (4, [.ref w9, .ref w10, .ref w11, .ref w12, .ref w13, .int 0, .int 0, .int 0])), (w11, .inl (d14, 1101, .inl (fun _ => 0)))] s.heap.size = A at hD ⊢
  have hA : ∀ q : Nat, s.heap.size ≤ q → A q := fun q h => by rw [← hAe]; exact Or.inr h
  have hS : va_S A s.heap s.heap [] := va_S.rf
  have hl := lv_entry ([.ref w8]) (n := 5) (Nat.le_of_ble_eq_true rfl)
  rw [lg_entry_eq]
  generalize (lg_sl ([.ref w8]) ++ List.replicate (5 - (lg_sl ([.ref w8])).length) Slot.unset).toArray = ls at hl ⊢
  have hl : lv_has ls 5 [(0, .ref w8)] := hl
  refine lv_aload_n hx hb dX4_seal_0 rfl (lv_at hl 0 rfl) ?_
  refine lv_aload_n hx hb dX4_seal_1 rfl (lv_at hl 0 rfl) ?_
  refine va_get (D := (dC, dI)) (ci := 4) (v := .int 0) (C := RX4) (T := TX4) (N := 8) hx hb hts inG4 hown hK hP 0 rfl rfl 7 (by decide) (hts _ k103) (fun _ h9 => h9) rfl dX4_seal_2 ?_
  refine lv_if_eq (tgt := 12) hx hb dX4_seal_5 (by decide) (fun _ => ?_) (fun c9 => absurd (by decide +kernel) c9)
  refine lv_aload_n hx hb dX4_seal_12 rfl (lv_at hl 0 rfl) ?_
  refine va_get (D := (dC, dI)) (ci := 4) (v := .int 0) (C := RX4) (T := TX4) (N := 8) hx hb hts inG4 hown hK hP 0 rfl rfl 5 (by decide) (hts _ k92) (fun _ h9 => h9) rfl dX4_seal_13 ?_
  refine va_put (D := (dC, dI)) (ci := 4) (v := .int 0) (ty := .int) (C := RX4) (T := TX4) (N := 8) hx hb hts inG4 tyX4 tyX4_ok nmX4 hown hK hP hD hS 0 rfl rfl 5 (by decide) (hts _ k92) (fun _ h9 => h9) rfl (by decide +kernel) rfl rfl (Nat.le_of_ble_eq_true rfl) dX4_seal_16 (fun H locs hP hD hS => ?_)
  have hP : va_P (dC, dI) vwCl [(w8, .inr (4, [.ref w9, .ref w10, .ref w11, .ref w12, .ref w13, .int 0, .int 0, .int 0])), (w11, .inl (d14, 1101, .inl (fun _ => 0)))] H := hP
  have hD : va_D A [(w8, .inr (4, [.ref w9, .ref w10, .ref w11, .ref w12, .ref w13, .int 0, .int 0, .int 0])), (w11, .inl (d14, 1101, .inl (fun _ => 0)))] := hD
  refine lv_aload_n hx hb dX4_seal_19 rfl (lv_at hl 0 rfl) ?_
  refine lv_iconst (v := 0) hx hb dX4_seal_20 (by decide) ?_
  refine va_put (D := (dC, dI)) (ci := 4) (v := .int 0) (ty := .int) (C := RX4) (T := TX4) (N := 8) hx hb hts inG4 tyX4 tyX4_ok nmX4 hown hK hP hD hS 0 rfl rfl 6 (by decide) (hts _ k100) (fun _ h9 => h9) rfl (by decide +kernel) rfl rfl (Nat.le_of_ble_eq_true rfl) dX4_seal_21 (fun H locs hP hD hS => ?_)
  have hP : va_P (dC, dI) vwCl [(w8, .inr (4, [.ref w9, .ref w10, .ref w11, .ref w12, .ref w13, .int 0, .int 0, .int 0])), (w11, .inl (d14, 1101, .inl (fun _ => 0)))] H := hP
  have hD : va_D A [(w8, .inr (4, [.ref w9, .ref w10, .ref w11, .ref w12, .ref w13, .int 0, .int 0, .int 0])), (w11, .inl (d14, 1101, .inl (fun _ => 0)))] := hD
  refine lv_aload_n hx hb dX4_seal_24 rfl (lv_at hl 0 rfl) ?_
  refine va_get (D := (dC, dI)) (ci := 4) (v := .ref w11) (C := RX4) (T := TX4) (N := 8) hx hb hts inG4 hown hK hP 0 rfl rfl 2 (by decide) (hts _ k87) (fun _ h9 => h9) rfl dX4_seal_25 ?_
  refine lv_iconst (v := 0) hx hb dX4_seal_28 (by decide) ?_
  refine lv_iconst (v := 0) hx hb dX4_seal_29 (by decide) ?_
  refine va_iast hx hb hK hP hD hS 1 0 rfl rfl (by unfold vp_in; decide +kernel) dX4_seal_30 (fun H locs hP hD hS => ?_)
  have hP : va_P (dC, dI) vwCl [(w8, .inr (4, [.ref w9, .ref w10, .ref w11, .ref w12, .ref w13, .int 0, .int 0, .int 0])), (w11, .inl (d14, 1101, .inl (upd (fun _ => 0) (0 : Int32).toNatClampNeg (0))))] H := hP
  have hD : va_D A [(w8, .inr (4, [.ref w9, .ref w10, .ref w11, .ref w12, .ref w13, .int 0, .int 0, .int 0])), (w11, .inl (d14, 1101, .inl (upd (fun _ => 0) (0 : Int32).toNatClampNeg (0))))] := hD
  rw [show upd (fun _ => 0) (0 : Int32).toNatClampNeg (0) = (fun _ => 0) from funext (fun j => by unfold upd; split <;> rfl)] at hP hD
  refine lv_iconst (v := (-1)) hx hb dX4_seal_31 (by decide) ?_
  refine lv_istore_n (lv' := [(1, .int (-1)), (0, .ref w8)]) hx hb dX4_seal_32 rfl hl (by decide) rfl (fun ls hl => ?_)
  refine lv_iconst (v := 0) hx hb dX4_seal_33 (by decide) ?_
  refine lv_istore_n (lv' := [(2, .int 0), (1, .int (-1)), (0, .ref w8)]) hx hb dX4_seal_34 rfl hl (by decide) rfl (fun ls hl => ?_)
  refine lv_iload_n hx hb dX4_seal_35 rfl (lv_at hl 0 rfl) ?_
  refine lv_aload_n hx hb dX4_seal_36 rfl (lv_at hl 2 rfl) ?_
  refine va_get (D := (dC, dI)) (ci := 4) (v := .int 0) (C := RX4) (T := TX4) (N := 8) hx hb hts inG4 hown hK hP 0 rfl rfl 5 (by decide) (hts _ k92) (fun _ h9 => h9) rfl dX4_seal_37 ?_
  refine lv_icmp_ge (tgt := 175) hx hb dX4_seal_40 (by decide) (fun _ => ?_) (fun c9 => absurd (by decide +kernel) c9)
  have hP9 := hP.sub (ws' := [(w8, .inr (4, [.ref w9, .ref w10, .ref w11, .ref w12, .ref w13, .int 0, .int 0, .int 0])), (w11, .inl (d14, 1101, .inl (fun _ => 0)))]) [0, 1] rfl
  have hD9 := hD.sub (ws' := [(w8, .inr (4, [.ref w9, .ref w10, .ref w11, .ref w12, .ref w13, .int 0, .int 0, .int 0])), (w11, .inl (d14, 1101, .inl (fun _ => 0)))]) [0, 1] (by decide) rfl
  have hK9 := hK.sub (tys' := [(d14, .int)]) [0] rfl
  refine W.widen (k := 0) (n := 0) (by omega) (by omega) ?_
  exact W.vret hx hb hr (fun t ht hW => ⟨⟨(), rfl, trivial, by rw [ht]; exact hP9, va_K.moved hW.alike hK9, hD9⟩, hS.F ht⟩) hS.2.2 dX4_seal_175
set_option maxHeartbeats 4000000 in
set_option maxRecDepth 100000 in
theorem c_load (l : Launch) (dC : Nat → ClassId) (dI : Nat → Nat → Nat) (sz : Nat) (w8 : Nat) (w9 : Nat) (w10 : Nat) (w11 : Nat) (w12 : Nat) (w13 : Nat) (d14 : ClassId) (r1 : Nat)  : Met l yX4_load (Cond.code yX4_load cX4_load 4 none :: wsG) ({ frames := 2, cells := 0, slots := 0, locals := 38 } : Room) (va_Pc [.ref w8, .ref r1, .int 0] (fun U => U.heap.size = sz ∧ va_P (dC, dI) vwCl [(w8, .inr (4, [.ref w9, .ref w10, .ref w11, .ref w12, .ref w13, .int 0, .int 0, .int 0])), (w11, .inl (d14, 1101, .inl (fun _ => 0)))] U.heap ∧ va_K (dC, dI) vwCl [(d14, .int)] U ∧ va_D (fun _ => True) [(w8, .inr (4, [.ref w9, .ref w10, .ref w11, .ref w12, .ref w13, .int 0, .int 0, .int 0])), (w11, .inl (d14, 1101, .inl (fun _ => 0)))])) (va_Qv (fun (_ : Unit) => True) (fun (_ : Unit) (t : State) => va_P (dC, dI) vwCl [(w8, .inr (4, [.ref w9, .ref w10, .ref w11, .ref w12, .ref w13, .int 0, .int 0, .int 0])), (w11, .inl (d14, 1101, .inl (fun _ => 0)))] t.heap ∧ va_K (dC, dI) vwCl [(d14, .int)] t ∧ va_D (va_A [(w8, .inr (4, [.ref w9, .ref w10, .ref w11, .ref w12, .ref w13, .int 0, .int 0, .int 0])), (w11, .inl (d14, 1101, .inl (fun _ => 0)))] sz) [(w8, .inr (4, [.ref w9, .ref w10, .ref w11, .ref w12, .ref w13, .int 0, .int 0, .int 0])), (w11, .inl (d14, 1101, .inl (fun _ => 0)))]) (va_A [(w8, .inr (4, [.ref w9, .ref w10, .ref w11, .ref w12, .ref w13, .int 0, .int 0, .int 0])), (w11, .inl (d14, 1101, .inl (fun _ => 0)))] sz)) 0 0 (va_A [(w8, .inr (4, [.ref w9, .ref w10, .ref w11, .ref w12, .ref w13, .int 0, .int 0, .int 0])), (w11, .inl (d14, 1101, .inl (fun _ => 0)))] sz) := by
  refine Met.ofW (cc := cX4_load) (maxL := 4) (ret := none) (by decide) rfl ?_
  intro p e s m args below meth c s₁ B hml hv
  obtain ⟨rfl, hsz, hP, hK, hD0⟩ := hv
  have hx := B.exec
  have hb := B.bytes
  have hr := B.returns
  have hts : ∀ w ∈ wsG, w.before _ s = true := hG_of (atoms_spec (ws := (Cond.code yX4_load cX4_load 4 none :: wsG)) B.pre)
  have hown : s.vm.findClass RX4 = some m.cls := findClass_of_methodNamed B.named
  have hlocks := B.notSynchronized
  subst hsz
  have hD := hD0.self (sz := s.heap.size)
  generalize hAe : va_A [(w8, .inr (4, [.ref w9, .ref w10, .ref w11, .ref w12, .ref w13, .int 0, .int 0, .int 0])), (w11, .inl (d14, 1101, .inl (fun _ => 0)))] s.heap.size = A at hD ⊢
  have hA : ∀ q : Nat, s.heap.size ≤ q → A q := fun q h => by rw [← hAe]; exact Or.inr h
  have hS : va_S A s.heap s.heap [] := va_S.rf
  have hl := lv_entry ([.ref w8, .ref r1, .int 0]) (n := 4) (Nat.le_of_ble_eq_true rfl)
  rw [lg_entry_eq]
  generalize (lg_sl ([.ref w8, .ref r1, .int 0]) ++ List.replicate (4 - (lg_sl ([.ref w8, .ref r1, .int 0])).length) Slot.unset).toArray = ls at hl ⊢
  have hl : lv_has ls 4 [(0, .ref w8), (1, .ref r1), (2, .int 0)] := hl
  refine lv_aload_n hx hb dX4_load_0 rfl (lv_at hl 0 rfl) ?_
  have hPc := hP.sub (ws' := [(w8, .inr (4, [.ref w9, .ref w10, .ref w11, .ref w12, .ref w13, .int 0, .int 0, .int 0]))]) [0] rfl
  have hDc := hD.sub (ws' := [(w8, .inr (4, [.ref w9, .ref w10, .ref w11, .ref w12, .ref w13, .int 0, .int 0, .int 0]))]) [0] (by decide) rfl
  have hKc := hK.sub (tys' := []) [] rfl
  have hFc := va_free (wc := [(w8, .inr (4, [.ref w9, .ref w10, .ref w11, .ref w12, .ref w13, .int 0, .int 0, .int 0]))]) hD hS hA [0] rfl
  refine va_callv (va_runV (As := []) (rest := []) ⟨hx, hb, hml, hown, hts⟩ (c_empty l dC dI s.heap.size (w8) (w9) (w10) (w11) (w12) (w13)) (cwV 0 hts (gV_G k406 k407 k408 k3 k409) rfl rfl rfl (by decide +kernel) ⟨Nat.le_of_ble_eq_true rfl, Nat.le_of_ble_eq_true rfl⟩) ⟨fun a U g mk q => by obtain ⟨q0, q1, qP, qK, qD⟩ := q; exact ⟨q0, q1, qP, va_K.moved (u := U) (U := U.calling g mk a) (Vm.Alike.refl U.vm) qK, qD⟩, va_recv hKc hPc (ci := 4) (q0 := 0) rfl rfl, fun U hU hW => ⟨rfl, by rw [hU], by rw [hU]; exact hPc, va_K.moved hW.alike hKc, hDc.weaken (fun _ _ _ _ => trivial)⟩⟩ rfl rfl hl.1 rfl (lv_room (Nat.le_of_ble_eq_true rfl)) dX4_load_1 ⟨Nat.le_of_ble_eq_true rfl, Nat.le_of_ble_eq_true rfl⟩) hS (fun q _ h => hFc q h) hFc (fun u t H1 locs ht hvm hw hB hz1 hk1 hS => ?_)
  obtain ⟨hP1, hK1, hD1⟩ := hB
  rw [ht] at hP1
  have hK1 := va_K.moved hvm.symm hK1
  try dsimp only at hw
  obtain ⟨hP, hD⟩ := va_join (wr := [(w11, .inl (d14, 1101, .inl (fun _ => 0)))]) (w1 := [(w8, .inr (4, [.ref w9, .ref w10, .ref w11, .ref w12, .ref w13, .int 0, .int 0, .int 0]))]) hP hD [0] [1] rfl rfl (by decide) (by decide) hk1 hFc hP1 hD1
  have hK := hK.app hK1
  generalize H1 = H at hP hS ⊢
  have hP : va_P (dC, dI) vwCl [(w11, .inl (d14, 1101, .inl (fun _ => 0))), (w8, .inr (4, [.ref w9, .ref w10, .ref w11, .ref w12, .ref w13, .int 0, .int 0, .int 0]))] H := hP
  have hD : va_D A [(w11, .inl (d14, 1101, .inl (fun _ => 0))), (w8, .inr (4, [.ref w9, .ref w10, .ref w11, .ref w12, .ref w13, .int 0, .int 0, .int 0]))] := hD
  have hK : va_K (dC, dI) vwCl [(d14, .int)] s := hK
  refine W.widen (k := 0) (n := 0) (by omega) (by omega) ?_
  refine lv_iconst (v := 0) hx hb dX4_load_4 (by decide) ?_
  refine lv_istore_n (lv' := [(3, .int 0), (0, .ref w8), (1, .ref r1), (2, .int 0)]) hx hb dX4_load_5 rfl hl (by decide) rfl (fun ls hl => ?_)
  refine lv_iload_n hx hb dX4_load_6 rfl (lv_at hl 0 rfl) ?_
  refine lv_iload_n hx hb dX4_load_7 rfl (lv_at hl 3 rfl) ?_
  refine lv_icmp_ge (tgt := 30) hx hb dX4_load_8 (by decide) (fun _ => ?_) (fun c9 => absurd (by decide +kernel) c9)
  refine lv_aload_n hx hb dX4_load_30 rfl (lv_at hl 1 rfl) ?_
  have hPc := hP.sub (ws' := [(w8, .inr (4, [.ref w9, .ref w10, .ref w11, .ref w12, .ref w13, .int 0, .int 0, .int 0])), (w11, .inl (d14, 1101, .inl (fun _ => 0)))]) [1, 0] rfl
  have hDc := hD.sub (ws' := [(w8, .inr (4, [.ref w9, .ref w10, .ref w11, .ref w12, .ref w13, .int 0, .int 0, .int 0])), (w11, .inl (d14, 1101, .inl (fun _ => 0)))]) [1, 0] (by decide) rfl
  have hKc := hK.sub (tys' := [(d14, .int)]) [0] rfl
  have hFc := va_free (wc := [(w8, .inr (4, [.ref w9, .ref w10, .ref w11, .ref w12, .ref w13, .int 0, .int 0, .int 0])), (w11, .inl (d14, 1101, .inl (fun _ => 0)))]) hD hS hA [1, 0] rfl
  refine va_callv (va_runV (As := []) (rest := []) ⟨hx, hb, hml, hown, hts⟩ (c_seal l dC dI H.size (w8) (w9) (w10) (w11) (w12) (w13) (d14)) (cwV 0 hts (gV_G k414 k415 k416 k3 k417) rfl rfl rfl (by decide +kernel) ⟨Nat.le_of_ble_eq_true rfl, Nat.le_of_ble_eq_true rfl⟩) ⟨fun a U g mk q => by obtain ⟨q0, q1, qP, qK, qD⟩ := q; exact ⟨q0, q1, qP, va_K.moved (u := U) (U := U.calling g mk a) (Vm.Alike.refl U.vm) qK, qD⟩, va_recv hKc hPc (ci := 4) (q0 := 0) rfl rfl, fun U hU hW => ⟨rfl, by rw [hU], by rw [hU]; exact hPc, va_K.moved hW.alike hKc, hDc.weaken (fun _ _ _ _ => trivial)⟩⟩ rfl rfl hl.1 rfl (lv_room (Nat.le_of_ble_eq_true rfl)) dX4_load_31 ⟨Nat.le_of_ble_eq_true rfl, Nat.le_of_ble_eq_true rfl⟩) hS (fun q _ h => hFc q h) hFc (fun u t H1 locs ht hvm hw hB hz1 hk1 hS => ?_)
  obtain ⟨hP1, hK1, hD1⟩ := hB
  rw [ht] at hP1
  have hK1 := va_K.moved hvm.symm hK1
  try dsimp only at hw
  obtain ⟨hP, hD⟩ := va_join (wr := []) (w1 := [(w8, .inr (4, [.ref w9, .ref w10, .ref w11, .ref w12, .ref w13, .int 0, .int 0, .int 0])), (w11, .inl (d14, 1101, .inl (fun _ => 0)))]) hP hD [1, 0] [] rfl rfl (by decide) (by decide) hk1 hFc hP1 hD1
  have hK := hK.app hK1
  generalize H1 = H at hP hS ⊢
  have hP : va_P (dC, dI) vwCl [(w8, .inr (4, [.ref w9, .ref w10, .ref w11, .ref w12, .ref w13, .int 0, .int 0, .int 0])), (w11, .inl (d14, 1101, .inl (fun _ => 0)))] H := hP
  have hD : va_D A [(w8, .inr (4, [.ref w9, .ref w10, .ref w11, .ref w12, .ref w13, .int 0, .int 0, .int 0])), (w11, .inl (d14, 1101, .inl (fun _ => 0)))] := hD
  have hK : va_K (dC, dI) vwCl [(d14, .int), (d14, .int)] s := hK
  refine W.widen (k := 0) (n := 0) (by omega) (by omega) ?_
  have hP9 := hP.sub (ws' := [(w8, .inr (4, [.ref w9, .ref w10, .ref w11, .ref w12, .ref w13, .int 0, .int 0, .int 0])), (w11, .inl (d14, 1101, .inl (fun _ => 0)))]) [0, 1] rfl
  have hD9 := hD.sub (ws' := [(w8, .inr (4, [.ref w9, .ref w10, .ref w11, .ref w12, .ref w13, .int 0, .int 0, .int 0])), (w11, .inl (d14, 1101, .inl (fun _ => 0)))]) [0, 1] (by decide) rfl
  have hK9 := hK.sub (tys' := [(d14, .int)]) [0] rfl
  refine W.widen (k := 0) (n := 0) (by omega) (by omega) ?_
  exact W.vret hx hb hr (fun t ht hW => ⟨⟨(), rfl, trivial, by rw [ht]; exact hP9, va_K.moved hW.alike hK9, hD9⟩, hS.F ht⟩) hS.2.2 dX4_load_34
set_option maxHeartbeats 4000000 in
set_option maxRecDepth 100000 in
theorem c_take (l : Launch) (dC : Nat → ClassId) (dI : Nat → Nat → Nat) (sz : Nat) (w15 : Nat) (w16 : Nat) (w17 : Nat) (w18 : Nat) (w19 : Nat) (w20 : Nat) (w8 : Nat) (w9 : Nat) (w10 : Nat) (w11 : Nat) (w12 : Nat) (w13 : Nat) (d21 : ClassId)  : Met l yX4_take (Cond.code yX4_take cX4_take 2 none :: wsG) ({ frames := 3, cells := 0, slots := 0, locals := 61 } : Room) (va_Pc [.ref w15, .ref w8] (fun U => U.heap.size = sz ∧ va_P (dC, dI) vwCl [(w15, .inr (4, [.ref w16, .ref w17, .ref w18, .ref w19, .ref w20, .int 0, .int 0, .int 0])), (w18, .inl (d21, 1101, .inl (fun _ => 0))), (w8, .inr (4, [.ref w9, .ref w10, .ref w11, .ref w12, .ref w13, .int 0, .int 0, .int 0]))] U.heap ∧ va_K (dC, dI) vwCl [(d21, .int)] U ∧ va_D (fun _ => True) [(w15, .inr (4, [.ref w16, .ref w17, .ref w18, .ref w19, .ref w20, .int 0, .int 0, .int 0])), (w18, .inl (d21, 1101, .inl (fun _ => 0))), (w8, .inr (4, [.ref w9, .ref w10, .ref w11, .ref w12, .ref w13, .int 0, .int 0, .int 0]))])) (va_Qv (fun (_ : Unit) => True) (fun (_ : Unit) (t : State) => va_P (dC, dI) vwCl [(w15, .inr (4, [.ref w16, .ref w17, .ref w18, .ref w19, .ref w20, .int 0, .int 0, .int 0])), (w18, .inl (d21, 1101, .inl (fun _ => 0))), (w8, .inr (4, [.ref w9, .ref w10, .ref w11, .ref w12, .ref w13, .int 0, .int 0, .int 0]))] t.heap ∧ va_K (dC, dI) vwCl [(d21, .int)] t ∧ va_D (va_A [(w15, .inr (4, [.ref w16, .ref w17, .ref w18, .ref w19, .ref w20, .int 0, .int 0, .int 0])), (w18, .inl (d21, 1101, .inl (fun _ => 0))), (w8, .inr (4, [.ref w9, .ref w10, .ref w11, .ref w12, .ref w13, .int 0, .int 0, .int 0]))] sz) [(w15, .inr (4, [.ref w16, .ref w17, .ref w18, .ref w19, .ref w20, .int 0, .int 0, .int 0])), (w18, .inl (d21, 1101, .inl (fun _ => 0))), (w8, .inr (4, [.ref w9, .ref w10, .ref w11, .ref w12, .ref w13, .int 0, .int 0, .int 0]))]) (va_A [(w15, .inr (4, [.ref w16, .ref w17, .ref w18, .ref w19, .ref w20, .int 0, .int 0, .int 0])), (w18, .inl (d21, 1101, .inl (fun _ => 0))), (w8, .inr (4, [.ref w9, .ref w10, .ref w11, .ref w12, .ref w13, .int 0, .int 0, .int 0]))] sz)) 0 0 (va_A [(w15, .inr (4, [.ref w16, .ref w17, .ref w18, .ref w19, .ref w20, .int 0, .int 0, .int 0])), (w18, .inl (d21, 1101, .inl (fun _ => 0))), (w8, .inr (4, [.ref w9, .ref w10, .ref w11, .ref w12, .ref w13, .int 0, .int 0, .int 0]))] sz) := by
  refine Met.ofW (cc := cX4_take) (maxL := 2) (ret := none) (by decide) rfl ?_
  intro p e s m args below meth c s₁ B hml hv
  obtain ⟨rfl, hsz, hP, hK, hD0⟩ := hv
  have hx := B.exec
  have hb := B.bytes
  have hr := B.returns
  have hts : ∀ w ∈ wsG, w.before _ s = true := hG_of (atoms_spec (ws := (Cond.code yX4_take cX4_take 2 none :: wsG)) B.pre)
  have hown : s.vm.findClass RX4 = some m.cls := findClass_of_methodNamed B.named
  have hlocks := B.notSynchronized
  subst hsz
  have hD := hD0.self (sz := s.heap.size)
  generalize hAe : va_A [(w15, .inr (4, [.ref w16, .ref w17, .ref w18, .ref w19, .ref w20, .int 0, .int 0, .int 0])), (w18, .inl (d21, 1101, .inl (fun _ => 0))), (w8, .inr (4, [.ref w9, .ref w10, .ref w11, .ref w12, .ref w13, .int 0, .int 0, .int 0]))] s.heap.size = A at hD ⊢
  have hA : ∀ q : Nat, s.heap.size ≤ q → A q := fun q h => by rw [← hAe]; exact Or.inr h
  have hS : va_S A s.heap s.heap [] := va_S.rf
  have hl := lv_entry ([.ref w15, .ref w8]) (n := 2) (Nat.le_of_ble_eq_true rfl)
  rw [lg_entry_eq]
  generalize (lg_sl ([.ref w15, .ref w8]) ++ List.replicate (2 - (lg_sl ([.ref w15, .ref w8])).length) Slot.unset).toArray = ls at hl ⊢
  have hl : lv_has ls 2 [(0, .ref w15), (1, .ref w8)] := hl
  refine lv_aload_n hx hb dX4_take_0 rfl (lv_at hl 0 rfl) ?_
  refine lv_aload_n hx hb dX4_take_1 rfl (lv_at hl 1 rfl) ?_
  refine va_get (D := (dC, dI)) (ci := 4) (v := .ref w9) (C := RX4) (T := TX4) (N := 8) hx hb hts inG4 hown hK hP 2 rfl rfl 0 (by decide) (hts _ k77) (fun _ h9 => h9) rfl dX4_take_2 ?_
  refine lv_aload_n hx hb dX4_take_5 rfl (lv_at hl 1 rfl) ?_
  refine va_get (D := (dC, dI)) (ci := 4) (v := .int 0) (C := RX4) (T := TX4) (N := 8) hx hb hts inG4 hown hK hP 2 rfl rfl 5 (by decide) (hts _ k92) (fun _ h9 => h9) rfl dX4_take_6 ?_
  have hPc := hP.sub (ws' := [(w15, .inr (4, [.ref w16, .ref w17, .ref w18, .ref w19, .ref w20, .int 0, .int 0, .int 0])), (w18, .inl (d21, 1101, .inl (fun _ => 0)))]) [0, 1] rfl
  have hDc := hD.sub (ws' := [(w15, .inr (4, [.ref w16, .ref w17, .ref w18, .ref w19, .ref w20, .int 0, .int 0, .int 0])), (w18, .inl (d21, 1101, .inl (fun _ => 0)))]) [0, 1] (by decide) rfl
  have hKc := hK.sub (tys' := [(d21, .int)]) [0] rfl
  have hFc := va_free (wc := [(w15, .inr (4, [.ref w16, .ref w17, .ref w18, .ref w19, .ref w20, .int 0, .int 0, .int 0])), (w18, .inl (d21, 1101, .inl (fun _ => 0)))]) hD hS hA [0, 1] rfl
  refine va_callv (va_runV (As := [.ref w9, .int 0]) (rest := []) ⟨hx, hb, hml, hown, hts⟩ (c_load l dC dI s.heap.size (w15) (w16) (w17) (w18) (w19) (w20) (d21) (w9)) (cwV 2 hts (gV_G k402 k403 k404 k3 k405) rfl rfl rfl (by decide +kernel) ⟨Nat.le_of_ble_eq_true rfl, Nat.le_of_ble_eq_true rfl⟩) ⟨fun a U g mk q => by obtain ⟨q0, q1, qP, qK, qD⟩ := q; exact ⟨q0, q1, qP, va_K.moved (u := U) (U := U.calling g mk a) (Vm.Alike.refl U.vm) qK, qD⟩, va_recv hKc hPc (ci := 4) (q0 := 0) rfl rfl, fun U hU hW => ⟨rfl, by rw [hU], by rw [hU]; exact hPc, va_K.moved hW.alike hKc, hDc.weaken (fun _ _ _ _ => trivial)⟩⟩ rfl rfl hl.1 rfl (lv_room (Nat.le_of_ble_eq_true rfl)) dX4_take_9 ⟨Nat.le_of_ble_eq_true rfl, Nat.le_of_ble_eq_true rfl⟩) hS (fun q _ h => hFc q h) hFc (fun u t H1 locs ht hvm hw hB hz1 hk1 hS => ?_)
  obtain ⟨hP1, hK1, hD1⟩ := hB
  rw [ht] at hP1
  have hK1 := va_K.moved hvm.symm hK1
  try dsimp only at hw
  obtain ⟨hP, hD⟩ := va_join (wr := [(w8, .inr (4, [.ref w9, .ref w10, .ref w11, .ref w12, .ref w13, .int 0, .int 0, .int 0]))]) (w1 := [(w15, .inr (4, [.ref w16, .ref w17, .ref w18, .ref w19, .ref w20, .int 0, .int 0, .int 0])), (w18, .inl (d21, 1101, .inl (fun _ => 0)))]) hP hD [0, 1] [2] rfl rfl (by decide) (by decide) hk1 hFc hP1 hD1
  have hK := hK.app hK1
  generalize H1 = H at hP hS ⊢
  have hP : va_P (dC, dI) vwCl [(w8, .inr (4, [.ref w9, .ref w10, .ref w11, .ref w12, .ref w13, .int 0, .int 0, .int 0])), (w15, .inr (4, [.ref w16, .ref w17, .ref w18, .ref w19, .ref w20, .int 0, .int 0, .int 0])), (w18, .inl (d21, 1101, .inl (fun _ => 0)))] H := hP
  have hD : va_D A [(w8, .inr (4, [.ref w9, .ref w10, .ref w11, .ref w12, .ref w13, .int 0, .int 0, .int 0])), (w15, .inr (4, [.ref w16, .ref w17, .ref w18, .ref w19, .ref w20, .int 0, .int 0, .int 0])), (w18, .inl (d21, 1101, .inl (fun _ => 0)))] := hD
  have hK : va_K (dC, dI) vwCl [(d21, .int), (d21, .int)] s := hK
  refine W.widen (k := 0) (n := 0) (by omega) (by omega) ?_
  have hP9 := hP.sub (ws' := [(w15, .inr (4, [.ref w16, .ref w17, .ref w18, .ref w19, .ref w20, .int 0, .int 0, .int 0])), (w18, .inl (d21, 1101, .inl (fun _ => 0))), (w8, .inr (4, [.ref w9, .ref w10, .ref w11, .ref w12, .ref w13, .int 0, .int 0, .int 0]))]) [1, 2, 0] rfl
  have hD9 := hD.sub (ws' := [(w15, .inr (4, [.ref w16, .ref w17, .ref w18, .ref w19, .ref w20, .int 0, .int 0, .int 0])), (w18, .inl (d21, 1101, .inl (fun _ => 0))), (w8, .inr (4, [.ref w9, .ref w10, .ref w11, .ref w12, .ref w13, .int 0, .int 0, .int 0]))]) [1, 2, 0] (by decide) rfl
  have hK9 := hK.sub (tys' := [(d21, .int)]) [0] rfl
  refine W.widen (k := 0) (n := 0) (by omega) (by omega) ?_
  exact W.vret hx hb hr (fun t ht hW => ⟨⟨(), rfl, trivial, by rw [ht]; exact hP9, va_K.moved hW.alike hK9, hD9⟩, hS.F ht⟩) hS.2.2 dX4_take_12
set_option maxHeartbeats 4000000 in
set_option maxRecDepth 100000 in
theorem c_countOf (l : Launch) (dC : Nat → ClassId) (dI : Nat → Nat → Nat) (sz : Nat) (w8 : Nat) (w9 : Nat) (w10 : Nat) (w11 : Nat) (w12 : Nat) (w13 : Nat) (p1 : Int32)  : Met l yX4_countOf (Cond.code yX4_countOf cX4_countOf 4 (some .int) :: wsG) ({ frames := 1, cells := 0, slots := 0, locals := 14 } : Room) (va_Pc [.ref w8, .int p1] (fun U => U.heap.size = sz ∧ va_P (dC, dI) vwCl [(w8, .inr (4, [.ref w9, .ref w10, .ref w11, .ref w12, .ref w13, .int 0, .int 0, .int 0]))] U.heap ∧ va_K (dC, dI) vwCl [] U ∧ va_D (fun _ => True) [(w8, .inr (4, [.ref w9, .ref w10, .ref w11, .ref w12, .ref w13, .int 0, .int 0, .int 0]))])) (va_Qi (fun (r : Int32) (_ : Unit) => r = 0) (fun (_ : Unit) (t : State) => va_P (dC, dI) vwCl [(w8, .inr (4, [.ref w9, .ref w10, .ref w11, .ref w12, .ref w13, .int 0, .int 0, .int 0]))] t.heap ∧ va_K (dC, dI) vwCl [] t ∧ va_D (va_A [(w8, .inr (4, [.ref w9, .ref w10, .ref w11, .ref w12, .ref w13, .int 0, .int 0, .int 0]))] sz) [(w8, .inr (4, [.ref w9, .ref w10, .ref w11, .ref w12, .ref w13, .int 0, .int 0, .int 0]))]) (va_A [(w8, .inr (4, [.ref w9, .ref w10, .ref w11, .ref w12, .ref w13, .int 0, .int 0, .int 0]))] sz)) 0 0 (va_A [(w8, .inr (4, [.ref w9, .ref w10, .ref w11, .ref w12, .ref w13, .int 0, .int 0, .int 0]))] sz) := by
  refine Met.ofW (cc := cX4_countOf) (maxL := 4) (ret := (some .int)) (by decide) rfl ?_
  intro p e s m args below meth c s₁ B hml hv
  obtain ⟨rfl, hsz, hP, hK, hD0⟩ := hv
  have hx := B.exec
  have hb := B.bytes
  have hr := B.returns
  have hts : ∀ w ∈ wsG, w.before _ s = true := hG_of (atoms_spec (ws := (Cond.code yX4_countOf cX4_countOf 4 (some .int) :: wsG)) B.pre)
  have hown : s.vm.findClass RX4 = some m.cls := findClass_of_methodNamed B.named
  have hlocks := B.notSynchronized
  subst hsz
  have hD := hD0.self (sz := s.heap.size)
  generalize hAe : va_A [(w8, .inr (4, [.ref w9, .ref w10, .ref w11, .ref w12, .ref w13, .int 0, .int 0, .int 0]))] s.heap.size = A at hD ⊢
  have hA : ∀ q : Nat, s.heap.size ≤ q → A q := fun q h => by rw [← hAe]; exact Or.inr h
  have hS : va_S A s.heap s.heap [] := va_S.rf
  have hl := lv_entry ([.ref w8, .int p1]) (n := 4) (Nat.le_of_ble_eq_true rfl)
  rw [lg_entry_eq]
  generalize (lg_sl ([.ref w8, .int p1]) ++ List.replicate (4 - (lg_sl ([.ref w8, .int p1])).length) Slot.unset).toArray = ls at hl ⊢
  have hl : lv_has ls 4 [(0, .ref w8), (1, .int p1)] := hl
  refine lv_iconst (v := 0) hx hb dX4_countOf_0 (by decide) ?_
  refine lv_istore_n (lv' := [(2, .int 0), (0, .ref w8), (1, .int p1)]) hx hb dX4_countOf_1 rfl hl (by decide) rfl (fun ls hl => ?_)
  refine lv_iconst (v := 0) hx hb dX4_countOf_2 (by decide) ?_
  refine lv_istore_n (lv' := [(3, .int 0), (2, .int 0), (0, .ref w8), (1, .int p1)]) hx hb dX4_countOf_3 rfl hl (by decide) rfl (fun ls hl => ?_)
  refine lv_iload_n hx hb dX4_countOf_4 rfl (lv_at hl 0 rfl) ?_
  refine lv_aload_n hx hb dX4_countOf_5 rfl (lv_at hl 2 rfl) ?_
  refine va_get (D := (dC, dI)) (ci := 4) (v := .int 0) (C := RX4) (T := TX4) (N := 8) hx hb hts inG4 hown hK hP 0 rfl rfl 5 (by decide) (hts _ k92) (fun _ h9 => h9) rfl dX4_countOf_6 ?_
  refine lv_icmp_ge (tgt := 31) hx hb dX4_countOf_9 (by decide) (fun _ => ?_) (fun c9 => absurd (by decide +kernel) c9)
  refine lv_iload_n hx hb dX4_countOf_31 rfl (lv_at hl 1 rfl) ?_
  have hP9 := hP.sub (ws' := [(w8, .inr (4, [.ref w9, .ref w10, .ref w11, .ref w12, .ref w13, .int 0, .int 0, .int 0]))]) [0] rfl
  have hD9 := hD.sub (ws' := [(w8, .inr (4, [.ref w9, .ref w10, .ref w11, .ref w12, .ref w13, .int 0, .int 0, .int 0]))]) [0] (by decide) rfl
  have hK9 := hK.sub (tys' := []) [] rfl
  refine W.widen (k := 0) (n := 0) (by omega) (by omega) ?_
  exact W.iret (v := 0) hx hb hr (fun t ht hW => ⟨⟨0, (), rfl, rfl, by rw [ht]; exact hP9, va_K.moved hW.alike hK9, hD9⟩, hS.F ht⟩) hS.2.2 dX4_countOf_32
set_option maxHeartbeats 4000000 in
set_option maxRecDepth 100000 in
theorem c_countLeaves (l : Launch) (dC : Nat → ClassId) (dI : Nat → Nat → Nat) (sz : Nat) (w8 : Nat) (w9 : Nat) (w10 : Nat) (w11 : Nat) (w12 : Nat) (w13 : Nat) (p1 : Int32) (p2 : Int32) (p3 : Int32)  : Met l yX4_countLeaves (Cond.code yX4_countLeaves cX4_countLeaves 8 (some .int) :: wsG) ({ frames := 1, cells := 0, slots := 0, locals := 14 } : Room) (va_Pc [.ref w8, .int p1, .int p2, .int p3] (fun U => U.heap.size = sz ∧ va_P (dC, dI) vwCl [(w8, .inr (4, [.ref w9, .ref w10, .ref w11, .ref w12, .ref w13, .int 0, .int 0, .int 0]))] U.heap ∧ va_K (dC, dI) vwCl [] U ∧ va_D (fun _ => True) [(w8, .inr (4, [.ref w9, .ref w10, .ref w11, .ref w12, .ref w13, .int 0, .int 0, .int 0]))])) (va_Qi (fun (r : Int32) (_ : Unit) => r = 0) (fun (_ : Unit) (t : State) => va_P (dC, dI) vwCl [(w8, .inr (4, [.ref w9, .ref w10, .ref w11, .ref w12, .ref w13, .int 0, .int 0, .int 0]))] t.heap ∧ va_K (dC, dI) vwCl [] t ∧ va_D (va_A [(w8, .inr (4, [.ref w9, .ref w10, .ref w11, .ref w12, .ref w13, .int 0, .int 0, .int 0]))] sz) [(w8, .inr (4, [.ref w9, .ref w10, .ref w11, .ref w12, .ref w13, .int 0, .int 0, .int 0]))]) (va_A [(w8, .inr (4, [.ref w9, .ref w10, .ref w11, .ref w12, .ref w13, .int 0, .int 0, .int 0]))] sz)) 0 0 (va_A [(w8, .inr (4, [.ref w9, .ref w10, .ref w11, .ref w12, .ref w13, .int 0, .int 0, .int 0]))] sz) := by
  refine Met.ofW (cc := cX4_countLeaves) (maxL := 8) (ret := (some .int)) (by decide) rfl ?_
  intro p e s m args below meth c s₁ B hml hv
  obtain ⟨rfl, hsz, hP, hK, hD0⟩ := hv
  have hx := B.exec
  have hb := B.bytes
  have hr := B.returns
  have hts : ∀ w ∈ wsG, w.before _ s = true := hG_of (atoms_spec (ws := (Cond.code yX4_countLeaves cX4_countLeaves 8 (some .int) :: wsG)) B.pre)
  have hown : s.vm.findClass RX4 = some m.cls := findClass_of_methodNamed B.named
  have hlocks := B.notSynchronized
  subst hsz
  have hD := hD0.self (sz := s.heap.size)
  generalize hAe : va_A [(w8, .inr (4, [.ref w9, .ref w10, .ref w11, .ref w12, .ref w13, .int 0, .int 0, .int 0]))] s.heap.size = A at hD ⊢
  have hA : ∀ q : Nat, s.heap.size ≤ q → A q := fun q h => by rw [← hAe]; exact Or.inr h
  have hS : va_S A s.heap s.heap [] := va_S.rf
  have hl := lv_entry ([.ref w8, .int p1, .int p2, .int p3]) (n := 8) (Nat.le_of_ble_eq_true rfl)
  rw [lg_entry_eq]
  generalize (lg_sl ([.ref w8, .int p1, .int p2, .int p3]) ++ List.replicate (8 - (lg_sl ([.ref w8, .int p1, .int p2, .int p3])).length) Slot.unset).toArray = ls at hl ⊢
  have hl : lv_has ls 8 [(0, .ref w8), (1, .int p1), (2, .int p2), (3, .int p3)] := hl
  refine lv_iconst (v := 0) hx hb dX4_countLeaves_0 (by decide) ?_
  refine lv_istore (lv' := [(4, .int 0), (0, .ref w8), (1, .int p1), (2, .int p2), (3, .int p3)]) hx hb dX4_countLeaves_1 hl (by decide) rfl (fun ls hl => ?_)
  refine lv_iconst (v := 0) hx hb dX4_countLeaves_3 (by decide) ?_
  refine lv_istore (lv' := [(5, .int 0), (4, .int 0), (0, .ref w8), (1, .int p1), (2, .int p2), (3, .int p3)]) hx hb dX4_countLeaves_4 hl (by decide) rfl (fun ls hl => ?_)
  refine lv_iconst (v := 0) hx hb dX4_countLeaves_6 (by decide) ?_
  refine lv_istore (lv' := [(6, .int 0), (5, .int 0), (4, .int 0), (0, .ref w8), (1, .int p1), (2, .int p2), (3, .int p3)]) hx hb dX4_countLeaves_7 hl (by decide) rfl (fun ls hl => ?_)
  refine lv_iload hx hb dX4_countLeaves_9 (lv_at hl 0 rfl) ?_
  refine lv_aload_n hx hb dX4_countLeaves_11 rfl (lv_at hl 3 rfl) ?_
  refine va_get (D := (dC, dI)) (ci := 4) (v := .int 0) (C := RX4) (T := TX4) (N := 8) hx hb hts inG4 hown hK hP 0 rfl rfl 5 (by decide) (hts _ k92) (fun _ h9 => h9) rfl dX4_countLeaves_12 ?_
  refine lv_icmp_ge (tgt := 139) hx hb dX4_countLeaves_15 (by decide) (fun _ => ?_) (fun c9 => absurd (by decide +kernel) c9)
  refine lv_iload hx hb dX4_countLeaves_139 (lv_at hl 2 rfl) ?_
  have hP9 := hP.sub (ws' := [(w8, .inr (4, [.ref w9, .ref w10, .ref w11, .ref w12, .ref w13, .int 0, .int 0, .int 0]))]) [0] rfl
  have hD9 := hD.sub (ws' := [(w8, .inr (4, [.ref w9, .ref w10, .ref w11, .ref w12, .ref w13, .int 0, .int 0, .int 0]))]) [0] (by decide) rfl
  have hK9 := hK.sub (tys' := []) [] rfl
  refine W.widen (k := 0) (n := 0) (by omega) (by omega) ?_
  exact W.iret (v := 0) hx hb hr (fun t ht hW => ⟨⟨0, (), rfl, rfl, by rw [ht]; exact hP9, va_K.moved hW.alike hK9, hD9⟩, hS.F ht⟩) hS.2.2 dX4_countLeaves_141
set_option maxHeartbeats 4000000 in
set_option maxRecDepth 100000 in
theorem c_joinTwins (l : Launch) (dC : Nat → ClassId) (dI : Nat → Nat → Nat) (sz : Nat) (w26 : Nat) (w27 : Nat) (w28 : Nat) (r1 : Nat)  : Met l yX6_joinTwins (Cond.code yX6_joinTwins cX6_joinTwins 7 (some .boolean) :: wsG) ({ frames := 1, cells := 0, slots := 0, locals := 14 } : Room) (va_Pc [.ref w26, .ref r1, .int 0, .int 0] (fun U => U.heap.size = sz ∧ va_P (dC, dI) vwCl [(w26, .inr (6, [.ref w27, .ref w28, .int 0, .int 0, .int 0, .int 0]))] U.heap ∧ va_K (dC, dI) vwCl [] U ∧ va_D (fun _ => True) [(w26, .inr (6, [.ref w27, .ref w28, .int 0, .int 0, .int 0, .int 0]))])) (va_Qi (fun (r : Int32) (_ : Unit) => r = 0) (fun (_ : Unit) (t : State) => va_P (dC, dI) vwCl [(w26, .inr (6, [.ref w27, .ref w28, .int 0, .int 0, .int 0, .int 0]))] t.heap ∧ va_K (dC, dI) vwCl [] t ∧ va_D (va_A [(w26, .inr (6, [.ref w27, .ref w28, .int 0, .int 0, .int 0, .int 0]))] sz) [(w26, .inr (6, [.ref w27, .ref w28, .int 0, .int 0, .int 0, .int 0]))]) (va_A [(w26, .inr (6, [.ref w27, .ref w28, .int 0, .int 0, .int 0, .int 0]))] sz)) 0 0 (va_A [(w26, .inr (6, [.ref w27, .ref w28, .int 0, .int 0, .int 0, .int 0]))] sz) := by
  refine Met.ofW (cc := cX6_joinTwins) (maxL := 7) (ret := (some .boolean)) (by decide) rfl ?_
  intro p e s m args below meth c s₁ B hml hv
  obtain ⟨rfl, hsz, hP, hK, hD0⟩ := hv
  have hx := B.exec
  have hb := B.bytes
  have hr := B.returns
  have hts : ∀ w ∈ wsG, w.before _ s = true := hG_of (atoms_spec (ws := (Cond.code yX6_joinTwins cX6_joinTwins 7 (some .boolean) :: wsG)) B.pre)
  have hown : s.vm.findClass RX6 = some m.cls := findClass_of_methodNamed B.named
  have hlocks := B.notSynchronized
  subst hsz
  have hD := hD0.self (sz := s.heap.size)
  generalize hAe : va_A [(w26, .inr (6, [.ref w27, .ref w28, .int 0, .int 0, .int 0, .int 0]))] s.heap.size = A at hD ⊢
  have hA : ∀ q : Nat, s.heap.size ≤ q → A q := fun q h => by rw [← hAe]; exact Or.inr h
  have hS : va_S A s.heap s.heap [] := va_S.rf
  have hl := lv_entry ([.ref w26, .ref r1, .int 0, .int 0]) (n := 7) (Nat.le_of_ble_eq_true rfl)
  rw [lg_entry_eq]
  generalize (lg_sl ([.ref w26, .ref r1, .int 0, .int 0]) ++ List.replicate (7 - (lg_sl ([.ref w26, .ref r1, .int 0, .int 0])).length) Slot.unset).toArray = ls at hl ⊢
  have hl : lv_has ls 7 [(0, .ref w26), (1, .ref r1), (2, .int 0), (3, .int 0)] := hl
  refine lv_iload_n hx hb dX6_joinTwins_0 rfl (lv_at hl 2 rfl) ?_
  refine lv_istore (lv' := [(4, .int 0), (0, .ref w26), (1, .ref r1), (2, .int 0), (3, .int 0)]) hx hb dX6_joinTwins_1 hl (by decide) rfl (fun ls hl => ?_)
  refine lv_iload hx hb dX6_joinTwins_3 (lv_at hl 0 rfl) ?_
  refine lv_iload_n hx hb dX6_joinTwins_5 rfl (lv_at hl 4 rfl) ?_
  refine lv_icmp_ge (tgt := 114) hx hb dX6_joinTwins_6 (by decide) (fun _ => ?_) (fun c9 => absurd (by decide +kernel) c9)
  refine lv_iconst (v := 0) hx hb dX6_joinTwins_114 (by decide) ?_
  have hP9 := hP.sub (ws' := [(w26, .inr (6, [.ref w27, .ref w28, .int 0, .int 0, .int 0, .int 0]))]) [0] rfl
  have hD9 := hD.sub (ws' := [(w26, .inr (6, [.ref w27, .ref w28, .int 0, .int 0, .int 0, .int 0]))]) [0] (by decide) rfl
  have hK9 := hK.sub (tys' := []) [] rfl
  refine W.widen (k := 0) (n := 0) (by omega) (by omega) ?_
  exact W.zret (v := 0) hx hb hr (by decide +kernel) (fun t ht hW => ⟨⟨0, (), rfl, rfl, by rw [ht]; exact hP9, va_K.moved hW.alike hK9, hD9⟩, hS.F ht⟩) hS.2.2 dX6_joinTwins_115
set_option maxHeartbeats 4000000 in
set_option maxRecDepth 100000 in
theorem c_joinAhead (l : Launch) (dC : Nat → ClassId) (dI : Nat → Nat → Nat) (sz : Nat) (w26 : Nat) (w27 : Nat) (w28 : Nat) (r1 : Nat)  : Met l yX6_joinAhead (Cond.code yX6_joinAhead cX6_joinAhead 6 (some .boolean) :: wsG) ({ frames := 1, cells := 0, slots := 0, locals := 14 } : Room) (va_Pc [.ref w26, .ref r1, .int 0, .int 0] (fun U => U.heap.size = sz ∧ va_P (dC, dI) vwCl [(w26, .inr (6, [.ref w27, .ref w28, .int 0, .int 0, .int 0, .int 0]))] U.heap ∧ va_K (dC, dI) vwCl [] U ∧ va_D (fun _ => True) [(w26, .inr (6, [.ref w27, .ref w28, .int 0, .int 0, .int 0, .int 0]))])) (va_Qi (fun (r : Int32) (_ : Unit) => r = 0) (fun (_ : Unit) (t : State) => va_P (dC, dI) vwCl [(w26, .inr (6, [.ref w27, .ref w28, .int 0, .int 0, .int 0, .int 0]))] t.heap ∧ va_K (dC, dI) vwCl [] t ∧ va_D (va_A [(w26, .inr (6, [.ref w27, .ref w28, .int 0, .int 0, .int 0, .int 0]))] sz) [(w26, .inr (6, [.ref w27, .ref w28, .int 0, .int 0, .int 0, .int 0]))]) (va_A [(w26, .inr (6, [.ref w27, .ref w28, .int 0, .int 0, .int 0, .int 0]))] sz)) 0 0 (va_A [(w26, .inr (6, [.ref w27, .ref w28, .int 0, .int 0, .int 0, .int 0]))] sz) := by
  refine Met.ofW (cc := cX6_joinAhead) (maxL := 6) (ret := (some .boolean)) (by decide) rfl ?_
  intro p e s m args below meth c s₁ B hml hv
  obtain ⟨rfl, hsz, hP, hK, hD0⟩ := hv
  have hx := B.exec
  have hb := B.bytes
  have hr := B.returns
  have hts : ∀ w ∈ wsG, w.before _ s = true := hG_of (atoms_spec (ws := (Cond.code yX6_joinAhead cX6_joinAhead 6 (some .boolean) :: wsG)) B.pre)
  have hown : s.vm.findClass RX6 = some m.cls := findClass_of_methodNamed B.named
  have hlocks := B.notSynchronized
  subst hsz
  have hD := hD0.self (sz := s.heap.size)
  generalize hAe : va_A [(w26, .inr (6, [.ref w27, .ref w28, .int 0, .int 0, .int 0, .int 0]))] s.heap.size = A at hD ⊢
  have hA : ∀ q : Nat, s.heap.size ≤ q → A q := fun q h => by rw [← hAe]; exact Or.inr h
  have hS : va_S A s.heap s.heap [] := va_S.rf
  have hl := lv_entry ([.ref w26, .ref r1, .int 0, .int 0]) (n := 6) (Nat.le_of_ble_eq_true rfl)
  rw [lg_entry_eq]
  generalize (lg_sl ([.ref w26, .ref r1, .int 0, .int 0]) ++ List.replicate (6 - (lg_sl ([.ref w26, .ref r1, .int 0, .int 0])).length) Slot.unset).toArray = ls at hl ⊢
  have hl : lv_has ls 6 [(0, .ref w26), (1, .ref r1), (2, .int 0), (3, .int 0)] := hl
  refine lv_iload_n hx hb dX6_joinAhead_0 rfl (lv_at hl 2 rfl) ?_
  refine lv_istore (lv' := [(4, .int 0), (0, .ref w26), (1, .ref r1), (2, .int 0), (3, .int 0)]) hx hb dX6_joinAhead_1 hl (by decide) rfl (fun ls hl => ?_)
  refine lv_iload hx hb dX6_joinAhead_3 (lv_at hl 0 rfl) ?_
  refine lv_iload_n hx hb dX6_joinAhead_5 rfl (lv_at hl 4 rfl) ?_
  refine lv_icmp_ge (tgt := 99) hx hb dX6_joinAhead_6 (by decide) (fun _ => ?_) (fun c9 => absurd (by decide +kernel) c9)
  refine lv_iconst (v := 0) hx hb dX6_joinAhead_99 (by decide) ?_
  have hP9 := hP.sub (ws' := [(w26, .inr (6, [.ref w27, .ref w28, .int 0, .int 0, .int 0, .int 0]))]) [0] rfl
  have hD9 := hD.sub (ws' := [(w26, .inr (6, [.ref w27, .ref w28, .int 0, .int 0, .int 0, .int 0]))]) [0] (by decide) rfl
  have hK9 := hK.sub (tys' := []) [] rfl
  refine W.widen (k := 0) (n := 0) (by omega) (by omega) ?_
  exact W.zret (v := 0) hx hb hr (by decide +kernel) (fun t ht hW => ⟨⟨0, (), rfl, rfl, by rw [ht]; exact hP9, va_K.moved hW.alike hK9, hD9⟩, hS.F ht⟩) hS.2.2 dX6_joinAhead_100
set_option maxHeartbeats 4000000 in
set_option maxRecDepth 100000 in
theorem c_joinBehind (l : Launch) (dC : Nat → ClassId) (dI : Nat → Nat → Nat) (sz : Nat) (w26 : Nat) (w27 : Nat) (w28 : Nat) (r1 : Nat)  : Met l yX6_joinBehind (Cond.code yX6_joinBehind cX6_joinBehind 7 (some .boolean) :: wsG) ({ frames := 1, cells := 0, slots := 0, locals := 14 } : Room) (va_Pc [.ref w26, .ref r1, .int 0, .int 0] (fun U => U.heap.size = sz ∧ va_P (dC, dI) vwCl [(w26, .inr (6, [.ref w27, .ref w28, .int 0, .int 0, .int 0, .int 0]))] U.heap ∧ va_K (dC, dI) vwCl [] U ∧ va_D (fun _ => True) [(w26, .inr (6, [.ref w27, .ref w28, .int 0, .int 0, .int 0, .int 0]))])) (va_Qi (fun (r : Int32) (_ : Unit) => r = 0) (fun (_ : Unit) (t : State) => va_P (dC, dI) vwCl [(w26, .inr (6, [.ref w27, .ref w28, .int 0, .int 0, .int 0, .int 0]))] t.heap ∧ va_K (dC, dI) vwCl [] t ∧ va_D (va_A [(w26, .inr (6, [.ref w27, .ref w28, .int 0, .int 0, .int 0, .int 0]))] sz) [(w26, .inr (6, [.ref w27, .ref w28, .int 0, .int 0, .int 0, .int 0]))]) (va_A [(w26, .inr (6, [.ref w27, .ref w28, .int 0, .int 0, .int 0, .int 0]))] sz)) 0 0 (va_A [(w26, .inr (6, [.ref w27, .ref w28, .int 0, .int 0, .int 0, .int 0]))] sz) := by
  refine Met.ofW (cc := cX6_joinBehind) (maxL := 7) (ret := (some .boolean)) (by decide) rfl ?_
  intro p e s m args below meth c s₁ B hml hv
  obtain ⟨rfl, hsz, hP, hK, hD0⟩ := hv
  have hx := B.exec
  have hb := B.bytes
  have hr := B.returns
  have hts : ∀ w ∈ wsG, w.before _ s = true := hG_of (atoms_spec (ws := (Cond.code yX6_joinBehind cX6_joinBehind 7 (some .boolean) :: wsG)) B.pre)
  have hown : s.vm.findClass RX6 = some m.cls := findClass_of_methodNamed B.named
  have hlocks := B.notSynchronized
  subst hsz
  have hD := hD0.self (sz := s.heap.size)
  generalize hAe : va_A [(w26, .inr (6, [.ref w27, .ref w28, .int 0, .int 0, .int 0, .int 0]))] s.heap.size = A at hD ⊢
  have hA : ∀ q : Nat, s.heap.size ≤ q → A q := fun q h => by rw [← hAe]; exact Or.inr h
  have hS : va_S A s.heap s.heap [] := va_S.rf
  have hl := lv_entry ([.ref w26, .ref r1, .int 0, .int 0]) (n := 7) (Nat.le_of_ble_eq_true rfl)
  rw [lg_entry_eq]
  generalize (lg_sl ([.ref w26, .ref r1, .int 0, .int 0]) ++ List.replicate (7 - (lg_sl ([.ref w26, .ref r1, .int 0, .int 0])).length) Slot.unset).toArray = ls at hl ⊢
  have hl : lv_has ls 7 [(0, .ref w26), (1, .ref r1), (2, .int 0), (3, .int 0)] := hl
  refine lv_iload_n hx hb dX6_joinBehind_0 rfl (lv_at hl 2 rfl) ?_
  refine lv_istore (lv' := [(4, .int 0), (0, .ref w26), (1, .ref r1), (2, .int 0), (3, .int 0)]) hx hb dX6_joinBehind_1 hl (by decide) rfl (fun ls hl => ?_)
  refine lv_iload hx hb dX6_joinBehind_3 (lv_at hl 0 rfl) ?_
  refine lv_iload_n hx hb dX6_joinBehind_5 rfl (lv_at hl 4 rfl) ?_
  refine lv_icmp_ge (tgt := 104) hx hb dX6_joinBehind_6 (by decide) (fun _ => ?_) (fun c9 => absurd (by decide +kernel) c9)
  refine lv_iconst (v := 0) hx hb dX6_joinBehind_104 (by decide) ?_
  have hP9 := hP.sub (ws' := [(w26, .inr (6, [.ref w27, .ref w28, .int 0, .int 0, .int 0, .int 0]))]) [0] rfl
  have hD9 := hD.sub (ws' := [(w26, .inr (6, [.ref w27, .ref w28, .int 0, .int 0, .int 0, .int 0]))]) [0] (by decide) rfl
  have hK9 := hK.sub (tys' := []) [] rfl
  refine W.widen (k := 0) (n := 0) (by omega) (by omega) ?_
  exact W.zret (v := 0) hx hb hr (by decide +kernel) (fun t ht hW => ⟨⟨0, (), rfl, rfl, by rw [ht]; exact hP9, va_K.moved hW.alike hK9, hD9⟩, hS.F ht⟩) hS.2.2 dX6_joinBehind_105
set_option maxHeartbeats 4000000 in
set_option maxRecDepth 100000 in
theorem c_findItems (l : Launch) (dC : Nat → ClassId) (dI : Nat → Nat → Nat) (sz : Nat) (w26 : Nat) (w27 : Nat) (w28 : Nat) (d29 : ClassId) (d30 : ClassId) (r1 : Nat)  : Met l yX6_findItems (Cond.code yX6_findItems cX6_findItems 6 none :: wsG) ({ frames := 1, cells := 0, slots := 0, locals := 14 } : Room) (va_Pc [.ref w26, .ref r1, .int 0, .int 0] (fun U => U.heap.size = sz ∧ va_P (dC, dI) vwCl [(w26, .inr (6, [.ref w27, .ref w28, .int 0, .int 0, .int 0, .int 0])), (w27, .inl (d29, 1101, .inl (fun _ => 0))), (w28, .inl (d30, 1101, .inl (fun _ => 0)))] U.heap ∧ va_K (dC, dI) vwCl [(d29, .int), (d30, .int)] U ∧ va_D (fun _ => True) [(w26, .inr (6, [.ref w27, .ref w28, .int 0, .int 0, .int 0, .int 0])), (w27, .inl (d29, 1101, .inl (fun _ => 0))), (w28, .inl (d30, 1101, .inl (fun _ => 0)))])) (va_Qv (fun (_ : Unit) => True) (fun (_ : Unit) (t : State) => va_P (dC, dI) vwCl [(w26, .inr (6, [.ref w27, .ref w28, .int 0, .int 0, .int 0, .int 0])), (w27, .inl (d29, 1101, .inl (fun _ => 0))), (w28, .inl (d30, 1101, .inl (fun _ => 0)))] t.heap ∧ va_K (dC, dI) vwCl [(d29, .int), (d30, .int)] t ∧ va_D (va_A [(w26, .inr (6, [.ref w27, .ref w28, .int 0, .int 0, .int 0, .int 0])), (w27, .inl (d29, 1101, .inl (fun _ => 0))), (w28, .inl (d30, 1101, .inl (fun _ => 0)))] sz) [(w26, .inr (6, [.ref w27, .ref w28, .int 0, .int 0, .int 0, .int 0])), (w27, .inl (d29, 1101, .inl (fun _ => 0))), (w28, .inl (d30, 1101, .inl (fun _ => 0)))]) (va_A [(w26, .inr (6, [.ref w27, .ref w28, .int 0, .int 0, .int 0, .int 0])), (w27, .inl (d29, 1101, .inl (fun _ => 0))), (w28, .inl (d30, 1101, .inl (fun _ => 0)))] sz)) 0 0 (va_A [(w26, .inr (6, [.ref w27, .ref w28, .int 0, .int 0, .int 0, .int 0])), (w27, .inl (d29, 1101, .inl (fun _ => 0))), (w28, .inl (d30, 1101, .inl (fun _ => 0)))] sz) := by
  refine Met.ofW (cc := cX6_findItems) (maxL := 6) (ret := none) (by decide) rfl ?_
  intro p e s m args below meth c s₁ B hml hv
  obtain ⟨rfl, hsz, hP, hK, hD0⟩ := hv
  have hx := B.exec
  have hb := B.bytes
  have hr := B.returns
  have hts : ∀ w ∈ wsG, w.before _ s = true := hG_of (atoms_spec (ws := (Cond.code yX6_findItems cX6_findItems 6 none :: wsG)) B.pre)
  have hown : s.vm.findClass RX6 = some m.cls := findClass_of_methodNamed B.named
  have hlocks := B.notSynchronized
  subst hsz
  have hD := hD0.self (sz := s.heap.size)
  generalize hAe : va_A [(w26, .inr (6, [.ref w27, .ref w28, .int 0, .int 0, .int 0, .int 0])), (w27, .inl (d29, 1101, .inl (fun _ => 0))), (w28, .inl (d30, 1101, .inl (fun _ => 0)))] s.heap.size = A at hD ⊢
  have hA : ∀ q : Nat, s.heap.size ≤ q → A q := fun q h => by rw [← hAe]; exact Or.inr h
  have hS : va_S A s.heap s.heap [] := va_S.rf
  have hl := lv_entry ([.ref w26, .ref r1, .int 0, .int 0]) (n := 6) (Nat.le_of_ble_eq_true rfl)
  rw [lg_entry_eq]
  generalize (lg_sl ([.ref w26, .ref r1, .int 0, .int 0]) ++ List.replicate (6 - (lg_sl ([.ref w26, .ref r1, .int 0, .int 0])).length) Slot.unset).toArray = ls at hl ⊢
  have hl : lv_has ls 6 [(0, .ref w26), (1, .ref r1), (2, .int 0), (3, .int 0)] := hl
  refine lv_aload_n hx hb dX6_findItems_0 rfl (lv_at hl 0 rfl) ?_
  refine lv_iconst (v := 0) hx hb dX6_findItems_1 (by decide) ?_
  refine va_put (D := (dC, dI)) (ci := 6) (v := .int 0) (ty := .int) (C := RX6) (T := TX6) (N := 6) hx hb hts inG6 tyX6 tyX6_ok nmX6 hown hK hP hD hS 0 rfl rfl 2 (by decide) (hts _ k155) (fun _ h9 => h9) rfl (by decide +kernel) rfl rfl (Nat.le_of_ble_eq_true rfl) dX6_findItems_2 (fun H locs hP hD hS => ?_)
  have hP : va_P (dC, dI) vwCl [(w26, .inr (6, [.ref w27, .ref w28, .int 0, .int 0, .int 0, .int 0])), (w27, .inl (d29, 1101, .inl (fun _ => 0))), (w28, .inl (d30, 1101, .inl (fun _ => 0)))] H := hP
  have hD : va_D A [(w26, .inr (6, [.ref w27, .ref w28, .int 0, .int 0, .int 0, .int 0])), (w27, .inl (d29, 1101, .inl (fun _ => 0))), (w28, .inl (d30, 1101, .inl (fun _ => 0)))] := hD
  refine lv_aload_n hx hb dX6_findItems_5 rfl (lv_at hl 0 rfl) ?_
  refine va_get (D := (dC, dI)) (ci := 6) (v := .ref w28) (C := RX6) (T := TX6) (N := 6) hx hb hts inG6 hown hK hP 0 rfl rfl 1 (by decide) (hts _ k154) (fun _ h9 => h9) rfl dX6_findItems_6 ?_
  refine lv_iconst (v := 0) hx hb dX6_findItems_9 (by decide) ?_
  refine lv_iconst (v := 0) hx hb dX6_findItems_10 (by decide) ?_
  refine va_iast hx hb hK hP hD hS 2 1 rfl rfl (by unfold vp_in; decide +kernel) dX6_findItems_11 (fun H locs hP hD hS => ?_)
  have hP : va_P (dC, dI) vwCl [(w26, .inr (6, [.ref w27, .ref w28, .int 0, .int 0, .int 0, .int 0])), (w27, .inl (d29, 1101, .inl (fun _ => 0))), (w28, .inl (d30, 1101, .inl (upd (fun _ => 0) (0 : Int32).toNatClampNeg (0))))] H := hP
  have hD : va_D A [(w26, .inr (6, [.ref w27, .ref w28, .int 0, .int 0, .int 0, .int 0])), (w27, .inl (d29, 1101, .inl (fun _ => 0))), (w28, .inl (d30, 1101, .inl (upd (fun _ => 0) (0 : Int32).toNatClampNeg (0))))] := hD
  rw [show upd (fun _ => 0) (0 : Int32).toNatClampNeg (0) = (fun _ => 0) from funext (fun j => by unfold upd; split <;> rfl)] at hP hD
  refine lv_iload_n hx hb dX6_findItems_12 rfl (lv_at hl 2 rfl) ?_
  refine lv_istore (lv' := [(4, .int 0), (0, .ref w26), (1, .ref r1), (2, .int 0), (3, .int 0)]) hx hb dX6_findItems_13 hl (by decide) rfl (fun ls hl => ?_)
  refine lv_iload hx hb dX6_findItems_15 (lv_at hl 0 rfl) ?_
  refine lv_iload_n hx hb dX6_findItems_17 rfl (lv_at hl 4 rfl) ?_
  refine lv_icmp_ge (tgt := 134) hx hb dX6_findItems_18 (by decide) (fun _ => ?_) (fun c9 => absurd (by decide +kernel) c9)
  refine lv_aload_n hx hb dX6_findItems_134 rfl (lv_at hl 1 rfl) ?_
  refine va_get (D := (dC, dI)) (ci := 6) (v := .ref w27) (C := RX6) (T := TX6) (N := 6) hx hb hts inG6 hown hK hP 0 rfl rfl 0 (by decide) (hts _ k153) (fun _ h9 => h9) rfl dX6_findItems_135 ?_
  refine lv_aload_n hx hb dX6_findItems_138 rfl (lv_at hl 1 rfl) ?_
  refine va_get (D := (dC, dI)) (ci := 6) (v := .int 0) (C := RX6) (T := TX6) (N := 6) hx hb hts inG6 hown hK hP 0 rfl rfl 2 (by decide) (hts _ k155) (fun _ h9 => h9) rfl dX6_findItems_139 ?_
  refine lv_iload_n hx hb dX6_findItems_142 rfl (lv_at hl 4 rfl) ?_
  refine va_iast hx hb hK hP hD hS 1 0 rfl rfl (by unfold vp_in; decide +kernel) dX6_findItems_143 (fun H locs hP hD hS => ?_)
  have hP : va_P (dC, dI) vwCl [(w26, .inr (6, [.ref w27, .ref w28, .int 0, .int 0, .int 0, .int 0])), (w27, .inl (d29, 1101, .inl (upd (fun _ => 0) (0 : Int32).toNatClampNeg (0)))), (w28, .inl (d30, 1101, .inl (fun _ => 0)))] H := hP
  have hD : va_D A [(w26, .inr (6, [.ref w27, .ref w28, .int 0, .int 0, .int 0, .int 0])), (w27, .inl (d29, 1101, .inl (upd (fun _ => 0) (0 : Int32).toNatClampNeg (0)))), (w28, .inl (d30, 1101, .inl (fun _ => 0)))] := hD
  rw [show upd (fun _ => 0) (0 : Int32).toNatClampNeg (0) = (fun _ => 0) from funext (fun j => by unfold upd; split <;> rfl)] at hP hD
  have hP9 := hP.sub (ws' := [(w26, .inr (6, [.ref w27, .ref w28, .int 0, .int 0, .int 0, .int 0])), (w27, .inl (d29, 1101, .inl (fun _ => 0))), (w28, .inl (d30, 1101, .inl (fun _ => 0)))]) [0, 1, 2] rfl
  have hD9 := hD.sub (ws' := [(w26, .inr (6, [.ref w27, .ref w28, .int 0, .int 0, .int 0, .int 0])), (w27, .inl (d29, 1101, .inl (fun _ => 0))), (w28, .inl (d30, 1101, .inl (fun _ => 0)))]) [0, 1, 2] (by decide) rfl
  have hK9 := hK.sub (tys' := [(d29, .int), (d30, .int)]) [0, 1] rfl
  refine W.widen (k := 0) (n := 0) (by omega) (by omega) ?_
  exact W.vret hx hb hr (fun t ht hW => ⟨⟨(), rfl, trivial, by rw [ht]; exact hP9, va_K.moved hW.alike hK9, hD9⟩, hS.F ht⟩) hS.2.2 dX6_findItems_144
set_option maxHeartbeats 4000000 in
set_option maxRecDepth 100000 in
theorem c_foldOnce (l : Launch) (dC : Nat → ClassId) (dI : Nat → Nat → Nat) (sz : Nat) (w26 : Nat) (w27 : Nat) (w28 : Nat) (d29 : ClassId) (d30 : ClassId) (r1 : Nat)  : Met l yX6_foldOnce (Cond.code yX6_foldOnce cX6_foldOnce 8 (some .boolean) :: wsG) ({ frames := 2, cells := 0, slots := 0, locals := 39 } : Room) (va_Pc [.ref w26, .ref r1, .int 0, .int 0] (fun U => U.heap.size = sz ∧ va_P (dC, dI) vwCl [(w26, .inr (6, [.ref w27, .ref w28, .int 0, .int 0, .int 0, .int 0])), (w27, .inl (d29, 1101, .inl (fun _ => 0))), (w28, .inl (d30, 1101, .inl (fun _ => 0)))] U.heap ∧ va_K (dC, dI) vwCl [(d29, .int), (d30, .int)] U ∧ va_D (fun _ => True) [(w26, .inr (6, [.ref w27, .ref w28, .int 0, .int 0, .int 0, .int 0])), (w27, .inl (d29, 1101, .inl (fun _ => 0))), (w28, .inl (d30, 1101, .inl (fun _ => 0)))])) (va_Qi (fun (r : Int32) (_ : Unit) => r = 0) (fun (_ : Unit) (t : State) => va_P (dC, dI) vwCl [(w26, .inr (6, [.ref w27, .ref w28, .int 0, .int 0, .int 0, .int 0])), (w27, .inl (d29, 1101, .inl (fun _ => 0))), (w28, .inl (d30, 1101, .inl (fun _ => 0)))] t.heap ∧ va_K (dC, dI) vwCl [(d29, .int), (d30, .int)] t ∧ va_D (va_A [(w26, .inr (6, [.ref w27, .ref w28, .int 0, .int 0, .int 0, .int 0])), (w27, .inl (d29, 1101, .inl (fun _ => 0))), (w28, .inl (d30, 1101, .inl (fun _ => 0)))] sz) [(w26, .inr (6, [.ref w27, .ref w28, .int 0, .int 0, .int 0, .int 0])), (w27, .inl (d29, 1101, .inl (fun _ => 0))), (w28, .inl (d30, 1101, .inl (fun _ => 0)))]) (va_A [(w26, .inr (6, [.ref w27, .ref w28, .int 0, .int 0, .int 0, .int 0])), (w27, .inl (d29, 1101, .inl (fun _ => 0))), (w28, .inl (d30, 1101, .inl (fun _ => 0)))] sz)) 0 0 (va_A [(w26, .inr (6, [.ref w27, .ref w28, .int 0, .int 0, .int 0, .int 0])), (w27, .inl (d29, 1101, .inl (fun _ => 0))), (w28, .inl (d30, 1101, .inl (fun _ => 0)))] sz) := by
  refine Met.ofW (cc := cX6_foldOnce) (maxL := 8) (ret := (some .boolean)) (by decide) rfl ?_
  intro p e s m args below meth c s₁ B hml hv
  obtain ⟨rfl, hsz, hP, hK, hD0⟩ := hv
  have hx := B.exec
  have hb := B.bytes
  have hr := B.returns
  have hts : ∀ w ∈ wsG, w.before _ s = true := hG_of (atoms_spec (ws := (Cond.code yX6_foldOnce cX6_foldOnce 8 (some .boolean) :: wsG)) B.pre)
  have hown : s.vm.findClass RX6 = some m.cls := findClass_of_methodNamed B.named
  have hlocks := B.notSynchronized
  subst hsz
  have hD := hD0.self (sz := s.heap.size)
  generalize hAe : va_A [(w26, .inr (6, [.ref w27, .ref w28, .int 0, .int 0, .int 0, .int 0])), (w27, .inl (d29, 1101, .inl (fun _ => 0))), (w28, .inl (d30, 1101, .inl (fun _ => 0)))] s.heap.size = A at hD ⊢
  have hA : ∀ q : Nat, s.heap.size ≤ q → A q := fun q h => by rw [← hAe]; exact Or.inr h
  have hS : va_S A s.heap s.heap [] := va_S.rf
  have hl := lv_entry ([.ref w26, .ref r1, .int 0, .int 0]) (n := 8) (Nat.le_of_ble_eq_true rfl)
  rw [lg_entry_eq]
  generalize (lg_sl ([.ref w26, .ref r1, .int 0, .int 0]) ++ List.replicate (8 - (lg_sl ([.ref w26, .ref r1, .int 0, .int 0])).length) Slot.unset).toArray = ls at hl ⊢
  have hl : lv_has ls 8 [(0, .ref w26), (1, .ref r1), (2, .int 0), (3, .int 0)] := hl
  refine lv_aload_n hx hb dX6_foldOnce_0 rfl (lv_at hl 0 rfl) ?_
  refine lv_aload_n hx hb dX6_foldOnce_1 rfl (lv_at hl 1 rfl) ?_
  refine lv_iload_n hx hb dX6_foldOnce_2 rfl (lv_at hl 2 rfl) ?_
  refine lv_iload_n hx hb dX6_foldOnce_3 rfl (lv_at hl 3 rfl) ?_
  have hPc := hP.sub (ws' := [(w26, .inr (6, [.ref w27, .ref w28, .int 0, .int 0, .int 0, .int 0])), (w27, .inl (d29, 1101, .inl (fun _ => 0))), (w28, .inl (d30, 1101, .inl (fun _ => 0)))]) [0, 1, 2] rfl
  have hDc := hD.sub (ws' := [(w26, .inr (6, [.ref w27, .ref w28, .int 0, .int 0, .int 0, .int 0])), (w27, .inl (d29, 1101, .inl (fun _ => 0))), (w28, .inl (d30, 1101, .inl (fun _ => 0)))]) [0, 1, 2] (by decide) rfl
  have hKc := hK.sub (tys' := [(d29, .int), (d30, .int)]) [0, 1] rfl
  have hFc := va_free (wc := [(w26, .inr (6, [.ref w27, .ref w28, .int 0, .int 0, .int 0, .int 0])), (w27, .inl (d29, 1101, .inl (fun _ => 0))), (w28, .inl (d30, 1101, .inl (fun _ => 0)))]) hD hS hA [0, 1, 2] rfl
  refine va_callv (va_runV (As := [.ref r1, .int 0, .int 0]) (rest := []) ⟨hx, hb, hml, hown, hts⟩ (c_findItems l dC dI s.heap.size (w26) (w27) (w28) (d29) (d30) (r1)) (cwV 3 hts (gV_G k480 k482 ks_yX6_findItems k6 k483) rfl rfl rfl (by decide +kernel) ⟨Nat.le_of_ble_eq_true rfl, Nat.le_of_ble_eq_true rfl⟩) ⟨fun a U g mk q => by obtain ⟨q0, q1, qP, qK, qD⟩ := q; exact ⟨q0, q1, qP, va_K.moved (u := U) (U := U.calling g mk a) (Vm.Alike.refl U.vm) qK, qD⟩, va_recv hKc hPc (ci := 6) (q0 := 0) rfl rfl, fun U hU hW => ⟨rfl, by rw [hU], by rw [hU]; exact hPc, va_K.moved hW.alike hKc, hDc.weaken (fun _ _ _ _ => trivial)⟩⟩ rfl rfl hl.1 rfl (lv_room (Nat.le_of_ble_eq_true rfl)) dX6_foldOnce_4 ⟨Nat.le_of_ble_eq_true rfl, Nat.le_of_ble_eq_true rfl⟩) hS (fun q _ h => hFc q h) hFc (fun u t H1 locs ht hvm hw hB hz1 hk1 hS => ?_)
  obtain ⟨hP1, hK1, hD1⟩ := hB
  rw [ht] at hP1
  have hK1 := va_K.moved hvm.symm hK1
  try dsimp only at hw
  obtain ⟨hP, hD⟩ := va_join (wr := []) (w1 := [(w26, .inr (6, [.ref w27, .ref w28, .int 0, .int 0, .int 0, .int 0])), (w27, .inl (d29, 1101, .inl (fun _ => 0))), (w28, .inl (d30, 1101, .inl (fun _ => 0)))]) hP hD [0, 1, 2] [] rfl rfl (by decide) (by decide) hk1 hFc hP1 hD1
  have hK := hK.app hK1
  generalize H1 = H at hP hS ⊢
  have hP : va_P (dC, dI) vwCl [(w26, .inr (6, [.ref w27, .ref w28, .int 0, .int 0, .int 0, .int 0])), (w27, .inl (d29, 1101, .inl (fun _ => 0))), (w28, .inl (d30, 1101, .inl (fun _ => 0)))] H := hP
  have hD : va_D A [(w26, .inr (6, [.ref w27, .ref w28, .int 0, .int 0, .int 0, .int 0])), (w27, .inl (d29, 1101, .inl (fun _ => 0))), (w28, .inl (d30, 1101, .inl (fun _ => 0)))] := hD
  have hK : va_K (dC, dI) vwCl [(d29, .int), (d30, .int), (d29, .int), (d30, .int)] s := hK
  refine W.widen (k := 0) (n := 0) (by omega) (by omega) ?_
  refine lv_iconst (v := 1) hx hb dX6_foldOnce_7 (by decide) ?_
  refine lv_istore (lv' := [(4, .int 1), (0, .ref w26), (1, .ref r1), (2, .int 0), (3, .int 0)]) hx hb dX6_foldOnce_8 hl (by decide) rfl (fun ls hl => ?_)
  refine lv_iload hx hb dX6_foldOnce_10 (lv_at hl 0 rfl) ?_
  refine lv_iconst (v := 2) hx hb dX6_foldOnce_12 (by decide) ?_
  refine lv_imul hx hb dX6_foldOnce_13 ?_
  refine lv_topi (fun x9 ex9 => ?_)
  obtain rfl : x9 = 2 := ex9.trans (by decide +kernel)
  refine lv_aload_n hx hb dX6_foldOnce_14 rfl (lv_at hl 1 rfl) ?_
  refine va_get (D := (dC, dI)) (ci := 6) (v := .int 0) (C := RX6) (T := TX6) (N := 6) hx hb hts inG6 hown hK hP 0 rfl rfl 2 (by decide) (hts _ k155) (fun _ h9 => h9) rfl dX6_foldOnce_15 ?_
  refine lv_icmp_gt (tgt := 150) hx hb dX6_foldOnce_18 (by decide) (fun _ => ?_) (fun c9 => absurd (by decide +kernel) c9)
  refine lv_iconst (v := 0) hx hb dX6_foldOnce_150 (by decide) ?_
  have hP9 := hP.sub (ws' := [(w26, .inr (6, [.ref w27, .ref w28, .int 0, .int 0, .int 0, .int 0])), (w27, .inl (d29, 1101, .inl (fun _ => 0))), (w28, .inl (d30, 1101, .inl (fun _ => 0)))]) [0, 1, 2] rfl
  have hD9 := hD.sub (ws' := [(w26, .inr (6, [.ref w27, .ref w28, .int 0, .int 0, .int 0, .int 0])), (w27, .inl (d29, 1101, .inl (fun _ => 0))), (w28, .inl (d30, 1101, .inl (fun _ => 0)))]) [0, 1, 2] (by decide) rfl
  have hK9 := hK.sub (tys' := [(d29, .int), (d30, .int)]) [0, 1] rfl
  refine W.widen (k := 0) (n := 0) (by omega) (by omega) ?_
  exact W.zret (v := 0) hx hb hr (by decide +kernel) (fun t ht hW => ⟨⟨0, (), rfl, rfl, by rw [ht]; exact hP9, va_K.moved hW.alike hK9, hD9⟩, hS.F ht⟩) hS.2.2 dX6_foldOnce_151
set_option maxHeartbeats 4000000 in
set_option maxRecDepth 100000 in
theorem c_tidyRange (l : Launch) (dC : Nat → ClassId) (dI : Nat → Nat → Nat) (sz : Nat) (w26 : Nat) (w27 : Nat) (w28 : Nat) (w15 : Nat) (w16 : Nat) (w17 : Nat) (w18 : Nat) (w19 : Nat) (w20 : Nat) (d29 : ClassId) (d30 : ClassId)  : Met l yX6_tidyRange (Cond.code yX6_tidyRange cX6_tidyRange 9 (some .int) :: wsG) ({ frames := 3, cells := 0, slots := 0, locals := 66 } : Room) (va_Pc [.ref w26, .ref w15, .int 0, .int 0] (fun U => U.heap.size = sz ∧ va_P (dC, dI) vwCl [(w26, .inr (6, [.ref w27, .ref w28, .int 0, .int 0, .int 0, .int 0])), (w27, .inl (d29, 1101, .inl (fun _ => 0))), (w28, .inl (d30, 1101, .inl (fun _ => 0))), (w15, .inr (4, [.ref w16, .ref w17, .ref w18, .ref w19, .ref w20, .int 0, .int 0, .int 0]))] U.heap ∧ va_K (dC, dI) vwCl [(d29, .int), (d30, .int)] U ∧ va_D (fun _ => True) [(w26, .inr (6, [.ref w27, .ref w28, .int 0, .int 0, .int 0, .int 0])), (w27, .inl (d29, 1101, .inl (fun _ => 0))), (w28, .inl (d30, 1101, .inl (fun _ => 0))), (w15, .inr (4, [.ref w16, .ref w17, .ref w18, .ref w19, .ref w20, .int 0, .int 0, .int 0]))])) (va_Qi (fun (r : Int32) (_ : Unit) => r = 0) (fun (_ : Unit) (t : State) => va_P (dC, dI) vwCl [(w26, .inr (6, [.ref w27, .ref w28, .int 0, .int 0, .int 0, .int 0])), (w27, .inl (d29, 1101, .inl (fun _ => 0))), (w28, .inl (d30, 1101, .inl (fun _ => 0))), (w15, .inr (4, [.ref w16, .ref w17, .ref w18, .ref w19, .ref w20, .int 0, .int 0, .int 0]))] t.heap ∧ va_K (dC, dI) vwCl [(d29, .int), (d30, .int)] t ∧ va_D (va_A [(w26, .inr (6, [.ref w27, .ref w28, .int 0, .int 0, .int 0, .int 0])), (w27, .inl (d29, 1101, .inl (fun _ => 0))), (w28, .inl (d30, 1101, .inl (fun _ => 0))), (w15, .inr (4, [.ref w16, .ref w17, .ref w18, .ref w19, .ref w20, .int 0, .int 0, .int 0]))] sz) [(w26, .inr (6, [.ref w27, .ref w28, .int 0, .int 0, .int 0, .int 0])), (w27, .inl (d29, 1101, .inl (fun _ => 0))), (w28, .inl (d30, 1101, .inl (fun _ => 0))), (w15, .inr (4, [.ref w16, .ref w17, .ref w18, .ref w19, .ref w20, .int 0, .int 0, .int 0]))]) (va_A [(w26, .inr (6, [.ref w27, .ref w28, .int 0, .int 0, .int 0, .int 0])), (w27, .inl (d29, 1101, .inl (fun _ => 0))), (w28, .inl (d30, 1101, .inl (fun _ => 0))), (w15, .inr (4, [.ref w16, .ref w17, .ref w18, .ref w19, .ref w20, .int 0, .int 0, .int 0]))] sz)) 0 0 (va_A [(w26, .inr (6, [.ref w27, .ref w28, .int 0, .int 0, .int 0, .int 0])), (w27, .inl (d29, 1101, .inl (fun _ => 0))), (w28, .inl (d30, 1101, .inl (fun _ => 0))), (w15, .inr (4, [.ref w16, .ref w17, .ref w18, .ref w19, .ref w20, .int 0, .int 0, .int 0]))] sz) := by
  refine Met.ofW (cc := cX6_tidyRange) (maxL := 9) (ret := (some .int)) (by decide) rfl ?_
  intro p e s m args below meth c s₁ B hml hv
  obtain ⟨rfl, hsz, hP, hK, hD0⟩ := hv
  have hx := B.exec
  have hb := B.bytes
  have hr := B.returns
  have hts : ∀ w ∈ wsG, w.before _ s = true := hG_of (atoms_spec (ws := (Cond.code yX6_tidyRange cX6_tidyRange 9 (some .int) :: wsG)) B.pre)
  have hown : s.vm.findClass RX6 = some m.cls := findClass_of_methodNamed B.named
  have hlocks := B.notSynchronized
  subst hsz
  have hD := hD0.self (sz := s.heap.size)
  generalize hAe : va_A [(w26, .inr (6, [.ref w27, .ref w28, .int 0, .int 0, .int 0, .int 0])), (w27, .inl (d29, 1101, .inl (fun _ => 0))), (w28, .inl (d30, 1101, .inl (fun _ => 0))), (w15, .inr (4, [.ref w16, .ref w17, .ref w18, .ref w19, .ref w20, .int 0, .int 0, .int 0]))] s.heap.size = A at hD ⊢
  have hA : ∀ q : Nat, s.heap.size ≤ q → A q := fun q h => by rw [← hAe]; exact Or.inr h
  have hS : va_S A s.heap s.heap [] := va_S.rf
  have hl := lv_entry ([.ref w26, .ref w15, .int 0, .int 0]) (n := 9) (Nat.le_of_ble_eq_true rfl)
  rw [lg_entry_eq]
  generalize (lg_sl ([.ref w26, .ref w15, .int 0, .int 0]) ++ List.replicate (9 - (lg_sl ([.ref w26, .ref w15, .int 0, .int 0])).length) Slot.unset).toArray = ls at hl ⊢
  have hl : lv_has ls 9 [(0, .ref w26), (1, .ref w15), (2, .int 0), (3, .int 0)] := hl
  refine lv_aload_n hx hb dX6_tidyRange_0 rfl (lv_at hl 1 rfl) ?_
  refine va_get (D := (dC, dI)) (ci := 4) (v := .int 0) (C := RX4) (T := TX4) (N := 8) hx hb hts inG4 hown hK hP 3 rfl rfl 5 (by decide) (hts _ k96) (fun _ h9 => h9) rfl dX6_tidyRange_1 ?_
  refine lv_iload_n hx hb dX6_tidyRange_4 rfl (lv_at hl 3 rfl) ?_
  refine lv_isub hx hb dX6_tidyRange_5 ?_
  refine lv_topi (fun x9 ex9 => ?_)
  obtain rfl : x9 = 0 := ex9.trans (by decide +kernel)
  refine lv_istore (lv' := [(4, .int 0), (0, .ref w26), (1, .ref w15), (2, .int 0), (3, .int 0)]) hx hb dX6_tidyRange_6 hl (by decide) rfl (fun ls hl => ?_)
  refine lv_iconst (v := 0) hx hb dX6_tidyRange_8 (by decide) ?_
  refine lv_istore (lv' := [(5, .int 0), (4, .int 0), (0, .ref w26), (1, .ref w15), (2, .int 0), (3, .int 0)]) hx hb dX6_tidyRange_9 hl (by decide) rfl (fun ls hl => ?_)
  refine lv_iconst (v := 1) hx hb dX6_tidyRange_11 (by decide) ?_
  refine lv_istore (lv' := [(6, .int 1), (5, .int 0), (4, .int 0), (0, .ref w26), (1, .ref w15), (2, .int 0), (3, .int 0)]) hx hb dX6_tidyRange_12 hl (by decide) rfl (fun ls hl => ?_)
  refine lv_iconst (v := 0) hx hb dX6_tidyRange_14 (by decide) ?_
  refine lv_istore (lv' := [(7, .int 0), (6, .int 1), (5, .int 0), (4, .int 0), (0, .ref w26), (1, .ref w15), (2, .int 0), (3, .int 0)]) hx hb dX6_tidyRange_15 hl (by decide) rfl (fun ls hl => ?_)
  refine lv_iload hx hb dX6_tidyRange_17 (lv_at hl 0 rfl) ?_
  refine lv_ldc (v := 1000000) hx hb hown (hts _ k428) dX6_tidyRange_19 ?_
  refine lv_icmp_ge (tgt := 110) hx hb dX6_tidyRange_21 (by decide) (fun c9 => absurd c9 (by decide +kernel)) (fun _ => ?_)
  refine lv_iload hx hb dX6_tidyRange_24 (lv_at hl 1 rfl) ?_
  refine lv_if_eq (tgt := 110) hx hb dX6_tidyRange_26 (by decide) (fun c9 => absurd c9 (by decide +kernel)) (fun _ => ?_)
  refine lv_aload_n hx hb dX6_tidyRange_29 rfl (lv_at hl 5 rfl) ?_
  refine va_get (D := (dC, dI)) (ci := 4) (v := .int 0) (C := RX4) (T := TX4) (N := 8) hx hb hts inG4 hown hK hP 3 rfl rfl 5 (by decide) (hts _ k96) (fun _ h9 => h9) rfl dX6_tidyRange_30 ?_
  refine lv_iload hx hb dX6_tidyRange_33 (lv_at hl 3 rfl) ?_
  refine lv_isub hx hb dX6_tidyRange_35 ?_
  refine lv_topi (fun x9 ex9 => ?_)
  obtain rfl : x9 = 0 := ex9.trans (by decide +kernel)
  refine lv_istore (lv' := [(8, .int 0), (7, .int 0), (6, .int 1), (5, .int 0), (4, .int 0), (0, .ref w26), (1, .ref w15), (2, .int 0), (3, .int 0)]) hx hb dX6_tidyRange_36 hl (by decide) rfl (fun ls hl => ?_)
  refine lv_aload_n hx hb dX6_tidyRange_38 rfl (lv_at hl 5 rfl) ?_
  refine lv_aload_n hx hb dX6_tidyRange_39 rfl (lv_at hl 6 rfl) ?_
  refine lv_iload_n hx hb dX6_tidyRange_40 rfl (lv_at hl 7 rfl) ?_
  refine lv_iload hx hb dX6_tidyRange_41 (lv_at hl 0 rfl) ?_
  have hPc := hP.sub (ws' := [(w26, .inr (6, [.ref w27, .ref w28, .int 0, .int 0, .int 0, .int 0]))]) [0] rfl
  have hDc := hD.sub (ws' := [(w26, .inr (6, [.ref w27, .ref w28, .int 0, .int 0, .int 0, .int 0]))]) [0] (by decide) rfl
  have hKc := hK.sub (tys' := []) [] rfl
  have hFc := va_free (wc := [(w26, .inr (6, [.ref w27, .ref w28, .int 0, .int 0, .int 0, .int 0]))]) hD hS hA [0] rfl
  refine va_calli (va_runV (As := [.ref w15, .int 0, .int 0]) (rest := []) ⟨hx, hb, hml, hown, hts⟩ (c_joinTwins l dC dI s.heap.size (w26) (w27) (w28) (w15)) (cwV 3 hts (gV_G k433 k435 ks_yX6_joinTwins k6 k436) rfl rfl rfl (by decide +kernel) ⟨Nat.le_of_ble_eq_true rfl, Nat.le_of_ble_eq_true rfl⟩) ⟨fun a U g mk q => by obtain ⟨q0, q1, qP, qK, qD⟩ := q; exact ⟨q0, q1, qP, va_K.moved (u := U) (U := U.calling g mk a) (Vm.Alike.refl U.vm) qK, qD⟩, va_recv hKc hPc (ci := 6) (q0 := 0) rfl rfl, fun U hU hW => ⟨rfl, by rw [hU], by rw [hU]; exact hPc, va_K.moved hW.alike hKc, hDc.weaken (fun _ _ _ _ => trivial)⟩⟩ rfl rfl hl.1 rfl (lv_room (Nat.le_of_ble_eq_true rfl)) dX6_tidyRange_43 ⟨Nat.le_of_ble_eq_true rfl, Nat.le_of_ble_eq_true rfl⟩) hS (fun q _ h => hFc q h) hFc (fun r1 u t H1 locs ht hvm hw hB hz1 hk1 hS => ?_)
  obtain ⟨hP1, hK1, hD1⟩ := hB
  rw [ht] at hP1
  have hK1 := va_K.moved hvm.symm hK1
  try dsimp only at hw
  obtain ⟨hP, hD⟩ := va_join (wr := [(w27, .inl (d29, 1101, .inl (fun _ => 0))), (w28, .inl (d30, 1101, .inl (fun _ => 0))), (w15, .inr (4, [.ref w16, .ref w17, .ref w18, .ref w19, .ref w20, .int 0, .int 0, .int 0]))]) (w1 := [(w26, .inr (6, [.ref w27, .ref w28, .int 0, .int 0, .int 0, .int 0]))]) hP hD [0] [1, 2, 3] rfl rfl (by decide) (by decide) hk1 hFc hP1 hD1
  have hK := hK.app hK1
  generalize H1 = H at hP hS ⊢
  have hP : va_P (dC, dI) vwCl [(w27, .inl (d29, 1101, .inl (fun _ => 0))), (w28, .inl (d30, 1101, .inl (fun _ => 0))), (w15, .inr (4, [.ref w16, .ref w17, .ref w18, .ref w19, .ref w20, .int 0, .int 0, .int 0])), (w26, .inr (6, [.ref w27, .ref w28, .int 0, .int 0, .int 0, .int 0]))] H := hP
  have hD : va_D A [(w27, .inl (d29, 1101, .inl (fun _ => 0))), (w28, .inl (d30, 1101, .inl (fun _ => 0))), (w15, .inr (4, [.ref w16, .ref w17, .ref w18, .ref w19, .ref w20, .int 0, .int 0, .int 0])), (w26, .inr (6, [.ref w27, .ref w28, .int 0, .int 0, .int 0, .int 0]))] := hD
  have hK : va_K (dC, dI) vwCl [(d29, .int), (d30, .int)] s := hK
  refine W.widen (k := 0) (n := 0) (by omega) (by omega) ?_
  obtain rfl : r1 = 0 := hw
  refine lv_if_ne (tgt := 82) hx hb dX6_tidyRange_46 (by decide) (fun c9 => absurd (by decide +kernel) c9) (fun _ => ?_)
  refine lv_aload_n hx hb dX6_tidyRange_49 rfl (lv_at hl 5 rfl) ?_
  refine lv_aload_n hx hb dX6_tidyRange_50 rfl (lv_at hl 6 rfl) ?_
  refine lv_iload_n hx hb dX6_tidyRange_51 rfl (lv_at hl 7 rfl) ?_
  refine lv_iload hx hb dX6_tidyRange_52 (lv_at hl 0 rfl) ?_
  have hPc := hP.sub (ws' := [(w26, .inr (6, [.ref w27, .ref w28, .int 0, .int 0, .int 0, .int 0]))]) [3] rfl
  have hDc := hD.sub (ws' := [(w26, .inr (6, [.ref w27, .ref w28, .int 0, .int 0, .int 0, .int 0]))]) [3] (by decide) rfl
  have hKc := hK.sub (tys' := []) [] rfl
  have hFc := va_free (wc := [(w26, .inr (6, [.ref w27, .ref w28, .int 0, .int 0, .int 0, .int 0]))]) hD hS hA [3] rfl
  refine va_calli (va_runV (As := [.ref w15, .int 0, .int 0]) (rest := []) ⟨hx, hb, hml, hown, hts⟩ (c_joinAhead l dC dI H.size (w26) (w27) (w28) (w15)) (cwV 3 hts (gV_G k468 k470 ks_yX6_joinAhead k6 k471) rfl rfl rfl (by decide +kernel) ⟨Nat.le_of_ble_eq_true rfl, Nat.le_of_ble_eq_true rfl⟩) ⟨fun a U g mk q => by obtain ⟨q0, q1, qP, qK, qD⟩ := q; exact ⟨q0, q1, qP, va_K.moved (u := U) (U := U.calling g mk a) (Vm.Alike.refl U.vm) qK, qD⟩, va_recv hKc hPc (ci := 6) (q0 := 0) rfl rfl, fun U hU hW => ⟨rfl, by rw [hU], by rw [hU]; exact hPc, va_K.moved hW.alike hKc, hDc.weaken (fun _ _ _ _ => trivial)⟩⟩ rfl rfl hl.1 rfl (lv_room (Nat.le_of_ble_eq_true rfl)) dX6_tidyRange_54 ⟨Nat.le_of_ble_eq_true rfl, Nat.le_of_ble_eq_true rfl⟩) hS (fun q _ h => hFc q h) hFc (fun r2 u t H1 locs ht hvm hw hB hz1 hk1 hS => ?_)
  obtain ⟨hP1, hK1, hD1⟩ := hB
  rw [ht] at hP1
  have hK1 := va_K.moved hvm.symm hK1
  try dsimp only at hw
  obtain ⟨hP, hD⟩ := va_join (wr := [(w27, .inl (d29, 1101, .inl (fun _ => 0))), (w28, .inl (d30, 1101, .inl (fun _ => 0))), (w15, .inr (4, [.ref w16, .ref w17, .ref w18, .ref w19, .ref w20, .int 0, .int 0, .int 0]))]) (w1 := [(w26, .inr (6, [.ref w27, .ref w28, .int 0, .int 0, .int 0, .int 0]))]) hP hD [3] [0, 1, 2] rfl rfl (by decide) (by decide) hk1 hFc hP1 hD1
  have hK := hK.app hK1
  generalize H1 = H at hP hS ⊢
  have hP : va_P (dC, dI) vwCl [(w27, .inl (d29, 1101, .inl (fun _ => 0))), (w28, .inl (d30, 1101, .inl (fun _ => 0))), (w15, .inr (4, [.ref w16, .ref w17, .ref w18, .ref w19, .ref w20, .int 0, .int 0, .int 0])), (w26, .inr (6, [.ref w27, .ref w28, .int 0, .int 0, .int 0, .int 0]))] H := hP
  have hD : va_D A [(w27, .inl (d29, 1101, .inl (fun _ => 0))), (w28, .inl (d30, 1101, .inl (fun _ => 0))), (w15, .inr (4, [.ref w16, .ref w17, .ref w18, .ref w19, .ref w20, .int 0, .int 0, .int 0])), (w26, .inr (6, [.ref w27, .ref w28, .int 0, .int 0, .int 0, .int 0]))] := hD
  have hK : va_K (dC, dI) vwCl [(d29, .int), (d30, .int)] s := hK
  refine W.widen (k := 0) (n := 0) (by omega) (by omega) ?_
  obtain rfl : r2 = 0 := hw
  refine lv_if_ne (tgt := 82) hx hb dX6_tidyRange_57 (by decide) (fun c9 => absurd (by decide +kernel) c9) (fun _ => ?_)
  refine lv_aload_n hx hb dX6_tidyRange_60 rfl (lv_at hl 5 rfl) ?_
  refine lv_aload_n hx hb dX6_tidyRange_61 rfl (lv_at hl 6 rfl) ?_
  refine lv_iload_n hx hb dX6_tidyRange_62 rfl (lv_at hl 7 rfl) ?_
  refine lv_iload hx hb dX6_tidyRange_63 (lv_at hl 0 rfl) ?_
  have hPc := hP.sub (ws' := [(w26, .inr (6, [.ref w27, .ref w28, .int 0, .int 0, .int 0, .int 0]))]) [3] rfl
  have hDc := hD.sub (ws' := [(w26, .inr (6, [.ref w27, .ref w28, .int 0, .int 0, .int 0, .int 0]))]) [3] (by decide) rfl
  have hKc := hK.sub (tys' := []) [] rfl
  have hFc := va_free (wc := [(w26, .inr (6, [.ref w27, .ref w28, .int 0, .int 0, .int 0, .int 0]))]) hD hS hA [3] rfl
  refine va_calli (va_runV (As := [.ref w15, .int 0, .int 0]) (rest := []) ⟨hx, hb, hml, hown, hts⟩ (c_joinBehind l dC dI H.size (w26) (w27) (w28) (w15)) (cwV 3 hts (gV_G k472 k474 ks_yX6_joinBehind k6 k475) rfl rfl rfl (by decide +kernel) ⟨Nat.le_of_ble_eq_true rfl, Nat.le_of_ble_eq_true rfl⟩) ⟨fun a U g mk q => by obtain ⟨q0, q1, qP, qK, qD⟩ := q; exact ⟨q0, q1, qP, va_K.moved (u := U) (U := U.calling g mk a) (Vm.Alike.refl U.vm) qK, qD⟩, va_recv hKc hPc (ci := 6) (q0 := 0) rfl rfl, fun U hU hW => ⟨rfl, by rw [hU], by rw [hU]; exact hPc, va_K.moved hW.alike hKc, hDc.weaken (fun _ _ _ _ => trivial)⟩⟩ rfl rfl hl.1 rfl (lv_room (Nat.le_of_ble_eq_true rfl)) dX6_tidyRange_65 ⟨Nat.le_of_ble_eq_true rfl, Nat.le_of_ble_eq_true rfl⟩) hS (fun q _ h => hFc q h) hFc (fun r3 u t H1 locs ht hvm hw hB hz1 hk1 hS => ?_)
  obtain ⟨hP1, hK1, hD1⟩ := hB
  rw [ht] at hP1
  have hK1 := va_K.moved hvm.symm hK1
  try dsimp only at hw
  obtain ⟨hP, hD⟩ := va_join (wr := [(w27, .inl (d29, 1101, .inl (fun _ => 0))), (w28, .inl (d30, 1101, .inl (fun _ => 0))), (w15, .inr (4, [.ref w16, .ref w17, .ref w18, .ref w19, .ref w20, .int 0, .int 0, .int 0]))]) (w1 := [(w26, .inr (6, [.ref w27, .ref w28, .int 0, .int 0, .int 0, .int 0]))]) hP hD [3] [0, 1, 2] rfl rfl (by decide) (by decide) hk1 hFc hP1 hD1
  have hK := hK.app hK1
  generalize H1 = H at hP hS ⊢
  have hP : va_P (dC, dI) vwCl [(w27, .inl (d29, 1101, .inl (fun _ => 0))), (w28, .inl (d30, 1101, .inl (fun _ => 0))), (w15, .inr (4, [.ref w16, .ref w17, .ref w18, .ref w19, .ref w20, .int 0, .int 0, .int 0])), (w26, .inr (6, [.ref w27, .ref w28, .int 0, .int 0, .int 0, .int 0]))] H := hP
  have hD : va_D A [(w27, .inl (d29, 1101, .inl (fun _ => 0))), (w28, .inl (d30, 1101, .inl (fun _ => 0))), (w15, .inr (4, [.ref w16, .ref w17, .ref w18, .ref w19, .ref w20, .int 0, .int 0, .int 0])), (w26, .inr (6, [.ref w27, .ref w28, .int 0, .int 0, .int 0, .int 0]))] := hD
  have hK : va_K (dC, dI) vwCl [(d29, .int), (d30, .int)] s := hK
  refine W.widen (k := 0) (n := 0) (by omega) (by omega) ?_
  obtain rfl : r3 = 0 := hw
  refine lv_if_ne (tgt := 82) hx hb dX6_tidyRange_68 (by decide) (fun c9 => absurd (by decide +kernel) c9) (fun _ => ?_)
  refine lv_aload_n hx hb dX6_tidyRange_71 rfl (lv_at hl 5 rfl) ?_
  refine lv_aload_n hx hb dX6_tidyRange_72 rfl (lv_at hl 6 rfl) ?_
  refine lv_iload_n hx hb dX6_tidyRange_73 rfl (lv_at hl 7 rfl) ?_
  refine lv_iload hx hb dX6_tidyRange_74 (lv_at hl 0 rfl) ?_
  have hPc := hP.sub (ws' := [(w26, .inr (6, [.ref w27, .ref w28, .int 0, .int 0, .int 0, .int 0])), (w27, .inl (d29, 1101, .inl (fun _ => 0))), (w28, .inl (d30, 1101, .inl (fun _ => 0)))]) [3, 0, 1] rfl
  have hDc := hD.sub (ws' := [(w26, .inr (6, [.ref w27, .ref w28, .int 0, .int 0, .int 0, .int 0])), (w27, .inl (d29, 1101, .inl (fun _ => 0))), (w28, .inl (d30, 1101, .inl (fun _ => 0)))]) [3, 0, 1] (by decide) rfl
  have hKc := hK.sub (tys' := [(d29, .int), (d30, .int)]) [0, 1] rfl
  have hFc := va_free (wc := [(w26, .inr (6, [.ref w27, .ref w28, .int 0, .int 0, .int 0, .int 0])), (w27, .inl (d29, 1101, .inl (fun _ => 0))), (w28, .inl (d30, 1101, .inl (fun _ => 0)))]) hD hS hA [3, 0, 1] rfl
  refine va_calli (va_runV (As := [.ref w15, .int 0, .int 0]) (rest := []) ⟨hx, hb, hml, hown, hts⟩ (c_foldOnce l dC dI H.size (w26) (w27) (w28) (d29) (d30) (w15)) (cwV 3 hts (gV_G k476 k477 k478 k6 k479) rfl rfl rfl (by decide +kernel) ⟨Nat.le_of_ble_eq_true rfl, Nat.le_of_ble_eq_true rfl⟩) ⟨fun a U g mk q => by obtain ⟨q0, q1, qP, qK, qD⟩ := q; exact ⟨q0, q1, qP, va_K.moved (u := U) (U := U.calling g mk a) (Vm.Alike.refl U.vm) qK, qD⟩, va_recv hKc hPc (ci := 6) (q0 := 0) rfl rfl, fun U hU hW => ⟨rfl, by rw [hU], by rw [hU]; exact hPc, va_K.moved hW.alike hKc, hDc.weaken (fun _ _ _ _ => trivial)⟩⟩ rfl rfl hl.1 rfl (lv_room (Nat.le_of_ble_eq_true rfl)) dX6_tidyRange_76 ⟨Nat.le_of_ble_eq_true rfl, Nat.le_of_ble_eq_true rfl⟩) hS (fun q _ h => hFc q h) hFc (fun r4 u t H1 locs ht hvm hw hB hz1 hk1 hS => ?_)
  obtain ⟨hP1, hK1, hD1⟩ := hB
  rw [ht] at hP1
  have hK1 := va_K.moved hvm.symm hK1
  try dsimp only at hw
  obtain ⟨hP, hD⟩ := va_join (wr := [(w15, .inr (4, [.ref w16, .ref w17, .ref w18, .ref w19, .ref w20, .int 0, .int 0, .int 0]))]) (w1 := [(w26, .inr (6, [.ref w27, .ref w28, .int 0, .int 0, .int 0, .int 0])), (w27, .inl (d29, 1101, .inl (fun _ => 0))), (w28, .inl (d30, 1101, .inl (fun _ => 0)))]) hP hD [3, 0, 1] [2] rfl rfl (by decide) (by decide) hk1 hFc hP1 hD1
  have hK := hK.app hK1
  generalize H1 = H at hP hS ⊢
  have hP : va_P (dC, dI) vwCl [(w15, .inr (4, [.ref w16, .ref w17, .ref w18, .ref w19, .ref w20, .int 0, .int 0, .int 0])), (w26, .inr (6, [.ref w27, .ref w28, .int 0, .int 0, .int 0, .int 0])), (w27, .inl (d29, 1101, .inl (fun _ => 0))), (w28, .inl (d30, 1101, .inl (fun _ => 0)))] H := hP
  have hD : va_D A [(w15, .inr (4, [.ref w16, .ref w17, .ref w18, .ref w19, .ref w20, .int 0, .int 0, .int 0])), (w26, .inr (6, [.ref w27, .ref w28, .int 0, .int 0, .int 0, .int 0])), (w27, .inl (d29, 1101, .inl (fun _ => 0))), (w28, .inl (d30, 1101, .inl (fun _ => 0)))] := hD
  have hK : va_K (dC, dI) vwCl [(d29, .int), (d30, .int), (d29, .int), (d30, .int)] s := hK
  refine W.widen (k := 0) (n := 0) (by omega) (by omega) ?_
  obtain rfl : r4 = 0 := hw
  refine lv_if_eq (tgt := 86) hx hb dX6_tidyRange_79 (by decide) (fun _ => ?_) (fun c9 => absurd (by decide +kernel) c9)
  refine lv_iconst (v := 0) hx hb dX6_tidyRange_86 (by decide) ?_
  refine lv_istore (lv' := [(6, .int 0), (8, .int 0), (7, .int 0), (5, .int 0), (4, .int 0), (0, .ref w26), (1, .ref w15), (2, .int 0), (3, .int 0)]) hx hb dX6_tidyRange_87 hl (by decide) rfl (fun ls hl => ?_)
  refine lv_iload hx hb dX6_tidyRange_89 (lv_at hl 3 rfl) ?_
  refine lv_iload hx hb dX6_tidyRange_91 (lv_at hl 0 rfl) ?_
  refine lv_if_eq (tgt := 100) hx hb dX6_tidyRange_93 (by decide) (fun _ => ?_) (fun c9 => absurd (by decide +kernel) c9)
  refine lv_iconst (v := 0) hx hb dX6_tidyRange_100 (by decide) ?_
  refine lv_iadd hx hb dX6_tidyRange_101 ?_
  refine lv_topi (fun x9 ex9 => ?_)
  obtain rfl : x9 = 0 := ex9.trans (by decide +kernel)
  refine lv_istore (lv' := [(5, .int 0), (6, .int 0), (8, .int 0), (7, .int 0), (4, .int 0), (0, .ref w26), (1, .ref w15), (2, .int 0), (3, .int 0)]) hx hb dX6_tidyRange_102 hl (by decide) rfl (fun ls hl => ?_)
  refine lv_iinc (v := 1) (lv' := [(7, .int 1), (5, .int 0), (6, .int 0), (8, .int 0), (4, .int 0), (0, .ref w26), (1, .ref w15), (2, .int 0), (3, .int 0)]) hx hb dX6_tidyRange_104 hl (k := 3) rfl (by decide +kernel) (by decide) rfl (fun ls hl => ?_)
  refine lv_goto (tgt := 17) hx hb dX6_tidyRange_107 (by decide) ?_
  refine lv_iload hx hb dX6_tidyRange_17 (lv_at hl 0 rfl) ?_
  refine lv_ldc (v := 1000000) hx hb hown (hts _ k428) dX6_tidyRange_19 ?_
  refine lv_icmp_ge (tgt := 110) hx hb dX6_tidyRange_21 (by decide) (fun c9 => absurd c9 (by decide +kernel)) (fun _ => ?_)
  refine lv_iload hx hb dX6_tidyRange_24 (lv_at hl 2 rfl) ?_
  refine lv_if_eq (tgt := 110) hx hb dX6_tidyRange_26 (by decide) (fun _ => ?_) (fun c9 => absurd (by decide +kernel) c9)
  refine lv_iload hx hb dX6_tidyRange_110 (lv_at hl 1 rfl) ?_
  have hP9 := hP.sub (ws' := [(w26, .inr (6, [.ref w27, .ref w28, .int 0, .int 0, .int 0, .int 0])), (w27, .inl (d29, 1101, .inl (fun _ => 0))), (w28, .inl (d30, 1101, .inl (fun _ => 0))), (w15, .inr (4, [.ref w16, .ref w17, .ref w18, .ref w19, .ref w20, .int 0, .int 0, .int 0]))]) [1, 2, 3, 0] rfl
  have hD9 := hD.sub (ws' := [(w26, .inr (6, [.ref w27, .ref w28, .int 0, .int 0, .int 0, .int 0])), (w27, .inl (d29, 1101, .inl (fun _ => 0))), (w28, .inl (d30, 1101, .inl (fun _ => 0))), (w15, .inr (4, [.ref w16, .ref w17, .ref w18, .ref w19, .ref w20, .int 0, .int 0, .int 0]))]) [1, 2, 3, 0] (by decide) rfl
  have hK9 := hK.sub (tys' := [(d29, .int), (d30, .int)]) [0, 1] rfl
  refine W.widen (k := 0) (n := 0) (by omega) (by omega) ?_
  exact W.iret (v := 0) hx hb hr (fun t ht hW => ⟨⟨0, (), rfl, rfl, by rw [ht]; exact hP9, va_K.moved hW.alike hK9, hD9⟩, hS.F ht⟩) hS.2.2 dX6_tidyRange_112
set_option maxHeartbeats 4000000 in
set_option maxRecDepth 100000 in
theorem c_tidyAll (l : Launch) (dC : Nat → ClassId) (dI : Nat → Nat → Nat) (sz : Nat) (w26 : Nat) (w27 : Nat) (w28 : Nat) (w15 : Nat) (w16 : Nat) (w17 : Nat) (w18 : Nat) (w19 : Nat) (w20 : Nat) (d29 : ClassId) (d30 : ClassId)  : Met l yX6_tidyAll (Cond.code yX6_tidyAll cX6_tidyAll 6 (some .int) :: wsG) ({ frames := 4, cells := 0, slots := 0, locals := 94 } : Room) (va_Pc [.ref w26, .ref w15] (fun U => U.heap.size = sz ∧ va_P (dC, dI) vwCl [(w26, .inr (6, [.ref w27, .ref w28, .int 0, .int 0, .int 0, .int 0])), (w27, .inl (d29, 1101, .inl (fun _ => 0))), (w28, .inl (d30, 1101, .inl (fun _ => 0))), (w15, .inr (4, [.ref w16, .ref w17, .ref w18, .ref w19, .ref w20, .int 0, .int 0, .int 0]))] U.heap ∧ va_K (dC, dI) vwCl [(d29, .int), (d30, .int)] U ∧ va_D (fun _ => True) [(w26, .inr (6, [.ref w27, .ref w28, .int 0, .int 0, .int 0, .int 0])), (w27, .inl (d29, 1101, .inl (fun _ => 0))), (w28, .inl (d30, 1101, .inl (fun _ => 0))), (w15, .inr (4, [.ref w16, .ref w17, .ref w18, .ref w19, .ref w20, .int 0, .int 0, .int 0]))])) (va_Qi (fun (r : Int32) (_ : Unit) => r = 0) (fun (_ : Unit) (t : State) => va_P (dC, dI) vwCl [(w26, .inr (6, [.ref w27, .ref w28, .int 0, .int 0, .int 0, .int 0])), (w27, .inl (d29, 1101, .inl (fun _ => 0))), (w28, .inl (d30, 1101, .inl (fun _ => 0))), (w15, .inr (4, [.ref w16, .ref w17, .ref w18, .ref w19, .ref w20, .int 0, .int 0, .int 0]))] t.heap ∧ va_K (dC, dI) vwCl [(d29, .int), (d30, .int)] t ∧ va_D (va_A [(w26, .inr (6, [.ref w27, .ref w28, .int 0, .int 0, .int 0, .int 0])), (w27, .inl (d29, 1101, .inl (fun _ => 0))), (w28, .inl (d30, 1101, .inl (fun _ => 0))), (w15, .inr (4, [.ref w16, .ref w17, .ref w18, .ref w19, .ref w20, .int 0, .int 0, .int 0]))] sz) [(w26, .inr (6, [.ref w27, .ref w28, .int 0, .int 0, .int 0, .int 0])), (w27, .inl (d29, 1101, .inl (fun _ => 0))), (w28, .inl (d30, 1101, .inl (fun _ => 0))), (w15, .inr (4, [.ref w16, .ref w17, .ref w18, .ref w19, .ref w20, .int 0, .int 0, .int 0]))]) (va_A [(w26, .inr (6, [.ref w27, .ref w28, .int 0, .int 0, .int 0, .int 0])), (w27, .inl (d29, 1101, .inl (fun _ => 0))), (w28, .inl (d30, 1101, .inl (fun _ => 0))), (w15, .inr (4, [.ref w16, .ref w17, .ref w18, .ref w19, .ref w20, .int 0, .int 0, .int 0]))] sz)) 0 0 (va_A [(w26, .inr (6, [.ref w27, .ref w28, .int 0, .int 0, .int 0, .int 0])), (w27, .inl (d29, 1101, .inl (fun _ => 0))), (w28, .inl (d30, 1101, .inl (fun _ => 0))), (w15, .inr (4, [.ref w16, .ref w17, .ref w18, .ref w19, .ref w20, .int 0, .int 0, .int 0]))] sz) := by
  refine Met.ofW (cc := cX6_tidyAll) (maxL := 6) (ret := (some .int)) (by decide) rfl ?_
  intro p e s m args below meth c s₁ B hml hv
  obtain ⟨rfl, hsz, hP, hK, hD0⟩ := hv
  have hx := B.exec
  have hb := B.bytes
  have hr := B.returns
  have hts : ∀ w ∈ wsG, w.before _ s = true := hG_of (atoms_spec (ws := (Cond.code yX6_tidyAll cX6_tidyAll 6 (some .int) :: wsG)) B.pre)
  have hown : s.vm.findClass RX6 = some m.cls := findClass_of_methodNamed B.named
  have hlocks := B.notSynchronized
  subst hsz
  have hD := hD0.self (sz := s.heap.size)
  generalize hAe : va_A [(w26, .inr (6, [.ref w27, .ref w28, .int 0, .int 0, .int 0, .int 0])), (w27, .inl (d29, 1101, .inl (fun _ => 0))), (w28, .inl (d30, 1101, .inl (fun _ => 0))), (w15, .inr (4, [.ref w16, .ref w17, .ref w18, .ref w19, .ref w20, .int 0, .int 0, .int 0]))] s.heap.size = A at hD ⊢
  have hA : ∀ q : Nat, s.heap.size ≤ q → A q := fun q h => by rw [← hAe]; exact Or.inr h
  have hS : va_S A s.heap s.heap [] := va_S.rf
  have hl := lv_entry ([.ref w26, .ref w15]) (n := 6) (Nat.le_of_ble_eq_true rfl)
  rw [lg_entry_eq]
  generalize (lg_sl ([.ref w26, .ref w15]) ++ List.replicate (6 - (lg_sl ([.ref w26, .ref w15])).length) Slot.unset).toArray = ls at hl ⊢
  have hl : lv_has ls 6 [(0, .ref w26), (1, .ref w15)] := hl
  refine lv_iconst (v := 0) hx hb dX6_tidyAll_0 (by decide) ?_
  refine lv_istore_n (lv' := [(2, .int 0), (0, .ref w26), (1, .ref w15)]) hx hb dX6_tidyAll_1 rfl hl (by decide) rfl (fun ls hl => ?_)
  refine lv_iconst (v := 0) hx hb dX6_tidyAll_2 (by decide) ?_
  refine lv_istore_n (lv' := [(3, .int 0), (2, .int 0), (0, .ref w26), (1, .ref w15)]) hx hb dX6_tidyAll_3 rfl hl (by decide) rfl (fun ls hl => ?_)
  refine lv_iconst (v := 0) hx hb dX6_tidyAll_4 (by decide) ?_
  refine lv_istore (lv' := [(4, .int 0), (3, .int 0), (2, .int 0), (0, .ref w26), (1, .ref w15)]) hx hb dX6_tidyAll_5 hl (by decide) rfl (fun ls hl => ?_)
  refine lv_iload hx hb dX6_tidyAll_7 (lv_at hl 0 rfl) ?_
  refine lv_ldc (v := 1000000) hx hb hown (hts _ k428) dX6_tidyAll_9 ?_
  refine lv_icmp_ge (tgt := 77) hx hb dX6_tidyAll_11 (by decide) (fun c9 => absurd c9 (by decide +kernel)) (fun _ => ?_)
  refine lv_iload_n hx hb dX6_tidyAll_14 rfl (lv_at hl 1 rfl) ?_
  refine lv_aload_n hx hb dX6_tidyAll_15 rfl (lv_at hl 4 rfl) ?_
  refine va_get (D := (dC, dI)) (ci := 4) (v := .int 0) (C := RX4) (T := TX4) (N := 8) hx hb hts inG4 hown hK hP 3 rfl rfl 5 (by decide) (hts _ k96) (fun _ h9 => h9) rfl dX6_tidyAll_16 ?_
  refine lv_icmp_ge (tgt := 77) hx hb dX6_tidyAll_19 (by decide) (fun _ => ?_) (fun c9 => absurd (by decide +kernel) c9)
  refine lv_iload_n hx hb dX6_tidyAll_77 rfl (lv_at hl 2 rfl) ?_
  refine lv_aload_n hx hb dX6_tidyAll_78 rfl (lv_at hl 3 rfl) ?_
  refine lv_aload_n hx hb dX6_tidyAll_79 rfl (lv_at hl 4 rfl) ?_
  refine lv_iconst (v := 0) hx hb dX6_tidyAll_80 (by decide) ?_
  refine lv_aload_n hx hb dX6_tidyAll_81 rfl (lv_at hl 4 rfl) ?_
  refine va_get (D := (dC, dI)) (ci := 4) (v := .int 0) (C := RX4) (T := TX4) (N := 8) hx hb hts inG4 hown hK hP 3 rfl rfl 5 (by decide) (hts _ k96) (fun _ h9 => h9) rfl dX6_tidyAll_82 ?_
  have hPc := hP.sub (ws' := [(w26, .inr (6, [.ref w27, .ref w28, .int 0, .int 0, .int 0, .int 0])), (w27, .inl (d29, 1101, .inl (fun _ => 0))), (w28, .inl (d30, 1101, .inl (fun _ => 0))), (w15, .inr (4, [.ref w16, .ref w17, .ref w18, .ref w19, .ref w20, .int 0, .int 0, .int 0]))]) [0, 1, 2, 3] rfl
  have hDc := hD.sub (ws' := [(w26, .inr (6, [.ref w27, .ref w28, .int 0, .int 0, .int 0, .int 0])), (w27, .inl (d29, 1101, .inl (fun _ => 0))), (w28, .inl (d30, 1101, .inl (fun _ => 0))), (w15, .inr (4, [.ref w16, .ref w17, .ref w18, .ref w19, .ref w20, .int 0, .int 0, .int 0]))]) [0, 1, 2, 3] (by decide) rfl
  have hKc := hK.sub (tys' := [(d29, .int), (d30, .int)]) [0, 1] rfl
  have hFc := va_free (wc := [(w26, .inr (6, [.ref w27, .ref w28, .int 0, .int 0, .int 0, .int 0])), (w27, .inl (d29, 1101, .inl (fun _ => 0))), (w28, .inl (d30, 1101, .inl (fun _ => 0))), (w15, .inr (4, [.ref w16, .ref w17, .ref w18, .ref w19, .ref w20, .int 0, .int 0, .int 0]))]) hD hS hA [0, 1, 2, 3] rfl
  refine va_calli (va_runV (As := [.ref w15, .int 0, .int 0]) (rest := [.int 0]) ⟨hx, hb, hml, hown, hts⟩ (c_tidyRange l dC dI s.heap.size (w26) (w27) (w28) (w15) (w16) (w17) (w18) (w19) (w20) (d29) (d30)) (cwV 3 hts (gV_G k429 k431 ks_yX6_tidyRange k6 k432) rfl rfl rfl (by decide +kernel) ⟨Nat.le_of_ble_eq_true rfl, Nat.le_of_ble_eq_true rfl⟩) ⟨fun a U g mk q => by obtain ⟨q0, q1, qP, qK, qD⟩ := q; exact ⟨q0, q1, qP, va_K.moved (u := U) (U := U.calling g mk a) (Vm.Alike.refl U.vm) qK, qD⟩, va_recv hKc hPc (ci := 6) (q0 := 0) rfl rfl, fun U hU hW => ⟨rfl, by rw [hU], by rw [hU]; exact hPc, va_K.moved hW.alike hKc, hDc.weaken (fun _ _ _ _ => trivial)⟩⟩ rfl rfl hl.1 rfl (lv_room (Nat.le_of_ble_eq_true rfl)) dX6_tidyAll_85 ⟨Nat.le_of_ble_eq_true rfl, Nat.le_of_ble_eq_true rfl⟩) hS (fun q _ h => hFc q h) hFc (fun r1 u t H1 locs ht hvm hw hB hz1 hk1 hS => ?_)
  obtain ⟨hP1, hK1, hD1⟩ := hB
  rw [ht] at hP1
  have hK1 := va_K.moved hvm.symm hK1
  try dsimp only at hw
  obtain ⟨hP, hD⟩ := va_join (wr := []) (w1 := [(w26, .inr (6, [.ref w27, .ref w28, .int 0, .int 0, .int 0, .int 0])), (w27, .inl (d29, 1101, .inl (fun _ => 0))), (w28, .inl (d30, 1101, .inl (fun _ => 0))), (w15, .inr (4, [.ref w16, .ref w17, .ref w18, .ref w19, .ref w20, .int 0, .int 0, .int 0]))]) hP hD [0, 1, 2, 3] [] rfl rfl (by decide) (by decide) hk1 hFc hP1 hD1
  have hK := hK.app hK1
  generalize H1 = H at hP hS ⊢
  have hP : va_P (dC, dI) vwCl [(w26, .inr (6, [.ref w27, .ref w28, .int 0, .int 0, .int 0, .int 0])), (w27, .inl (d29, 1101, .inl (fun _ => 0))), (w28, .inl (d30, 1101, .inl (fun _ => 0))), (w15, .inr (4, [.ref w16, .ref w17, .ref w18, .ref w19, .ref w20, .int 0, .int 0, .int 0]))] H := hP
  have hD : va_D A [(w26, .inr (6, [.ref w27, .ref w28, .int 0, .int 0, .int 0, .int 0])), (w27, .inl (d29, 1101, .inl (fun _ => 0))), (w28, .inl (d30, 1101, .inl (fun _ => 0))), (w15, .inr (4, [.ref w16, .ref w17, .ref w18, .ref w19, .ref w20, .int 0, .int 0, .int 0]))] := hD
  have hK : va_K (dC, dI) vwCl [(d29, .int), (d30, .int), (d29, .int), (d30, .int)] s := hK
  refine W.widen (k := 0) (n := 0) (by omega) (by omega) ?_
  obtain rfl : r1 = 0 := hw
  refine lv_iadd hx hb dX6_tidyAll_88 ?_
  refine lv_topi (fun x9 ex9 => ?_)
  obtain rfl : x9 = 0 := ex9.trans (by decide +kernel)
  have hP9 := hP.sub (ws' := [(w26, .inr (6, [.ref w27, .ref w28, .int 0, .int 0, .int 0, .int 0])), (w27, .inl (d29, 1101, .inl (fun _ => 0))), (w28, .inl (d30, 1101, .inl (fun _ => 0))), (w15, .inr (4, [.ref w16, .ref w17, .ref w18, .ref w19, .ref w20, .int 0, .int 0, .int 0]))]) [0, 1, 2, 3] rfl
  have hD9 := hD.sub (ws' := [(w26, .inr (6, [.ref w27, .ref w28, .int 0, .int 0, .int 0, .int 0])), (w27, .inl (d29, 1101, .inl (fun _ => 0))), (w28, .inl (d30, 1101, .inl (fun _ => 0))), (w15, .inr (4, [.ref w16, .ref w17, .ref w18, .ref w19, .ref w20, .int 0, .int 0, .int 0]))]) [0, 1, 2, 3] (by decide) rfl
  have hK9 := hK.sub (tys' := [(d29, .int), (d30, .int)]) [0, 1] rfl
  refine W.widen (k := 0) (n := 0) (by omega) (by omega) ?_
  exact W.iret (v := 0) hx hb hr (fun t ht hW => ⟨⟨0, (), rfl, rfl, by rw [ht]; exact hP9, va_K.moved hW.alike hK9, hD9⟩, hS.F ht⟩) hS.2.2 dX6_tidyAll_89
set_option maxHeartbeats 4000000 in
set_option maxRecDepth 100000 in
theorem c_tryToTidy (l : Launch) (dC : Nat → ClassId) (dI : Nat → Nat → Nat) (sz : Nat) (h0 : Nat) (w1 : Nat) (w6 : Nat) (w8 : Nat) (w15 : Nat) (w22 : Nat) (w26 : Nat) (w31 : Nat) (w35 : Nat) (w40 : Nat) (w48 : Nat) (w50 : Nat) (w52 : Nat) (w9 : Nat) (w10 : Nat) (w11 : Nat) (w12 : Nat) (w13 : Nat) (w16 : Nat) (w17 : Nat) (w18 : Nat) (w19 : Nat) (w20 : Nat) (w27 : Nat) (w28 : Nat) (d21 : ClassId) (d29 : ClassId) (d30 : ClassId)  : Met l yX9_tryToTidy (Cond.code yX9_tryToTidy cX9_tryToTidy 1 (some .int) :: wsG) ({ frames := 5, cells := 0, slots := 0, locals := 119 } : Room) (va_Pc [.ref h0] (fun U => U.heap.size = sz ∧ va_P (dC, dI) vwCl [(h0, .inr (9, [.ref w1, .ref w6, .int 0, .ref w8, .ref w15, .int 0, .int 0, .ref w22, .ref w26, .ref w31, .ref w35, .ref w40, .ref w48, .ref w50, .ref w52])), (w8, .inr (4, [.ref w9, .ref w10, .ref w11, .ref w12, .ref w13, .int 0, .int 0, .int 0])), (w15, .inr (4, [.ref w16, .ref w17, .ref w18, .ref w19, .ref w20, .int 0, .int 0, .int 0])), (w18, .inl (d21, 1101, .inl (fun _ => 0))), (w26, .inr (6, [.ref w27, .ref w28, .int 0, .int 0, .int 0, .int 0])), (w27, .inl (d29, 1101, .inl (fun _ => 0))), (w28, .inl (d30, 1101, .inl (fun _ => 0)))] U.heap ∧ va_K (dC, dI) vwCl [(d21, .int), (d29, .int), (d30, .int)] U ∧ va_D (fun _ => True) [(h0, .inr (9, [.ref w1, .ref w6, .int 0, .ref w8, .ref w15, .int 0, .int 0, .ref w22, .ref w26, .ref w31, .ref w35, .ref w40, .ref w48, .ref w50, .ref w52])), (w8, .inr (4, [.ref w9, .ref w10, .ref w11, .ref w12, .ref w13, .int 0, .int 0, .int 0])), (w15, .inr (4, [.ref w16, .ref w17, .ref w18, .ref w19, .ref w20, .int 0, .int 0, .int 0])), (w18, .inl (d21, 1101, .inl (fun _ => 0))), (w26, .inr (6, [.ref w27, .ref w28, .int 0, .int 0, .int 0, .int 0])), (w27, .inl (d29, 1101, .inl (fun _ => 0))), (w28, .inl (d30, 1101, .inl (fun _ => 0)))])) (va_Qi (fun (r : Int32) (_ : Unit) => r = 0) (fun (_ : Unit) (t : State) => va_P (dC, dI) vwCl [(h0, .inr (9, [.ref w1, .ref w6, .int 0, .ref w8, .ref w15, .int 0, .int 0, .ref w22, .ref w26, .ref w31, .ref w35, .ref w40, .ref w48, .ref w50, .ref w52])), (w8, .inr (4, [.ref w9, .ref w10, .ref w11, .ref w12, .ref w13, .int 0, .int 0, .int 0])), (w15, .inr (4, [.ref w16, .ref w17, .ref w18, .ref w19, .ref w20, .int 0, .int 0, .int 0])), (w18, .inl (d21, 1101, .inl (fun _ => 0))), (w26, .inr (6, [.ref w27, .ref w28, .int 0, .int 0, .int 0, .int 0])), (w27, .inl (d29, 1101, .inl (fun _ => 0))), (w28, .inl (d30, 1101, .inl (fun _ => 0)))] t.heap ∧ va_K (dC, dI) vwCl [(d21, .int), (d29, .int), (d30, .int)] t ∧ va_D (va_A [(h0, .inr (9, [.ref w1, .ref w6, .int 0, .ref w8, .ref w15, .int 0, .int 0, .ref w22, .ref w26, .ref w31, .ref w35, .ref w40, .ref w48, .ref w50, .ref w52])), (w8, .inr (4, [.ref w9, .ref w10, .ref w11, .ref w12, .ref w13, .int 0, .int 0, .int 0])), (w15, .inr (4, [.ref w16, .ref w17, .ref w18, .ref w19, .ref w20, .int 0, .int 0, .int 0])), (w18, .inl (d21, 1101, .inl (fun _ => 0))), (w26, .inr (6, [.ref w27, .ref w28, .int 0, .int 0, .int 0, .int 0])), (w27, .inl (d29, 1101, .inl (fun _ => 0))), (w28, .inl (d30, 1101, .inl (fun _ => 0)))] sz) [(h0, .inr (9, [.ref w1, .ref w6, .int 0, .ref w8, .ref w15, .int 0, .int 0, .ref w22, .ref w26, .ref w31, .ref w35, .ref w40, .ref w48, .ref w50, .ref w52])), (w8, .inr (4, [.ref w9, .ref w10, .ref w11, .ref w12, .ref w13, .int 0, .int 0, .int 0])), (w15, .inr (4, [.ref w16, .ref w17, .ref w18, .ref w19, .ref w20, .int 0, .int 0, .int 0])), (w18, .inl (d21, 1101, .inl (fun _ => 0))), (w26, .inr (6, [.ref w27, .ref w28, .int 0, .int 0, .int 0, .int 0])), (w27, .inl (d29, 1101, .inl (fun _ => 0))), (w28, .inl (d30, 1101, .inl (fun _ => 0)))]) (va_A [(h0, .inr (9, [.ref w1, .ref w6, .int 0, .ref w8, .ref w15, .int 0, .int 0, .ref w22, .ref w26, .ref w31, .ref w35, .ref w40, .ref w48, .ref w50, .ref w52])), (w8, .inr (4, [.ref w9, .ref w10, .ref w11, .ref w12, .ref w13, .int 0, .int 0, .int 0])), (w15, .inr (4, [.ref w16, .ref w17, .ref w18, .ref w19, .ref w20, .int 0, .int 0, .int 0])), (w18, .inl (d21, 1101, .inl (fun _ => 0))), (w26, .inr (6, [.ref w27, .ref w28, .int 0, .int 0, .int 0, .int 0])), (w27, .inl (d29, 1101, .inl (fun _ => 0))), (w28, .inl (d30, 1101, .inl (fun _ => 0)))] sz)) 0 0 (va_A [(h0, .inr (9, [.ref w1, .ref w6, .int 0, .ref w8, .ref w15, .int 0, .int 0, .ref w22, .ref w26, .ref w31, .ref w35, .ref w40, .ref w48, .ref w50, .ref w52])), (w8, .inr (4, [.ref w9, .ref w10, .ref w11, .ref w12, .ref w13, .int 0, .int 0, .int 0])), (w15, .inr (4, [.ref w16, .ref w17, .ref w18, .ref w19, .ref w20, .int 0, .int 0, .int 0])), (w18, .inl (d21, 1101, .inl (fun _ => 0))), (w26, .inr (6, [.ref w27, .ref w28, .int 0, .int 0, .int 0, .int 0])), (w27, .inl (d29, 1101, .inl (fun _ => 0))), (w28, .inl (d30, 1101, .inl (fun _ => 0)))] sz) := by
  refine Met.ofW (cc := cX9_tryToTidy) (maxL := 1) (ret := (some .int)) (by decide) rfl ?_
  intro p e s m args below meth c s₁ B hml hv
  obtain ⟨rfl, hsz, hP, hK, hD0⟩ := hv
  have hx := B.exec
  have hb := B.bytes
  have hr := B.returns
  have hts : ∀ w ∈ wsG, w.before _ s = true := hG_of (atoms_spec (ws := (Cond.code yX9_tryToTidy cX9_tryToTidy 1 (some .int) :: wsG)) B.pre)
  have hown : s.vm.findClass RX9 = some m.cls := findClass_of_methodNamed B.named
  have hlocks := B.notSynchronized
  subst hsz
  have hD := hD0.self (sz := s.heap.size)
  generalize hAe : va_A [(h0, .inr (9, [.ref w1, .ref w6, .int 0, .ref w8, .ref w15, .int 0, .int 0, .ref w22, .ref w26, .ref w31, .ref w35, .ref w40, .ref w48, .ref w50, .ref w52])), (w8, .inr (4, [.ref w9, .ref w10, .ref w11, .ref w12, .ref w13, .int 0, .int 0, .int 0])), (w15, .inr (4, [.ref w16, .ref w17, .ref w18, .ref w19, .ref w20, .int 0, .int 0, .int 0])), (w18, .inl (d21, 1101, .inl (fun _ => 0))), (w26, .inr (6, [.ref w27, .ref w28, .int 0, .int 0, .int 0, .int 0])), (w27, .inl (d29, 1101, .inl (fun _ => 0))), (w28, .inl (d30, 1101, .inl (fun _ => 0)))] s.heap.size = A at hD ⊢
  have hA : ∀ q : Nat, s.heap.size ≤ q → A q := fun q h => by rw [← hAe]; exact Or.inr h
  have hS : va_S A s.heap s.heap [] := va_S.rf
  have hl := lv_entry ([.ref h0]) (n := 1) (Nat.le_of_ble_eq_true rfl)
  rw [lg_entry_eq]
  generalize (lg_sl ([.ref h0]) ++ List.replicate (1 - (lg_sl ([.ref h0])).length) Slot.unset).toArray = ls at hl ⊢
  have hl : lv_has ls 1 [(0, .ref h0)] := hl
  refine lv_aload_n hx hb dX9_tryToTidy_0 rfl (lv_at hl 0 rfl) ?_
  refine va_get (D := (dC, dI)) (ci := 9) (v := .ref w15) (C := RX9) (T := TX9) (N := 15) hx hb hts inG9 hown hK hP 0 rfl rfl 4 (by decide) (hts _ k336) (fun _ h9 => h9) rfl dX9_tryToTidy_1 ?_
  refine lv_aload_n hx hb dX9_tryToTidy_4 rfl (lv_at hl 0 rfl) ?_
  refine va_get (D := (dC, dI)) (ci := 9) (v := .ref w8) (C := RX9) (T := TX9) (N := 15) hx hb hts inG9 hown hK hP 0 rfl rfl 3 (by decide) (hts _ k335) (fun _ h9 => h9) rfl dX9_tryToTidy_5 ?_
  have hPc := hP.sub (ws' := [(w15, .inr (4, [.ref w16, .ref w17, .ref w18, .ref w19, .ref w20, .int 0, .int 0, .int 0])), (w18, .inl (d21, 1101, .inl (fun _ => 0))), (w8, .inr (4, [.ref w9, .ref w10, .ref w11, .ref w12, .ref w13, .int 0, .int 0, .int 0]))]) [2, 3, 1] rfl
  have hDc := hD.sub (ws' := [(w15, .inr (4, [.ref w16, .ref w17, .ref w18, .ref w19, .ref w20, .int 0, .int 0, .int 0])), (w18, .inl (d21, 1101, .inl (fun _ => 0))), (w8, .inr (4, [.ref w9, .ref w10, .ref w11, .ref w12, .ref w13, .int 0, .int 0, .int 0]))]) [2, 3, 1] (by decide) rfl
  have hKc := hK.sub (tys' := [(d21, .int)]) [0] rfl
  have hFc := va_free (wc := [(w15, .inr (4, [.ref w16, .ref w17, .ref w18, .ref w19, .ref w20, .int 0, .int 0, .int 0])), (w18, .inl (d21, 1101, .inl (fun _ => 0))), (w8, .inr (4, [.ref w9, .ref w10, .ref w11, .ref w12, .ref w13, .int 0, .int 0, .int 0]))]) hD hS hA [2, 3, 1] rfl
  refine va_callv (va_runV (As := [.ref w8]) (rest := []) ⟨hx, hb, hml, hown, hts⟩ (c_take l dC dI s.heap.size (w15) (w16) (w17) (w18) (w19) (w20) (w8) (w9) (w10) (w11) (w12) (w13) (d21)) (cwV 1 hts (gV_G k398 k399 k400 k3 k401) rfl rfl rfl (by decide +kernel) ⟨Nat.le_of_ble_eq_true rfl, Nat.le_of_ble_eq_true rfl⟩) ⟨fun a U g mk q => by obtain ⟨q0, q1, qP, qK, qD⟩ := q; exact ⟨q0, q1, qP, va_K.moved (u := U) (U := U.calling g mk a) (Vm.Alike.refl U.vm) qK, qD⟩, va_recv hKc hPc (ci := 4) (q0 := 0) rfl rfl, fun U hU hW => ⟨rfl, by rw [hU], by rw [hU]; exact hPc, va_K.moved hW.alike hKc, hDc.weaken (fun _ _ _ _ => trivial)⟩⟩ rfl rfl hl.1 rfl (lv_room (Nat.le_of_ble_eq_true rfl)) dX9_tryToTidy_8 ⟨Nat.le_of_ble_eq_true rfl, Nat.le_of_ble_eq_true rfl⟩) hS (fun q _ h => hFc q h) hFc (fun u t H1 locs ht hvm hw hB hz1 hk1 hS => ?_)
  obtain ⟨hP1, hK1, hD1⟩ := hB
  rw [ht] at hP1
  have hK1 := va_K.moved hvm.symm hK1
  try dsimp only at hw
  obtain ⟨hP, hD⟩ := va_join (wr := [(h0, .inr (9, [.ref w1, .ref w6, .int 0, .ref w8, .ref w15, .int 0, .int 0, .ref w22, .ref w26, .ref w31, .ref w35, .ref w40, .ref w48, .ref w50, .ref w52])), (w26, .inr (6, [.ref w27, .ref w28, .int 0, .int 0, .int 0, .int 0])), (w27, .inl (d29, 1101, .inl (fun _ => 0))), (w28, .inl (d30, 1101, .inl (fun _ => 0)))]) (w1 := [(w15, .inr (4, [.ref w16, .ref w17, .ref w18, .ref w19, .ref w20, .int 0, .int 0, .int 0])), (w18, .inl (d21, 1101, .inl (fun _ => 0))), (w8, .inr (4, [.ref w9, .ref w10, .ref w11, .ref w12, .ref w13, .int 0, .int 0, .int 0]))]) hP hD [2, 3, 1] [0, 4, 5, 6] rfl rfl (by decide) (by decide) hk1 hFc hP1 hD1
  have hK := hK.app hK1
  generalize H1 = H at hP hS ⊢
  have hP : va_P (dC, dI) vwCl [(h0, .inr (9, [.ref w1, .ref w6, .int 0, .ref w8, .ref w15, .int 0, .int 0, .ref w22, .ref w26, .ref w31, .ref w35, .ref w40, .ref w48, .ref w50, .ref w52])), (w26, .inr (6, [.ref w27, .ref w28, .int 0, .int 0, .int 0, .int 0])), (w27, .inl (d29, 1101, .inl (fun _ => 0))), (w28, .inl (d30, 1101, .inl (fun _ => 0))), (w15, .inr (4, [.ref w16, .ref w17, .ref w18, .ref w19, .ref w20, .int 0, .int 0, .int 0])), (w18, .inl (d21, 1101, .inl (fun _ => 0))), (w8, .inr (4, [.ref w9, .ref w10, .ref w11, .ref w12, .ref w13, .int 0, .int 0, .int 0]))] H := hP
  have hD : va_D A [(h0, .inr (9, [.ref w1, .ref w6, .int 0, .ref w8, .ref w15, .int 0, .int 0, .ref w22, .ref w26, .ref w31, .ref w35, .ref w40, .ref w48, .ref w50, .ref w52])), (w26, .inr (6, [.ref w27, .ref w28, .int 0, .int 0, .int 0, .int 0])), (w27, .inl (d29, 1101, .inl (fun _ => 0))), (w28, .inl (d30, 1101, .inl (fun _ => 0))), (w15, .inr (4, [.ref w16, .ref w17, .ref w18, .ref w19, .ref w20, .int 0, .int 0, .int 0])), (w18, .inl (d21, 1101, .inl (fun _ => 0))), (w8, .inr (4, [.ref w9, .ref w10, .ref w11, .ref w12, .ref w13, .int 0, .int 0, .int 0]))] := hD
  have hK : va_K (dC, dI) vwCl [(d21, .int), (d29, .int), (d30, .int), (d21, .int)] s := hK
  refine W.widen (k := 0) (n := 0) (by omega) (by omega) ?_
  refine lv_aload_n hx hb dX9_tryToTidy_11 rfl (lv_at hl 0 rfl) ?_
  refine va_get (D := (dC, dI)) (ci := 9) (v := .ref w26) (C := RX9) (T := TX9) (N := 15) hx hb hts inG9 hown hK hP 0 rfl rfl 8 (by decide) (hts _ k340) (fun _ h9 => h9) rfl dX9_tryToTidy_12 ?_
  refine lv_aload_n hx hb dX9_tryToTidy_15 rfl (lv_at hl 0 rfl) ?_
  refine va_get (D := (dC, dI)) (ci := 9) (v := .ref w15) (C := RX9) (T := TX9) (N := 15) hx hb hts inG9 hown hK hP 0 rfl rfl 4 (by decide) (hts _ k336) (fun _ h9 => h9) rfl dX9_tryToTidy_16 ?_
  have hPc := hP.sub (ws' := [(w26, .inr (6, [.ref w27, .ref w28, .int 0, .int 0, .int 0, .int 0])), (w27, .inl (d29, 1101, .inl (fun _ => 0))), (w28, .inl (d30, 1101, .inl (fun _ => 0))), (w15, .inr (4, [.ref w16, .ref w17, .ref w18, .ref w19, .ref w20, .int 0, .int 0, .int 0]))]) [1, 2, 3, 4] rfl
  have hDc := hD.sub (ws' := [(w26, .inr (6, [.ref w27, .ref w28, .int 0, .int 0, .int 0, .int 0])), (w27, .inl (d29, 1101, .inl (fun _ => 0))), (w28, .inl (d30, 1101, .inl (fun _ => 0))), (w15, .inr (4, [.ref w16, .ref w17, .ref w18, .ref w19, .ref w20, .int 0, .int 0, .int 0]))]) [1, 2, 3, 4] (by decide) rfl
  have hKc := hK.sub (tys' := [(d29, .int), (d30, .int)]) [1, 2] rfl
  have hFc := va_free (wc := [(w26, .inr (6, [.ref w27, .ref w28, .int 0, .int 0, .int 0, .int 0])), (w27, .inl (d29, 1101, .inl (fun _ => 0))), (w28, .inl (d30, 1101, .inl (fun _ => 0))), (w15, .inr (4, [.ref w16, .ref w17, .ref w18, .ref w19, .ref w20, .int 0, .int 0, .int 0]))]) hD hS hA [1, 2, 3, 4] rfl
  refine va_calli (va_runV (As := [.ref w15]) (rest := []) ⟨hx, hb, hml, hown, hts⟩ (c_tidyAll l dC dI H.size (w26) (w27) (w28) (w15) (w16) (w17) (w18) (w19) (w20) (d29) (d30)) (cwV 1 hts (gV_G k424 k425 k426 k6 k427) rfl rfl rfl (by decide +kernel) ⟨Nat.le_of_ble_eq_true rfl, Nat.le_of_ble_eq_true rfl⟩) ⟨fun a U g mk q => by obtain ⟨q0, q1, qP, qK, qD⟩ := q; exact ⟨q0, q1, qP, va_K.moved (u := U) (U := U.calling g mk a) (Vm.Alike.refl U.vm) qK, qD⟩, va_recv hKc hPc (ci := 6) (q0 := 0) rfl rfl, fun U hU hW => ⟨rfl, by rw [hU], by rw [hU]; exact hPc, va_K.moved hW.alike hKc, hDc.weaken (fun _ _ _ _ => trivial)⟩⟩ rfl rfl hl.1 rfl (lv_room (Nat.le_of_ble_eq_true rfl)) dX9_tryToTidy_19 ⟨Nat.le_of_ble_eq_true rfl, Nat.le_of_ble_eq_true rfl⟩) hS (fun q _ h => hFc q h) hFc (fun r1 u t H1 locs ht hvm hw hB hz1 hk1 hS => ?_)
  obtain ⟨hP1, hK1, hD1⟩ := hB
  rw [ht] at hP1
  have hK1 := va_K.moved hvm.symm hK1
  try dsimp only at hw
  obtain ⟨hP, hD⟩ := va_join (wr := [(h0, .inr (9, [.ref w1, .ref w6, .int 0, .ref w8, .ref w15, .int 0, .int 0, .ref w22, .ref w26, .ref w31, .ref w35, .ref w40, .ref w48, .ref w50, .ref w52])), (w18, .inl (d21, 1101, .inl (fun _ => 0))), (w8, .inr (4, [.ref w9, .ref w10, .ref w11, .ref w12, .ref w13, .int 0, .int 0, .int 0]))]) (w1 := [(w26, .inr (6, [.ref w27, .ref w28, .int 0, .int 0, .int 0, .int 0])), (w27, .inl (d29, 1101, .inl (fun _ => 0))), (w28, .inl (d30, 1101, .inl (fun _ => 0))), (w15, .inr (4, [.ref w16, .ref w17, .ref w18, .ref w19, .ref w20, .int 0, .int 0, .int 0]))]) hP hD [1, 2, 3, 4] [0, 5, 6] rfl rfl (by decide) (by decide) hk1 hFc hP1 hD1
  have hK := hK.app hK1
  generalize H1 = H at hP hS ⊢
  have hP : va_P (dC, dI) vwCl [(h0, .inr (9, [.ref w1, .ref w6, .int 0, .ref w8, .ref w15, .int 0, .int 0, .ref w22, .ref w26, .ref w31, .ref w35, .ref w40, .ref w48, .ref w50, .ref w52])), (w18, .inl (d21, 1101, .inl (fun _ => 0))), (w8, .inr (4, [.ref w9, .ref w10, .ref w11, .ref w12, .ref w13, .int 0, .int 0, .int 0])), (w26, .inr (6, [.ref w27, .ref w28, .int 0, .int 0, .int 0, .int 0])), (w27, .inl (d29, 1101, .inl (fun _ => 0))), (w28, .inl (d30, 1101, .inl (fun _ => 0))), (w15, .inr (4, [.ref w16, .ref w17, .ref w18, .ref w19, .ref w20, .int 0, .int 0, .int 0]))] H := hP
  have hD : va_D A [(h0, .inr (9, [.ref w1, .ref w6, .int 0, .ref w8, .ref w15, .int 0, .int 0, .ref w22, .ref w26, .ref w31, .ref w35, .ref w40, .ref w48, .ref w50, .ref w52])), (w18, .inl (d21, 1101, .inl (fun _ => 0))), (w8, .inr (4, [.ref w9, .ref w10, .ref w11, .ref w12, .ref w13, .int 0, .int 0, .int 0])), (w26, .inr (6, [.ref w27, .ref w28, .int 0, .int 0, .int 0, .int 0])), (w27, .inl (d29, 1101, .inl (fun _ => 0))), (w28, .inl (d30, 1101, .inl (fun _ => 0))), (w15, .inr (4, [.ref w16, .ref w17, .ref w18, .ref w19, .ref w20, .int 0, .int 0, .int 0]))] := hD
  have hK : va_K (dC, dI) vwCl [(d21, .int), (d29, .int), (d30, .int), (d21, .int), (d29, .int), (d30, .int)] s := hK
  refine W.widen (k := 0) (n := 0) (by omega) (by omega) ?_
  obtain rfl : r1 = 0 := hw
  have hP9 := hP.sub (ws' := [(h0, .inr (9, [.ref w1, .ref w6, .int 0, .ref w8, .ref w15, .int 0, .int 0, .ref w22, .ref w26, .ref w31, .ref w35, .ref w40, .ref w48, .ref w50, .ref w52])), (w8, .inr (4, [.ref w9, .ref w10, .ref w11, .ref w12, .ref w13, .int 0, .int 0, .int 0])), (w15, .inr (4, [.ref w16, .ref w17, .ref w18, .ref w19, .ref w20, .int 0, .int 0, .int 0])), (w18, .inl (d21, 1101, .inl (fun _ => 0))), (w26, .inr (6, [.ref w27, .ref w28, .int 0, .int 0, .int 0, .int 0])), (w27, .inl (d29, 1101, .inl (fun _ => 0))), (w28, .inl (d30, 1101, .inl (fun _ => 0)))]) [0, 2, 6, 1, 3, 4, 5] rfl
  have hD9 := hD.sub (ws' := [(h0, .inr (9, [.ref w1, .ref w6, .int 0, .ref w8, .ref w15, .int 0, .int 0, .ref w22, .ref w26, .ref w31, .ref w35, .ref w40, .ref w48, .ref w50, .ref w52])), (w8, .inr (4, [.ref w9, .ref w10, .ref w11, .ref w12, .ref w13, .int 0, .int 0, .int 0])), (w15, .inr (4, [.ref w16, .ref w17, .ref w18, .ref w19, .ref w20, .int 0, .int 0, .int 0])), (w18, .inl (d21, 1101, .inl (fun _ => 0))), (w26, .inr (6, [.ref w27, .ref w28, .int 0, .int 0, .int 0, .int 0])), (w27, .inl (d29, 1101, .inl (fun _ => 0))), (w28, .inl (d30, 1101, .inl (fun _ => 0)))]) [0, 2, 6, 1, 3, 4, 5] (by decide) rfl
  have hK9 := hK.sub (tys' := [(d21, .int), (d29, .int), (d30, .int)]) [0, 1, 2] rfl
  refine W.widen (k := 0) (n := 0) (by omega) (by omega) ?_
  exact W.iret (v := 0) hx hb hr (fun t ht hW => ⟨⟨0, (), rfl, rfl, by rw [ht]; exact hP9, va_K.moved hW.alike hK9, hD9⟩, hS.F ht⟩) hS.2.2 dX9_tryToTidy_22
set_option maxHeartbeats 4000000 in
set_option maxRecDepth 100000 in
theorem c_tidy (l : Launch) (dC : Nat → ClassId) (dI : Nat → Nat → Nat) (sz : Nat) (h0 : Nat) (w1 : Nat) (w6 : Nat) (w8 : Nat) (w15 : Nat) (w22 : Nat) (w26 : Nat) (w31 : Nat) (w35 : Nat) (w40 : Nat) (w48 : Nat) (w50 : Nat) (w52 : Nat) (w9 : Nat) (w10 : Nat) (w11 : Nat) (w12 : Nat) (w13 : Nat) (w16 : Nat) (w17 : Nat) (w18 : Nat) (w19 : Nat) (w20 : Nat) (w27 : Nat) (w28 : Nat) (d21 : ClassId) (d29 : ClassId) (d30 : ClassId)  : Met l yX9_tidy (Cond.code yX9_tidy cX9_tidy 2 (some .int) :: wsG) ({ frames := 6, cells := 0, slots := 0, locals := 139 } : Room) (va_Pc [.ref h0] (fun U => U.heap.size = sz ∧ va_P (dC, dI) vwCl [(h0, .inr (9, [.ref w1, .ref w6, .int 0, .ref w8, .ref w15, .int 0, .int 0, .ref w22, .ref w26, .ref w31, .ref w35, .ref w40, .ref w48, .ref w50, .ref w52])), (w8, .inr (4, [.ref w9, .ref w10, .ref w11, .ref w12, .ref w13, .int 0, .int 0, .int 0])), (w15, .inr (4, [.ref w16, .ref w17, .ref w18, .ref w19, .ref w20, .int 0, .int 0, .int 0])), (w18, .inl (d21, 1101, .inl (fun _ => 0))), (w26, .inr (6, [.ref w27, .ref w28, .int 0, .int 0, .int 0, .int 0])), (w27, .inl (d29, 1101, .inl (fun _ => 0))), (w28, .inl (d30, 1101, .inl (fun _ => 0)))] U.heap ∧ va_K (dC, dI) vwCl [(d21, .int), (d29, .int), (d30, .int)] U ∧ va_D (fun _ => True) [(h0, .inr (9, [.ref w1, .ref w6, .int 0, .ref w8, .ref w15, .int 0, .int 0, .ref w22, .ref w26, .ref w31, .ref w35, .ref w40, .ref w48, .ref w50, .ref w52])), (w8, .inr (4, [.ref w9, .ref w10, .ref w11, .ref w12, .ref w13, .int 0, .int 0, .int 0])), (w15, .inr (4, [.ref w16, .ref w17, .ref w18, .ref w19, .ref w20, .int 0, .int 0, .int 0])), (w18, .inl (d21, 1101, .inl (fun _ => 0))), (w26, .inr (6, [.ref w27, .ref w28, .int 0, .int 0, .int 0, .int 0])), (w27, .inl (d29, 1101, .inl (fun _ => 0))), (w28, .inl (d30, 1101, .inl (fun _ => 0)))])) (va_Qi (fun (r : Int32) (_ : Unit) => r = 0) (fun (_ : Unit) (t : State) => va_P (dC, dI) vwCl [] t.heap ∧ va_K (dC, dI) vwCl [] t ∧ va_D (va_A [(h0, .inr (9, [.ref w1, .ref w6, .int 0, .ref w8, .ref w15, .int 0, .int 0, .ref w22, .ref w26, .ref w31, .ref w35, .ref w40, .ref w48, .ref w50, .ref w52])), (w8, .inr (4, [.ref w9, .ref w10, .ref w11, .ref w12, .ref w13, .int 0, .int 0, .int 0])), (w15, .inr (4, [.ref w16, .ref w17, .ref w18, .ref w19, .ref w20, .int 0, .int 0, .int 0])), (w18, .inl (d21, 1101, .inl (fun _ => 0))), (w26, .inr (6, [.ref w27, .ref w28, .int 0, .int 0, .int 0, .int 0])), (w27, .inl (d29, 1101, .inl (fun _ => 0))), (w28, .inl (d30, 1101, .inl (fun _ => 0)))] sz) []) (va_A [(h0, .inr (9, [.ref w1, .ref w6, .int 0, .ref w8, .ref w15, .int 0, .int 0, .ref w22, .ref w26, .ref w31, .ref w35, .ref w40, .ref w48, .ref w50, .ref w52])), (w8, .inr (4, [.ref w9, .ref w10, .ref w11, .ref w12, .ref w13, .int 0, .int 0, .int 0])), (w15, .inr (4, [.ref w16, .ref w17, .ref w18, .ref w19, .ref w20, .int 0, .int 0, .int 0])), (w18, .inl (d21, 1101, .inl (fun _ => 0))), (w26, .inr (6, [.ref w27, .ref w28, .int 0, .int 0, .int 0, .int 0])), (w27, .inl (d29, 1101, .inl (fun _ => 0))), (w28, .inl (d30, 1101, .inl (fun _ => 0)))] sz)) 0 0 (va_A [(h0, .inr (9, [.ref w1, .ref w6, .int 0, .ref w8, .ref w15, .int 0, .int 0, .ref w22, .ref w26, .ref w31, .ref w35, .ref w40, .ref w48, .ref w50, .ref w52])), (w8, .inr (4, [.ref w9, .ref w10, .ref w11, .ref w12, .ref w13, .int 0, .int 0, .int 0])), (w15, .inr (4, [.ref w16, .ref w17, .ref w18, .ref w19, .ref w20, .int 0, .int 0, .int 0])), (w18, .inl (d21, 1101, .inl (fun _ => 0))), (w26, .inr (6, [.ref w27, .ref w28, .int 0, .int 0, .int 0, .int 0])), (w27, .inl (d29, 1101, .inl (fun _ => 0))), (w28, .inl (d30, 1101, .inl (fun _ => 0)))] sz) := by
  refine Met.ofW (cc := cX9_tidy) (maxL := 2) (ret := (some .int)) (by decide) rfl ?_
  intro p e s m args below meth c s₁ B hml hv
  obtain ⟨rfl, hsz, hP, hK, hD0⟩ := hv
  have hx := B.exec
  have hb := B.bytes
  have hr := B.returns
  have hts : ∀ w ∈ wsG, w.before _ s = true := hG_of (atoms_spec (ws := (Cond.code yX9_tidy cX9_tidy 2 (some .int) :: wsG)) B.pre)
  have hown : s.vm.findClass RX9 = some m.cls := findClass_of_methodNamed B.named
  have hlocks := B.notSynchronized
  subst hsz
  have hD := hD0.self (sz := s.heap.size)
  generalize hAe : va_A [(h0, .inr (9, [.ref w1, .ref w6, .int 0, .ref w8, .ref w15, .int 0, .int 0, .ref w22, .ref w26, .ref w31, .ref w35, .ref w40, .ref w48, .ref w50, .ref w52])), (w8, .inr (4, [.ref w9, .ref w10, .ref w11, .ref w12, .ref w13, .int 0, .int 0, .int 0])), (w15, .inr (4, [.ref w16, .ref w17, .ref w18, .ref w19, .ref w20, .int 0, .int 0, .int 0])), (w18, .inl (d21, 1101, .inl (fun _ => 0))), (w26, .inr (6, [.ref w27, .ref w28, .int 0, .int 0, .int 0, .int 0])), (w27, .inl (d29, 1101, .inl (fun _ => 0))), (w28, .inl (d30, 1101, .inl (fun _ => 0)))] s.heap.size = A at hD ⊢
  have hA : ∀ q : Nat, s.heap.size ≤ q → A q := fun q h => by rw [← hAe]; exact Or.inr h
  have hS : va_S A s.heap s.heap [] := va_S.rf
  have hl := lv_entry ([.ref h0]) (n := 2) (Nat.le_of_ble_eq_true rfl)
  rw [lg_entry_eq]
  generalize (lg_sl ([.ref h0]) ++ List.replicate (2 - (lg_sl ([.ref h0])).length) Slot.unset).toArray = ls at hl ⊢
  have hl : lv_has ls 2 [(0, .ref h0)] := hl
  refine lv_aload_n hx hb dX9_tidy_0 rfl (lv_at hl 0 rfl) ?_
  have hPc := hP.sub (ws' := [(h0, .inr (9, [.ref w1, .ref w6, .int 0, .ref w8, .ref w15, .int 0, .int 0, .ref w22, .ref w26, .ref w31, .ref w35, .ref w40, .ref w48, .ref w50, .ref w52])), (w8, .inr (4, [.ref w9, .ref w10, .ref w11, .ref w12, .ref w13, .int 0, .int 0, .int 0])), (w15, .inr (4, [.ref w16, .ref w17, .ref w18, .ref w19, .ref w20, .int 0, .int 0, .int 0])), (w18, .inl (d21, 1101, .inl (fun _ => 0))), (w26, .inr (6, [.ref w27, .ref w28, .int 0, .int 0, .int 0, .int 0])), (w27, .inl (d29, 1101, .inl (fun _ => 0))), (w28, .inl (d30, 1101, .inl (fun _ => 0)))]) [0, 1, 2, 3, 4, 5, 6] rfl
  have hDc := hD.sub (ws' := [(h0, .inr (9, [.ref w1, .ref w6, .int 0, .ref w8, .ref w15, .int 0, .int 0, .ref w22, .ref w26, .ref w31, .ref w35, .ref w40, .ref w48, .ref w50, .ref w52])), (w8, .inr (4, [.ref w9, .ref w10, .ref w11, .ref w12, .ref w13, .int 0, .int 0, .int 0])), (w15, .inr (4, [.ref w16, .ref w17, .ref w18, .ref w19, .ref w20, .int 0, .int 0, .int 0])), (w18, .inl (d21, 1101, .inl (fun _ => 0))), (w26, .inr (6, [.ref w27, .ref w28, .int 0, .int 0, .int 0, .int 0])), (w27, .inl (d29, 1101, .inl (fun _ => 0))), (w28, .inl (d30, 1101, .inl (fun _ => 0)))]) [0, 1, 2, 3, 4, 5, 6] (by decide) rfl
  have hKc := hK.sub (tys' := [(d21, .int), (d29, .int), (d30, .int)]) [0, 1, 2] rfl
  have hFc := va_free (wc := [(h0, .inr (9, [.ref w1, .ref w6, .int 0, .ref w8, .ref w15, .int 0, .int 0, .ref w22, .ref w26, .ref w31, .ref w35, .ref w40, .ref w48, .ref w50, .ref w52])), (w8, .inr (4, [.ref w9, .ref w10, .ref w11, .ref w12, .ref w13, .int 0, .int 0, .int 0])), (w15, .inr (4, [.ref w16, .ref w17, .ref w18, .ref w19, .ref w20, .int 0, .int 0, .int 0])), (w18, .inl (d21, 1101, .inl (fun _ => 0))), (w26, .inr (6, [.ref w27, .ref w28, .int 0, .int 0, .int 0, .int 0])), (w27, .inl (d29, 1101, .inl (fun _ => 0))), (w28, .inl (d30, 1101, .inl (fun _ => 0)))]) hD hS hA [0, 1, 2, 3, 4, 5, 6] rfl
  refine va_calli (va_runV (As := []) (rest := []) ⟨hx, hb, hml, hown, hts⟩ (c_tryToTidy l dC dI s.heap.size (h0) (w1) (w6) (w8) (w15) (w22) (w26) (w31) (w35) (w40) (w48) (w50) (w52) (w9) (w10) (w11) (w12) (w13) (w16) (w17) (w18) (w19) (w20) (w27) (w28) (d21) (d29) (d30)) (cwV 0 hts (gV_G k394 k396 ks_yX9_tryToTidy k1 k397) rfl rfl rfl (by decide +kernel) ⟨Nat.le_of_ble_eq_true rfl, Nat.le_of_ble_eq_true rfl⟩) ⟨fun a U g mk q => by obtain ⟨q0, q1, qP, qK, qD⟩ := q; exact ⟨q0, q1, qP, va_K.moved (u := U) (U := U.calling g mk a) (Vm.Alike.refl U.vm) qK, qD⟩, va_recv hKc hPc (ci := 9) (q0 := 0) rfl rfl, fun U hU hW => ⟨rfl, by rw [hU], by rw [hU]; exact hPc, va_K.moved hW.alike hKc, hDc.weaken (fun _ _ _ _ => trivial)⟩⟩ rfl rfl hl.1 rfl (lv_room (Nat.le_of_ble_eq_true rfl)) dX9_tidy_1 ⟨Nat.le_of_ble_eq_true rfl, Nat.le_of_ble_eq_true rfl⟩) hS (fun q _ h => hFc q h) hFc (fun r1 u t H1 locs ht hvm hw hB hz1 hk1 hS => ?_)
  obtain ⟨hP1, hK1, hD1⟩ := hB
  rw [ht] at hP1
  have hK1 := va_K.moved hvm.symm hK1
  try dsimp only at hw
  obtain ⟨hP, hD⟩ := va_join (wr := []) (w1 := [(h0, .inr (9, [.ref w1, .ref w6, .int 0, .ref w8, .ref w15, .int 0, .int 0, .ref w22, .ref w26, .ref w31, .ref w35, .ref w40, .ref w48, .ref w50, .ref w52])), (w8, .inr (4, [.ref w9, .ref w10, .ref w11, .ref w12, .ref w13, .int 0, .int 0, .int 0])), (w15, .inr (4, [.ref w16, .ref w17, .ref w18, .ref w19, .ref w20, .int 0, .int 0, .int 0])), (w18, .inl (d21, 1101, .inl (fun _ => 0))), (w26, .inr (6, [.ref w27, .ref w28, .int 0, .int 0, .int 0, .int 0])), (w27, .inl (d29, 1101, .inl (fun _ => 0))), (w28, .inl (d30, 1101, .inl (fun _ => 0)))]) hP hD [0, 1, 2, 3, 4, 5, 6] [] rfl rfl (by decide) (by decide) hk1 hFc hP1 hD1
  have hK := hK.app hK1
  generalize H1 = H at hP hS ⊢
  have hP : va_P (dC, dI) vwCl [(h0, .inr (9, [.ref w1, .ref w6, .int 0, .ref w8, .ref w15, .int 0, .int 0, .ref w22, .ref w26, .ref w31, .ref w35, .ref w40, .ref w48, .ref w50, .ref w52])), (w8, .inr (4, [.ref w9, .ref w10, .ref w11, .ref w12, .ref w13, .int 0, .int 0, .int 0])), (w15, .inr (4, [.ref w16, .ref w17, .ref w18, .ref w19, .ref w20, .int 0, .int 0, .int 0])), (w18, .inl (d21, 1101, .inl (fun _ => 0))), (w26, .inr (6, [.ref w27, .ref w28, .int 0, .int 0, .int 0, .int 0])), (w27, .inl (d29, 1101, .inl (fun _ => 0))), (w28, .inl (d30, 1101, .inl (fun _ => 0)))] H := hP
  have hD : va_D A [(h0, .inr (9, [.ref w1, .ref w6, .int 0, .ref w8, .ref w15, .int 0, .int 0, .ref w22, .ref w26, .ref w31, .ref w35, .ref w40, .ref w48, .ref w50, .ref w52])), (w8, .inr (4, [.ref w9, .ref w10, .ref w11, .ref w12, .ref w13, .int 0, .int 0, .int 0])), (w15, .inr (4, [.ref w16, .ref w17, .ref w18, .ref w19, .ref w20, .int 0, .int 0, .int 0])), (w18, .inl (d21, 1101, .inl (fun _ => 0))), (w26, .inr (6, [.ref w27, .ref w28, .int 0, .int 0, .int 0, .int 0])), (w27, .inl (d29, 1101, .inl (fun _ => 0))), (w28, .inl (d30, 1101, .inl (fun _ => 0)))] := hD
  have hK : va_K (dC, dI) vwCl [(d21, .int), (d29, .int), (d30, .int), (d21, .int), (d29, .int), (d30, .int)] s := hK
  refine W.widen (k := 0) (n := 0) (by omega) (by omega) ?_
  obtain rfl : r1 = 0 := hw
  refine lv_istore_n (lv' := [(1, .int 0), (0, .ref h0)]) hx hb dX9_tidy_4 rfl hl (by decide) rfl (fun ls hl => ?_)
  refine lv_iload_n hx hb dX9_tidy_5 rfl (lv_at hl 0 rfl) ?_
  refine lv_if_le (tgt := 45) hx hb dX9_tidy_6 (by decide) (fun _ => ?_) (fun c9 => absurd (by decide +kernel) c9)
  refine lv_iload_n hx hb dX9_tidy_45 rfl (lv_at hl 0 rfl) ?_
  have hP9 := hP.sub (ws' := []) [] rfl
  have hD9 := hD.sub (ws' := []) [] (by decide) rfl
  have hK9 := hK.sub (tys' := []) [] rfl
  refine W.widen (k := 0) (n := 0) (by omega) (by omega) ?_
  exact W.iret (v := 0) hx hb hr (fun t ht hW => ⟨⟨0, (), rfl, rfl, by rw [ht]; exact hP9, va_K.moved hW.alike hK9, hD9⟩, hS.F ht⟩) hS.2.2 dX9_tidy_46
set_option maxHeartbeats 4000000 in
set_option maxRecDepth 100000 in
theorem c_countFitting (l : Launch) (dC : Nat → ClassId) (dI : Nat → Nat → Nat) (sz : Nat) (h0 : Nat) (w1 : Nat) (w6 : Nat) (w8 : Nat) (w15 : Nat) (w22 : Nat) (w26 : Nat) (w31 : Nat) (w35 : Nat) (w40 : Nat) (w48 : Nat) (w50 : Nat) (w52 : Nat) (r1 : Nat)  : Met l yX9_countFitting (Cond.code yX9_countFitting cX9_countFitting 4 (some .int) :: wsG) ({ frames := 1, cells := 0, slots := 0, locals := 14 } : Room) (va_Pc [.ref h0, .ref r1] (fun U => U.heap.size = sz ∧ va_P (dC, dI) vwCl [(h0, .inr (9, [.ref w1, .ref w6, .int 0, .ref w8, .ref w15, .int 0, .int 0, .ref w22, .ref w26, .ref w31, .ref w35, .ref w40, .ref w48, .ref w50, .ref w52]))] U.heap ∧ va_K (dC, dI) vwCl [] U ∧ va_D (fun _ => True) [(h0, .inr (9, [.ref w1, .ref w6, .int 0, .ref w8, .ref w15, .int 0, .int 0, .ref w22, .ref w26, .ref w31, .ref w35, .ref w40, .ref w48, .ref w50, .ref w52]))])) (va_Qi (fun (r : Int32) (_ : Unit) => r = 0) (fun (_ : Unit) (t : State) => va_P (dC, dI) vwCl [(h0, .inr (9, [.ref w1, .ref w6, .int 0, .ref w8, .ref w15, .int 0, .int 0, .ref w22, .ref w26, .ref w31, .ref w35, .ref w40, .ref w48, .ref w50, .ref w52]))] t.heap ∧ va_K (dC, dI) vwCl [] t ∧ va_D (va_A [(h0, .inr (9, [.ref w1, .ref w6, .int 0, .ref w8, .ref w15, .int 0, .int 0, .ref w22, .ref w26, .ref w31, .ref w35, .ref w40, .ref w48, .ref w50, .ref w52]))] sz) [(h0, .inr (9, [.ref w1, .ref w6, .int 0, .ref w8, .ref w15, .int 0, .int 0, .ref w22, .ref w26, .ref w31, .ref w35, .ref w40, .ref w48, .ref w50, .ref w52]))]) (va_A [(h0, .inr (9, [.ref w1, .ref w6, .int 0, .ref w8, .ref w15, .int 0, .int 0, .ref w22, .ref w26, .ref w31, .ref w35, .ref w40, .ref w48, .ref w50, .ref w52]))] sz)) 0 0 (va_A [(h0, .inr (9, [.ref w1, .ref w6, .int 0, .ref w8, .ref w15, .int 0, .int 0, .ref w22, .ref w26, .ref w31, .ref w35, .ref w40, .ref w48, .ref w50, .ref w52]))] sz) := by
  refine Met.ofW (cc := cX9_countFitting) (maxL := 4) (ret := (some .int)) (by decide) rfl ?_
  intro p e s m args below meth c s₁ B hml hv
  obtain ⟨rfl, hsz, hP, hK, hD0⟩ := hv
  have hx := B.exec
  have hb := B.bytes
  have hr := B.returns
  have hts : ∀ w ∈ wsG, w.before _ s = true := hG_of (atoms_spec (ws := (Cond.code yX9_countFitting cX9_countFitting 4 (some .int) :: wsG)) B.pre)
  have hown : s.vm.findClass RX9 = some m.cls := findClass_of_methodNamed B.named
  have hlocks := B.notSynchronized
  subst hsz
  have hD := hD0.self (sz := s.heap.size)
  generalize hAe : va_A [(h0, .inr (9, [.ref w1, .ref w6, .int 0, .ref w8, .ref w15, .int 0, .int 0, .ref w22, .ref w26, .ref w31, .ref w35, .ref w40, .ref w48, .ref w50, .ref w52]))] s.heap.size = A at hD ⊢
  have hA : ∀ q : Nat, s.heap.size ≤ q → A q := fun q h => by rw [← hAe]; exact Or.inr h
  have hS : va_S A s.heap s.heap [] := va_S.rf
  have hl := lv_entry ([.ref h0, .ref r1]) (n := 4) (Nat.le_of_ble_eq_true rfl)
  rw [lg_entry_eq]
  generalize (lg_sl ([.ref h0, .ref r1]) ++ List.replicate (4 - (lg_sl ([.ref h0, .ref r1])).length) Slot.unset).toArray = ls at hl ⊢
  have hl : lv_has ls 4 [(0, .ref h0), (1, .ref r1)] := hl
  refine lv_iconst (v := 0) hx hb dX9_countFitting_0 (by decide) ?_
  refine lv_istore_n (lv' := [(2, .int 0), (0, .ref h0), (1, .ref r1)]) hx hb dX9_countFitting_1 rfl hl (by decide) rfl (fun ls hl => ?_)
  refine lv_iconst (v := 0) hx hb dX9_countFitting_2 (by decide) ?_
  refine lv_istore_n (lv' := [(3, .int 0), (2, .int 0), (0, .ref h0), (1, .ref r1)]) hx hb dX9_countFitting_3 rfl hl (by decide) rfl (fun ls hl => ?_)
  refine lv_iload_n hx hb dX9_countFitting_4 rfl (lv_at hl 0 rfl) ?_
  refine lv_aload_n hx hb dX9_countFitting_5 rfl (lv_at hl 2 rfl) ?_
  refine va_get (D := (dC, dI)) (ci := 9) (v := .int 0) (C := RX9) (T := TX9) (N := 15) hx hb hts inG9 hown hK hP 0 rfl rfl 2 (by decide) (hts _ k334) (fun _ h9 => h9) rfl dX9_countFitting_6 ?_
  refine lv_icmp_ge (tgt := 51) hx hb dX9_countFitting_9 (by decide) (fun _ => ?_) (fun c9 => absurd (by decide +kernel) c9)
  refine lv_iload_n hx hb dX9_countFitting_51 rfl (lv_at hl 1 rfl) ?_
  have hP9 := hP.sub (ws' := [(h0, .inr (9, [.ref w1, .ref w6, .int 0, .ref w8, .ref w15, .int 0, .int 0, .ref w22, .ref w26, .ref w31, .ref w35, .ref w40, .ref w48, .ref w50, .ref w52]))]) [0] rfl
  have hD9 := hD.sub (ws' := [(h0, .inr (9, [.ref w1, .ref w6, .int 0, .ref w8, .ref w15, .int 0, .int 0, .ref w22, .ref w26, .ref w31, .ref w35, .ref w40, .ref w48, .ref w50, .ref w52]))]) [0] (by decide) rfl
  have hK9 := hK.sub (tys' := []) [] rfl
  refine W.widen (k := 0) (n := 0) (by omega) (by omega) ?_
  exact W.iret (v := 0) hx hb hr (fun t ht hW => ⟨⟨0, (), rfl, rfl, by rw [ht]; exact hP9, va_K.moved hW.alike hK9, hD9⟩, hS.F ht⟩) hS.2.2 dX9_countFitting_52
set_option maxHeartbeats 4000000 in
set_option maxRecDepth 100000 in
theorem c_tidied0 (l : Launch) (dC : Nat → ClassId) (dI : Nat → Nat → Nat) (sz : Nat) (h0 : Nat) (w1 : Nat) (w6 : Nat) (w8 : Nat) (w15 : Nat) (w22 : Nat) (w26 : Nat) (w31 : Nat) (w35 : Nat) (w40 : Nat) (w48 : Nat) (w50 : Nat) (w52 : Nat) (w9 : Nat) (w10 : Nat) (w11 : Nat) (w12 : Nat) (w13 : Nat) (w16 : Nat) (w17 : Nat) (w18 : Nat) (w19 : Nat) (w20 : Nat) (w27 : Nat) (w28 : Nat) (d21 : ClassId) (d29 : ClassId) (d30 : ClassId)  : Met l yX9_tidied (Cond.code yX9_tidied cX9_tidied 3 (some .int) :: wsG) ({ frames := 6, cells := 0, slots := 0, locals := 139 } : Room) (va_Pc [.ref h0, .int 0] (fun U => U.heap.size = sz ∧ va_P (dC, dI) vwCl [(h0, .inr (9, [.ref w1, .ref w6, .int 0, .ref w8, .ref w15, .int 0, .int 0, .ref w22, .ref w26, .ref w31, .ref w35, .ref w40, .ref w48, .ref w50, .ref w52])), (w8, .inr (4, [.ref w9, .ref w10, .ref w11, .ref w12, .ref w13, .int 0, .int 0, .int 0])), (w15, .inr (4, [.ref w16, .ref w17, .ref w18, .ref w19, .ref w20, .int 0, .int 0, .int 0])), (w18, .inl (d21, 1101, .inl (fun _ => 0))), (w26, .inr (6, [.ref w27, .ref w28, .int 0, .int 0, .int 0, .int 0])), (w27, .inl (d29, 1101, .inl (fun _ => 0))), (w28, .inl (d30, 1101, .inl (fun _ => 0)))] U.heap ∧ va_K (dC, dI) vwCl [(d21, .int), (d29, .int), (d30, .int)] U ∧ va_D (fun _ => True) [(h0, .inr (9, [.ref w1, .ref w6, .int 0, .ref w8, .ref w15, .int 0, .int 0, .ref w22, .ref w26, .ref w31, .ref w35, .ref w40, .ref w48, .ref w50, .ref w52])), (w8, .inr (4, [.ref w9, .ref w10, .ref w11, .ref w12, .ref w13, .int 0, .int 0, .int 0])), (w15, .inr (4, [.ref w16, .ref w17, .ref w18, .ref w19, .ref w20, .int 0, .int 0, .int 0])), (w18, .inl (d21, 1101, .inl (fun _ => 0))), (w26, .inr (6, [.ref w27, .ref w28, .int 0, .int 0, .int 0, .int 0])), (w27, .inl (d29, 1101, .inl (fun _ => 0))), (w28, .inl (d30, 1101, .inl (fun _ => 0)))])) (va_Qi (fun (r : Int32) (_ : Unit) => r = 0) (fun (_ : Unit) (t : State) => va_P (dC, dI) vwCl [] t.heap ∧ va_K (dC, dI) vwCl [] t ∧ va_D (va_A [(h0, .inr (9, [.ref w1, .ref w6, .int 0, .ref w8, .ref w15, .int 0, .int 0, .ref w22, .ref w26, .ref w31, .ref w35, .ref w40, .ref w48, .ref w50, .ref w52])), (w8, .inr (4, [.ref w9, .ref w10, .ref w11, .ref w12, .ref w13, .int 0, .int 0, .int 0])), (w15, .inr (4, [.ref w16, .ref w17, .ref w18, .ref w19, .ref w20, .int 0, .int 0, .int 0])), (w18, .inl (d21, 1101, .inl (fun _ => 0))), (w26, .inr (6, [.ref w27, .ref w28, .int 0, .int 0, .int 0, .int 0])), (w27, .inl (d29, 1101, .inl (fun _ => 0))), (w28, .inl (d30, 1101, .inl (fun _ => 0)))] sz) []) (va_A [(h0, .inr (9, [.ref w1, .ref w6, .int 0, .ref w8, .ref w15, .int 0, .int 0, .ref w22, .ref w26, .ref w31, .ref w35, .ref w40, .ref w48, .ref w50, .ref w52])), (w8, .inr (4, [.ref w9, .ref w10, .ref w11, .ref w12, .ref w13, .int 0, .int 0, .int 0])), (w15, .inr (4, [.ref w16, .ref w17, .ref w18, .ref w19, .ref w20, .int 0, .int 0, .int 0])), (w18, .inl (d21, 1101, .inl (fun _ => 0))), (w26, .inr (6, [.ref w27, .ref w28, .int 0, .int 0, .int 0, .int 0])), (w27, .inl (d29, 1101, .inl (fun _ => 0))), (w28, .inl (d30, 1101, .inl (fun _ => 0)))] sz)) 0 0 (va_A [(h0, .inr (9, [.ref w1, .ref w6, .int 0, .ref w8, .ref w15, .int 0, .int 0, .ref w22, .ref w26, .ref w31, .ref w35, .ref w40, .ref w48, .ref w50, .ref w52])), (w8, .inr (4, [.ref w9, .ref w10, .ref w11, .ref w12, .ref w13, .int 0, .int 0, .int 0])), (w15, .inr (4, [.ref w16, .ref w17, .ref w18, .ref w19, .ref w20, .int 0, .int 0, .int 0])), (w18, .inl (d21, 1101, .inl (fun _ => 0))), (w26, .inr (6, [.ref w27, .ref w28, .int 0, .int 0, .int 0, .int 0])), (w27, .inl (d29, 1101, .inl (fun _ => 0))), (w28, .inl (d30, 1101, .inl (fun _ => 0)))] sz) := by
  refine Met.ofW (cc := cX9_tidied) (maxL := 3) (ret := (some .int)) (by decide) rfl ?_
  intro p e s m args below meth c s₁ B hml hv
  obtain ⟨rfl, hsz, hP, hK, hD0⟩ := hv
  have hx := B.exec
  have hb := B.bytes
  have hr := B.returns
  have hts : ∀ w ∈ wsG, w.before _ s = true := hG_of (atoms_spec (ws := (Cond.code yX9_tidied cX9_tidied 3 (some .int) :: wsG)) B.pre)
  have hown : s.vm.findClass RX9 = some m.cls := findClass_of_methodNamed B.named
  have hlocks := B.notSynchronized
  subst hsz
  have hD := hD0.self (sz := s.heap.size)
  generalize hAe : va_A [(h0, .inr (9, [.ref w1, .ref w6, .int 0, .ref w8, .ref w15, .int 0, .int 0, .ref w22, .ref w26, .ref w31, .ref w35, .ref w40, .ref w48, .ref w50, .ref w52])), (w8, .inr (4, [.ref w9, .ref w10, .ref w11, .ref w12, .ref w13, .int 0, .int 0, .int 0])), (w15, .inr (4, [.ref w16, .ref w17, .ref w18, .ref w19, .ref w20, .int 0, .int 0, .int 0])), (w18, .inl (d21, 1101, .inl (fun _ => 0))), (w26, .inr (6, [.ref w27, .ref w28, .int 0, .int 0, .int 0, .int 0])), (w27, .inl (d29, 1101, .inl (fun _ => 0))), (w28, .inl (d30, 1101, .inl (fun _ => 0)))] s.heap.size = A at hD ⊢
  have hA : ∀ q : Nat, s.heap.size ≤ q → A q := fun q h => by rw [← hAe]; exact Or.inr h
  have hS : va_S A s.heap s.heap [] := va_S.rf
  have hl := lv_entry ([.ref h0, .int 0]) (n := 3) (Nat.le_of_ble_eq_true rfl)
  rw [lg_entry_eq]
  generalize (lg_sl ([.ref h0, .int 0]) ++ List.replicate (3 - (lg_sl ([.ref h0, .int 0])).length) Slot.unset).toArray = ls at hl ⊢
  have hl : lv_has ls 3 [(0, .ref h0), (1, .int 0)] := hl
  refine lv_aload_n hx hb dX9_tidied_0 rfl (lv_at hl 0 rfl) ?_
  refine lv_iload_n hx hb dX9_tidied_1 rfl (lv_at hl 1 rfl) ?_
  refine lv_if_lt (tgt := 14) hx hb dX9_tidied_2 (by decide) (fun c9 => absurd c9 (by decide +kernel)) (fun _ => ?_)
  refine lv_iload_n hx hb dX9_tidied_5 rfl (lv_at hl 1 rfl) ?_
  refine lv_iconst (v := 3) hx hb dX9_tidied_6 (by decide) ?_
  refine lv_icmp_gt (tgt := 14) hx hb dX9_tidied_7 (by decide) (fun c9 => absurd c9 (by decide +kernel)) (fun _ => ?_)
  refine lv_iconst (v := 1) hx hb dX9_tidied_10 (by decide) ?_
  refine lv_goto (tgt := 15) hx hb dX9_tidied_11 (by decide) ?_
  have hPc := hP.sub (ws' := [(h0, .inr (9, [.ref w1, .ref w6, .int 0, .ref w8, .ref w15, .int 0, .int 0, .ref w22, .ref w26, .ref w31, .ref w35, .ref w40, .ref w48, .ref w50, .ref w52]))]) [0] rfl
  have hDc := hD.sub (ws' := [(h0, .inr (9, [.ref w1, .ref w6, .int 0, .ref w8, .ref w15, .int 0, .int 0, .ref w22, .ref w26, .ref w31, .ref w35, .ref w40, .ref w48, .ref w50, .ref w52]))]) [0] (by decide) rfl
  have hKc := hK.sub (tys' := []) [] rfl
  have hFc := va_free (wc := [(h0, .inr (9, [.ref w1, .ref w6, .int 0, .ref w8, .ref w15, .int 0, .int 0, .ref w22, .ref w26, .ref w31, .ref w35, .ref w40, .ref w48, .ref w50, .ref w52]))]) hD hS hA [0] rfl
  refine va_callv (va_runV (As := [.int 1]) (rest := []) ⟨hx, hb, hml, hown, hts⟩ (c_needArg1 l dC dI s.heap.size (h0) (w1) (w6) (w8) (w15) (w22) (w26) (w31) (w35) (w40) (w48) (w50) (w52)) (cwV 1 hts (gV_G k596 k598 ks_yX9_needArgument k1 k599) rfl rfl rfl (by decide +kernel) ⟨Nat.le_of_ble_eq_true rfl, Nat.le_of_ble_eq_true rfl⟩) ⟨fun a U g mk q => by obtain ⟨q0, q1, qP, qK, qD⟩ := q; exact ⟨q0, q1, qP, va_K.moved (u := U) (U := U.calling g mk a) (Vm.Alike.refl U.vm) qK, qD⟩, va_recv hKc hPc (ci := 9) (q0 := 0) rfl rfl, fun U hU hW => ⟨rfl, by rw [hU], by rw [hU]; exact hPc, va_K.moved hW.alike hKc, hDc.weaken (fun _ _ _ _ => trivial)⟩⟩ rfl rfl hl.1 rfl (lv_room (Nat.le_of_ble_eq_true rfl)) dX9_tidied_15 ⟨Nat.le_of_ble_eq_true rfl, Nat.le_of_ble_eq_true rfl⟩) hS (fun q _ h => hFc q h) hFc (fun u t H1 locs ht hvm hw hB hz1 hk1 hS => ?_)
  obtain ⟨hP1, hK1, hD1⟩ := hB
  rw [ht] at hP1
  have hK1 := va_K.moved hvm.symm hK1
  try dsimp only at hw
  obtain ⟨hP, hD⟩ := va_join (wr := [(w8, .inr (4, [.ref w9, .ref w10, .ref w11, .ref w12, .ref w13, .int 0, .int 0, .int 0])), (w15, .inr (4, [.ref w16, .ref w17, .ref w18, .ref w19, .ref w20, .int 0, .int 0, .int 0])), (w18, .inl (d21, 1101, .inl (fun _ => 0))), (w26, .inr (6, [.ref w27, .ref w28, .int 0, .int 0, .int 0, .int 0])), (w27, .inl (d29, 1101, .inl (fun _ => 0))), (w28, .inl (d30, 1101, .inl (fun _ => 0)))]) (w1 := [(h0, .inr (9, [.ref w1, .ref w6, .int 0, .ref w8, .ref w15, .int 0, .int 0, .ref w22, .ref w26, .ref w31, .ref w35, .ref w40, .ref w48, .ref w50, .ref w52]))]) hP hD [0] [1, 2, 3, 4, 5, 6] rfl rfl (by decide) (by decide) hk1 hFc hP1 hD1
  have hK := hK.app hK1
  generalize H1 = H at hP hS ⊢
  have hP : va_P (dC, dI) vwCl [(w8, .inr (4, [.ref w9, .ref w10, .ref w11, .ref w12, .ref w13, .int 0, .int 0, .int 0])), (w15, .inr (4, [.ref w16, .ref w17, .ref w18, .ref w19, .ref w20, .int 0, .int 0, .int 0])), (w18, .inl (d21, 1101, .inl (fun _ => 0))), (w26, .inr (6, [.ref w27, .ref w28, .int 0, .int 0, .int 0, .int 0])), (w27, .inl (d29, 1101, .inl (fun _ => 0))), (w28, .inl (d30, 1101, .inl (fun _ => 0))), (h0, .inr (9, [.ref w1, .ref w6, .int 0, .ref w8, .ref w15, .int 0, .int 0, .ref w22, .ref w26, .ref w31, .ref w35, .ref w40, .ref w48, .ref w50, .ref w52]))] H := hP
  have hD : va_D A [(w8, .inr (4, [.ref w9, .ref w10, .ref w11, .ref w12, .ref w13, .int 0, .int 0, .int 0])), (w15, .inr (4, [.ref w16, .ref w17, .ref w18, .ref w19, .ref w20, .int 0, .int 0, .int 0])), (w18, .inl (d21, 1101, .inl (fun _ => 0))), (w26, .inr (6, [.ref w27, .ref w28, .int 0, .int 0, .int 0, .int 0])), (w27, .inl (d29, 1101, .inl (fun _ => 0))), (w28, .inl (d30, 1101, .inl (fun _ => 0))), (h0, .inr (9, [.ref w1, .ref w6, .int 0, .ref w8, .ref w15, .int 0, .int 0, .ref w22, .ref w26, .ref w31, .ref w35, .ref w40, .ref w48, .ref w50, .ref w52]))] := hD
  have hK : va_K (dC, dI) vwCl [(d21, .int), (d29, .int), (d30, .int)] s := hK
  refine W.widen (k := 0) (n := 0) (by omega) (by omega) ?_
  refine lv_aload_n hx hb dX9_tidied_18 rfl (lv_at hl 0 rfl) ?_
  have hPc := hP.sub (ws' := [(h0, .inr (9, [.ref w1, .ref w6, .int 0, .ref w8, .ref w15, .int 0, .int 0, .ref w22, .ref w26, .ref w31, .ref w35, .ref w40, .ref w48, .ref w50, .ref w52])), (w8, .inr (4, [.ref w9, .ref w10, .ref w11, .ref w12, .ref w13, .int 0, .int 0, .int 0])), (w15, .inr (4, [.ref w16, .ref w17, .ref w18, .ref w19, .ref w20, .int 0, .int 0, .int 0])), (w18, .inl (d21, 1101, .inl (fun _ => 0))), (w26, .inr (6, [.ref w27, .ref w28, .int 0, .int 0, .int 0, .int 0])), (w27, .inl (d29, 1101, .inl (fun _ => 0))), (w28, .inl (d30, 1101, .inl (fun _ => 0)))]) [6, 0, 1, 2, 3, 4, 5] rfl
  have hDc := hD.sub (ws' := [(h0, .inr (9, [.ref w1, .ref w6, .int 0, .ref w8, .ref w15, .int 0, .int 0, .ref w22, .ref w26, .ref w31, .ref w35, .ref w40, .ref w48, .ref w50, .ref w52])), (w8, .inr (4, [.ref w9, .ref w10, .ref w11, .ref w12, .ref w13, .int 0, .int 0, .int 0])), (w15, .inr (4, [.ref w16, .ref w17, .ref w18, .ref w19, .ref w20, .int 0, .int 0, .int 0])), (w18, .inl (d21, 1101, .inl (fun _ => 0))), (w26, .inr (6, [.ref w27, .ref w28, .int 0, .int 0, .int 0, .int 0])), (w27, .inl (d29, 1101, .inl (fun _ => 0))), (w28, .inl (d30, 1101, .inl (fun _ => 0)))]) [6, 0, 1, 2, 3, 4, 5] (by decide) rfl
  have hKc := hK.sub (tys' := [(d21, .int), (d29, .int), (d30, .int)]) [0, 1, 2] rfl
  have hFc := va_free (wc := [(h0, .inr (9, [.ref w1, .ref w6, .int 0, .ref w8, .ref w15, .int 0, .int 0, .ref w22, .ref w26, .ref w31, .ref w35, .ref w40, .ref w48, .ref w50, .ref w52])), (w8, .inr (4, [.ref w9, .ref w10, .ref w11, .ref w12, .ref w13, .int 0, .int 0, .int 0])), (w15, .inr (4, [.ref w16, .ref w17, .ref w18, .ref w19, .ref w20, .int 0, .int 0, .int 0])), (w18, .inl (d21, 1101, .inl (fun _ => 0))), (w26, .inr (6, [.ref w27, .ref w28, .int 0, .int 0, .int 0, .int 0])), (w27, .inl (d29, 1101, .inl (fun _ => 0))), (w28, .inl (d30, 1101, .inl (fun _ => 0)))]) hD hS hA [6, 0, 1, 2, 3, 4, 5] rfl
  refine va_calli (va_runV (As := []) (rest := []) ⟨hx, hb, hml, hown, hts⟩ (c_tryToTidy l dC dI H.size (h0) (w1) (w6) (w8) (w15) (w22) (w26) (w31) (w35) (w40) (w48) (w50) (w52) (w9) (w10) (w11) (w12) (w13) (w16) (w17) (w18) (w19) (w20) (w27) (w28) (d21) (d29) (d30)) (cwV 0 hts (gV_G k394 k396 ks_yX9_tryToTidy k1 k397) rfl rfl rfl (by decide +kernel) ⟨Nat.le_of_ble_eq_true rfl, Nat.le_of_ble_eq_true rfl⟩) ⟨fun a U g mk q => by obtain ⟨q0, q1, qP, qK, qD⟩ := q; exact ⟨q0, q1, qP, va_K.moved (u := U) (U := U.calling g mk a) (Vm.Alike.refl U.vm) qK, qD⟩, va_recv hKc hPc (ci := 9) (q0 := 0) rfl rfl, fun U hU hW => ⟨rfl, by rw [hU], by rw [hU]; exact hPc, va_K.moved hW.alike hKc, hDc.weaken (fun _ _ _ _ => trivial)⟩⟩ rfl rfl hl.1 rfl (lv_room (Nat.le_of_ble_eq_true rfl)) dX9_tidied_19 ⟨Nat.le_of_ble_eq_true rfl, Nat.le_of_ble_eq_true rfl⟩) hS (fun q _ h => hFc q h) hFc (fun r1 u t H1 locs ht hvm hw hB hz1 hk1 hS => ?_)
  obtain ⟨hP1, hK1, hD1⟩ := hB
  rw [ht] at hP1
  have hK1 := va_K.moved hvm.symm hK1
  try dsimp only at hw
  obtain ⟨hP, hD⟩ := va_join (wr := []) (w1 := [(h0, .inr (9, [.ref w1, .ref w6, .int 0, .ref w8, .ref w15, .int 0, .int 0, .ref w22, .ref w26, .ref w31, .ref w35, .ref w40, .ref w48, .ref w50, .ref w52])), (w8, .inr (4, [.ref w9, .ref w10, .ref w11, .ref w12, .ref w13, .int 0, .int 0, .int 0])), (w15, .inr (4, [.ref w16, .ref w17, .ref w18, .ref w19, .ref w20, .int 0, .int 0, .int 0])), (w18, .inl (d21, 1101, .inl (fun _ => 0))), (w26, .inr (6, [.ref w27, .ref w28, .int 0, .int 0, .int 0, .int 0])), (w27, .inl (d29, 1101, .inl (fun _ => 0))), (w28, .inl (d30, 1101, .inl (fun _ => 0)))]) hP hD [6, 0, 1, 2, 3, 4, 5] [] rfl rfl (by decide) (by decide) hk1 hFc hP1 hD1
  have hK := hK.app hK1
  generalize H1 = H at hP hS ⊢
  have hP : va_P (dC, dI) vwCl [(h0, .inr (9, [.ref w1, .ref w6, .int 0, .ref w8, .ref w15, .int 0, .int 0, .ref w22, .ref w26, .ref w31, .ref w35, .ref w40, .ref w48, .ref w50, .ref w52])), (w8, .inr (4, [.ref w9, .ref w10, .ref w11, .ref w12, .ref w13, .int 0, .int 0, .int 0])), (w15, .inr (4, [.ref w16, .ref w17, .ref w18, .ref w19, .ref w20, .int 0, .int 0, .int 0])), (w18, .inl (d21, 1101, .inl (fun _ => 0))), (w26, .inr (6, [.ref w27, .ref w28, .int 0, .int 0, .int 0, .int 0])), (w27, .inl (d29, 1101, .inl (fun _ => 0))), (w28, .inl (d30, 1101, .inl (fun _ => 0)))] H := hP
  have hD : va_D A [(h0, .inr (9, [.ref w1, .ref w6, .int 0, .ref w8, .ref w15, .int 0, .int 0, .ref w22, .ref w26, .ref w31, .ref w35, .ref w40, .ref w48, .ref w50, .ref w52])), (w8, .inr (4, [.ref w9, .ref w10, .ref w11, .ref w12, .ref w13, .int 0, .int 0, .int 0])), (w15, .inr (4, [.ref w16, .ref w17, .ref w18, .ref w19, .ref w20, .int 0, .int 0, .int 0])), (w18, .inl (d21, 1101, .inl (fun _ => 0))), (w26, .inr (6, [.ref w27, .ref w28, .int 0, .int 0, .int 0, .int 0])), (w27, .inl (d29, 1101, .inl (fun _ => 0))), (w28, .inl (d30, 1101, .inl (fun _ => 0)))] := hD
  have hK : va_K (dC, dI) vwCl [(d21, .int), (d29, .int), (d30, .int), (d21, .int), (d29, .int), (d30, .int)] s := hK
  refine W.widen (k := 0) (n := 0) (by omega) (by omega) ?_
  obtain rfl : r1 = 0 := hw
  refine lv_istore_n (lv' := [(2, .int 0), (0, .ref h0), (1, .int 0)]) hx hb dX9_tidied_22 rfl hl (by decide) rfl (fun ls hl => ?_)
  refine lv_iload_n hx hb dX9_tidied_23 rfl (lv_at hl 2 rfl) ?_
  refine lv_tableIn (tgt := 52) (off := 28) hx hb dX9_tidied_24 (by decide +kernel) (by decide +kernel) (by decide +kernel) (by decide) ?_
  refine lv_iload_n hx hb dX9_tidied_52 rfl (lv_at hl 0 rfl) ?_
  have hP9 := hP.sub (ws' := []) [] rfl
  have hD9 := hD.sub (ws' := []) [] (by decide) rfl
  have hK9 := hK.sub (tys' := []) [] rfl
  refine W.widen (k := 0) (n := 0) (by omega) (by omega) ?_
  exact W.iret (v := 0) hx hb hr (fun t ht hW => ⟨⟨0, (), rfl, rfl, by rw [ht]; exact hP9, va_K.moved hW.alike hK9, hD9⟩, hS.F ht⟩) hS.2.2 dX9_tidied_53
set_option maxHeartbeats 4000000 in
set_option maxRecDepth 100000 in
theorem c_tidied1 (l : Launch) (dC : Nat → ClassId) (dI : Nat → Nat → Nat) (sz : Nat) (h0 : Nat) (w1 : Nat) (w6 : Nat) (w8 : Nat) (w15 : Nat) (w22 : Nat) (w26 : Nat) (w31 : Nat) (w35 : Nat) (w40 : Nat) (w48 : Nat) (w50 : Nat) (w52 : Nat) (w9 : Nat) (w10 : Nat) (w11 : Nat) (w12 : Nat) (w13 : Nat) (w16 : Nat) (w17 : Nat) (w18 : Nat) (w19 : Nat) (w20 : Nat) (w27 : Nat) (w28 : Nat) (d21 : ClassId) (d29 : ClassId) (d30 : ClassId)  : Met l yX9_tidied (Cond.code yX9_tidied cX9_tidied 3 (some .int) :: wsG) ({ frames := 6, cells := 0, slots := 0, locals := 139 } : Room) (va_Pc [.ref h0, .int 1] (fun U => U.heap.size = sz ∧ va_P (dC, dI) vwCl [(h0, .inr (9, [.ref w1, .ref w6, .int 0, .ref w8, .ref w15, .int 0, .int 0, .ref w22, .ref w26, .ref w31, .ref w35, .ref w40, .ref w48, .ref w50, .ref w52])), (w8, .inr (4, [.ref w9, .ref w10, .ref w11, .ref w12, .ref w13, .int 0, .int 0, .int 0])), (w15, .inr (4, [.ref w16, .ref w17, .ref w18, .ref w19, .ref w20, .int 0, .int 0, .int 0])), (w18, .inl (d21, 1101, .inl (fun _ => 0))), (w26, .inr (6, [.ref w27, .ref w28, .int 0, .int 0, .int 0, .int 0])), (w27, .inl (d29, 1101, .inl (fun _ => 0))), (w28, .inl (d30, 1101, .inl (fun _ => 0)))] U.heap ∧ va_K (dC, dI) vwCl [(d21, .int), (d29, .int), (d30, .int)] U ∧ va_D (fun _ => True) [(h0, .inr (9, [.ref w1, .ref w6, .int 0, .ref w8, .ref w15, .int 0, .int 0, .ref w22, .ref w26, .ref w31, .ref w35, .ref w40, .ref w48, .ref w50, .ref w52])), (w8, .inr (4, [.ref w9, .ref w10, .ref w11, .ref w12, .ref w13, .int 0, .int 0, .int 0])), (w15, .inr (4, [.ref w16, .ref w17, .ref w18, .ref w19, .ref w20, .int 0, .int 0, .int 0])), (w18, .inl (d21, 1101, .inl (fun _ => 0))), (w26, .inr (6, [.ref w27, .ref w28, .int 0, .int 0, .int 0, .int 0])), (w27, .inl (d29, 1101, .inl (fun _ => 0))), (w28, .inl (d30, 1101, .inl (fun _ => 0)))])) (va_Qi (fun (r : Int32) (_ : Unit) => r = 0) (fun (_ : Unit) (t : State) => va_P (dC, dI) vwCl [] t.heap ∧ va_K (dC, dI) vwCl [] t ∧ va_D (va_A [(h0, .inr (9, [.ref w1, .ref w6, .int 0, .ref w8, .ref w15, .int 0, .int 0, .ref w22, .ref w26, .ref w31, .ref w35, .ref w40, .ref w48, .ref w50, .ref w52])), (w8, .inr (4, [.ref w9, .ref w10, .ref w11, .ref w12, .ref w13, .int 0, .int 0, .int 0])), (w15, .inr (4, [.ref w16, .ref w17, .ref w18, .ref w19, .ref w20, .int 0, .int 0, .int 0])), (w18, .inl (d21, 1101, .inl (fun _ => 0))), (w26, .inr (6, [.ref w27, .ref w28, .int 0, .int 0, .int 0, .int 0])), (w27, .inl (d29, 1101, .inl (fun _ => 0))), (w28, .inl (d30, 1101, .inl (fun _ => 0)))] sz) []) (va_A [(h0, .inr (9, [.ref w1, .ref w6, .int 0, .ref w8, .ref w15, .int 0, .int 0, .ref w22, .ref w26, .ref w31, .ref w35, .ref w40, .ref w48, .ref w50, .ref w52])), (w8, .inr (4, [.ref w9, .ref w10, .ref w11, .ref w12, .ref w13, .int 0, .int 0, .int 0])), (w15, .inr (4, [.ref w16, .ref w17, .ref w18, .ref w19, .ref w20, .int 0, .int 0, .int 0])), (w18, .inl (d21, 1101, .inl (fun _ => 0))), (w26, .inr (6, [.ref w27, .ref w28, .int 0, .int 0, .int 0, .int 0])), (w27, .inl (d29, 1101, .inl (fun _ => 0))), (w28, .inl (d30, 1101, .inl (fun _ => 0)))] sz)) 0 0 (va_A [(h0, .inr (9, [.ref w1, .ref w6, .int 0, .ref w8, .ref w15, .int 0, .int 0, .ref w22, .ref w26, .ref w31, .ref w35, .ref w40, .ref w48, .ref w50, .ref w52])), (w8, .inr (4, [.ref w9, .ref w10, .ref w11, .ref w12, .ref w13, .int 0, .int 0, .int 0])), (w15, .inr (4, [.ref w16, .ref w17, .ref w18, .ref w19, .ref w20, .int 0, .int 0, .int 0])), (w18, .inl (d21, 1101, .inl (fun _ => 0))), (w26, .inr (6, [.ref w27, .ref w28, .int 0, .int 0, .int 0, .int 0])), (w27, .inl (d29, 1101, .inl (fun _ => 0))), (w28, .inl (d30, 1101, .inl (fun _ => 0)))] sz) := by
  refine Met.ofW (cc := cX9_tidied) (maxL := 3) (ret := (some .int)) (by decide) rfl ?_
  intro p e s m args below meth c s₁ B hml hv
  obtain ⟨rfl, hsz, hP, hK, hD0⟩ := hv
  have hx := B.exec
  have hb := B.bytes
  have hr := B.returns
  have hts : ∀ w ∈ wsG, w.before _ s = true := hG_of (atoms_spec (ws := (Cond.code yX9_tidied cX9_tidied 3 (some .int) :: wsG)) B.pre)
  have hown : s.vm.findClass RX9 = some m.cls := findClass_of_methodNamed B.named
  have hlocks := B.notSynchronized
  subst hsz
  have hD := hD0.self (sz := s.heap.size)
  generalize hAe : va_A [(h0, .inr (9, [.ref w1, .ref w6, .int 0, .ref w8, .ref w15, .int 0, .int 0, .ref w22, .ref w26, .ref w31, .ref w35, .ref w40, .ref w48, .ref w50, .ref w52])), (w8, .inr (4, [.ref w9, .ref w10, .ref w11, .ref w12, .ref w13, .int 0, .int 0, .int 0])), (w15, .inr (4, [.ref w16, .ref w17, .ref w18, .ref w19, .ref w20, .int 0, .int 0, .int 0])), (w18, .inl (d21, 1101, .inl (fun _ => 0))), (w26, .inr (6, [.ref w27, .ref w28, .int 0, .int 0, .int 0, .int 0])), (w27, .inl (d29, 1101, .inl (fun _ => 0))), (w28, .inl (d30, 1101, .inl (fun _ => 0)))] s.heap.size = A at hD ⊢
  have hA : ∀ q : Nat, s.heap.size ≤ q → A q := fun q h => by rw [← hAe]; exact Or.inr h
  have hS : va_S A s.heap s.heap [] := va_S.rf
  have hl := lv_entry ([.ref h0, .int 1]) (n := 3) (Nat.le_of_ble_eq_true rfl)
  rw [lg_entry_eq]
  generalize (lg_sl ([.ref h0, .int 1]) ++ List.replicate (3 - (lg_sl ([.ref h0, .int 1])).length) Slot.unset).toArray = ls at hl ⊢
  have hl : lv_has ls 3 [(0, .ref h0), (1, .int 1)] := hl
  refine lv_aload_n hx hb dX9_tidied_0 rfl (lv_at hl 0 rfl) ?_
  refine lv_iload_n hx hb dX9_tidied_1 rfl (lv_at hl 1 rfl) ?_
  refine lv_if_lt (tgt := 14) hx hb dX9_tidied_2 (by decide) (fun c9 => absurd c9 (by decide +kernel)) (fun _ => ?_)
  refine lv_iload_n hx hb dX9_tidied_5 rfl (lv_at hl 1 rfl) ?_
  refine lv_iconst (v := 3) hx hb dX9_tidied_6 (by decide) ?_
  refine lv_icmp_gt (tgt := 14) hx hb dX9_tidied_7 (by decide) (fun c9 => absurd c9 (by decide +kernel)) (fun _ => ?_)
  refine lv_iconst (v := 1) hx hb dX9_tidied_10 (by decide) ?_
  refine lv_goto (tgt := 15) hx hb dX9_tidied_11 (by decide) ?_
  have hPc := hP.sub (ws' := [(h0, .inr (9, [.ref w1, .ref w6, .int 0, .ref w8, .ref w15, .int 0, .int 0, .ref w22, .ref w26, .ref w31, .ref w35, .ref w40, .ref w48, .ref w50, .ref w52]))]) [0] rfl
  have hDc := hD.sub (ws' := [(h0, .inr (9, [.ref w1, .ref w6, .int 0, .ref w8, .ref w15, .int 0, .int 0, .ref w22, .ref w26, .ref w31, .ref w35, .ref w40, .ref w48, .ref w50, .ref w52]))]) [0] (by decide) rfl
  have hKc := hK.sub (tys' := []) [] rfl
  have hFc := va_free (wc := [(h0, .inr (9, [.ref w1, .ref w6, .int 0, .ref w8, .ref w15, .int 0, .int 0, .ref w22, .ref w26, .ref w31, .ref w35, .ref w40, .ref w48, .ref w50, .ref w52]))]) hD hS hA [0] rfl
  refine va_callv (va_runV (As := [.int 1]) (rest := []) ⟨hx, hb, hml, hown, hts⟩ (c_needArg1 l dC dI s.heap.size (h0) (w1) (w6) (w8) (w15) (w22) (w26) (w31) (w35) (w40) (w48) (w50) (w52)) (cwV 1 hts (gV_G k596 k598 ks_yX9_needArgument k1 k599) rfl rfl rfl (by decide +kernel) ⟨Nat.le_of_ble_eq_true rfl, Nat.le_of_ble_eq_true rfl⟩) ⟨fun a U g mk q => by obtain ⟨q0, q1, qP, qK, qD⟩ := q; exact ⟨q0, q1, qP, va_K.moved (u := U) (U := U.calling g mk a) (Vm.Alike.refl U.vm) qK, qD⟩, va_recv hKc hPc (ci := 9) (q0 := 0) rfl rfl, fun U hU hW => ⟨rfl, by rw [hU], by rw [hU]; exact hPc, va_K.moved hW.alike hKc, hDc.weaken (fun _ _ _ _ => trivial)⟩⟩ rfl rfl hl.1 rfl (lv_room (Nat.le_of_ble_eq_true rfl)) dX9_tidied_15 ⟨Nat.le_of_ble_eq_true rfl, Nat.le_of_ble_eq_true rfl⟩) hS (fun q _ h => hFc q h) hFc (fun u t H1 locs ht hvm hw hB hz1 hk1 hS => ?_)
  obtain ⟨hP1, hK1, hD1⟩ := hB
  rw [ht] at hP1
  have hK1 := va_K.moved hvm.symm hK1
  try dsimp only at hw
  obtain ⟨hP, hD⟩ := va_join (wr := [(w8, .inr (4, [.ref w9, .ref w10, .ref w11, .ref w12, .ref w13, .int 0, .int 0, .int 0])), (w15, .inr (4, [.ref w16, .ref w17, .ref w18, .ref w19, .ref w20, .int 0, .int 0, .int 0])), (w18, .inl (d21, 1101, .inl (fun _ => 0))), (w26, .inr (6, [.ref w27, .ref w28, .int 0, .int 0, .int 0, .int 0])), (w27, .inl (d29, 1101, .inl (fun _ => 0))), (w28, .inl (d30, 1101, .inl (fun _ => 0)))]) (w1 := [(h0, .inr (9, [.ref w1, .ref w6, .int 0, .ref w8, .ref w15, .int 0, .int 0, .ref w22, .ref w26, .ref w31, .ref w35, .ref w40, .ref w48, .ref w50, .ref w52]))]) hP hD [0] [1, 2, 3, 4, 5, 6] rfl rfl (by decide) (by decide) hk1 hFc hP1 hD1
  have hK := hK.app hK1
  generalize H1 = H at hP hS ⊢
  have hP : va_P (dC, dI) vwCl [(w8, .inr (4, [.ref w9, .ref w10, .ref w11, .ref w12, .ref w13, .int 0, .int 0, .int 0])), (w15, .inr (4, [.ref w16, .ref w17, .ref w18, .ref w19, .ref w20, .int 0, .int 0, .int 0])), (w18, .inl (d21, 1101, .inl (fun _ => 0))), (w26, .inr (6, [.ref w27, .ref w28, .int 0, .int 0, .int 0, .int 0])), (w27, .inl (d29, 1101, .inl (fun _ => 0))), (w28, .inl (d30, 1101, .inl (fun _ => 0))), (h0, .inr (9, [.ref w1, .ref w6, .int 0, .ref w8, .ref w15, .int 0, .int 0, .ref w22, .ref w26, .ref w31, .ref w35, .ref w40, .ref w48, .ref w50, .ref w52]))] H := hP
  have hD : va_D A [(w8, .inr (4, [.ref w9, .ref w10, .ref w11, .ref w12, .ref w13, .int 0, .int 0, .int 0])), (w15, .inr (4, [.ref w16, .ref w17, .ref w18, .ref w19, .ref w20, .int 0, .int 0, .int 0])), (w18, .inl (d21, 1101, .inl (fun _ => 0))), (w26, .inr (6, [.ref w27, .ref w28, .int 0, .int 0, .int 0, .int 0])), (w27, .inl (d29, 1101, .inl (fun _ => 0))), (w28, .inl (d30, 1101, .inl (fun _ => 0))), (h0, .inr (9, [.ref w1, .ref w6, .int 0, .ref w8, .ref w15, .int 0, .int 0, .ref w22, .ref w26, .ref w31, .ref w35, .ref w40, .ref w48, .ref w50, .ref w52]))] := hD
  have hK : va_K (dC, dI) vwCl [(d21, .int), (d29, .int), (d30, .int)] s := hK
  refine W.widen (k := 0) (n := 0) (by omega) (by omega) ?_
  refine lv_aload_n hx hb dX9_tidied_18 rfl (lv_at hl 0 rfl) ?_
  have hPc := hP.sub (ws' := [(h0, .inr (9, [.ref w1, .ref w6, .int 0, .ref w8, .ref w15, .int 0, .int 0, .ref w22, .ref w26, .ref w31, .ref w35, .ref w40, .ref w48, .ref w50, .ref w52])), (w8, .inr (4, [.ref w9, .ref w10, .ref w11, .ref w12, .ref w13, .int 0, .int 0, .int 0])), (w15, .inr (4, [.ref w16, .ref w17, .ref w18, .ref w19, .ref w20, .int 0, .int 0, .int 0])), (w18, .inl (d21, 1101, .inl (fun _ => 0))), (w26, .inr (6, [.ref w27, .ref w28, .int 0, .int 0, .int 0, .int 0])), (w27, .inl (d29, 1101, .inl (fun _ => 0))), (w28, .inl (d30, 1101, .inl (fun _ => 0)))]) [6, 0, 1, 2, 3, 4, 5] rfl
  have hDc := hD.sub (ws' := [(h0, .inr (9, [.ref w1, .ref w6, .int 0, .ref w8, .ref w15, .int 0, .int 0, .ref w22, .ref w26, .ref w31, .ref w35, .ref w40, .ref w48, .ref w50, .ref w52])), (w8, .inr (4, [.ref w9, .ref w10, .ref w11, .ref w12, .ref w13, .int 0, .int 0, .int 0])), (w15, .inr (4, [.ref w16, .ref w17, .ref w18, .ref w19, .ref w20, .int 0, .int 0, .int 0])), (w18, .inl (d21, 1101, .inl (fun _ => 0))), (w26, .inr (6, [.ref w27, .ref w28, .int 0, .int 0, .int 0, .int 0])), (w27, .inl (d29, 1101, .inl (fun _ => 0))), (w28, .inl (d30, 1101, .inl (fun _ => 0)))]) [6, 0, 1, 2, 3, 4, 5] (by decide) rfl
  have hKc := hK.sub (tys' := [(d21, .int), (d29, .int), (d30, .int)]) [0, 1, 2] rfl
  have hFc := va_free (wc := [(h0, .inr (9, [.ref w1, .ref w6, .int 0, .ref w8, .ref w15, .int 0, .int 0, .ref w22, .ref w26, .ref w31, .ref w35, .ref w40, .ref w48, .ref w50, .ref w52])), (w8, .inr (4, [.ref w9, .ref w10, .ref w11, .ref w12, .ref w13, .int 0, .int 0, .int 0])), (w15, .inr (4, [.ref w16, .ref w17, .ref w18, .ref w19, .ref w20, .int 0, .int 0, .int 0])), (w18, .inl (d21, 1101, .inl (fun _ => 0))), (w26, .inr (6, [.ref w27, .ref w28, .int 0, .int 0, .int 0, .int 0])), (w27, .inl (d29, 1101, .inl (fun _ => 0))), (w28, .inl (d30, 1101, .inl (fun _ => 0)))]) hD hS hA [6, 0, 1, 2, 3, 4, 5] rfl
  refine va_calli (va_runV (As := []) (rest := []) ⟨hx, hb, hml, hown, hts⟩ (c_tryToTidy l dC dI H.size (h0) (w1) (w6) (w8) (w15) (w22) (w26) (w31) (w35) (w40) (w48) (w50) (w52) (w9) (w10) (w11) (w12) (w13) (w16) (w17) (w18) (w19) (w20) (w27) (w28) (d21) (d29) (d30)) (cwV 0 hts (gV_G k394 k396 ks_yX9_tryToTidy k1 k397) rfl rfl rfl (by decide +kernel) ⟨Nat.le_of_ble_eq_true rfl, Nat.le_of_ble_eq_true rfl⟩) ⟨fun a U g mk q => by obtain ⟨q0, q1, qP, qK, qD⟩ := q; exact ⟨q0, q1, qP, va_K.moved (u := U) (U := U.calling g mk a) (Vm.Alike.refl U.vm) qK, qD⟩, va_recv hKc hPc (ci := 9) (q0 := 0) rfl rfl, fun U hU hW => ⟨rfl, by rw [hU], by rw [hU]; exact hPc, va_K.moved hW.alike hKc, hDc.weaken (fun _ _ _ _ => trivial)⟩⟩ rfl rfl hl.1 rfl (lv_room (Nat.le_of_ble_eq_true rfl)) dX9_tidied_19 ⟨Nat.le_of_ble_eq_true rfl, Nat.le_of_ble_eq_true rfl⟩) hS (fun q _ h => hFc q h) hFc (fun r1 u t H1 locs ht hvm hw hB hz1 hk1 hS => ?_)
  obtain ⟨hP1, hK1, hD1⟩ := hB
  rw [ht] at hP1
  have hK1 := va_K.moved hvm.symm hK1
  try dsimp only at hw
  obtain ⟨hP, hD⟩ := va_join (wr := []) (w1 := [(h0, .inr (9, [.ref w1, .ref w6, .int 0, .ref w8, .ref w15, .int 0, .int 0, .ref w22, .ref w26, .ref w31, .ref w35, .ref w40, .ref w48, .ref w50, .ref w52])), (w8, .inr (4, [.ref w9, .ref w10, .ref w11, .ref w12, .ref w13, .int 0, .int 0, .int 0])), (w15, .inr (4, [.ref w16, .ref w17, .ref w18, .ref w19, .ref w20, .int 0, .int 0, .int 0])), (w18, .inl (d21, 1101, .inl (fun _ => 0))), (w26, .inr (6, [.ref w27, .ref w28, .int 0, .int 0, .int 0, .int 0])), (w27, .inl (d29, 1101, .inl (fun _ => 0))), (w28, .inl (d30, 1101, .inl (fun _ => 0)))]) hP hD [6, 0, 1, 2, 3, 4, 5] [] rfl rfl (by decide) (by decide) hk1 hFc hP1 hD1
  have hK := hK.app hK1
  generalize H1 = H at hP hS ⊢
  have hP : va_P (dC, dI) vwCl [(h0, .inr (9, [.ref w1, .ref w6, .int 0, .ref w8, .ref w15, .int 0, .int 0, .ref w22, .ref w26, .ref w31, .ref w35, .ref w40, .ref w48, .ref w50, .ref w52])), (w8, .inr (4, [.ref w9, .ref w10, .ref w11, .ref w12, .ref w13, .int 0, .int 0, .int 0])), (w15, .inr (4, [.ref w16, .ref w17, .ref w18, .ref w19, .ref w20, .int 0, .int 0, .int 0])), (w18, .inl (d21, 1101, .inl (fun _ => 0))), (w26, .inr (6, [.ref w27, .ref w28, .int 0, .int 0, .int 0, .int 0])), (w27, .inl (d29, 1101, .inl (fun _ => 0))), (w28, .inl (d30, 1101, .inl (fun _ => 0)))] H := hP
  have hD : va_D A [(h0, .inr (9, [.ref w1, .ref w6, .int 0, .ref w8, .ref w15, .int 0, .int 0, .ref w22, .ref w26, .ref w31, .ref w35, .ref w40, .ref w48, .ref w50, .ref w52])), (w8, .inr (4, [.ref w9, .ref w10, .ref w11, .ref w12, .ref w13, .int 0, .int 0, .int 0])), (w15, .inr (4, [.ref w16, .ref w17, .ref w18, .ref w19, .ref w20, .int 0, .int 0, .int 0])), (w18, .inl (d21, 1101, .inl (fun _ => 0))), (w26, .inr (6, [.ref w27, .ref w28, .int 0, .int 0, .int 0, .int 0])), (w27, .inl (d29, 1101, .inl (fun _ => 0))), (w28, .inl (d30, 1101, .inl (fun _ => 0)))] := hD
  have hK : va_K (dC, dI) vwCl [(d21, .int), (d29, .int), (d30, .int), (d21, .int), (d29, .int), (d30, .int)] s := hK
  refine W.widen (k := 0) (n := 0) (by omega) (by omega) ?_
  obtain rfl : r1 = 0 := hw
  refine lv_istore_n (lv' := [(2, .int 0), (0, .ref h0), (1, .int 1)]) hx hb dX9_tidied_22 rfl hl (by decide) rfl (fun ls hl => ?_)
  refine lv_iload_n hx hb dX9_tidied_23 rfl (lv_at hl 2 rfl) ?_
  refine lv_tableIn (tgt := 54) (off := 30) hx hb dX9_tidied_24 (by decide +kernel) (by decide +kernel) (by decide +kernel) (by decide) ?_
  refine lv_aload_n hx hb dX9_tidied_54 rfl (lv_at hl 1 rfl) ?_
  refine va_get (D := (dC, dI)) (ci := 9) (v := .ref w15) (C := RX9) (T := TX9) (N := 15) hx hb hts inG9 hown hK hP 0 rfl rfl 4 (by decide) (hts _ k336) (fun _ h9 => h9) rfl dX9_tidied_55 ?_
  have hPc := hP.sub (ws' := [(w15, .inr (4, [.ref w16, .ref w17, .ref w18, .ref w19, .ref w20, .int 0, .int 0, .int 0])), (w18, .inl (d21, 1101, .inl (fun _ => 0)))]) [2, 3] rfl
  have hDc := hD.sub (ws' := [(w15, .inr (4, [.ref w16, .ref w17, .ref w18, .ref w19, .ref w20, .int 0, .int 0, .int 0])), (w18, .inl (d21, 1101, .inl (fun _ => 0)))]) [2, 3] (by decide) rfl
  have hKc := hK.sub (tys' := [(d21, .int)]) [0] rfl
  have hFc := va_free (wc := [(w15, .inr (4, [.ref w16, .ref w17, .ref w18, .ref w19, .ref w20, .int 0, .int 0, .int 0])), (w18, .inl (d21, 1101, .inl (fun _ => 0)))]) hD hS hA [2, 3] rfl
  refine va_calli (va_runV (As := []) (rest := []) ⟨hx, hb, hml, hown, hts⟩ (c_size l dC dI H.size (w15) (w16) (w17) (w18) (w19) (w20) (d21)) (cwV 0 hts (gV_G k513 k514 k515 k3 k516) rfl rfl rfl (by decide +kernel) ⟨Nat.le_of_ble_eq_true rfl, Nat.le_of_ble_eq_true rfl⟩) ⟨fun a U g mk q => by obtain ⟨q0, q1, qP, qK, qD⟩ := q; exact ⟨q0, q1, qP, va_K.moved (u := U) (U := U.calling g mk a) (Vm.Alike.refl U.vm) qK, qD⟩, va_recv hKc hPc (ci := 4) (q0 := 0) rfl rfl, fun U hU hW => ⟨rfl, by rw [hU], by rw [hU]; exact hPc, va_K.moved hW.alike hKc, hDc.weaken (fun _ _ _ _ => trivial)⟩⟩ rfl rfl hl.1 rfl (lv_room (Nat.le_of_ble_eq_true rfl)) dX9_tidied_58 ⟨Nat.le_of_ble_eq_true rfl, Nat.le_of_ble_eq_true rfl⟩) hS (fun q _ h => hFc q h) hFc (fun r2 u t H1 locs ht hvm hw hB hz1 hk1 hS => ?_)
  obtain ⟨hP1, hK1, hD1⟩ := hB
  rw [ht] at hP1
  have hK1 := va_K.moved hvm.symm hK1
  try dsimp only at hw
  obtain ⟨hP, hD⟩ := va_join (wr := [(h0, .inr (9, [.ref w1, .ref w6, .int 0, .ref w8, .ref w15, .int 0, .int 0, .ref w22, .ref w26, .ref w31, .ref w35, .ref w40, .ref w48, .ref w50, .ref w52])), (w8, .inr (4, [.ref w9, .ref w10, .ref w11, .ref w12, .ref w13, .int 0, .int 0, .int 0])), (w26, .inr (6, [.ref w27, .ref w28, .int 0, .int 0, .int 0, .int 0])), (w27, .inl (d29, 1101, .inl (fun _ => 0))), (w28, .inl (d30, 1101, .inl (fun _ => 0)))]) (w1 := [(w15, .inr (4, [.ref w16, .ref w17, .ref w18, .ref w19, .ref w20, .int 0, .int 0, .int 0])), (w18, .inl (d21, 1101, .inl (fun _ => 0)))]) hP hD [2, 3] [0, 1, 4, 5, 6] rfl rfl (by decide) (by decide) hk1 hFc hP1 hD1
  have hK := hK.app hK1
  generalize H1 = H at hP hS ⊢
  have hP : va_P (dC, dI) vwCl [(h0, .inr (9, [.ref w1, .ref w6, .int 0, .ref w8, .ref w15, .int 0, .int 0, .ref w22, .ref w26, .ref w31, .ref w35, .ref w40, .ref w48, .ref w50, .ref w52])), (w8, .inr (4, [.ref w9, .ref w10, .ref w11, .ref w12, .ref w13, .int 0, .int 0, .int 0])), (w26, .inr (6, [.ref w27, .ref w28, .int 0, .int 0, .int 0, .int 0])), (w27, .inl (d29, 1101, .inl (fun _ => 0))), (w28, .inl (d30, 1101, .inl (fun _ => 0))), (w15, .inr (4, [.ref w16, .ref w17, .ref w18, .ref w19, .ref w20, .int 0, .int 0, .int 0])), (w18, .inl (d21, 1101, .inl (fun _ => 0)))] H := hP
  have hD : va_D A [(h0, .inr (9, [.ref w1, .ref w6, .int 0, .ref w8, .ref w15, .int 0, .int 0, .ref w22, .ref w26, .ref w31, .ref w35, .ref w40, .ref w48, .ref w50, .ref w52])), (w8, .inr (4, [.ref w9, .ref w10, .ref w11, .ref w12, .ref w13, .int 0, .int 0, .int 0])), (w26, .inr (6, [.ref w27, .ref w28, .int 0, .int 0, .int 0, .int 0])), (w27, .inl (d29, 1101, .inl (fun _ => 0))), (w28, .inl (d30, 1101, .inl (fun _ => 0))), (w15, .inr (4, [.ref w16, .ref w17, .ref w18, .ref w19, .ref w20, .int 0, .int 0, .int 0])), (w18, .inl (d21, 1101, .inl (fun _ => 0)))] := hD
  have hK : va_K (dC, dI) vwCl [(d21, .int), (d29, .int), (d30, .int), (d21, .int), (d29, .int), (d30, .int), (d21, .int)] s := hK
  refine W.widen (k := 0) (n := 0) (by omega) (by omega) ?_
  obtain rfl : r2 = 0 := hw
  have hP9 := hP.sub (ws' := []) [] rfl
  have hD9 := hD.sub (ws' := []) [] (by decide) rfl
  have hK9 := hK.sub (tys' := []) [] rfl
  refine W.widen (k := 0) (n := 0) (by omega) (by omega) ?_
  exact W.iret (v := 0) hx hb hr (fun t ht hW => ⟨⟨0, (), rfl, rfl, by rw [ht]; exact hP9, va_K.moved hW.alike hK9, hD9⟩, hS.F ht⟩) hS.2.2 dX9_tidied_61
set_option maxHeartbeats 4000000 in
set_option maxRecDepth 100000 in
theorem c_tidied2 (l : Launch) (dC : Nat → ClassId) (dI : Nat → Nat → Nat) (sz : Nat) (h0 : Nat) (w1 : Nat) (w6 : Nat) (w8 : Nat) (w15 : Nat) (w22 : Nat) (w26 : Nat) (w31 : Nat) (w35 : Nat) (w40 : Nat) (w48 : Nat) (w50 : Nat) (w52 : Nat) (w9 : Nat) (w10 : Nat) (w11 : Nat) (w12 : Nat) (w13 : Nat) (w16 : Nat) (w17 : Nat) (w18 : Nat) (w19 : Nat) (w20 : Nat) (w27 : Nat) (w28 : Nat) (d21 : ClassId) (d29 : ClassId) (d30 : ClassId)  : Met l yX9_tidied (Cond.code yX9_tidied cX9_tidied 3 (some .int) :: wsG) ({ frames := 6, cells := 0, slots := 0, locals := 139 } : Room) (va_Pc [.ref h0, .int 2] (fun U => U.heap.size = sz ∧ va_P (dC, dI) vwCl [(h0, .inr (9, [.ref w1, .ref w6, .int 0, .ref w8, .ref w15, .int 0, .int 0, .ref w22, .ref w26, .ref w31, .ref w35, .ref w40, .ref w48, .ref w50, .ref w52])), (w8, .inr (4, [.ref w9, .ref w10, .ref w11, .ref w12, .ref w13, .int 0, .int 0, .int 0])), (w15, .inr (4, [.ref w16, .ref w17, .ref w18, .ref w19, .ref w20, .int 0, .int 0, .int 0])), (w18, .inl (d21, 1101, .inl (fun _ => 0))), (w26, .inr (6, [.ref w27, .ref w28, .int 0, .int 0, .int 0, .int 0])), (w27, .inl (d29, 1101, .inl (fun _ => 0))), (w28, .inl (d30, 1101, .inl (fun _ => 0)))] U.heap ∧ va_K (dC, dI) vwCl [(d21, .int), (d29, .int), (d30, .int)] U ∧ va_D (fun _ => True) [(h0, .inr (9, [.ref w1, .ref w6, .int 0, .ref w8, .ref w15, .int 0, .int 0, .ref w22, .ref w26, .ref w31, .ref w35, .ref w40, .ref w48, .ref w50, .ref w52])), (w8, .inr (4, [.ref w9, .ref w10, .ref w11, .ref w12, .ref w13, .int 0, .int 0, .int 0])), (w15, .inr (4, [.ref w16, .ref w17, .ref w18, .ref w19, .ref w20, .int 0, .int 0, .int 0])), (w18, .inl (d21, 1101, .inl (fun _ => 0))), (w26, .inr (6, [.ref w27, .ref w28, .int 0, .int 0, .int 0, .int 0])), (w27, .inl (d29, 1101, .inl (fun _ => 0))), (w28, .inl (d30, 1101, .inl (fun _ => 0)))])) (va_Qi (fun (r : Int32) (_ : Unit) => r = 0) (fun (_ : Unit) (t : State) => va_P (dC, dI) vwCl [] t.heap ∧ va_K (dC, dI) vwCl [] t ∧ va_D (va_A [(h0, .inr (9, [.ref w1, .ref w6, .int 0, .ref w8, .ref w15, .int 0, .int 0, .ref w22, .ref w26, .ref w31, .ref w35, .ref w40, .ref w48, .ref w50, .ref w52])), (w8, .inr (4, [.ref w9, .ref w10, .ref w11, .ref w12, .ref w13, .int 0, .int 0, .int 0])), (w15, .inr (4, [.ref w16, .ref w17, .ref w18, .ref w19, .ref w20, .int 0, .int 0, .int 0])), (w18, .inl (d21, 1101, .inl (fun _ => 0))), (w26, .inr (6, [.ref w27, .ref w28, .int 0, .int 0, .int 0, .int 0])), (w27, .inl (d29, 1101, .inl (fun _ => 0))), (w28, .inl (d30, 1101, .inl (fun _ => 0)))] sz) []) (va_A [(h0, .inr (9, [.ref w1, .ref w6, .int 0, .ref w8, .ref w15, .int 0, .int 0, .ref w22, .ref w26, .ref w31, .ref w35, .ref w40, .ref w48, .ref w50, .ref w52])), (w8, .inr (4, [.ref w9, .ref w10, .ref w11, .ref w12, .ref w13, .int 0, .int 0, .int 0])), (w15, .inr (4, [.ref w16, .ref w17, .ref w18, .ref w19, .ref w20, .int 0, .int 0, .int 0])), (w18, .inl (d21, 1101, .inl (fun _ => 0))), (w26, .inr (6, [.ref w27, .ref w28, .int 0, .int 0, .int 0, .int 0])), (w27, .inl (d29, 1101, .inl (fun _ => 0))), (w28, .inl (d30, 1101, .inl (fun _ => 0)))] sz)) 0 0 (va_A [(h0, .inr (9, [.ref w1, .ref w6, .int 0, .ref w8, .ref w15, .int 0, .int 0, .ref w22, .ref w26, .ref w31, .ref w35, .ref w40, .ref w48, .ref w50, .ref w52])), (w8, .inr (4, [.ref w9, .ref w10, .ref w11, .ref w12, .ref w13, .int 0, .int 0, .int 0])), (w15, .inr (4, [.ref w16, .ref w17, .ref w18, .ref w19, .ref w20, .int 0, .int 0, .int 0])), (w18, .inl (d21, 1101, .inl (fun _ => 0))), (w26, .inr (6, [.ref w27, .ref w28, .int 0, .int 0, .int 0, .int 0])), (w27, .inl (d29, 1101, .inl (fun _ => 0))), (w28, .inl (d30, 1101, .inl (fun _ => 0)))] sz) := by
  refine Met.ofW (cc := cX9_tidied) (maxL := 3) (ret := (some .int)) (by decide) rfl ?_
  intro p e s m args below meth c s₁ B hml hv
  obtain ⟨rfl, hsz, hP, hK, hD0⟩ := hv
  have hx := B.exec
  have hb := B.bytes
  have hr := B.returns
  have hts : ∀ w ∈ wsG, w.before _ s = true := hG_of (atoms_spec (ws := (Cond.code yX9_tidied cX9_tidied 3 (some .int) :: wsG)) B.pre)
  have hown : s.vm.findClass RX9 = some m.cls := findClass_of_methodNamed B.named
  have hlocks := B.notSynchronized
  subst hsz
  have hD := hD0.self (sz := s.heap.size)
  generalize hAe : va_A [(h0, .inr (9, [.ref w1, .ref w6, .int 0, .ref w8, .ref w15, .int 0, .int 0, .ref w22, .ref w26, .ref w31, .ref w35, .ref w40, .ref w48, .ref w50, .ref w52])), (w8, .inr (4, [.ref w9, .ref w10, .ref w11, .ref w12, .ref w13, .int 0, .int 0, .int 0])), (w15, .inr (4, [.ref w16, .ref w17, .ref w18, .ref w19, .ref w20, .int 0, .int 0, .int 0])), (w18, .inl (d21, 1101, .inl (fun _ => 0))), (w26, .inr (6, [.ref w27, .ref w28, .int 0, .int 0, .int 0, .int 0])), (w27, .inl (d29, 1101, .inl (fun _ => 0))), (w28, .inl (d30, 1101, .inl (fun _ => 0)))] s.heap.size = A at hD ⊢
  have hA : ∀ q : Nat, s.heap.size ≤ q → A q := fun q h => by rw [← hAe]; exact Or.inr h
  have hS : va_S A s.heap s.heap [] := va_S.rf
  have hl := lv_entry ([.ref h0, .int 2]) (n := 3) (Nat.le_of_ble_eq_true rfl)
  rw [lg_entry_eq]
  generalize (lg_sl ([.ref h0, .int 2]) ++ List.replicate (3 - (lg_sl ([.ref h0, .int 2])).length) Slot.unset).toArray = ls at hl ⊢
  have hl : lv_has ls 3 [(0, .ref h0), (1, .int 2)] := hl
  refine lv_aload_n hx hb dX9_tidied_0 rfl (lv_at hl 0 rfl) ?_
  refine lv_iload_n hx hb dX9_tidied_1 rfl (lv_at hl 1 rfl) ?_
  refine lv_if_lt (tgt := 14) hx hb dX9_tidied_2 (by decide) (fun c9 => absurd c9 (by decide +kernel)) (fun _ => ?_)
  refine lv_iload_n hx hb dX9_tidied_5 rfl (lv_at hl 1 rfl) ?_
  refine lv_iconst (v := 3) hx hb dX9_tidied_6 (by decide) ?_
  refine lv_icmp_gt (tgt := 14) hx hb dX9_tidied_7 (by decide) (fun c9 => absurd c9 (by decide +kernel)) (fun _ => ?_)
  refine lv_iconst (v := 1) hx hb dX9_tidied_10 (by decide) ?_
  refine lv_goto (tgt := 15) hx hb dX9_tidied_11 (by decide) ?_
  have hPc := hP.sub (ws' := [(h0, .inr (9, [.ref w1, .ref w6, .int 0, .ref w8, .ref w15, .int 0, .int 0, .ref w22, .ref w26, .ref w31, .ref w35, .ref w40, .ref w48, .ref w50, .ref w52]))]) [0] rfl
  have hDc := hD.sub (ws' := [(h0, .inr (9, [.ref w1, .ref w6, .int 0, .ref w8, .ref w15, .int 0, .int 0, .ref w22, .ref w26, .ref w31, .ref w35, .ref w40, .ref w48, .ref w50, .ref w52]))]) [0] (by decide) rfl
  have hKc := hK.sub (tys' := []) [] rfl
  have hFc := va_free (wc := [(h0, .inr (9, [.ref w1, .ref w6, .int 0, .ref w8, .ref w15, .int 0, .int 0, .ref w22, .ref w26, .ref w31, .ref w35, .ref w40, .ref w48, .ref w50, .ref w52]))]) hD hS hA [0] rfl
  refine va_callv (va_runV (As := [.int 1]) (rest := []) ⟨hx, hb, hml, hown, hts⟩ (c_needArg1 l dC dI s.heap.size (h0) (w1) (w6) (w8) (w15) (w22) (w26) (w31) (w35) (w40) (w48) (w50) (w52)) (cwV 1 hts (gV_G k596 k598 ks_yX9_needArgument k1 k599) rfl rfl rfl (by decide +kernel) ⟨Nat.le_of_ble_eq_true rfl, Nat.le_of_ble_eq_true rfl⟩) ⟨fun a U g mk q => by obtain ⟨q0, q1, qP, qK, qD⟩ := q; exact ⟨q0, q1, qP, va_K.moved (u := U) (U := U.calling g mk a) (Vm.Alike.refl U.vm) qK, qD⟩, va_recv hKc hPc (ci := 9) (q0 := 0) rfl rfl, fun U hU hW => ⟨rfl, by rw [hU], by rw [hU]; exact hPc, va_K.moved hW.alike hKc, hDc.weaken (fun _ _ _ _ => trivial)⟩⟩ rfl rfl hl.1 rfl (lv_room (Nat.le_of_ble_eq_true rfl)) dX9_tidied_15 ⟨Nat.le_of_ble_eq_true rfl, Nat.le_of_ble_eq_true rfl⟩) hS (fun q _ h => hFc q h) hFc (fun u t H1 locs ht hvm hw hB hz1 hk1 hS => ?_)
  obtain ⟨hP1, hK1, hD1⟩ := hB
  rw [ht] at hP1
  have hK1 := va_K.moved hvm.symm hK1
  try dsimp only at hw
  obtain ⟨hP, hD⟩ := va_join (wr := [(w8, .inr (4, [.ref w9, .ref w10, .ref w11, .ref w12, .ref w13, .int 0, .int 0, .int 0])), (w15, .inr (4, [.ref w16, .ref w17, .ref w18, .ref w19, .ref w20, .int 0, .int 0, .int 0])), (w18, .inl (d21, 1101, .inl (fun _ => 0))), (w26, .inr (6, [.ref w27, .ref w28, .int 0, .int 0, .int 0, .int 0])), (w27, .inl (d29, 1101, .inl (fun _ => 0))), (w28, .inl (d30, 1101, .inl (fun _ => 0)))]) (w1 := [(h0, .inr (9, [.ref w1, .ref w6, .int 0, .ref w8, .ref w15, .int 0, .int 0, .ref w22, .ref w26, .ref w31, .ref w35, .ref w40, .ref w48, .ref w50, .ref w52]))]) hP hD [0] [1, 2, 3, 4, 5, 6] rfl rfl (by decide) (by decide) hk1 hFc hP1 hD1
  have hK := hK.app hK1
  generalize H1 = H at hP hS ⊢
  have hP : va_P (dC, dI) vwCl [(w8, .inr (4, [.ref w9, .ref w10, .ref w11, .ref w12, .ref w13, .int 0, .int 0, .int 0])), (w15, .inr (4, [.ref w16, .ref w17, .ref w18, .ref w19, .ref w20, .int 0, .int 0, .int 0])), (w18, .inl (d21, 1101, .inl (fun _ => 0))), (w26, .inr (6, [.ref w27, .ref w28, .int 0, .int 0, .int 0, .int 0])), (w27, .inl (d29, 1101, .inl (fun _ => 0))), (w28, .inl (d30, 1101, .inl (fun _ => 0))), (h0, .inr (9, [.ref w1, .ref w6, .int 0, .ref w8, .ref w15, .int 0, .int 0, .ref w22, .ref w26, .ref w31, .ref w35, .ref w40, .ref w48, .ref w50, .ref w52]))] H := hP
  have hD : va_D A [(w8, .inr (4, [.ref w9, .ref w10, .ref w11, .ref w12, .ref w13, .int 0, .int 0, .int 0])), (w15, .inr (4, [.ref w16, .ref w17, .ref w18, .ref w19, .ref w20, .int 0, .int 0, .int 0])), (w18, .inl (d21, 1101, .inl (fun _ => 0))), (w26, .inr (6, [.ref w27, .ref w28, .int 0, .int 0, .int 0, .int 0])), (w27, .inl (d29, 1101, .inl (fun _ => 0))), (w28, .inl (d30, 1101, .inl (fun _ => 0))), (h0, .inr (9, [.ref w1, .ref w6, .int 0, .ref w8, .ref w15, .int 0, .int 0, .ref w22, .ref w26, .ref w31, .ref w35, .ref w40, .ref w48, .ref w50, .ref w52]))] := hD
  have hK : va_K (dC, dI) vwCl [(d21, .int), (d29, .int), (d30, .int)] s := hK
  refine W.widen (k := 0) (n := 0) (by omega) (by omega) ?_
  refine lv_aload_n hx hb dX9_tidied_18 rfl (lv_at hl 0 rfl) ?_
  have hPc := hP.sub (ws' := [(h0, .inr (9, [.ref w1, .ref w6, .int 0, .ref w8, .ref w15, .int 0, .int 0, .ref w22, .ref w26, .ref w31, .ref w35, .ref w40, .ref w48, .ref w50, .ref w52])), (w8, .inr (4, [.ref w9, .ref w10, .ref w11, .ref w12, .ref w13, .int 0, .int 0, .int 0])), (w15, .inr (4, [.ref w16, .ref w17, .ref w18, .ref w19, .ref w20, .int 0, .int 0, .int 0])), (w18, .inl (d21, 1101, .inl (fun _ => 0))), (w26, .inr (6, [.ref w27, .ref w28, .int 0, .int 0, .int 0, .int 0])), (w27, .inl (d29, 1101, .inl (fun _ => 0))), (w28, .inl (d30, 1101, .inl (fun _ => 0)))]) [6, 0, 1, 2, 3, 4, 5] rfl
  have hDc := hD.sub (ws' := [(h0, .inr (9, [.ref w1, .ref w6, .int 0, .ref w8, .ref w15, .int 0, .int 0, .ref w22, .ref w26, .ref w31, .ref w35, .ref w40, .ref w48, .ref w50, .ref w52])), (w8, .inr (4, [.ref w9, .ref w10, .ref w11, .ref w12, .ref w13, .int 0, .int 0, .int 0])), (w15, .inr (4, [.ref w16, .ref w17, .ref w18, .ref w19, .ref w20, .int 0, .int 0, .int 0])), (w18, .inl (d21, 1101, .inl (fun _ => 0))), (w26, .inr (6, [.ref w27, .ref w28, .int 0, .int 0, .int 0, .int 0])), (w27, .inl (d29, 1101, .inl (fun _ => 0))), (w28, .inl (d30, 1101, .inl (fun _ => 0)))]) [6, 0, 1, 2, 3, 4, 5] (by decide) rfl
  have hKc := hK.sub (tys' := [(d21, .int), (d29, .int), (d30, .int)]) [0, 1, 2] rfl
  have hFc := va_free (wc := [(h0, .inr (9, [.ref w1, .ref w6, .int 0, .ref w8, .ref w15, .int 0, .int 0, .ref w22, .ref w26, .ref w31, .ref w35, .ref w40, .ref w48, .ref w50, .ref w52])), (w8, .inr (4, [.ref w9, .ref w10, .ref w11, .ref w12, .ref w13, .int 0, .int 0, .int 0])), (w15, .inr (4, [.ref w16, .ref w17, .ref w18, .ref w19, .ref w20, .int 0, .int 0, .int 0])), (w18, .inl (d21, 1101, .inl (fun _ => 0))), (w26, .inr (6, [.ref w27, .ref w28, .int 0, .int 0, .int 0, .int 0])), (w27, .inl (d29, 1101, .inl (fun _ => 0))), (w28, .inl (d30, 1101, .inl (fun _ => 0)))]) hD hS hA [6, 0, 1, 2, 3, 4, 5] rfl
  refine va_calli (va_runV (As := []) (rest := []) ⟨hx, hb, hml, hown, hts⟩ (c_tryToTidy l dC dI H.size (h0) (w1) (w6) (w8) (w15) (w22) (w26) (w31) (w35) (w40) (w48) (w50) (w52) (w9) (w10) (w11) (w12) (w13) (w16) (w17) (w18) (w19) (w20) (w27) (w28) (d21) (d29) (d30)) (cwV 0 hts (gV_G k394 k396 ks_yX9_tryToTidy k1 k397) rfl rfl rfl (by decide +kernel) ⟨Nat.le_of_ble_eq_true rfl, Nat.le_of_ble_eq_true rfl⟩) ⟨fun a U g mk q => by obtain ⟨q0, q1, qP, qK, qD⟩ := q; exact ⟨q0, q1, qP, va_K.moved (u := U) (U := U.calling g mk a) (Vm.Alike.refl U.vm) qK, qD⟩, va_recv hKc hPc (ci := 9) (q0 := 0) rfl rfl, fun U hU hW => ⟨rfl, by rw [hU], by rw [hU]; exact hPc, va_K.moved hW.alike hKc, hDc.weaken (fun _ _ _ _ => trivial)⟩⟩ rfl rfl hl.1 rfl (lv_room (Nat.le_of_ble_eq_true rfl)) dX9_tidied_19 ⟨Nat.le_of_ble_eq_true rfl, Nat.le_of_ble_eq_true rfl⟩) hS (fun q _ h => hFc q h) hFc (fun r1 u t H1 locs ht hvm hw hB hz1 hk1 hS => ?_)
  obtain ⟨hP1, hK1, hD1⟩ := hB
  rw [ht] at hP1
  have hK1 := va_K.moved hvm.symm hK1
  try dsimp only at hw
  obtain ⟨hP, hD⟩ := va_join (wr := []) (w1 := [(h0, .inr (9, [.ref w1, .ref w6, .int 0, .ref w8, .ref w15, .int 0, .int 0, .ref w22, .ref w26, .ref w31, .ref w35, .ref w40, .ref w48, .ref w50, .ref w52])), (w8, .inr (4, [.ref w9, .ref w10, .ref w11, .ref w12, .ref w13, .int 0, .int 0, .int 0])), (w15, .inr (4, [.ref w16, .ref w17, .ref w18, .ref w19, .ref w20, .int 0, .int 0, .int 0])), (w18, .inl (d21, 1101, .inl (fun _ => 0))), (w26, .inr (6, [.ref w27, .ref w28, .int 0, .int 0, .int 0, .int 0])), (w27, .inl (d29, 1101, .inl (fun _ => 0))), (w28, .inl (d30, 1101, .inl (fun _ => 0)))]) hP hD [6, 0, 1, 2, 3, 4, 5] [] rfl rfl (by decide) (by decide) hk1 hFc hP1 hD1
  have hK := hK.app hK1
  generalize H1 = H at hP hS ⊢
  have hP : va_P (dC, dI) vwCl [(h0, .inr (9, [.ref w1, .ref w6, .int 0, .ref w8, .ref w15, .int 0, .int 0, .ref w22, .ref w26, .ref w31, .ref w35, .ref w40, .ref w48, .ref w50, .ref w52])), (w8, .inr (4, [.ref w9, .ref w10, .ref w11, .ref w12, .ref w13, .int 0, .int 0, .int 0])), (w15, .inr (4, [.ref w16, .ref w17, .ref w18, .ref w19, .ref w20, .int 0, .int 0, .int 0])), (w18, .inl (d21, 1101, .inl (fun _ => 0))), (w26, .inr (6, [.ref w27, .ref w28, .int 0, .int 0, .int 0, .int 0])), (w27, .inl (d29, 1101, .inl (fun _ => 0))), (w28, .inl (d30, 1101, .inl (fun _ => 0)))] H := hP
  have hD : va_D A [(h0, .inr (9, [.ref w1, .ref w6, .int 0, .ref w8, .ref w15, .int 0, .int 0, .ref w22, .ref w26, .ref w31, .ref w35, .ref w40, .ref w48, .ref w50, .ref w52])), (w8, .inr (4, [.ref w9, .ref w10, .ref w11, .ref w12, .ref w13, .int 0, .int 0, .int 0])), (w15, .inr (4, [.ref w16, .ref w17, .ref w18, .ref w19, .ref w20, .int 0, .int 0, .int 0])), (w18, .inl (d21, 1101, .inl (fun _ => 0))), (w26, .inr (6, [.ref w27, .ref w28, .int 0, .int 0, .int 0, .int 0])), (w27, .inl (d29, 1101, .inl (fun _ => 0))), (w28, .inl (d30, 1101, .inl (fun _ => 0)))] := hD
  have hK : va_K (dC, dI) vwCl [(d21, .int), (d29, .int), (d30, .int), (d21, .int), (d29, .int), (d30, .int)] s := hK
  refine W.widen (k := 0) (n := 0) (by omega) (by omega) ?_
  obtain rfl : r1 = 0 := hw
  refine lv_istore_n (lv' := [(2, .int 0), (0, .ref h0), (1, .int 2)]) hx hb dX9_tidied_22 rfl hl (by decide) rfl (fun ls hl => ?_)
  refine lv_iload_n hx hb dX9_tidied_23 rfl (lv_at hl 2 rfl) ?_
  refine lv_tableIn (tgt := 62) (off := 38) hx hb dX9_tidied_24 (by decide +kernel) (by decide +kernel) (by decide +kernel) (by decide) ?_
  refine lv_aload_n hx hb dX9_tidied_62 rfl (lv_at hl 1 rfl) ?_
  refine va_get (D := (dC, dI)) (ci := 9) (v := .ref w15) (C := RX9) (T := TX9) (N := 15) hx hb hts inG9 hown hK hP 0 rfl rfl 4 (by decide) (hts _ k336) (fun _ h9 => h9) rfl dX9_tidied_63 ?_
  refine va_get (D := (dC, dI)) (ci := 4) (v := .int 0) (C := RX4) (T := TX4) (N := 8) hx hb hts inG4 hown hK hP 2 rfl rfl 6 (by decide) (hts _ k101) (fun _ h9 => h9) rfl dX9_tidied_66 ?_
  have hP9 := hP.sub (ws' := []) [] rfl
  have hD9 := hD.sub (ws' := []) [] (by decide) rfl
  have hK9 := hK.sub (tys' := []) [] rfl
  refine W.widen (k := 0) (n := 0) (by omega) (by omega) ?_
  exact W.iret (v := 0) hx hb hr (fun t ht hW => ⟨⟨0, (), rfl, rfl, by rw [ht]; exact hP9, va_K.moved hW.alike hK9, hD9⟩, hS.F ht⟩) hS.2.2 dX9_tidied_69
set_option maxHeartbeats 4000000 in
set_option maxRecDepth 100000 in
theorem c_tidied3 (l : Launch) (dC : Nat → ClassId) (dI : Nat → Nat → Nat) (sz : Nat) (h0 : Nat) (w1 : Nat) (w6 : Nat) (w8 : Nat) (w15 : Nat) (w22 : Nat) (w26 : Nat) (w31 : Nat) (w35 : Nat) (w40 : Nat) (w48 : Nat) (w50 : Nat) (w52 : Nat) (w9 : Nat) (w10 : Nat) (w11 : Nat) (w12 : Nat) (w13 : Nat) (w16 : Nat) (w17 : Nat) (w18 : Nat) (w19 : Nat) (w20 : Nat) (w27 : Nat) (w28 : Nat) (d21 : ClassId) (d29 : ClassId) (d30 : ClassId)  : Met l yX9_tidied (Cond.code yX9_tidied cX9_tidied 3 (some .int) :: wsG) ({ frames := 6, cells := 0, slots := 0, locals := 139 } : Room) (va_Pc [.ref h0, .int 3] (fun U => U.heap.size = sz ∧ va_P (dC, dI) vwCl [(h0, .inr (9, [.ref w1, .ref w6, .int 0, .ref w8, .ref w15, .int 0, .int 0, .ref w22, .ref w26, .ref w31, .ref w35, .ref w40, .ref w48, .ref w50, .ref w52])), (w8, .inr (4, [.ref w9, .ref w10, .ref w11, .ref w12, .ref w13, .int 0, .int 0, .int 0])), (w15, .inr (4, [.ref w16, .ref w17, .ref w18, .ref w19, .ref w20, .int 0, .int 0, .int 0])), (w18, .inl (d21, 1101, .inl (fun _ => 0))), (w26, .inr (6, [.ref w27, .ref w28, .int 0, .int 0, .int 0, .int 0])), (w27, .inl (d29, 1101, .inl (fun _ => 0))), (w28, .inl (d30, 1101, .inl (fun _ => 0)))] U.heap ∧ va_K (dC, dI) vwCl [(d21, .int), (d29, .int), (d30, .int)] U ∧ va_D (fun _ => True) [(h0, .inr (9, [.ref w1, .ref w6, .int 0, .ref w8, .ref w15, .int 0, .int 0, .ref w22, .ref w26, .ref w31, .ref w35, .ref w40, .ref w48, .ref w50, .ref w52])), (w8, .inr (4, [.ref w9, .ref w10, .ref w11, .ref w12, .ref w13, .int 0, .int 0, .int 0])), (w15, .inr (4, [.ref w16, .ref w17, .ref w18, .ref w19, .ref w20, .int 0, .int 0, .int 0])), (w18, .inl (d21, 1101, .inl (fun _ => 0))), (w26, .inr (6, [.ref w27, .ref w28, .int 0, .int 0, .int 0, .int 0])), (w27, .inl (d29, 1101, .inl (fun _ => 0))), (w28, .inl (d30, 1101, .inl (fun _ => 0)))])) (va_Qi (fun (r : Int32) (_ : Unit) => r = 0) (fun (_ : Unit) (t : State) => va_P (dC, dI) vwCl [] t.heap ∧ va_K (dC, dI) vwCl [] t ∧ va_D (va_A [(h0, .inr (9, [.ref w1, .ref w6, .int 0, .ref w8, .ref w15, .int 0, .int 0, .ref w22, .ref w26, .ref w31, .ref w35, .ref w40, .ref w48, .ref w50, .ref w52])), (w8, .inr (4, [.ref w9, .ref w10, .ref w11, .ref w12, .ref w13, .int 0, .int 0, .int 0])), (w15, .inr (4, [.ref w16, .ref w17, .ref w18, .ref w19, .ref w20, .int 0, .int 0, .int 0])), (w18, .inl (d21, 1101, .inl (fun _ => 0))), (w26, .inr (6, [.ref w27, .ref w28, .int 0, .int 0, .int 0, .int 0])), (w27, .inl (d29, 1101, .inl (fun _ => 0))), (w28, .inl (d30, 1101, .inl (fun _ => 0)))] sz) []) (va_A [(h0, .inr (9, [.ref w1, .ref w6, .int 0, .ref w8, .ref w15, .int 0, .int 0, .ref w22, .ref w26, .ref w31, .ref w35, .ref w40, .ref w48, .ref w50, .ref w52])), (w8, .inr (4, [.ref w9, .ref w10, .ref w11, .ref w12, .ref w13, .int 0, .int 0, .int 0])), (w15, .inr (4, [.ref w16, .ref w17, .ref w18, .ref w19, .ref w20, .int 0, .int 0, .int 0])), (w18, .inl (d21, 1101, .inl (fun _ => 0))), (w26, .inr (6, [.ref w27, .ref w28, .int 0, .int 0, .int 0, .int 0])), (w27, .inl (d29, 1101, .inl (fun _ => 0))), (w28, .inl (d30, 1101, .inl (fun _ => 0)))] sz)) 0 0 (va_A [(h0, .inr (9, [.ref w1, .ref w6, .int 0, .ref w8, .ref w15, .int 0, .int 0, .ref w22, .ref w26, .ref w31, .ref w35, .ref w40, .ref w48, .ref w50, .ref w52])), (w8, .inr (4, [.ref w9, .ref w10, .ref w11, .ref w12, .ref w13, .int 0, .int 0, .int 0])), (w15, .inr (4, [.ref w16, .ref w17, .ref w18, .ref w19, .ref w20, .int 0, .int 0, .int 0])), (w18, .inl (d21, 1101, .inl (fun _ => 0))), (w26, .inr (6, [.ref w27, .ref w28, .int 0, .int 0, .int 0, .int 0])), (w27, .inl (d29, 1101, .inl (fun _ => 0))), (w28, .inl (d30, 1101, .inl (fun _ => 0)))] sz) := by
  refine Met.ofW (cc := cX9_tidied) (maxL := 3) (ret := (some .int)) (by decide) rfl ?_
  intro p e s m args below meth c s₁ B hml hv
  obtain ⟨rfl, hsz, hP, hK, hD0⟩ := hv
  have hx := B.exec
  have hb := B.bytes
  have hr := B.returns
  have hts : ∀ w ∈ wsG, w.before _ s = true := hG_of (atoms_spec (ws := (Cond.code yX9_tidied cX9_tidied 3 (some .int) :: wsG)) B.pre)
  have hown : s.vm.findClass RX9 = some m.cls := findClass_of_methodNamed B.named
  have hlocks := B.notSynchronized
  subst hsz
  have hD := hD0.self (sz := s.heap.size)
  generalize hAe : va_A [(h0, .inr (9, [.ref w1, .ref w6, .int 0, .ref w8, .ref w15, .int 0, .int 0, .ref w22, .ref w26, .ref w31, .ref w35, .ref w40, .ref w48, .ref w50, .ref w52])), (w8, .inr (4, [.ref w9, .ref w10, .ref w11, .ref w12, .ref w13, .int 0, .int 0, .int 0])), (w15, .inr (4, [.ref w16, .ref w17, .ref w18, .ref w19, .ref w20, .int 0, .int 0, .int 0])), (w18, .inl (d21, 1101, .inl (fun _ => 0))), (w26, .inr (6, [.ref w27, .ref w28, .int 0, .int 0, .int 0, .int 0])), (w27, .inl (d29, 1101, .inl (fun _ => 0))), (w28, .inl (d30, 1101, .inl (fun _ => 0)))] s.heap.size = A at hD ⊢
  have hA : ∀ q : Nat, s.heap.size ≤ q → A q := fun q h => by rw [← hAe]; exact Or.inr h
  have hS : va_S A s.heap s.heap [] := va_S.rf
  have hl := lv_entry ([.ref h0, .int 3]) (n := 3) (Nat.le_of_ble_eq_true rfl)
  rw [lg_entry_eq]
  generalize (lg_sl ([.ref h0, .int 3]) ++ List.replicate (3 - (lg_sl ([.ref h0, .int 3])).length) Slot.unset).toArray = ls at hl ⊢
  have hl : lv_has ls 3 [(0, .ref h0), (1, .int 3)] := hl
  refine lv_aload_n hx hb dX9_tidied_0 rfl (lv_at hl 0 rfl) ?_
  refine lv_iload_n hx hb dX9_tidied_1 rfl (lv_at hl 1 rfl) ?_
  refine lv_if_lt (tgt := 14) hx hb dX9_tidied_2 (by decide) (fun c9 => absurd c9 (by decide +kernel)) (fun _ => ?_)
  refine lv_iload_n hx hb dX9_tidied_5 rfl (lv_at hl 1 rfl) ?_
  refine lv_iconst (v := 3) hx hb dX9_tidied_6 (by decide) ?_
  refine lv_icmp_gt (tgt := 14) hx hb dX9_tidied_7 (by decide) (fun c9 => absurd c9 (by decide +kernel)) (fun _ => ?_)
  refine lv_iconst (v := 1) hx hb dX9_tidied_10 (by decide) ?_
  refine lv_goto (tgt := 15) hx hb dX9_tidied_11 (by decide) ?_
  have hPc := hP.sub (ws' := [(h0, .inr (9, [.ref w1, .ref w6, .int 0, .ref w8, .ref w15, .int 0, .int 0, .ref w22, .ref w26, .ref w31, .ref w35, .ref w40, .ref w48, .ref w50, .ref w52]))]) [0] rfl
  have hDc := hD.sub (ws' := [(h0, .inr (9, [.ref w1, .ref w6, .int 0, .ref w8, .ref w15, .int 0, .int 0, .ref w22, .ref w26, .ref w31, .ref w35, .ref w40, .ref w48, .ref w50, .ref w52]))]) [0] (by decide) rfl
  have hKc := hK.sub (tys' := []) [] rfl
  have hFc := va_free (wc := [(h0, .inr (9, [.ref w1, .ref w6, .int 0, .ref w8, .ref w15, .int 0, .int 0, .ref w22, .ref w26, .ref w31, .ref w35, .ref w40, .ref w48, .ref w50, .ref w52]))]) hD hS hA [0] rfl
  refine va_callv (va_runV (As := [.int 1]) (rest := []) ⟨hx, hb, hml, hown, hts⟩ (c_needArg1 l dC dI s.heap.size (h0) (w1) (w6) (w8) (w15) (w22) (w26) (w31) (w35) (w40) (w48) (w50) (w52)) (cwV 1 hts (gV_G k596 k598 ks_yX9_needArgument k1 k599) rfl rfl rfl (by decide +kernel) ⟨Nat.le_of_ble_eq_true rfl, Nat.le_of_ble_eq_true rfl⟩) ⟨fun a U g mk q => by obtain ⟨q0, q1, qP, qK, qD⟩ := q; exact ⟨q0, q1, qP, va_K.moved (u := U) (U := U.calling g mk a) (Vm.Alike.refl U.vm) qK, qD⟩, va_recv hKc hPc (ci := 9) (q0 := 0) rfl rfl, fun U hU hW => ⟨rfl, by rw [hU], by rw [hU]; exact hPc, va_K.moved hW.alike hKc, hDc.weaken (fun _ _ _ _ => trivial)⟩⟩ rfl rfl hl.1 rfl (lv_room (Nat.le_of_ble_eq_true rfl)) dX9_tidied_15 ⟨Nat.le_of_ble_eq_true rfl, Nat.le_of_ble_eq_true rfl⟩) hS (fun q _ h => hFc q h) hFc (fun u t H1 locs ht hvm hw hB hz1 hk1 hS => ?_)
  obtain ⟨hP1, hK1, hD1⟩ := hB
  rw [ht] at hP1
  have hK1 := va_K.moved hvm.symm hK1
  try dsimp only at hw
  obtain ⟨hP, hD⟩ := va_join (wr := [(w8, .inr (4, [.ref w9, .ref w10, .ref w11, .ref w12, .ref w13, .int 0, .int 0, .int 0])), (w15, .inr (4, [.ref w16, .ref w17, .ref w18, .ref w19, .ref w20, .int 0, .int 0, .int 0])), (w18, .inl (d21, 1101, .inl (fun _ => 0))), (w26, .inr (6, [.ref w27, .ref w28, .int 0, .int 0, .int 0, .int 0])), (w27, .inl (d29, 1101, .inl (fun _ => 0))), (w28, .inl (d30, 1101, .inl (fun _ => 0)))]) (w1 := [(h0, .inr (9, [.ref w1, .ref w6, .int 0, .ref w8, .ref w15, .int 0, .int 0, .ref w22, .ref w26, .ref w31, .ref w35, .ref w40, .ref w48, .ref w50, .ref w52]))]) hP hD [0] [1, 2, 3, 4, 5, 6] rfl rfl (by decide) (by decide) hk1 hFc hP1 hD1
  have hK := hK.app hK1
  generalize H1 = H at hP hS ⊢
  have hP : va_P (dC, dI) vwCl [(w8, .inr (4, [.ref w9, .ref w10, .ref w11, .ref w12, .ref w13, .int 0, .int 0, .int 0])), (w15, .inr (4, [.ref w16, .ref w17, .ref w18, .ref w19, .ref w20, .int 0, .int 0, .int 0])), (w18, .inl (d21, 1101, .inl (fun _ => 0))), (w26, .inr (6, [.ref w27, .ref w28, .int 0, .int 0, .int 0, .int 0])), (w27, .inl (d29, 1101, .inl (fun _ => 0))), (w28, .inl (d30, 1101, .inl (fun _ => 0))), (h0, .inr (9, [.ref w1, .ref w6, .int 0, .ref w8, .ref w15, .int 0, .int 0, .ref w22, .ref w26, .ref w31, .ref w35, .ref w40, .ref w48, .ref w50, .ref w52]))] H := hP
  have hD : va_D A [(w8, .inr (4, [.ref w9, .ref w10, .ref w11, .ref w12, .ref w13, .int 0, .int 0, .int 0])), (w15, .inr (4, [.ref w16, .ref w17, .ref w18, .ref w19, .ref w20, .int 0, .int 0, .int 0])), (w18, .inl (d21, 1101, .inl (fun _ => 0))), (w26, .inr (6, [.ref w27, .ref w28, .int 0, .int 0, .int 0, .int 0])), (w27, .inl (d29, 1101, .inl (fun _ => 0))), (w28, .inl (d30, 1101, .inl (fun _ => 0))), (h0, .inr (9, [.ref w1, .ref w6, .int 0, .ref w8, .ref w15, .int 0, .int 0, .ref w22, .ref w26, .ref w31, .ref w35, .ref w40, .ref w48, .ref w50, .ref w52]))] := hD
  have hK : va_K (dC, dI) vwCl [(d21, .int), (d29, .int), (d30, .int)] s := hK
  refine W.widen (k := 0) (n := 0) (by omega) (by omega) ?_
  refine lv_aload_n hx hb dX9_tidied_18 rfl (lv_at hl 0 rfl) ?_
  have hPc := hP.sub (ws' := [(h0, .inr (9, [.ref w1, .ref w6, .int 0, .ref w8, .ref w15, .int 0, .int 0, .ref w22, .ref w26, .ref w31, .ref w35, .ref w40, .ref w48, .ref w50, .ref w52])), (w8, .inr (4, [.ref w9, .ref w10, .ref w11, .ref w12, .ref w13, .int 0, .int 0, .int 0])), (w15, .inr (4, [.ref w16, .ref w17, .ref w18, .ref w19, .ref w20, .int 0, .int 0, .int 0])), (w18, .inl (d21, 1101, .inl (fun _ => 0))), (w26, .inr (6, [.ref w27, .ref w28, .int 0, .int 0, .int 0, .int 0])), (w27, .inl (d29, 1101, .inl (fun _ => 0))), (w28, .inl (d30, 1101, .inl (fun _ => 0)))]) [6, 0, 1, 2, 3, 4, 5] rfl
  have hDc := hD.sub (ws' := [(h0, .inr (9, [.ref w1, .ref w6, .int 0, .ref w8, .ref w15, .int 0, .int 0, .ref w22, .ref w26, .ref w31, .ref w35, .ref w40, .ref w48, .ref w50, .ref w52])), (w8, .inr (4, [.ref w9, .ref w10, .ref w11, .ref w12, .ref w13, .int 0, .int 0, .int 0])), (w15, .inr (4, [.ref w16, .ref w17, .ref w18, .ref w19, .ref w20, .int 0, .int 0, .int 0])), (w18, .inl (d21, 1101, .inl (fun _ => 0))), (w26, .inr (6, [.ref w27, .ref w28, .int 0, .int 0, .int 0, .int 0])), (w27, .inl (d29, 1101, .inl (fun _ => 0))), (w28, .inl (d30, 1101, .inl (fun _ => 0)))]) [6, 0, 1, 2, 3, 4, 5] (by decide) rfl
  have hKc := hK.sub (tys' := [(d21, .int), (d29, .int), (d30, .int)]) [0, 1, 2] rfl
  have hFc := va_free (wc := [(h0, .inr (9, [.ref w1, .ref w6, .int 0, .ref w8, .ref w15, .int 0, .int 0, .ref w22, .ref w26, .ref w31, .ref w35, .ref w40, .ref w48, .ref w50, .ref w52])), (w8, .inr (4, [.ref w9, .ref w10, .ref w11, .ref w12, .ref w13, .int 0, .int 0, .int 0])), (w15, .inr (4, [.ref w16, .ref w17, .ref w18, .ref w19, .ref w20, .int 0, .int 0, .int 0])), (w18, .inl (d21, 1101, .inl (fun _ => 0))), (w26, .inr (6, [.ref w27, .ref w28, .int 0, .int 0, .int 0, .int 0])), (w27, .inl (d29, 1101, .inl (fun _ => 0))), (w28, .inl (d30, 1101, .inl (fun _ => 0)))]) hD hS hA [6, 0, 1, 2, 3, 4, 5] rfl
  refine va_calli (va_runV (As := []) (rest := []) ⟨hx, hb, hml, hown, hts⟩ (c_tryToTidy l dC dI H.size (h0) (w1) (w6) (w8) (w15) (w22) (w26) (w31) (w35) (w40) (w48) (w50) (w52) (w9) (w10) (w11) (w12) (w13) (w16) (w17) (w18) (w19) (w20) (w27) (w28) (d21) (d29) (d30)) (cwV 0 hts (gV_G k394 k396 ks_yX9_tryToTidy k1 k397) rfl rfl rfl (by decide +kernel) ⟨Nat.le_of_ble_eq_true rfl, Nat.le_of_ble_eq_true rfl⟩) ⟨fun a U g mk q => by obtain ⟨q0, q1, qP, qK, qD⟩ := q; exact ⟨q0, q1, qP, va_K.moved (u := U) (U := U.calling g mk a) (Vm.Alike.refl U.vm) qK, qD⟩, va_recv hKc hPc (ci := 9) (q0 := 0) rfl rfl, fun U hU hW => ⟨rfl, by rw [hU], by rw [hU]; exact hPc, va_K.moved hW.alike hKc, hDc.weaken (fun _ _ _ _ => trivial)⟩⟩ rfl rfl hl.1 rfl (lv_room (Nat.le_of_ble_eq_true rfl)) dX9_tidied_19 ⟨Nat.le_of_ble_eq_true rfl, Nat.le_of_ble_eq_true rfl⟩) hS (fun q _ h => hFc q h) hFc (fun r1 u t H1 locs ht hvm hw hB hz1 hk1 hS => ?_)
  obtain ⟨hP1, hK1, hD1⟩ := hB
  rw [ht] at hP1
  have hK1 := va_K.moved hvm.symm hK1
  try dsimp only at hw
  obtain ⟨hP, hD⟩ := va_join (wr := []) (w1 := [(h0, .inr (9, [.ref w1, .ref w6, .int 0, .ref w8, .ref w15, .int 0, .int 0, .ref w22, .ref w26, .ref w31, .ref w35, .ref w40, .ref w48, .ref w50, .ref w52])), (w8, .inr (4, [.ref w9, .ref w10, .ref w11, .ref w12, .ref w13, .int 0, .int 0, .int 0])), (w15, .inr (4, [.ref w16, .ref w17, .ref w18, .ref w19, .ref w20, .int 0, .int 0, .int 0])), (w18, .inl (d21, 1101, .inl (fun _ => 0))), (w26, .inr (6, [.ref w27, .ref w28, .int 0, .int 0, .int 0, .int 0])), (w27, .inl (d29, 1101, .inl (fun _ => 0))), (w28, .inl (d30, 1101, .inl (fun _ => 0)))]) hP hD [6, 0, 1, 2, 3, 4, 5] [] rfl rfl (by decide) (by decide) hk1 hFc hP1 hD1
  have hK := hK.app hK1
  generalize H1 = H at hP hS ⊢
  have hP : va_P (dC, dI) vwCl [(h0, .inr (9, [.ref w1, .ref w6, .int 0, .ref w8, .ref w15, .int 0, .int 0, .ref w22, .ref w26, .ref w31, .ref w35, .ref w40, .ref w48, .ref w50, .ref w52])), (w8, .inr (4, [.ref w9, .ref w10, .ref w11, .ref w12, .ref w13, .int 0, .int 0, .int 0])), (w15, .inr (4, [.ref w16, .ref w17, .ref w18, .ref w19, .ref w20, .int 0, .int 0, .int 0])), (w18, .inl (d21, 1101, .inl (fun _ => 0))), (w26, .inr (6, [.ref w27, .ref w28, .int 0, .int 0, .int 0, .int 0])), (w27, .inl (d29, 1101, .inl (fun _ => 0))), (w28, .inl (d30, 1101, .inl (fun _ => 0)))] H := hP
  have hD : va_D A [(h0, .inr (9, [.ref w1, .ref w6, .int 0, .ref w8, .ref w15, .int 0, .int 0, .ref w22, .ref w26, .ref w31, .ref w35, .ref w40, .ref w48, .ref w50, .ref w52])), (w8, .inr (4, [.ref w9, .ref w10, .ref w11, .ref w12, .ref w13, .int 0, .int 0, .int 0])), (w15, .inr (4, [.ref w16, .ref w17, .ref w18, .ref w19, .ref w20, .int 0, .int 0, .int 0])), (w18, .inl (d21, 1101, .inl (fun _ => 0))), (w26, .inr (6, [.ref w27, .ref w28, .int 0, .int 0, .int 0, .int 0])), (w27, .inl (d29, 1101, .inl (fun _ => 0))), (w28, .inl (d30, 1101, .inl (fun _ => 0)))] := hD
  have hK : va_K (dC, dI) vwCl [(d21, .int), (d29, .int), (d30, .int), (d21, .int), (d29, .int), (d30, .int)] s := hK
  refine W.widen (k := 0) (n := 0) (by omega) (by omega) ?_
  obtain rfl : r1 = 0 := hw
  refine lv_istore_n (lv' := [(2, .int 0), (0, .ref h0), (1, .int 3)]) hx hb dX9_tidied_22 rfl hl (by decide) rfl (fun ls hl => ?_)
  refine lv_iload_n hx hb dX9_tidied_23 rfl (lv_at hl 2 rfl) ?_
  refine lv_tableOut (tgt := 70) hx hb dX9_tidied_24 (by decide +kernel) (by decide) ?_
  refine lv_aload_n hx hb dX9_tidied_70 rfl (lv_at hl 1 rfl) ?_
  refine lv_aload_n hx hb dX9_tidied_71 rfl (lv_at hl 1 rfl) ?_
  refine va_get (D := (dC, dI)) (ci := 9) (v := .ref w15) (C := RX9) (T := TX9) (N := 15) hx hb hts inG9 hown hK hP 0 rfl rfl 4 (by decide) (hts _ k336) (fun _ h9 => h9) rfl dX9_tidied_72 ?_
  have hPc := hP.sub (ws' := [(h0, .inr (9, [.ref w1, .ref w6, .int 0, .ref w8, .ref w15, .int 0, .int 0, .ref w22, .ref w26, .ref w31, .ref w35, .ref w40, .ref w48, .ref w50, .ref w52]))]) [0] rfl
  have hDc := hD.sub (ws' := [(h0, .inr (9, [.ref w1, .ref w6, .int 0, .ref w8, .ref w15, .int 0, .int 0, .ref w22, .ref w26, .ref w31, .ref w35, .ref w40, .ref w48, .ref w50, .ref w52]))]) [0] (by decide) rfl
  have hKc := hK.sub (tys' := []) [] rfl
  have hFc := va_free (wc := [(h0, .inr (9, [.ref w1, .ref w6, .int 0, .ref w8, .ref w15, .int 0, .int 0, .ref w22, .ref w26, .ref w31, .ref w35, .ref w40, .ref w48, .ref w50, .ref w52]))]) hD hS hA [0] rfl
  refine va_calli (va_runV (As := [.ref w15]) (rest := []) ⟨hx, hb, hml, hown, hts⟩ (c_countFitting l dC dI H.size (h0) (w1) (w6) (w8) (w15) (w22) (w26) (w31) (w35) (w40) (w48) (w50) (w52) (w15)) (cwV 1 hts (gV_G k844 k846 ks_yX9_countFitting k1 k847) rfl rfl rfl (by decide +kernel) ⟨Nat.le_of_ble_eq_true rfl, Nat.le_of_ble_eq_true rfl⟩) ⟨fun a U g mk q => by obtain ⟨q0, q1, qP, qK, qD⟩ := q; exact ⟨q0, q1, qP, va_K.moved (u := U) (U := U.calling g mk a) (Vm.Alike.refl U.vm) qK, qD⟩, va_recv hKc hPc (ci := 9) (q0 := 0) rfl rfl, fun U hU hW => ⟨rfl, by rw [hU], by rw [hU]; exact hPc, va_K.moved hW.alike hKc, hDc.weaken (fun _ _ _ _ => trivial)⟩⟩ rfl rfl hl.1 rfl (lv_room (Nat.le_of_ble_eq_true rfl)) dX9_tidied_75 ⟨Nat.le_of_ble_eq_true rfl, Nat.le_of_ble_eq_true rfl⟩) hS (fun q _ h => hFc q h) hFc (fun r2 u t H1 locs ht hvm hw hB hz1 hk1 hS => ?_)
  obtain ⟨hP1, hK1, hD1⟩ := hB
  rw [ht] at hP1
  have hK1 := va_K.moved hvm.symm hK1
  try dsimp only at hw
  obtain ⟨hP, hD⟩ := va_join (wr := [(w8, .inr (4, [.ref w9, .ref w10, .ref w11, .ref w12, .ref w13, .int 0, .int 0, .int 0])), (w15, .inr (4, [.ref w16, .ref w17, .ref w18, .ref w19, .ref w20, .int 0, .int 0, .int 0])), (w18, .inl (d21, 1101, .inl (fun _ => 0))), (w26, .inr (6, [.ref w27, .ref w28, .int 0, .int 0, .int 0, .int 0])), (w27, .inl (d29, 1101, .inl (fun _ => 0))), (w28, .inl (d30, 1101, .inl (fun _ => 0)))]) (w1 := [(h0, .inr (9, [.ref w1, .ref w6, .int 0, .ref w8, .ref w15, .int 0, .int 0, .ref w22, .ref w26, .ref w31, .ref w35, .ref w40, .ref w48, .ref w50, .ref w52]))]) hP hD [0] [1, 2, 3, 4, 5, 6] rfl rfl (by decide) (by decide) hk1 hFc hP1 hD1
  have hK := hK.app hK1
  generalize H1 = H at hP hS ⊢
  have hP : va_P (dC, dI) vwCl [(w8, .inr (4, [.ref w9, .ref w10, .ref w11, .ref w12, .ref w13, .int 0, .int 0, .int 0])), (w15, .inr (4, [.ref w16, .ref w17, .ref w18, .ref w19, .ref w20, .int 0, .int 0, .int 0])), (w18, .inl (d21, 1101, .inl (fun _ => 0))), (w26, .inr (6, [.ref w27, .ref w28, .int 0, .int 0, .int 0, .int 0])), (w27, .inl (d29, 1101, .inl (fun _ => 0))), (w28, .inl (d30, 1101, .inl (fun _ => 0))), (h0, .inr (9, [.ref w1, .ref w6, .int 0, .ref w8, .ref w15, .int 0, .int 0, .ref w22, .ref w26, .ref w31, .ref w35, .ref w40, .ref w48, .ref w50, .ref w52]))] H := hP
  have hD : va_D A [(w8, .inr (4, [.ref w9, .ref w10, .ref w11, .ref w12, .ref w13, .int 0, .int 0, .int 0])), (w15, .inr (4, [.ref w16, .ref w17, .ref w18, .ref w19, .ref w20, .int 0, .int 0, .int 0])), (w18, .inl (d21, 1101, .inl (fun _ => 0))), (w26, .inr (6, [.ref w27, .ref w28, .int 0, .int 0, .int 0, .int 0])), (w27, .inl (d29, 1101, .inl (fun _ => 0))), (w28, .inl (d30, 1101, .inl (fun _ => 0))), (h0, .inr (9, [.ref w1, .ref w6, .int 0, .ref w8, .ref w15, .int 0, .int 0, .ref w22, .ref w26, .ref w31, .ref w35, .ref w40, .ref w48, .ref w50, .ref w52]))] := hD
  have hK : va_K (dC, dI) vwCl [(d21, .int), (d29, .int), (d30, .int), (d21, .int), (d29, .int), (d30, .int)] s := hK
  refine W.widen (k := 0) (n := 0) (by omega) (by omega) ?_
  obtain rfl : r2 = 0 := hw
  have hP9 := hP.sub (ws' := []) [] rfl
  have hD9 := hD.sub (ws' := []) [] (by decide) rfl
  have hK9 := hK.sub (tys' := []) [] rfl
  refine W.widen (k := 0) (n := 0) (by omega) (by omega) ?_
  exact W.iret (v := 0) hx hb hr (fun t ht hW => ⟨⟨0, (), rfl, rfl, by rw [ht]; exact hP9, va_K.moved hW.alike hK9, hD9⟩, hS.F ht⟩) hS.2.2 dX9_tidied_78
theorem c_tidied (l : Launch) (dC : Nat → ClassId) (dI : Nat → Nat → Nat) (sz : Nat) (h0 : Nat) (w1 : Nat) (w6 : Nat) (w8 : Nat) (w15 : Nat) (w22 : Nat) (w26 : Nat) (w31 : Nat) (w35 : Nat) (w40 : Nat) (w48 : Nat) (w50 : Nat) (w52 : Nat) (w9 : Nat) (w10 : Nat) (w11 : Nat) (w12 : Nat) (w13 : Nat) (w16 : Nat) (w17 : Nat) (w18 : Nat) (w19 : Nat) (w20 : Nat) (w27 : Nat) (w28 : Nat) (d21 : ClassId) (d29 : ClassId) (d30 : ClassId) (p1 : Int32) (hq : ¬ p1 < 0 ∧ ¬ (3 : Int32) < p1) : Met l yX9_tidied (Cond.code yX9_tidied cX9_tidied 3 (some .int) :: wsG) ({ frames := 6, cells := 0, slots := 0, locals := 139 } : Room) (va_Pc [.ref h0, .int p1] (fun U => U.heap.size = sz ∧ va_P (dC, dI) vwCl [(h0, .inr (9, [.ref w1, .ref w6, .int 0, .ref w8, .ref w15, .int 0, .int 0, .ref w22, .ref w26, .ref w31, .ref w35, .ref w40, .ref w48, .ref w50, .ref w52])), (w8, .inr (4, [.ref w9, .ref w10, .ref w11, .ref w12, .ref w13, .int 0, .int 0, .int 0])), (w15, .inr (4, [.ref w16, .ref w17, .ref w18, .ref w19, .ref w20, .int 0, .int 0, .int 0])), (w18, .inl (d21, 1101, .inl (fun _ => 0))), (w26, .inr (6, [.ref w27, .ref w28, .int 0, .int 0, .int 0, .int 0])), (w27, .inl (d29, 1101, .inl (fun _ => 0))), (w28, .inl (d30, 1101, .inl (fun _ => 0)))] U.heap ∧ va_K (dC, dI) vwCl [(d21, .int), (d29, .int), (d30, .int)] U ∧ va_D (fun _ => True) [(h0, .inr (9, [.ref w1, .ref w6, .int 0, .ref w8, .ref w15, .int 0, .int 0, .ref w22, .ref w26, .ref w31, .ref w35, .ref w40, .ref w48, .ref w50, .ref w52])), (w8, .inr (4, [.ref w9, .ref w10, .ref w11, .ref w12, .ref w13, .int 0, .int 0, .int 0])), (w15, .inr (4, [.ref w16, .ref w17, .ref w18, .ref w19, .ref w20, .int 0, .int 0, .int 0])), (w18, .inl (d21, 1101, .inl (fun _ => 0))), (w26, .inr (6, [.ref w27, .ref w28, .int 0, .int 0, .int 0, .int 0])), (w27, .inl (d29, 1101, .inl (fun _ => 0))), (w28, .inl (d30, 1101, .inl (fun _ => 0)))])) (va_Qi (fun (r : Int32) (_ : Unit) => r = 0) (fun (_ : Unit) (t : State) => va_P (dC, dI) vwCl [] t.heap ∧ va_K (dC, dI) vwCl [] t ∧ va_D (va_A [(h0, .inr (9, [.ref w1, .ref w6, .int 0, .ref w8, .ref w15, .int 0, .int 0, .ref w22, .ref w26, .ref w31, .ref w35, .ref w40, .ref w48, .ref w50, .ref w52])), (w8, .inr (4, [.ref w9, .ref w10, .ref w11, .ref w12, .ref w13, .int 0, .int 0, .int 0])), (w15, .inr (4, [.ref w16, .ref w17, .ref w18, .ref w19, .ref w20, .int 0, .int 0, .int 0])), (w18, .inl (d21, 1101, .inl (fun _ => 0))), (w26, .inr (6, [.ref w27, .ref w28, .int 0, .int 0, .int 0, .int 0])), (w27, .inl (d29, 1101, .inl (fun _ => 0))), (w28, .inl (d30, 1101, .inl (fun _ => 0)))] sz) []) (va_A [(h0, .inr (9, [.ref w1, .ref w6, .int 0, .ref w8, .ref w15, .int 0, .int 0, .ref w22, .ref w26, .ref w31, .ref w35, .ref w40, .ref w48, .ref w50, .ref w52])), (w8, .inr (4, [.ref w9, .ref w10, .ref w11, .ref w12, .ref w13, .int 0, .int 0, .int 0])), (w15, .inr (4, [.ref w16, .ref w17, .ref w18, .ref w19, .ref w20, .int 0, .int 0, .int 0])), (w18, .inl (d21, 1101, .inl (fun _ => 0))), (w26, .inr (6, [.ref w27, .ref w28, .int 0, .int 0, .int 0, .int 0])), (w27, .inl (d29, 1101, .inl (fun _ => 0))), (w28, .inl (d30, 1101, .inl (fun _ => 0)))] sz)) 0 0 (va_A [(h0, .inr (9, [.ref w1, .ref w6, .int 0, .ref w8, .ref w15, .int 0, .int 0, .ref w22, .ref w26, .ref w31, .ref w35, .ref w40, .ref w48, .ref w50, .ref w52])), (w8, .inr (4, [.ref w9, .ref w10, .ref w11, .ref w12, .ref w13, .int 0, .int 0, .int 0])), (w15, .inr (4, [.ref w16, .ref w17, .ref w18, .ref w19, .ref w20, .int 0, .int 0, .int 0])), (w18, .inl (d21, 1101, .inl (fun _ => 0))), (w26, .inr (6, [.ref w27, .ref w28, .int 0, .int 0, .int 0, .int 0])), (w27, .inl (d29, 1101, .inl (fun _ => 0))), (w28, .inl (d30, 1101, .inl (fun _ => 0)))] sz) := by
  rcases (show p1 = 0 ∨ p1 = 1 ∨ p1 = 2 ∨ p1 = 3 from x_cases4 hq) with rfl | rfl | rfl | rfl
  · exact c_tidied0 l dC dI sz h0 w1 w6 w8 w15 w22 w26 w31 w35 w40 w48 w50 w52 w9 w10 w11 w12 w13 w16 w17 w18 w19 w20 w27 w28 d21 d29 d30
  · exact c_tidied1 l dC dI sz h0 w1 w6 w8 w15 w22 w26 w31 w35 w40 w48 w50 w52 w9 w10 w11 w12 w13 w16 w17 w18 w19 w20 w27 w28 d21 d29 d30
  · exact c_tidied2 l dC dI sz h0 w1 w6 w8 w15 w22 w26 w31 w35 w40 w48 w50 w52 w9 w10 w11 w12 w13 w16 w17 w18 w19 w20 w27 w28 d21 d29 d30
  · exact c_tidied3 l dC dI sz h0 w1 w6 w8 w15 w22 w26 w31 w35 w40 w48 w50 w52 w9 w10 w11 w12 w13 w16 w17 w18 w19 w20 w27 w28 d21 d29 d30

set_option maxHeartbeats 4000000 in
set_option maxRecDepth 100000 in
theorem c_told0 (l : Launch) (dC : Nat → ClassId) (dI : Nat → Nat → Nat) (sz : Nat) (h0 : Nat) (w1 : Nat) (w6 : Nat) (w8 : Nat) (w15 : Nat) (w22 : Nat) (w26 : Nat) (w31 : Nat) (w35 : Nat) (w40 : Nat) (w48 : Nat) (w50 : Nat) (w52 : Nat) (w9 : Nat) (w10 : Nat) (w11 : Nat) (w12 : Nat) (w13 : Nat) (w23 : Nat) (w24 : Nat) (w25 : Nat) (w2 : Nat) (w3 : Nat) (w4 : Nat) (d14 : ClassId)  : Met l yX9_told (Cond.code yX9_told cX9_told 2 (some .int) :: wsG) ({ frames := 2, cells := 0, slots := 0, locals := 37 } : Room) (va_Pc [.ref h0, .int 0] (fun U => U.heap.size = sz ∧ va_P (dC, dI) vwCl [(h0, .inr (9, [.ref w1, .ref w6, .int 0, .ref w8, .ref w15, .int 0, .int 0, .ref w22, .ref w26, .ref w31, .ref w35, .ref w40, .ref w48, .ref w50, .ref w52])), (w8, .inr (4, [.ref w9, .ref w10, .ref w11, .ref w12, .ref w13, .int 0, .int 0, .int 0])), (w11, .inl (d14, 1101, .inl (fun _ => 0))), (w22, .inr (3, [.ref w23, .ref w24, .ref w25, .int 0, .int 0])), (w1, .inr (5, [.ref w2, .int 0, .ref w3, .int 0, .ref w4, .int 0, .int (-1), .int 0]))] U.heap ∧ va_K (dC, dI) vwCl [(d14, .int)] U ∧ va_D (fun _ => True) [(h0, .inr (9, [.ref w1, .ref w6, .int 0, .ref w8, .ref w15, .int 0, .int 0, .ref w22, .ref w26, .ref w31, .ref w35, .ref w40, .ref w48, .ref w50, .ref w52])), (w8, .inr (4, [.ref w9, .ref w10, .ref w11, .ref w12, .ref w13, .int 0, .int 0, .int 0])), (w11, .inl (d14, 1101, .inl (fun _ => 0))), (w22, .inr (3, [.ref w23, .ref w24, .ref w25, .int 0, .int 0])), (w1, .inr (5, [.ref w2, .int 0, .ref w3, .int 0, .ref w4, .int 0, .int (-1), .int 0]))])) (va_Qi (fun (r : Int32) (_ : Unit) => r = 0) (fun (_ : Unit) (t : State) => va_P (dC, dI) vwCl [] t.heap ∧ va_K (dC, dI) vwCl [] t ∧ va_D (va_A [(h0, .inr (9, [.ref w1, .ref w6, .int 0, .ref w8, .ref w15, .int 0, .int 0, .ref w22, .ref w26, .ref w31, .ref w35, .ref w40, .ref w48, .ref w50, .ref w52])), (w8, .inr (4, [.ref w9, .ref w10, .ref w11, .ref w12, .ref w13, .int 0, .int 0, .int 0])), (w11, .inl (d14, 1101, .inl (fun _ => 0))), (w22, .inr (3, [.ref w23, .ref w24, .ref w25, .int 0, .int 0])), (w1, .inr (5, [.ref w2, .int 0, .ref w3, .int 0, .ref w4, .int 0, .int (-1), .int 0]))] sz) []) (va_A [(h0, .inr (9, [.ref w1, .ref w6, .int 0, .ref w8, .ref w15, .int 0, .int 0, .ref w22, .ref w26, .ref w31, .ref w35, .ref w40, .ref w48, .ref w50, .ref w52])), (w8, .inr (4, [.ref w9, .ref w10, .ref w11, .ref w12, .ref w13, .int 0, .int 0, .int 0])), (w11, .inl (d14, 1101, .inl (fun _ => 0))), (w22, .inr (3, [.ref w23, .ref w24, .ref w25, .int 0, .int 0])), (w1, .inr (5, [.ref w2, .int 0, .ref w3, .int 0, .ref w4, .int 0, .int (-1), .int 0]))] sz)) 0 0 (va_A [(h0, .inr (9, [.ref w1, .ref w6, .int 0, .ref w8, .ref w15, .int 0, .int 0, .ref w22, .ref w26, .ref w31, .ref w35, .ref w40, .ref w48, .ref w50, .ref w52])), (w8, .inr (4, [.ref w9, .ref w10, .ref w11, .ref w12, .ref w13, .int 0, .int 0, .int 0])), (w11, .inl (d14, 1101, .inl (fun _ => 0))), (w22, .inr (3, [.ref w23, .ref w24, .ref w25, .int 0, .int 0])), (w1, .inr (5, [.ref w2, .int 0, .ref w3, .int 0, .ref w4, .int 0, .int (-1), .int 0]))] sz) := by
  refine Met.ofW (cc := cX9_told) (maxL := 2) (ret := (some .int)) (by decide) rfl ?_
  intro p e s m args below meth c s₁ B hml hv
  obtain ⟨rfl, hsz, hP, hK, hD0⟩ := hv
  have hx := B.exec
  have hb := B.bytes
  have hr := B.returns
  have hts : ∀ w ∈ wsG, w.before _ s = true := hG_of (atoms_spec (ws := (Cond.code yX9_told cX9_told 2 (some .int) :: wsG)) B.pre)
  have hown : s.vm.findClass RX9 = some m.cls := findClass_of_methodNamed B.named
  have hlocks := B.notSynchronized
  subst hsz
  have hD := hD0.self (sz := s.heap.size)
  generalize hAe : va_A [(h0, .inr (9, [.ref w1, .ref w6, .int 0, .ref w8, .ref w15, .int 0, .int 0, .ref w22, .ref w26, .ref w31, .ref w35, .ref w40, .ref w48, .ref w50, .ref w52])), (w8, .inr (4, [.ref w9, .ref w10, .ref w11, .ref w12, .ref w13, .int 0, .int 0, .int 0])), (w11, .inl (d14, 1101, .inl (fun _ => 0))), (w22, .inr (3, [.ref w23, .ref w24, .ref w25, .int 0, .int 0])), (w1, .inr (5, [.ref w2, .int 0, .ref w3, .int 0, .ref w4, .int 0, .int (-1), .int 0]))] s.heap.size = A at hD ⊢
  have hA : ∀ q : Nat, s.heap.size ≤ q → A q := fun q h => by rw [← hAe]; exact Or.inr h
  have hS : va_S A s.heap s.heap [] := va_S.rf
  have hl := lv_entry ([.ref h0, .int 0]) (n := 2) (Nat.le_of_ble_eq_true rfl)
  rw [lg_entry_eq]
  generalize (lg_sl ([.ref h0, .int 0]) ++ List.replicate (2 - (lg_sl ([.ref h0, .int 0])).length) Slot.unset).toArray = ls at hl ⊢
  have hl : lv_has ls 2 [(0, .ref h0), (1, .int 0)] := hl
  refine lv_iload_n hx hb dX9_told_0 rfl (lv_at hl 1 rfl) ?_
  refine lv_tableIn (tgt := 56) (off := 55) hx hb dX9_told_1 (by decide +kernel) (by decide +kernel) (by decide +kernel) (by decide) ?_
  refine lv_aload_n hx hb dX9_told_56 rfl (lv_at hl 0 rfl) ?_
  refine va_get (D := (dC, dI)) (ci := 9) (v := .int 0) (C := RX9) (T := TX9) (N := 15) hx hb hts inG9 hown hK hP 0 rfl rfl 2 (by decide) (hts _ k334) (fun _ h9 => h9) rfl dX9_told_57 ?_
  have hP9 := hP.sub (ws' := []) [] rfl
  have hD9 := hD.sub (ws' := []) [] (by decide) rfl
  have hK9 := hK.sub (tys' := []) [] rfl
  refine W.widen (k := 0) (n := 0) (by omega) (by omega) ?_
  exact W.iret (v := 0) hx hb hr (fun t ht hW => ⟨⟨0, (), rfl, rfl, by rw [ht]; exact hP9, va_K.moved hW.alike hK9, hD9⟩, hS.F ht⟩) hS.2.2 dX9_told_60
set_option maxHeartbeats 4000000 in
set_option maxRecDepth 100000 in
theorem c_told1 (l : Launch) (dC : Nat → ClassId) (dI : Nat → Nat → Nat) (sz : Nat) (h0 : Nat) (w1 : Nat) (w6 : Nat) (w8 : Nat) (w15 : Nat) (w22 : Nat) (w26 : Nat) (w31 : Nat) (w35 : Nat) (w40 : Nat) (w48 : Nat) (w50 : Nat) (w52 : Nat) (w9 : Nat) (w10 : Nat) (w11 : Nat) (w12 : Nat) (w13 : Nat) (w23 : Nat) (w24 : Nat) (w25 : Nat) (w2 : Nat) (w3 : Nat) (w4 : Nat) (d14 : ClassId)  : Met l yX9_told (Cond.code yX9_told cX9_told 2 (some .int) :: wsG) ({ frames := 2, cells := 0, slots := 0, locals := 37 } : Room) (va_Pc [.ref h0, .int 1] (fun U => U.heap.size = sz ∧ va_P (dC, dI) vwCl [(h0, .inr (9, [.ref w1, .ref w6, .int 0, .ref w8, .ref w15, .int 0, .int 0, .ref w22, .ref w26, .ref w31, .ref w35, .ref w40, .ref w48, .ref w50, .ref w52])), (w8, .inr (4, [.ref w9, .ref w10, .ref w11, .ref w12, .ref w13, .int 0, .int 0, .int 0])), (w11, .inl (d14, 1101, .inl (fun _ => 0))), (w22, .inr (3, [.ref w23, .ref w24, .ref w25, .int 0, .int 0])), (w1, .inr (5, [.ref w2, .int 0, .ref w3, .int 0, .ref w4, .int 0, .int (-1), .int 0]))] U.heap ∧ va_K (dC, dI) vwCl [(d14, .int)] U ∧ va_D (fun _ => True) [(h0, .inr (9, [.ref w1, .ref w6, .int 0, .ref w8, .ref w15, .int 0, .int 0, .ref w22, .ref w26, .ref w31, .ref w35, .ref w40, .ref w48, .ref w50, .ref w52])), (w8, .inr (4, [.ref w9, .ref w10, .ref w11, .ref w12, .ref w13, .int 0, .int 0, .int 0])), (w11, .inl (d14, 1101, .inl (fun _ => 0))), (w22, .inr (3, [.ref w23, .ref w24, .ref w25, .int 0, .int 0])), (w1, .inr (5, [.ref w2, .int 0, .ref w3, .int 0, .ref w4, .int 0, .int (-1), .int 0]))])) (va_Qi (fun (r : Int32) (_ : Unit) => r = 0) (fun (_ : Unit) (t : State) => va_P (dC, dI) vwCl [] t.heap ∧ va_K (dC, dI) vwCl [] t ∧ va_D (va_A [(h0, .inr (9, [.ref w1, .ref w6, .int 0, .ref w8, .ref w15, .int 0, .int 0, .ref w22, .ref w26, .ref w31, .ref w35, .ref w40, .ref w48, .ref w50, .ref w52])), (w8, .inr (4, [.ref w9, .ref w10, .ref w11, .ref w12, .ref w13, .int 0, .int 0, .int 0])), (w11, .inl (d14, 1101, .inl (fun _ => 0))), (w22, .inr (3, [.ref w23, .ref w24, .ref w25, .int 0, .int 0])), (w1, .inr (5, [.ref w2, .int 0, .ref w3, .int 0, .ref w4, .int 0, .int (-1), .int 0]))] sz) []) (va_A [(h0, .inr (9, [.ref w1, .ref w6, .int 0, .ref w8, .ref w15, .int 0, .int 0, .ref w22, .ref w26, .ref w31, .ref w35, .ref w40, .ref w48, .ref w50, .ref w52])), (w8, .inr (4, [.ref w9, .ref w10, .ref w11, .ref w12, .ref w13, .int 0, .int 0, .int 0])), (w11, .inl (d14, 1101, .inl (fun _ => 0))), (w22, .inr (3, [.ref w23, .ref w24, .ref w25, .int 0, .int 0])), (w1, .inr (5, [.ref w2, .int 0, .ref w3, .int 0, .ref w4, .int 0, .int (-1), .int 0]))] sz)) 0 0 (va_A [(h0, .inr (9, [.ref w1, .ref w6, .int 0, .ref w8, .ref w15, .int 0, .int 0, .ref w22, .ref w26, .ref w31, .ref w35, .ref w40, .ref w48, .ref w50, .ref w52])), (w8, .inr (4, [.ref w9, .ref w10, .ref w11, .ref w12, .ref w13, .int 0, .int 0, .int 0])), (w11, .inl (d14, 1101, .inl (fun _ => 0))), (w22, .inr (3, [.ref w23, .ref w24, .ref w25, .int 0, .int 0])), (w1, .inr (5, [.ref w2, .int 0, .ref w3, .int 0, .ref w4, .int 0, .int (-1), .int 0]))] sz) := by
  refine Met.ofW (cc := cX9_told) (maxL := 2) (ret := (some .int)) (by decide) rfl ?_
  intro p e s m args below meth c s₁ B hml hv
  obtain ⟨rfl, hsz, hP, hK, hD0⟩ := hv
  have hx := B.exec
  have hb := B.bytes
  have hr := B.returns
  have hts : ∀ w ∈ wsG, w.before _ s = true := hG_of (atoms_spec (ws := (Cond.code yX9_told cX9_told 2 (some .int) :: wsG)) B.pre)
  have hown : s.vm.findClass RX9 = some m.cls := findClass_of_methodNamed B.named
  have hlocks := B.notSynchronized
  subst hsz
  have hD := hD0.self (sz := s.heap.size)
  generalize hAe : va_A [(h0, .inr (9, [.ref w1, .ref w6, .int 0, .ref w8, .ref w15, .int 0, .int 0, .ref w22, .ref w26, .ref w31, .ref w35, .ref w40, .ref w48, .ref w50, .ref w52])), (w8, .inr (4, [.ref w9, .ref w10, .ref w11, .ref w12, .ref w13, .int 0, .int 0, .int 0])), (w11, .inl (d14, 1101, .inl (fun _ => 0))), (w22, .inr (3, [.ref w23, .ref w24, .ref w25, .int 0, .int 0])), (w1, .inr (5, [.ref w2, .int 0, .ref w3, .int 0, .ref w4, .int 0, .int (-1), .int 0]))] s.heap.size = A at hD ⊢
  have hA : ∀ q : Nat, s.heap.size ≤ q → A q := fun q h => by rw [← hAe]; exact Or.inr h
  have hS : va_S A s.heap s.heap [] := va_S.rf
  have hl := lv_entry ([.ref h0, .int 1]) (n := 2) (Nat.le_of_ble_eq_true rfl)
  rw [lg_entry_eq]
  generalize (lg_sl ([.ref h0, .int 1]) ++ List.replicate (2 - (lg_sl ([.ref h0, .int 1])).length) Slot.unset).toArray = ls at hl ⊢
  have hl : lv_has ls 2 [(0, .ref h0), (1, .int 1)] := hl
  refine lv_iload_n hx hb dX9_told_0 rfl (lv_at hl 1 rfl) ?_
  refine lv_tableIn (tgt := 61) (off := 60) hx hb dX9_told_1 (by decide +kernel) (by decide +kernel) (by decide +kernel) (by decide) ?_
  refine lv_aload_n hx hb dX9_told_61 rfl (lv_at hl 0 rfl) ?_
  refine va_get (D := (dC, dI)) (ci := 9) (v := .ref w1) (C := RX9) (T := TX9) (N := 15) hx hb hts inG9 hown hK hP 0 rfl rfl 0 (by decide) (hts _ k332) (fun _ h9 => h9) rfl dX9_told_62 ?_
  refine va_get (D := (dC, dI)) (ci := 5) (v := .int 0) (C := RX5) (T := TX5) (N := 8) hx hb hts inG5 hown hK hP 4 rfl rfl 3 (by decide) (hts _ k40) (fun _ h9 => h9) rfl dX9_told_65 ?_
  have hP9 := hP.sub (ws' := []) [] rfl
  have hD9 := hD.sub (ws' := []) [] (by decide) rfl
  have hK9 := hK.sub (tys' := []) [] rfl
  refine W.widen (k := 0) (n := 0) (by omega) (by omega) ?_
  exact W.iret (v := 0) hx hb hr (fun t ht hW => ⟨⟨0, (), rfl, rfl, by rw [ht]; exact hP9, va_K.moved hW.alike hK9, hD9⟩, hS.F ht⟩) hS.2.2 dX9_told_68
set_option maxHeartbeats 4000000 in
set_option maxRecDepth 100000 in
theorem c_told2 (l : Launch) (dC : Nat → ClassId) (dI : Nat → Nat → Nat) (sz : Nat) (h0 : Nat) (w1 : Nat) (w6 : Nat) (w8 : Nat) (w15 : Nat) (w22 : Nat) (w26 : Nat) (w31 : Nat) (w35 : Nat) (w40 : Nat) (w48 : Nat) (w50 : Nat) (w52 : Nat) (w9 : Nat) (w10 : Nat) (w11 : Nat) (w12 : Nat) (w13 : Nat) (w23 : Nat) (w24 : Nat) (w25 : Nat) (w2 : Nat) (w3 : Nat) (w4 : Nat) (d14 : ClassId)  : Met l yX9_told (Cond.code yX9_told cX9_told 2 (some .int) :: wsG) ({ frames := 2, cells := 0, slots := 0, locals := 37 } : Room) (va_Pc [.ref h0, .int 2] (fun U => U.heap.size = sz ∧ va_P (dC, dI) vwCl [(h0, .inr (9, [.ref w1, .ref w6, .int 0, .ref w8, .ref w15, .int 0, .int 0, .ref w22, .ref w26, .ref w31, .ref w35, .ref w40, .ref w48, .ref w50, .ref w52])), (w8, .inr (4, [.ref w9, .ref w10, .ref w11, .ref w12, .ref w13, .int 0, .int 0, .int 0])), (w11, .inl (d14, 1101, .inl (fun _ => 0))), (w22, .inr (3, [.ref w23, .ref w24, .ref w25, .int 0, .int 0])), (w1, .inr (5, [.ref w2, .int 0, .ref w3, .int 0, .ref w4, .int 0, .int (-1), .int 0]))] U.heap ∧ va_K (dC, dI) vwCl [(d14, .int)] U ∧ va_D (fun _ => True) [(h0, .inr (9, [.ref w1, .ref w6, .int 0, .ref w8, .ref w15, .int 0, .int 0, .ref w22, .ref w26, .ref w31, .ref w35, .ref w40, .ref w48, .ref w50, .ref w52])), (w8, .inr (4, [.ref w9, .ref w10, .ref w11, .ref w12, .ref w13, .int 0, .int 0, .int 0])), (w11, .inl (d14, 1101, .inl (fun _ => 0))), (w22, .inr (3, [.ref w23, .ref w24, .ref w25, .int 0, .int 0])), (w1, .inr (5, [.ref w2, .int 0, .ref w3, .int 0, .ref w4, .int 0, .int (-1), .int 0]))])) (va_Qi (fun (r : Int32) (_ : Unit) => r = 0) (fun (_ : Unit) (t : State) => va_P (dC, dI) vwCl [] t.heap ∧ va_K (dC, dI) vwCl [] t ∧ va_D (va_A [(h0, .inr (9, [.ref w1, .ref w6, .int 0, .ref w8, .ref w15, .int 0, .int 0, .ref w22, .ref w26, .ref w31, .ref w35, .ref w40, .ref w48, .ref w50, .ref w52])), (w8, .inr (4, [.ref w9, .ref w10, .ref w11, .ref w12, .ref w13, .int 0, .int 0, .int 0])), (w11, .inl (d14, 1101, .inl (fun _ => 0))), (w22, .inr (3, [.ref w23, .ref w24, .ref w25, .int 0, .int 0])), (w1, .inr (5, [.ref w2, .int 0, .ref w3, .int 0, .ref w4, .int 0, .int (-1), .int 0]))] sz) []) (va_A [(h0, .inr (9, [.ref w1, .ref w6, .int 0, .ref w8, .ref w15, .int 0, .int 0, .ref w22, .ref w26, .ref w31, .ref w35, .ref w40, .ref w48, .ref w50, .ref w52])), (w8, .inr (4, [.ref w9, .ref w10, .ref w11, .ref w12, .ref w13, .int 0, .int 0, .int 0])), (w11, .inl (d14, 1101, .inl (fun _ => 0))), (w22, .inr (3, [.ref w23, .ref w24, .ref w25, .int 0, .int 0])), (w1, .inr (5, [.ref w2, .int 0, .ref w3, .int 0, .ref w4, .int 0, .int (-1), .int 0]))] sz)) 0 0 (va_A [(h0, .inr (9, [.ref w1, .ref w6, .int 0, .ref w8, .ref w15, .int 0, .int 0, .ref w22, .ref w26, .ref w31, .ref w35, .ref w40, .ref w48, .ref w50, .ref w52])), (w8, .inr (4, [.ref w9, .ref w10, .ref w11, .ref w12, .ref w13, .int 0, .int 0, .int 0])), (w11, .inl (d14, 1101, .inl (fun _ => 0))), (w22, .inr (3, [.ref w23, .ref w24, .ref w25, .int 0, .int 0])), (w1, .inr (5, [.ref w2, .int 0, .ref w3, .int 0, .ref w4, .int 0, .int (-1), .int 0]))] sz) := by
  refine Met.ofW (cc := cX9_told) (maxL := 2) (ret := (some .int)) (by decide) rfl ?_
  intro p e s m args below meth c s₁ B hml hv
  obtain ⟨rfl, hsz, hP, hK, hD0⟩ := hv
  have hx := B.exec
  have hb := B.bytes
  have hr := B.returns
  have hts : ∀ w ∈ wsG, w.before _ s = true := hG_of (atoms_spec (ws := (Cond.code yX9_told cX9_told 2 (some .int) :: wsG)) B.pre)
  have hown : s.vm.findClass RX9 = some m.cls := findClass_of_methodNamed B.named
  have hlocks := B.notSynchronized
  subst hsz
  have hD := hD0.self (sz := s.heap.size)
  generalize hAe : va_A [(h0, .inr (9, [.ref w1, .ref w6, .int 0, .ref w8, .ref w15, .int 0, .int 0, .ref w22, .ref w26, .ref w31, .ref w35, .ref w40, .ref w48, .ref w50, .ref w52])), (w8, .inr (4, [.ref w9, .ref w10, .ref w11, .ref w12, .ref w13, .int 0, .int 0, .int 0])), (w11, .inl (d14, 1101, .inl (fun _ => 0))), (w22, .inr (3, [.ref w23, .ref w24, .ref w25, .int 0, .int 0])), (w1, .inr (5, [.ref w2, .int 0, .ref w3, .int 0, .ref w4, .int 0, .int (-1), .int 0]))] s.heap.size = A at hD ⊢
  have hA : ∀ q : Nat, s.heap.size ≤ q → A q := fun q h => by rw [← hAe]; exact Or.inr h
  have hS : va_S A s.heap s.heap [] := va_S.rf
  have hl := lv_entry ([.ref h0, .int 2]) (n := 2) (Nat.le_of_ble_eq_true rfl)
  rw [lg_entry_eq]
  generalize (lg_sl ([.ref h0, .int 2]) ++ List.replicate (2 - (lg_sl ([.ref h0, .int 2])).length) Slot.unset).toArray = ls at hl ⊢
  have hl : lv_has ls 2 [(0, .ref h0), (1, .int 2)] := hl
  refine lv_iload_n hx hb dX9_told_0 rfl (lv_at hl 1 rfl) ?_
  refine lv_tableIn (tgt := 69) (off := 68) hx hb dX9_told_1 (by decide +kernel) (by decide +kernel) (by decide +kernel) (by decide) ?_
  refine lv_aload_n hx hb dX9_told_69 rfl (lv_at hl 0 rfl) ?_
  refine va_get (D := (dC, dI)) (ci := 9) (v := .ref w8) (C := RX9) (T := TX9) (N := 15) hx hb hts inG9 hown hK hP 0 rfl rfl 3 (by decide) (hts _ k335) (fun _ h9 => h9) rfl dX9_told_70 ?_
  refine va_get (D := (dC, dI)) (ci := 4) (v := .int 0) (C := RX4) (T := TX4) (N := 8) hx hb hts inG4 hown hK hP 1 rfl rfl 6 (by decide) (hts _ k101) (fun _ h9 => h9) rfl dX9_told_73 ?_
  have hP9 := hP.sub (ws' := []) [] rfl
  have hD9 := hD.sub (ws' := []) [] (by decide) rfl
  have hK9 := hK.sub (tys' := []) [] rfl
  refine W.widen (k := 0) (n := 0) (by omega) (by omega) ?_
  exact W.iret (v := 0) hx hb hr (fun t ht hW => ⟨⟨0, (), rfl, rfl, by rw [ht]; exact hP9, va_K.moved hW.alike hK9, hD9⟩, hS.F ht⟩) hS.2.2 dX9_told_76
set_option maxHeartbeats 4000000 in
set_option maxRecDepth 100000 in
theorem c_told3 (l : Launch) (dC : Nat → ClassId) (dI : Nat → Nat → Nat) (sz : Nat) (h0 : Nat) (w1 : Nat) (w6 : Nat) (w8 : Nat) (w15 : Nat) (w22 : Nat) (w26 : Nat) (w31 : Nat) (w35 : Nat) (w40 : Nat) (w48 : Nat) (w50 : Nat) (w52 : Nat) (w9 : Nat) (w10 : Nat) (w11 : Nat) (w12 : Nat) (w13 : Nat) (w23 : Nat) (w24 : Nat) (w25 : Nat) (w2 : Nat) (w3 : Nat) (w4 : Nat) (d14 : ClassId)  : Met l yX9_told (Cond.code yX9_told cX9_told 2 (some .int) :: wsG) ({ frames := 2, cells := 0, slots := 0, locals := 37 } : Room) (va_Pc [.ref h0, .int 3] (fun U => U.heap.size = sz ∧ va_P (dC, dI) vwCl [(h0, .inr (9, [.ref w1, .ref w6, .int 0, .ref w8, .ref w15, .int 0, .int 0, .ref w22, .ref w26, .ref w31, .ref w35, .ref w40, .ref w48, .ref w50, .ref w52])), (w8, .inr (4, [.ref w9, .ref w10, .ref w11, .ref w12, .ref w13, .int 0, .int 0, .int 0])), (w11, .inl (d14, 1101, .inl (fun _ => 0))), (w22, .inr (3, [.ref w23, .ref w24, .ref w25, .int 0, .int 0])), (w1, .inr (5, [.ref w2, .int 0, .ref w3, .int 0, .ref w4, .int 0, .int (-1), .int 0]))] U.heap ∧ va_K (dC, dI) vwCl [(d14, .int)] U ∧ va_D (fun _ => True) [(h0, .inr (9, [.ref w1, .ref w6, .int 0, .ref w8, .ref w15, .int 0, .int 0, .ref w22, .ref w26, .ref w31, .ref w35, .ref w40, .ref w48, .ref w50, .ref w52])), (w8, .inr (4, [.ref w9, .ref w10, .ref w11, .ref w12, .ref w13, .int 0, .int 0, .int 0])), (w11, .inl (d14, 1101, .inl (fun _ => 0))), (w22, .inr (3, [.ref w23, .ref w24, .ref w25, .int 0, .int 0])), (w1, .inr (5, [.ref w2, .int 0, .ref w3, .int 0, .ref w4, .int 0, .int (-1), .int 0]))])) (va_Qi (fun (r : Int32) (_ : Unit) => r = 0) (fun (_ : Unit) (t : State) => va_P (dC, dI) vwCl [] t.heap ∧ va_K (dC, dI) vwCl [] t ∧ va_D (va_A [(h0, .inr (9, [.ref w1, .ref w6, .int 0, .ref w8, .ref w15, .int 0, .int 0, .ref w22, .ref w26, .ref w31, .ref w35, .ref w40, .ref w48, .ref w50, .ref w52])), (w8, .inr (4, [.ref w9, .ref w10, .ref w11, .ref w12, .ref w13, .int 0, .int 0, .int 0])), (w11, .inl (d14, 1101, .inl (fun _ => 0))), (w22, .inr (3, [.ref w23, .ref w24, .ref w25, .int 0, .int 0])), (w1, .inr (5, [.ref w2, .int 0, .ref w3, .int 0, .ref w4, .int 0, .int (-1), .int 0]))] sz) []) (va_A [(h0, .inr (9, [.ref w1, .ref w6, .int 0, .ref w8, .ref w15, .int 0, .int 0, .ref w22, .ref w26, .ref w31, .ref w35, .ref w40, .ref w48, .ref w50, .ref w52])), (w8, .inr (4, [.ref w9, .ref w10, .ref w11, .ref w12, .ref w13, .int 0, .int 0, .int 0])), (w11, .inl (d14, 1101, .inl (fun _ => 0))), (w22, .inr (3, [.ref w23, .ref w24, .ref w25, .int 0, .int 0])), (w1, .inr (5, [.ref w2, .int 0, .ref w3, .int 0, .ref w4, .int 0, .int (-1), .int 0]))] sz)) 0 0 (va_A [(h0, .inr (9, [.ref w1, .ref w6, .int 0, .ref w8, .ref w15, .int 0, .int 0, .ref w22, .ref w26, .ref w31, .ref w35, .ref w40, .ref w48, .ref w50, .ref w52])), (w8, .inr (4, [.ref w9, .ref w10, .ref w11, .ref w12, .ref w13, .int 0, .int 0, .int 0])), (w11, .inl (d14, 1101, .inl (fun _ => 0))), (w22, .inr (3, [.ref w23, .ref w24, .ref w25, .int 0, .int 0])), (w1, .inr (5, [.ref w2, .int 0, .ref w3, .int 0, .ref w4, .int 0, .int (-1), .int 0]))] sz) := by
  refine Met.ofW (cc := cX9_told) (maxL := 2) (ret := (some .int)) (by decide) rfl ?_
  intro p e s m args below meth c s₁ B hml hv
  obtain ⟨rfl, hsz, hP, hK, hD0⟩ := hv
  have hx := B.exec
  have hb := B.bytes
  have hr := B.returns
  have hts : ∀ w ∈ wsG, w.before _ s = true := hG_of (atoms_spec (ws := (Cond.code yX9_told cX9_told 2 (some .int) :: wsG)) B.pre)
  have hown : s.vm.findClass RX9 = some m.cls := findClass_of_methodNamed B.named
  have hlocks := B.notSynchronized
  subst hsz
  have hD := hD0.self (sz := s.heap.size)
  generalize hAe : va_A [(h0, .inr (9, [.ref w1, .ref w6, .int 0, .ref w8, .ref w15, .int 0, .int 0, .ref w22, .ref w26, .ref w31, .ref w35, .ref w40, .ref w48, .ref w50, .ref w52])), (w8, .inr (4, [.ref w9, .ref w10, .ref w11, .ref w12, .ref w13, .int 0, .int 0, .int 0])), (w11, .inl (d14, 1101, .inl (fun _ => 0))), (w22, .inr (3, [.ref w23, .ref w24, .ref w25, .int 0, .int 0])), (w1, .inr (5, [.ref w2, .int 0, .ref w3, .int 0, .ref w4, .int 0, .int (-1), .int 0]))] s.heap.size = A at hD ⊢
  have hA : ∀ q : Nat, s.heap.size ≤ q → A q := fun q h => by rw [← hAe]; exact Or.inr h
  have hS : va_S A s.heap s.heap [] := va_S.rf
  have hl := lv_entry ([.ref h0, .int 3]) (n := 2) (Nat.le_of_ble_eq_true rfl)
  rw [lg_entry_eq]
  generalize (lg_sl ([.ref h0, .int 3]) ++ List.replicate (2 - (lg_sl ([.ref h0, .int 3])).length) Slot.unset).toArray = ls at hl ⊢
  have hl : lv_has ls 2 [(0, .ref h0), (1, .int 3)] := hl
  refine lv_iload_n hx hb dX9_told_0 rfl (lv_at hl 1 rfl) ?_
  refine lv_tableIn (tgt := 77) (off := 76) hx hb dX9_told_1 (by decide +kernel) (by decide +kernel) (by decide +kernel) (by decide) ?_
  refine lv_aload_n hx hb dX9_told_77 rfl (lv_at hl 0 rfl) ?_
  refine va_get (D := (dC, dI)) (ci := 9) (v := .ref w8) (C := RX9) (T := TX9) (N := 15) hx hb hts inG9 hown hK hP 0 rfl rfl 3 (by decide) (hts _ k335) (fun _ h9 => h9) rfl dX9_told_78 ?_
  have hPc := hP.sub (ws' := [(w8, .inr (4, [.ref w9, .ref w10, .ref w11, .ref w12, .ref w13, .int 0, .int 0, .int 0])), (w11, .inl (d14, 1101, .inl (fun _ => 0)))]) [1, 2] rfl
  have hDc := hD.sub (ws' := [(w8, .inr (4, [.ref w9, .ref w10, .ref w11, .ref w12, .ref w13, .int 0, .int 0, .int 0])), (w11, .inl (d14, 1101, .inl (fun _ => 0)))]) [1, 2] (by decide) rfl
  have hKc := hK.sub (tys' := [(d14, .int)]) [0] rfl
  have hFc := va_free (wc := [(w8, .inr (4, [.ref w9, .ref w10, .ref w11, .ref w12, .ref w13, .int 0, .int 0, .int 0])), (w11, .inl (d14, 1101, .inl (fun _ => 0)))]) hD hS hA [1, 2] rfl
  refine va_calli (va_runV (As := []) (rest := []) ⟨hx, hb, hml, hown, hts⟩ (c_size l dC dI s.heap.size (w8) (w9) (w10) (w11) (w12) (w13) (d14)) (cwV 0 hts (gV_G k513 k514 k515 k3 k516) rfl rfl rfl (by decide +kernel) ⟨Nat.le_of_ble_eq_true rfl, Nat.le_of_ble_eq_true rfl⟩) ⟨fun a U g mk q => by obtain ⟨q0, q1, qP, qK, qD⟩ := q; exact ⟨q0, q1, qP, va_K.moved (u := U) (U := U.calling g mk a) (Vm.Alike.refl U.vm) qK, qD⟩, va_recv hKc hPc (ci := 4) (q0 := 0) rfl rfl, fun U hU hW => ⟨rfl, by rw [hU], by rw [hU]; exact hPc, va_K.moved hW.alike hKc, hDc.weaken (fun _ _ _ _ => trivial)⟩⟩ rfl rfl hl.1 rfl (lv_room (Nat.le_of_ble_eq_true rfl)) dX9_told_81 ⟨Nat.le_of_ble_eq_true rfl, Nat.le_of_ble_eq_true rfl⟩) hS (fun q _ h => hFc q h) hFc (fun r1 u t H1 locs ht hvm hw hB hz1 hk1 hS => ?_)
  obtain ⟨hP1, hK1, hD1⟩ := hB
  rw [ht] at hP1
  have hK1 := va_K.moved hvm.symm hK1
  try dsimp only at hw
  obtain ⟨hP, hD⟩ := va_join (wr := [(h0, .inr (9, [.ref w1, .ref w6, .int 0, .ref w8, .ref w15, .int 0, .int 0, .ref w22, .ref w26, .ref w31, .ref w35, .ref w40, .ref w48, .ref w50, .ref w52])), (w22, .inr (3, [.ref w23, .ref w24, .ref w25, .int 0, .int 0])), (w1, .inr (5, [.ref w2, .int 0, .ref w3, .int 0, .ref w4, .int 0, .int (-1), .int 0]))]) (w1 := [(w8, .inr (4, [.ref w9, .ref w10, .ref w11, .ref w12, .ref w13, .int 0, .int 0, .int 0])), (w11, .inl (d14, 1101, .inl (fun _ => 0)))]) hP hD [1, 2] [0, 3, 4] rfl rfl (by decide) (by decide) hk1 hFc hP1 hD1
  have hK := hK.app hK1
  generalize H1 = H at hP hS ⊢
  have hP : va_P (dC, dI) vwCl [(h0, .inr (9, [.ref w1, .ref w6, .int 0, .ref w8, .ref w15, .int 0, .int 0, .ref w22, .ref w26, .ref w31, .ref w35, .ref w40, .ref w48, .ref w50, .ref w52])), (w22, .inr (3, [.ref w23, .ref w24, .ref w25, .int 0, .int 0])), (w1, .inr (5, [.ref w2, .int 0, .ref w3, .int 0, .ref w4, .int 0, .int (-1), .int 0])), (w8, .inr (4, [.ref w9, .ref w10, .ref w11, .ref w12, .ref w13, .int 0, .int 0, .int 0])), (w11, .inl (d14, 1101, .inl (fun _ => 0)))] H := hP
  have hD : va_D A [(h0, .inr (9, [.ref w1, .ref w6, .int 0, .ref w8, .ref w15, .int 0, .int 0, .ref w22, .ref w26, .ref w31, .ref w35, .ref w40, .ref w48, .ref w50, .ref w52])), (w22, .inr (3, [.ref w23, .ref w24, .ref w25, .int 0, .int 0])), (w1, .inr (5, [.ref w2, .int 0, .ref w3, .int 0, .ref w4, .int 0, .int (-1), .int 0])), (w8, .inr (4, [.ref w9, .ref w10, .ref w11, .ref w12, .ref w13, .int 0, .int 0, .int 0])), (w11, .inl (d14, 1101, .inl (fun _ => 0)))] := hD
  have hK : va_K (dC, dI) vwCl [(d14, .int), (d14, .int)] s := hK
  refine W.widen (k := 0) (n := 0) (by omega) (by omega) ?_
  obtain rfl : r1 = 0 := hw
  have hP9 := hP.sub (ws' := []) [] rfl
  have hD9 := hD.sub (ws' := []) [] (by decide) rfl
  have hK9 := hK.sub (tys' := []) [] rfl
  refine W.widen (k := 0) (n := 0) (by omega) (by omega) ?_
  exact W.iret (v := 0) hx hb hr (fun t ht hW => ⟨⟨0, (), rfl, rfl, by rw [ht]; exact hP9, va_K.moved hW.alike hK9, hD9⟩, hS.F ht⟩) hS.2.2 dX9_told_84
set_option maxHeartbeats 4000000 in
set_option maxRecDepth 100000 in
theorem c_told4 (l : Launch) (dC : Nat → ClassId) (dI : Nat → Nat → Nat) (sz : Nat) (h0 : Nat) (w1 : Nat) (w6 : Nat) (w8 : Nat) (w15 : Nat) (w22 : Nat) (w26 : Nat) (w31 : Nat) (w35 : Nat) (w40 : Nat) (w48 : Nat) (w50 : Nat) (w52 : Nat) (w9 : Nat) (w10 : Nat) (w11 : Nat) (w12 : Nat) (w13 : Nat) (w23 : Nat) (w24 : Nat) (w25 : Nat) (w2 : Nat) (w3 : Nat) (w4 : Nat) (d14 : ClassId)  : Met l yX9_told (Cond.code yX9_told cX9_told 2 (some .int) :: wsG) ({ frames := 2, cells := 0, slots := 0, locals := 37 } : Room) (va_Pc [.ref h0, .int 4] (fun U => U.heap.size = sz ∧ va_P (dC, dI) vwCl [(h0, .inr (9, [.ref w1, .ref w6, .int 0, .ref w8, .ref w15, .int 0, .int 0, .ref w22, .ref w26, .ref w31, .ref w35, .ref w40, .ref w48, .ref w50, .ref w52])), (w8, .inr (4, [.ref w9, .ref w10, .ref w11, .ref w12, .ref w13, .int 0, .int 0, .int 0])), (w11, .inl (d14, 1101, .inl (fun _ => 0))), (w22, .inr (3, [.ref w23, .ref w24, .ref w25, .int 0, .int 0])), (w1, .inr (5, [.ref w2, .int 0, .ref w3, .int 0, .ref w4, .int 0, .int (-1), .int 0]))] U.heap ∧ va_K (dC, dI) vwCl [(d14, .int)] U ∧ va_D (fun _ => True) [(h0, .inr (9, [.ref w1, .ref w6, .int 0, .ref w8, .ref w15, .int 0, .int 0, .ref w22, .ref w26, .ref w31, .ref w35, .ref w40, .ref w48, .ref w50, .ref w52])), (w8, .inr (4, [.ref w9, .ref w10, .ref w11, .ref w12, .ref w13, .int 0, .int 0, .int 0])), (w11, .inl (d14, 1101, .inl (fun _ => 0))), (w22, .inr (3, [.ref w23, .ref w24, .ref w25, .int 0, .int 0])), (w1, .inr (5, [.ref w2, .int 0, .ref w3, .int 0, .ref w4, .int 0, .int (-1), .int 0]))])) (va_Qi (fun (r : Int32) (_ : Unit) => r = 0) (fun (_ : Unit) (t : State) => va_P (dC, dI) vwCl [] t.heap ∧ va_K (dC, dI) vwCl [] t ∧ va_D (va_A [(h0, .inr (9, [.ref w1, .ref w6, .int 0, .ref w8, .ref w15, .int 0, .int 0, .ref w22, .ref w26, .ref w31, .ref w35, .ref w40, .ref w48, .ref w50, .ref w52])), (w8, .inr (4, [.ref w9, .ref w10, .ref w11, .ref w12, .ref w13, .int 0, .int 0, .int 0])), (w11, .inl (d14, 1101, .inl (fun _ => 0))), (w22, .inr (3, [.ref w23, .ref w24, .ref w25, .int 0, .int 0])), (w1, .inr (5, [.ref w2, .int 0, .ref w3, .int 0, .ref w4, .int 0, .int (-1), .int 0]))] sz) []) (va_A [(h0, .inr (9, [.ref w1, .ref w6, .int 0, .ref w8, .ref w15, .int 0, .int 0, .ref w22, .ref w26, .ref w31, .ref w35, .ref w40, .ref w48, .ref w50, .ref w52])), (w8, .inr (4, [.ref w9, .ref w10, .ref w11, .ref w12, .ref w13, .int 0, .int 0, .int 0])), (w11, .inl (d14, 1101, .inl (fun _ => 0))), (w22, .inr (3, [.ref w23, .ref w24, .ref w25, .int 0, .int 0])), (w1, .inr (5, [.ref w2, .int 0, .ref w3, .int 0, .ref w4, .int 0, .int (-1), .int 0]))] sz)) 0 0 (va_A [(h0, .inr (9, [.ref w1, .ref w6, .int 0, .ref w8, .ref w15, .int 0, .int 0, .ref w22, .ref w26, .ref w31, .ref w35, .ref w40, .ref w48, .ref w50, .ref w52])), (w8, .inr (4, [.ref w9, .ref w10, .ref w11, .ref w12, .ref w13, .int 0, .int 0, .int 0])), (w11, .inl (d14, 1101, .inl (fun _ => 0))), (w22, .inr (3, [.ref w23, .ref w24, .ref w25, .int 0, .int 0])), (w1, .inr (5, [.ref w2, .int 0, .ref w3, .int 0, .ref w4, .int 0, .int (-1), .int 0]))] sz) := by
  refine Met.ofW (cc := cX9_told) (maxL := 2) (ret := (some .int)) (by decide) rfl ?_
  intro p e s m args below meth c s₁ B hml hv
  obtain ⟨rfl, hsz, hP, hK, hD0⟩ := hv
  have hx := B.exec
  have hb := B.bytes
  have hr := B.returns
  have hts : ∀ w ∈ wsG, w.before _ s = true := hG_of (atoms_spec (ws := (Cond.code yX9_told cX9_told 2 (some .int) :: wsG)) B.pre)
  have hown : s.vm.findClass RX9 = some m.cls := findClass_of_methodNamed B.named
  have hlocks := B.notSynchronized
  subst hsz
  have hD := hD0.self (sz := s.heap.size)
  generalize hAe : va_A [(h0, .inr (9, [.ref w1, .ref w6, .int 0, .ref w8, .ref w15, .int 0, .int 0, .ref w22, .ref w26, .ref w31, .ref w35, .ref w40, .ref w48, .ref w50, .ref w52])), (w8, .inr (4, [.ref w9, .ref w10, .ref w11, .ref w12, .ref w13, .int 0, .int 0, .int 0])), (w11, .inl (d14, 1101, .inl (fun _ => 0))), (w22, .inr (3, [.ref w23, .ref w24, .ref w25, .int 0, .int 0])), (w1, .inr (5, [.ref w2, .int 0, .ref w3, .int 0, .ref w4, .int 0, .int (-1), .int 0]))] s.heap.size = A at hD ⊢
  have hA : ∀ q : Nat, s.heap.size ≤ q → A q := fun q h => by rw [← hAe]; exact Or.inr h
  have hS : va_S A s.heap s.heap [] := va_S.rf
  have hl := lv_entry ([.ref h0, .int 4]) (n := 2) (Nat.le_of_ble_eq_true rfl)
  rw [lg_entry_eq]
  generalize (lg_sl ([.ref h0, .int 4]) ++ List.replicate (2 - (lg_sl ([.ref h0, .int 4])).length) Slot.unset).toArray = ls at hl ⊢
  have hl : lv_has ls 2 [(0, .ref h0), (1, .int 4)] := hl
  refine lv_iload_n hx hb dX9_told_0 rfl (lv_at hl 1 rfl) ?_
  refine lv_tableIn (tgt := 85) (off := 84) hx hb dX9_told_1 (by decide +kernel) (by decide +kernel) (by decide +kernel) (by decide) ?_
  refine lv_aload_n hx hb dX9_told_85 rfl (lv_at hl 0 rfl) ?_
  refine va_get (D := (dC, dI)) (ci := 9) (v := .ref w8) (C := RX9) (T := TX9) (N := 15) hx hb hts inG9 hown hK hP 0 rfl rfl 3 (by decide) (hts _ k335) (fun _ h9 => h9) rfl dX9_told_86 ?_
  refine lv_sipush (v := 512) hx hb dX9_told_89 (by decide) ?_
  have hPc := hP.sub (ws' := [(w8, .inr (4, [.ref w9, .ref w10, .ref w11, .ref w12, .ref w13, .int 0, .int 0, .int 0]))]) [1] rfl
  have hDc := hD.sub (ws' := [(w8, .inr (4, [.ref w9, .ref w10, .ref w11, .ref w12, .ref w13, .int 0, .int 0, .int 0]))]) [1] (by decide) rfl
  have hKc := hK.sub (tys' := []) [] rfl
  have hFc := va_free (wc := [(w8, .inr (4, [.ref w9, .ref w10, .ref w11, .ref w12, .ref w13, .int 0, .int 0, .int 0]))]) hD hS hA [1] rfl
  refine va_calli (va_runV (As := [.int 512]) (rest := []) ⟨hx, hb, hml, hown, hts⟩ (c_countOf l dC dI s.heap.size (w8) (w9) (w10) (w11) (w12) (w13) (512)) (cwV 1 hts (gV_G k856 k857 k858 k3 k859) rfl rfl rfl (by decide +kernel) ⟨Nat.le_of_ble_eq_true rfl, Nat.le_of_ble_eq_true rfl⟩) ⟨fun a U g mk q => by obtain ⟨q0, q1, qP, qK, qD⟩ := q; exact ⟨q0, q1, qP, va_K.moved (u := U) (U := U.calling g mk a) (Vm.Alike.refl U.vm) qK, qD⟩, va_recv hKc hPc (ci := 4) (q0 := 0) rfl rfl, fun U hU hW => ⟨rfl, by rw [hU], by rw [hU]; exact hPc, va_K.moved hW.alike hKc, hDc.weaken (fun _ _ _ _ => trivial)⟩⟩ rfl rfl hl.1 rfl (lv_room (Nat.le_of_ble_eq_true rfl)) dX9_told_92 ⟨Nat.le_of_ble_eq_true rfl, Nat.le_of_ble_eq_true rfl⟩) hS (fun q _ h => hFc q h) hFc (fun r1 u t H1 locs ht hvm hw hB hz1 hk1 hS => ?_)
  obtain ⟨hP1, hK1, hD1⟩ := hB
  rw [ht] at hP1
  have hK1 := va_K.moved hvm.symm hK1
  try dsimp only at hw
  obtain ⟨hP, hD⟩ := va_join (wr := [(h0, .inr (9, [.ref w1, .ref w6, .int 0, .ref w8, .ref w15, .int 0, .int 0, .ref w22, .ref w26, .ref w31, .ref w35, .ref w40, .ref w48, .ref w50, .ref w52])), (w11, .inl (d14, 1101, .inl (fun _ => 0))), (w22, .inr (3, [.ref w23, .ref w24, .ref w25, .int 0, .int 0])), (w1, .inr (5, [.ref w2, .int 0, .ref w3, .int 0, .ref w4, .int 0, .int (-1), .int 0]))]) (w1 := [(w8, .inr (4, [.ref w9, .ref w10, .ref w11, .ref w12, .ref w13, .int 0, .int 0, .int 0]))]) hP hD [1] [0, 2, 3, 4] rfl rfl (by decide) (by decide) hk1 hFc hP1 hD1
  have hK := hK.app hK1
  generalize H1 = H at hP hS ⊢
  have hP : va_P (dC, dI) vwCl [(h0, .inr (9, [.ref w1, .ref w6, .int 0, .ref w8, .ref w15, .int 0, .int 0, .ref w22, .ref w26, .ref w31, .ref w35, .ref w40, .ref w48, .ref w50, .ref w52])), (w11, .inl (d14, 1101, .inl (fun _ => 0))), (w22, .inr (3, [.ref w23, .ref w24, .ref w25, .int 0, .int 0])), (w1, .inr (5, [.ref w2, .int 0, .ref w3, .int 0, .ref w4, .int 0, .int (-1), .int 0])), (w8, .inr (4, [.ref w9, .ref w10, .ref w11, .ref w12, .ref w13, .int 0, .int 0, .int 0]))] H := hP
  have hD : va_D A [(h0, .inr (9, [.ref w1, .ref w6, .int 0, .ref w8, .ref w15, .int 0, .int 0, .ref w22, .ref w26, .ref w31, .ref w35, .ref w40, .ref w48, .ref w50, .ref w52])), (w11, .inl (d14, 1101, .inl (fun _ => 0))), (w22, .inr (3, [.ref w23, .ref w24, .ref w25, .int 0, .int 0])), (w1, .inr (5, [.ref w2, .int 0, .ref w3, .int 0, .ref w4, .int 0, .int (-1), .int 0])), (w8, .inr (4, [.ref w9, .ref w10, .ref w11, .ref w12, .ref w13, .int 0, .int 0, .int 0]))] := hD
  have hK : va_K (dC, dI) vwCl [(d14, .int)] s := hK
  refine W.widen (k := 0) (n := 0) (by omega) (by omega) ?_
  obtain rfl : r1 = 0 := hw
  have hP9 := hP.sub (ws' := []) [] rfl
  have hD9 := hD.sub (ws' := []) [] (by decide) rfl
  have hK9 := hK.sub (tys' := []) [] rfl
  refine W.widen (k := 0) (n := 0) (by omega) (by omega) ?_
  exact W.iret (v := 0) hx hb hr (fun t ht hW => ⟨⟨0, (), rfl, rfl, by rw [ht]; exact hP9, va_K.moved hW.alike hK9, hD9⟩, hS.F ht⟩) hS.2.2 dX9_told_95
set_option maxHeartbeats 4000000 in
set_option maxRecDepth 100000 in
theorem c_told5 (l : Launch) (dC : Nat → ClassId) (dI : Nat → Nat → Nat) (sz : Nat) (h0 : Nat) (w1 : Nat) (w6 : Nat) (w8 : Nat) (w15 : Nat) (w22 : Nat) (w26 : Nat) (w31 : Nat) (w35 : Nat) (w40 : Nat) (w48 : Nat) (w50 : Nat) (w52 : Nat) (w9 : Nat) (w10 : Nat) (w11 : Nat) (w12 : Nat) (w13 : Nat) (w23 : Nat) (w24 : Nat) (w25 : Nat) (w2 : Nat) (w3 : Nat) (w4 : Nat) (d14 : ClassId)  : Met l yX9_told (Cond.code yX9_told cX9_told 2 (some .int) :: wsG) ({ frames := 2, cells := 0, slots := 0, locals := 37 } : Room) (va_Pc [.ref h0, .int 5] (fun U => U.heap.size = sz ∧ va_P (dC, dI) vwCl [(h0, .inr (9, [.ref w1, .ref w6, .int 0, .ref w8, .ref w15, .int 0, .int 0, .ref w22, .ref w26, .ref w31, .ref w35, .ref w40, .ref w48, .ref w50, .ref w52])), (w8, .inr (4, [.ref w9, .ref w10, .ref w11, .ref w12, .ref w13, .int 0, .int 0, .int 0])), (w11, .inl (d14, 1101, .inl (fun _ => 0))), (w22, .inr (3, [.ref w23, .ref w24, .ref w25, .int 0, .int 0])), (w1, .inr (5, [.ref w2, .int 0, .ref w3, .int 0, .ref w4, .int 0, .int (-1), .int 0]))] U.heap ∧ va_K (dC, dI) vwCl [(d14, .int)] U ∧ va_D (fun _ => True) [(h0, .inr (9, [.ref w1, .ref w6, .int 0, .ref w8, .ref w15, .int 0, .int 0, .ref w22, .ref w26, .ref w31, .ref w35, .ref w40, .ref w48, .ref w50, .ref w52])), (w8, .inr (4, [.ref w9, .ref w10, .ref w11, .ref w12, .ref w13, .int 0, .int 0, .int 0])), (w11, .inl (d14, 1101, .inl (fun _ => 0))), (w22, .inr (3, [.ref w23, .ref w24, .ref w25, .int 0, .int 0])), (w1, .inr (5, [.ref w2, .int 0, .ref w3, .int 0, .ref w4, .int 0, .int (-1), .int 0]))])) (va_Qi (fun (r : Int32) (_ : Unit) => r = 0) (fun (_ : Unit) (t : State) => va_P (dC, dI) vwCl [] t.heap ∧ va_K (dC, dI) vwCl [] t ∧ va_D (va_A [(h0, .inr (9, [.ref w1, .ref w6, .int 0, .ref w8, .ref w15, .int 0, .int 0, .ref w22, .ref w26, .ref w31, .ref w35, .ref w40, .ref w48, .ref w50, .ref w52])), (w8, .inr (4, [.ref w9, .ref w10, .ref w11, .ref w12, .ref w13, .int 0, .int 0, .int 0])), (w11, .inl (d14, 1101, .inl (fun _ => 0))), (w22, .inr (3, [.ref w23, .ref w24, .ref w25, .int 0, .int 0])), (w1, .inr (5, [.ref w2, .int 0, .ref w3, .int 0, .ref w4, .int 0, .int (-1), .int 0]))] sz) []) (va_A [(h0, .inr (9, [.ref w1, .ref w6, .int 0, .ref w8, .ref w15, .int 0, .int 0, .ref w22, .ref w26, .ref w31, .ref w35, .ref w40, .ref w48, .ref w50, .ref w52])), (w8, .inr (4, [.ref w9, .ref w10, .ref w11, .ref w12, .ref w13, .int 0, .int 0, .int 0])), (w11, .inl (d14, 1101, .inl (fun _ => 0))), (w22, .inr (3, [.ref w23, .ref w24, .ref w25, .int 0, .int 0])), (w1, .inr (5, [.ref w2, .int 0, .ref w3, .int 0, .ref w4, .int 0, .int (-1), .int 0]))] sz)) 0 0 (va_A [(h0, .inr (9, [.ref w1, .ref w6, .int 0, .ref w8, .ref w15, .int 0, .int 0, .ref w22, .ref w26, .ref w31, .ref w35, .ref w40, .ref w48, .ref w50, .ref w52])), (w8, .inr (4, [.ref w9, .ref w10, .ref w11, .ref w12, .ref w13, .int 0, .int 0, .int 0])), (w11, .inl (d14, 1101, .inl (fun _ => 0))), (w22, .inr (3, [.ref w23, .ref w24, .ref w25, .int 0, .int 0])), (w1, .inr (5, [.ref w2, .int 0, .ref w3, .int 0, .ref w4, .int 0, .int (-1), .int 0]))] sz) := by
  refine Met.ofW (cc := cX9_told) (maxL := 2) (ret := (some .int)) (by decide) rfl ?_
  intro p e s m args below meth c s₁ B hml hv
  obtain ⟨rfl, hsz, hP, hK, hD0⟩ := hv
  have hx := B.exec
  have hb := B.bytes
  have hr := B.returns
  have hts : ∀ w ∈ wsG, w.before _ s = true := hG_of (atoms_spec (ws := (Cond.code yX9_told cX9_told 2 (some .int) :: wsG)) B.pre)
  have hown : s.vm.findClass RX9 = some m.cls := findClass_of_methodNamed B.named
  have hlocks := B.notSynchronized
  subst hsz
  have hD := hD0.self (sz := s.heap.size)
  generalize hAe : va_A [(h0, .inr (9, [.ref w1, .ref w6, .int 0, .ref w8, .ref w15, .int 0, .int 0, .ref w22, .ref w26, .ref w31, .ref w35, .ref w40, .ref w48, .ref w50, .ref w52])), (w8, .inr (4, [.ref w9, .ref w10, .ref w11, .ref w12, .ref w13, .int 0, .int 0, .int 0])), (w11, .inl (d14, 1101, .inl (fun _ => 0))), (w22, .inr (3, [.ref w23, .ref w24, .ref w25, .int 0, .int 0])), (w1, .inr (5, [.ref w2, .int 0, .ref w3, .int 0, .ref w4, .int 0, .int (-1), .int 0]))] s.heap.size = A at hD ⊢
  have hA : ∀ q : Nat, s.heap.size ≤ q → A q := fun q h => by rw [← hAe]; exact Or.inr h
  have hS : va_S A s.heap s.heap [] := va_S.rf
  have hl := lv_entry ([.ref h0, .int 5]) (n := 2) (Nat.le_of_ble_eq_true rfl)
  rw [lg_entry_eq]
  generalize (lg_sl ([.ref h0, .int 5]) ++ List.replicate (2 - (lg_sl ([.ref h0, .int 5])).length) Slot.unset).toArray = ls at hl ⊢
  have hl : lv_has ls 2 [(0, .ref h0), (1, .int 5)] := hl
  refine lv_iload_n hx hb dX9_told_0 rfl (lv_at hl 1 rfl) ?_
  refine lv_tableIn (tgt := 96) (off := 95) hx hb dX9_told_1 (by decide +kernel) (by decide +kernel) (by decide +kernel) (by decide) ?_
  refine lv_aload_n hx hb dX9_told_96 rfl (lv_at hl 0 rfl) ?_
  refine va_get (D := (dC, dI)) (ci := 9) (v := .ref w8) (C := RX9) (T := TX9) (N := 15) hx hb hts inG9 hown hK hP 0 rfl rfl 3 (by decide) (hts _ k335) (fun _ h9 => h9) rfl dX9_told_97 ?_
  refine lv_sipush (v := 513) hx hb dX9_told_100 (by decide) ?_
  have hPc := hP.sub (ws' := [(w8, .inr (4, [.ref w9, .ref w10, .ref w11, .ref w12, .ref w13, .int 0, .int 0, .int 0]))]) [1] rfl
  have hDc := hD.sub (ws' := [(w8, .inr (4, [.ref w9, .ref w10, .ref w11, .ref w12, .ref w13, .int 0, .int 0, .int 0]))]) [1] (by decide) rfl
  have hKc := hK.sub (tys' := []) [] rfl
  have hFc := va_free (wc := [(w8, .inr (4, [.ref w9, .ref w10, .ref w11, .ref w12, .ref w13, .int 0, .int 0, .int 0]))]) hD hS hA [1] rfl
  refine va_calli (va_runV (As := [.int 513]) (rest := []) ⟨hx, hb, hml, hown, hts⟩ (c_countOf l dC dI s.heap.size (w8) (w9) (w10) (w11) (w12) (w13) (513)) (cwV 1 hts (gV_G k856 k857 k858 k3 k859) rfl rfl rfl (by decide +kernel) ⟨Nat.le_of_ble_eq_true rfl, Nat.le_of_ble_eq_true rfl⟩) ⟨fun a U g mk q => by obtain ⟨q0, q1, qP, qK, qD⟩ := q; exact ⟨q0, q1, qP, va_K.moved (u := U) (U := U.calling g mk a) (Vm.Alike.refl U.vm) qK, qD⟩, va_recv hKc hPc (ci := 4) (q0 := 0) rfl rfl, fun U hU hW => ⟨rfl, by rw [hU], by rw [hU]; exact hPc, va_K.moved hW.alike hKc, hDc.weaken (fun _ _ _ _ => trivial)⟩⟩ rfl rfl hl.1 rfl (lv_room (Nat.le_of_ble_eq_true rfl)) dX9_told_103 ⟨Nat.le_of_ble_eq_true rfl, Nat.le_of_ble_eq_true rfl⟩) hS (fun q _ h => hFc q h) hFc (fun r1 u t H1 locs ht hvm hw hB hz1 hk1 hS => ?_)
  obtain ⟨hP1, hK1, hD1⟩ := hB
  rw [ht] at hP1
  have hK1 := va_K.moved hvm.symm hK1
  try dsimp only at hw
  obtain ⟨hP, hD⟩ := va_join (wr := [(h0, .inr (9, [.ref w1, .ref w6, .int 0, .ref w8, .ref w15, .int 0, .int 0, .ref w22, .ref w26, .ref w31, .ref w35, .ref w40, .ref w48, .ref w50, .ref w52])), (w11, .inl (d14, 1101, .inl (fun _ => 0))), (w22, .inr (3, [.ref w23, .ref w24, .ref w25, .int 0, .int 0])), (w1, .inr (5, [.ref w2, .int 0, .ref w3, .int 0, .ref w4, .int 0, .int (-1), .int 0]))]) (w1 := [(w8, .inr (4, [.ref w9, .ref w10, .ref w11, .ref w12, .ref w13, .int 0, .int 0, .int 0]))]) hP hD [1] [0, 2, 3, 4] rfl rfl (by decide) (by decide) hk1 hFc hP1 hD1
  have hK := hK.app hK1
  generalize H1 = H at hP hS ⊢
  have hP : va_P (dC, dI) vwCl [(h0, .inr (9, [.ref w1, .ref w6, .int 0, .ref w8, .ref w15, .int 0, .int 0, .ref w22, .ref w26, .ref w31, .ref w35, .ref w40, .ref w48, .ref w50, .ref w52])), (w11, .inl (d14, 1101, .inl (fun _ => 0))), (w22, .inr (3, [.ref w23, .ref w24, .ref w25, .int 0, .int 0])), (w1, .inr (5, [.ref w2, .int 0, .ref w3, .int 0, .ref w4, .int 0, .int (-1), .int 0])), (w8, .inr (4, [.ref w9, .ref w10, .ref w11, .ref w12, .ref w13, .int 0, .int 0, .int 0]))] H := hP
  have hD : va_D A [(h0, .inr (9, [.ref w1, .ref w6, .int 0, .ref w8, .ref w15, .int 0, .int 0, .ref w22, .ref w26, .ref w31, .ref w35, .ref w40, .ref w48, .ref w50, .ref w52])), (w11, .inl (d14, 1101, .inl (fun _ => 0))), (w22, .inr (3, [.ref w23, .ref w24, .ref w25, .int 0, .int 0])), (w1, .inr (5, [.ref w2, .int 0, .ref w3, .int 0, .ref w4, .int 0, .int (-1), .int 0])), (w8, .inr (4, [.ref w9, .ref w10, .ref w11, .ref w12, .ref w13, .int 0, .int 0, .int 0]))] := hD
  have hK : va_K (dC, dI) vwCl [(d14, .int)] s := hK
  refine W.widen (k := 0) (n := 0) (by omega) (by omega) ?_
  obtain rfl : r1 = 0 := hw
  have hP9 := hP.sub (ws' := []) [] rfl
  have hD9 := hD.sub (ws' := []) [] (by decide) rfl
  have hK9 := hK.sub (tys' := []) [] rfl
  refine W.widen (k := 0) (n := 0) (by omega) (by omega) ?_
  exact W.iret (v := 0) hx hb hr (fun t ht hW => ⟨⟨0, (), rfl, rfl, by rw [ht]; exact hP9, va_K.moved hW.alike hK9, hD9⟩, hS.F ht⟩) hS.2.2 dX9_told_106
set_option maxHeartbeats 4000000 in
set_option maxRecDepth 100000 in
theorem c_told6 (l : Launch) (dC : Nat → ClassId) (dI : Nat → Nat → Nat) (sz : Nat) (h0 : Nat) (w1 : Nat) (w6 : Nat) (w8 : Nat) (w15 : Nat) (w22 : Nat) (w26 : Nat) (w31 : Nat) (w35 : Nat) (w40 : Nat) (w48 : Nat) (w50 : Nat) (w52 : Nat) (w9 : Nat) (w10 : Nat) (w11 : Nat) (w12 : Nat) (w13 : Nat) (w23 : Nat) (w24 : Nat) (w25 : Nat) (w2 : Nat) (w3 : Nat) (w4 : Nat) (d14 : ClassId)  : Met l yX9_told (Cond.code yX9_told cX9_told 2 (some .int) :: wsG) ({ frames := 2, cells := 0, slots := 0, locals := 37 } : Room) (va_Pc [.ref h0, .int 6] (fun U => U.heap.size = sz ∧ va_P (dC, dI) vwCl [(h0, .inr (9, [.ref w1, .ref w6, .int 0, .ref w8, .ref w15, .int 0, .int 0, .ref w22, .ref w26, .ref w31, .ref w35, .ref w40, .ref w48, .ref w50, .ref w52])), (w8, .inr (4, [.ref w9, .ref w10, .ref w11, .ref w12, .ref w13, .int 0, .int 0, .int 0])), (w11, .inl (d14, 1101, .inl (fun _ => 0))), (w22, .inr (3, [.ref w23, .ref w24, .ref w25, .int 0, .int 0])), (w1, .inr (5, [.ref w2, .int 0, .ref w3, .int 0, .ref w4, .int 0, .int (-1), .int 0]))] U.heap ∧ va_K (dC, dI) vwCl [(d14, .int)] U ∧ va_D (fun _ => True) [(h0, .inr (9, [.ref w1, .ref w6, .int 0, .ref w8, .ref w15, .int 0, .int 0, .ref w22, .ref w26, .ref w31, .ref w35, .ref w40, .ref w48, .ref w50, .ref w52])), (w8, .inr (4, [.ref w9, .ref w10, .ref w11, .ref w12, .ref w13, .int 0, .int 0, .int 0])), (w11, .inl (d14, 1101, .inl (fun _ => 0))), (w22, .inr (3, [.ref w23, .ref w24, .ref w25, .int 0, .int 0])), (w1, .inr (5, [.ref w2, .int 0, .ref w3, .int 0, .ref w4, .int 0, .int (-1), .int 0]))])) (va_Qi (fun (r : Int32) (_ : Unit) => r = 0) (fun (_ : Unit) (t : State) => va_P (dC, dI) vwCl [] t.heap ∧ va_K (dC, dI) vwCl [] t ∧ va_D (va_A [(h0, .inr (9, [.ref w1, .ref w6, .int 0, .ref w8, .ref w15, .int 0, .int 0, .ref w22, .ref w26, .ref w31, .ref w35, .ref w40, .ref w48, .ref w50, .ref w52])), (w8, .inr (4, [.ref w9, .ref w10, .ref w11, .ref w12, .ref w13, .int 0, .int 0, .int 0])), (w11, .inl (d14, 1101, .inl (fun _ => 0))), (w22, .inr (3, [.ref w23, .ref w24, .ref w25, .int 0, .int 0])), (w1, .inr (5, [.ref w2, .int 0, .ref w3, .int 0, .ref w4, .int 0, .int (-1), .int 0]))] sz) []) (va_A [(h0, .inr (9, [.ref w1, .ref w6, .int 0, .ref w8, .ref w15, .int 0, .int 0, .ref w22, .ref w26, .ref w31, .ref w35, .ref w40, .ref w48, .ref w50, .ref w52])), (w8, .inr (4, [.ref w9, .ref w10, .ref w11, .ref w12, .ref w13, .int 0, .int 0, .int 0])), (w11, .inl (d14, 1101, .inl (fun _ => 0))), (w22, .inr (3, [.ref w23, .ref w24, .ref w25, .int 0, .int 0])), (w1, .inr (5, [.ref w2, .int 0, .ref w3, .int 0, .ref w4, .int 0, .int (-1), .int 0]))] sz)) 0 0 (va_A [(h0, .inr (9, [.ref w1, .ref w6, .int 0, .ref w8, .ref w15, .int 0, .int 0, .ref w22, .ref w26, .ref w31, .ref w35, .ref w40, .ref w48, .ref w50, .ref w52])), (w8, .inr (4, [.ref w9, .ref w10, .ref w11, .ref w12, .ref w13, .int 0, .int 0, .int 0])), (w11, .inl (d14, 1101, .inl (fun _ => 0))), (w22, .inr (3, [.ref w23, .ref w24, .ref w25, .int 0, .int 0])), (w1, .inr (5, [.ref w2, .int 0, .ref w3, .int 0, .ref w4, .int 0, .int (-1), .int 0]))] sz) := by
  refine Met.ofW (cc := cX9_told) (maxL := 2) (ret := (some .int)) (by decide) rfl ?_
  intro p e s m args below meth c s₁ B hml hv
  obtain ⟨rfl, hsz, hP, hK, hD0⟩ := hv
  have hx := B.exec
  have hb := B.bytes
  have hr := B.returns
  have hts : ∀ w ∈ wsG, w.before _ s = true := hG_of (atoms_spec (ws := (Cond.code yX9_told cX9_told 2 (some .int) :: wsG)) B.pre)
  have hown : s.vm.findClass RX9 = some m.cls := findClass_of_methodNamed B.named
  have hlocks := B.notSynchronized
  subst hsz
  have hD := hD0.self (sz := s.heap.size)
  generalize hAe : va_A [(h0, .inr (9, [.ref w1, .ref w6, .int 0, .ref w8, .ref w15, .int 0, .int 0, .ref w22, .ref w26, .ref w31, .ref w35, .ref w40, .ref w48, .ref w50, .ref w52])), (w8, .inr (4, [.ref w9, .ref w10, .ref w11, .ref w12, .ref w13, .int 0, .int 0, .int 0])), (w11, .inl (d14, 1101, .inl (fun _ => 0))), (w22, .inr (3, [.ref w23, .ref w24, .ref w25, .int 0, .int 0])), (w1, .inr (5, [.ref w2, .int 0, .ref w3, .int 0, .ref w4, .int 0, .int (-1), .int 0]))] s.heap.size = A at hD ⊢
  have hA : ∀ q : Nat, s.heap.size ≤ q → A q := fun q h => by rw [← hAe]; exact Or.inr h
  have hS : va_S A s.heap s.heap [] := va_S.rf
  have hl := lv_entry ([.ref h0, .int 6]) (n := 2) (Nat.le_of_ble_eq_true rfl)
  rw [lg_entry_eq]
  generalize (lg_sl ([.ref h0, .int 6]) ++ List.replicate (2 - (lg_sl ([.ref h0, .int 6])).length) Slot.unset).toArray = ls at hl ⊢
  have hl : lv_has ls 2 [(0, .ref h0), (1, .int 6)] := hl
  refine lv_iload_n hx hb dX9_told_0 rfl (lv_at hl 1 rfl) ?_
  refine lv_tableIn (tgt := 107) (off := 106) hx hb dX9_told_1 (by decide +kernel) (by decide +kernel) (by decide +kernel) (by decide) ?_
  refine lv_aload_n hx hb dX9_told_107 rfl (lv_at hl 0 rfl) ?_
  refine va_get (D := (dC, dI)) (ci := 9) (v := .ref w8) (C := RX9) (T := TX9) (N := 15) hx hb hts inG9 hown hK hP 0 rfl rfl 3 (by decide) (hts _ k335) (fun _ h9 => h9) rfl dX9_told_108 ?_
  refine lv_sipush (v := 514) hx hb dX9_told_111 (by decide) ?_
  have hPc := hP.sub (ws' := [(w8, .inr (4, [.ref w9, .ref w10, .ref w11, .ref w12, .ref w13, .int 0, .int 0, .int 0]))]) [1] rfl
  have hDc := hD.sub (ws' := [(w8, .inr (4, [.ref w9, .ref w10, .ref w11, .ref w12, .ref w13, .int 0, .int 0, .int 0]))]) [1] (by decide) rfl
  have hKc := hK.sub (tys' := []) [] rfl
  have hFc := va_free (wc := [(w8, .inr (4, [.ref w9, .ref w10, .ref w11, .ref w12, .ref w13, .int 0, .int 0, .int 0]))]) hD hS hA [1] rfl
  refine va_calli (va_runV (As := [.int 514]) (rest := []) ⟨hx, hb, hml, hown, hts⟩ (c_countOf l dC dI s.heap.size (w8) (w9) (w10) (w11) (w12) (w13) (514)) (cwV 1 hts (gV_G k856 k857 k858 k3 k859) rfl rfl rfl (by decide +kernel) ⟨Nat.le_of_ble_eq_true rfl, Nat.le_of_ble_eq_true rfl⟩) ⟨fun a U g mk q => by obtain ⟨q0, q1, qP, qK, qD⟩ := q; exact ⟨q0, q1, qP, va_K.moved (u := U) (U := U.calling g mk a) (Vm.Alike.refl U.vm) qK, qD⟩, va_recv hKc hPc (ci := 4) (q0 := 0) rfl rfl, fun U hU hW => ⟨rfl, by rw [hU], by rw [hU]; exact hPc, va_K.moved hW.alike hKc, hDc.weaken (fun _ _ _ _ => trivial)⟩⟩ rfl rfl hl.1 rfl (lv_room (Nat.le_of_ble_eq_true rfl)) dX9_told_114 ⟨Nat.le_of_ble_eq_true rfl, Nat.le_of_ble_eq_true rfl⟩) hS (fun q _ h => hFc q h) hFc (fun r1 u t H1 locs ht hvm hw hB hz1 hk1 hS => ?_)
  obtain ⟨hP1, hK1, hD1⟩ := hB
  rw [ht] at hP1
  have hK1 := va_K.moved hvm.symm hK1
  try dsimp only at hw
  obtain ⟨hP, hD⟩ := va_join (wr := [(h0, .inr (9, [.ref w1, .ref w6, .int 0, .ref w8, .ref w15, .int 0, .int 0, .ref w22, .ref w26, .ref w31, .ref w35, .ref w40, .ref w48, .ref w50, .ref w52])), (w11, .inl (d14, 1101, .inl (fun _ => 0))), (w22, .inr (3, [.ref w23, .ref w24, .ref w25, .int 0, .int 0])), (w1, .inr (5, [.ref w2, .int 0, .ref w3, .int 0, .ref w4, .int 0, .int (-1), .int 0]))]) (w1 := [(w8, .inr (4, [.ref w9, .ref w10, .ref w11, .ref w12, .ref w13, .int 0, .int 0, .int 0]))]) hP hD [1] [0, 2, 3, 4] rfl rfl (by decide) (by decide) hk1 hFc hP1 hD1
  have hK := hK.app hK1
  generalize H1 = H at hP hS ⊢
  have hP : va_P (dC, dI) vwCl [(h0, .inr (9, [.ref w1, .ref w6, .int 0, .ref w8, .ref w15, .int 0, .int 0, .ref w22, .ref w26, .ref w31, .ref w35, .ref w40, .ref w48, .ref w50, .ref w52])), (w11, .inl (d14, 1101, .inl (fun _ => 0))), (w22, .inr (3, [.ref w23, .ref w24, .ref w25, .int 0, .int 0])), (w1, .inr (5, [.ref w2, .int 0, .ref w3, .int 0, .ref w4, .int 0, .int (-1), .int 0])), (w8, .inr (4, [.ref w9, .ref w10, .ref w11, .ref w12, .ref w13, .int 0, .int 0, .int 0]))] H := hP
  have hD : va_D A [(h0, .inr (9, [.ref w1, .ref w6, .int 0, .ref w8, .ref w15, .int 0, .int 0, .ref w22, .ref w26, .ref w31, .ref w35, .ref w40, .ref w48, .ref w50, .ref w52])), (w11, .inl (d14, 1101, .inl (fun _ => 0))), (w22, .inr (3, [.ref w23, .ref w24, .ref w25, .int 0, .int 0])), (w1, .inr (5, [.ref w2, .int 0, .ref w3, .int 0, .ref w4, .int 0, .int (-1), .int 0])), (w8, .inr (4, [.ref w9, .ref w10, .ref w11, .ref w12, .ref w13, .int 0, .int 0, .int 0]))] := hD
  have hK : va_K (dC, dI) vwCl [(d14, .int)] s := hK
  refine W.widen (k := 0) (n := 0) (by omega) (by omega) ?_
  obtain rfl : r1 = 0 := hw
  have hP9 := hP.sub (ws' := []) [] rfl
  have hD9 := hD.sub (ws' := []) [] (by decide) rfl
  have hK9 := hK.sub (tys' := []) [] rfl
  refine W.widen (k := 0) (n := 0) (by omega) (by omega) ?_
  exact W.iret (v := 0) hx hb hr (fun t ht hW => ⟨⟨0, (), rfl, rfl, by rw [ht]; exact hP9, va_K.moved hW.alike hK9, hD9⟩, hS.F ht⟩) hS.2.2 dX9_told_117
set_option maxHeartbeats 4000000 in
set_option maxRecDepth 100000 in
theorem c_told7 (l : Launch) (dC : Nat → ClassId) (dI : Nat → Nat → Nat) (sz : Nat) (h0 : Nat) (w1 : Nat) (w6 : Nat) (w8 : Nat) (w15 : Nat) (w22 : Nat) (w26 : Nat) (w31 : Nat) (w35 : Nat) (w40 : Nat) (w48 : Nat) (w50 : Nat) (w52 : Nat) (w9 : Nat) (w10 : Nat) (w11 : Nat) (w12 : Nat) (w13 : Nat) (w23 : Nat) (w24 : Nat) (w25 : Nat) (w2 : Nat) (w3 : Nat) (w4 : Nat) (d14 : ClassId)  : Met l yX9_told (Cond.code yX9_told cX9_told 2 (some .int) :: wsG) ({ frames := 2, cells := 0, slots := 0, locals := 37 } : Room) (va_Pc [.ref h0, .int 7] (fun U => U.heap.size = sz ∧ va_P (dC, dI) vwCl [(h0, .inr (9, [.ref w1, .ref w6, .int 0, .ref w8, .ref w15, .int 0, .int 0, .ref w22, .ref w26, .ref w31, .ref w35, .ref w40, .ref w48, .ref w50, .ref w52])), (w8, .inr (4, [.ref w9, .ref w10, .ref w11, .ref w12, .ref w13, .int 0, .int 0, .int 0])), (w11, .inl (d14, 1101, .inl (fun _ => 0))), (w22, .inr (3, [.ref w23, .ref w24, .ref w25, .int 0, .int 0])), (w1, .inr (5, [.ref w2, .int 0, .ref w3, .int 0, .ref w4, .int 0, .int (-1), .int 0]))] U.heap ∧ va_K (dC, dI) vwCl [(d14, .int)] U ∧ va_D (fun _ => True) [(h0, .inr (9, [.ref w1, .ref w6, .int 0, .ref w8, .ref w15, .int 0, .int 0, .ref w22, .ref w26, .ref w31, .ref w35, .ref w40, .ref w48, .ref w50, .ref w52])), (w8, .inr (4, [.ref w9, .ref w10, .ref w11, .ref w12, .ref w13, .int 0, .int 0, .int 0])), (w11, .inl (d14, 1101, .inl (fun _ => 0))), (w22, .inr (3, [.ref w23, .ref w24, .ref w25, .int 0, .int 0])), (w1, .inr (5, [.ref w2, .int 0, .ref w3, .int 0, .ref w4, .int 0, .int (-1), .int 0]))])) (va_Qi (fun (r : Int32) (_ : Unit) => r = 0) (fun (_ : Unit) (t : State) => va_P (dC, dI) vwCl [] t.heap ∧ va_K (dC, dI) vwCl [] t ∧ va_D (va_A [(h0, .inr (9, [.ref w1, .ref w6, .int 0, .ref w8, .ref w15, .int 0, .int 0, .ref w22, .ref w26, .ref w31, .ref w35, .ref w40, .ref w48, .ref w50, .ref w52])), (w8, .inr (4, [.ref w9, .ref w10, .ref w11, .ref w12, .ref w13, .int 0, .int 0, .int 0])), (w11, .inl (d14, 1101, .inl (fun _ => 0))), (w22, .inr (3, [.ref w23, .ref w24, .ref w25, .int 0, .int 0])), (w1, .inr (5, [.ref w2, .int 0, .ref w3, .int 0, .ref w4, .int 0, .int (-1), .int 0]))] sz) []) (va_A [(h0, .inr (9, [.ref w1, .ref w6, .int 0, .ref w8, .ref w15, .int 0, .int 0, .ref w22, .ref w26, .ref w31, .ref w35, .ref w40, .ref w48, .ref w50, .ref w52])), (w8, .inr (4, [.ref w9, .ref w10, .ref w11, .ref w12, .ref w13, .int 0, .int 0, .int 0])), (w11, .inl (d14, 1101, .inl (fun _ => 0))), (w22, .inr (3, [.ref w23, .ref w24, .ref w25, .int 0, .int 0])), (w1, .inr (5, [.ref w2, .int 0, .ref w3, .int 0, .ref w4, .int 0, .int (-1), .int 0]))] sz)) 0 0 (va_A [(h0, .inr (9, [.ref w1, .ref w6, .int 0, .ref w8, .ref w15, .int 0, .int 0, .ref w22, .ref w26, .ref w31, .ref w35, .ref w40, .ref w48, .ref w50, .ref w52])), (w8, .inr (4, [.ref w9, .ref w10, .ref w11, .ref w12, .ref w13, .int 0, .int 0, .int 0])), (w11, .inl (d14, 1101, .inl (fun _ => 0))), (w22, .inr (3, [.ref w23, .ref w24, .ref w25, .int 0, .int 0])), (w1, .inr (5, [.ref w2, .int 0, .ref w3, .int 0, .ref w4, .int 0, .int (-1), .int 0]))] sz) := by
  refine Met.ofW (cc := cX9_told) (maxL := 2) (ret := (some .int)) (by decide) rfl ?_
  intro p e s m args below meth c s₁ B hml hv
  obtain ⟨rfl, hsz, hP, hK, hD0⟩ := hv
  have hx := B.exec
  have hb := B.bytes
  have hr := B.returns
  have hts : ∀ w ∈ wsG, w.before _ s = true := hG_of (atoms_spec (ws := (Cond.code yX9_told cX9_told 2 (some .int) :: wsG)) B.pre)
  have hown : s.vm.findClass RX9 = some m.cls := findClass_of_methodNamed B.named
  have hlocks := B.notSynchronized
  subst hsz
  have hD := hD0.self (sz := s.heap.size)
  generalize hAe : va_A [(h0, .inr (9, [.ref w1, .ref w6, .int 0, .ref w8, .ref w15, .int 0, .int 0, .ref w22, .ref w26, .ref w31, .ref w35, .ref w40, .ref w48, .ref w50, .ref w52])), (w8, .inr (4, [.ref w9, .ref w10, .ref w11, .ref w12, .ref w13, .int 0, .int 0, .int 0])), (w11, .inl (d14, 1101, .inl (fun _ => 0))), (w22, .inr (3, [.ref w23, .ref w24, .ref w25, .int 0, .int 0])), (w1, .inr (5, [.ref w2, .int 0, .ref w3, .int 0, .ref w4, .int 0, .int (-1), .int 0]))] s.heap.size = A at hD ⊢
  have hA : ∀ q : Nat, s.heap.size ≤ q → A q := fun q h => by rw [← hAe]; exact Or.inr h
  have hS : va_S A s.heap s.heap [] := va_S.rf
  have hl := lv_entry ([.ref h0, .int 7]) (n := 2) (Nat.le_of_ble_eq_true rfl)
  rw [lg_entry_eq]
  generalize (lg_sl ([.ref h0, .int 7]) ++ List.replicate (2 - (lg_sl ([.ref h0, .int 7])).length) Slot.unset).toArray = ls at hl ⊢
  have hl : lv_has ls 2 [(0, .ref h0), (1, .int 7)] := hl
  refine lv_iload_n hx hb dX9_told_0 rfl (lv_at hl 1 rfl) ?_
  refine lv_tableIn (tgt := 118) (off := 117) hx hb dX9_told_1 (by decide +kernel) (by decide +kernel) (by decide +kernel) (by decide) ?_
  refine lv_aload_n hx hb dX9_told_118 rfl (lv_at hl 0 rfl) ?_
  refine va_get (D := (dC, dI)) (ci := 9) (v := .ref w22) (C := RX9) (T := TX9) (N := 15) hx hb hts inG9 hown hK hP 0 rfl rfl 7 (by decide) (hts _ k339) (fun _ h9 => h9) rfl dX9_told_119 ?_
  refine va_get (D := (dC, dI)) (ci := 3) (v := .int 0) (C := RX3) (T := TX3) (N := 5) hx hb hts inG3 hown hK hP 3 rfl rfl 4 (by decide) (hts _ k135) (fun _ h9 => h9) rfl dX9_told_122 ?_
  have hP9 := hP.sub (ws' := []) [] rfl
  have hD9 := hD.sub (ws' := []) [] (by decide) rfl
  have hK9 := hK.sub (tys' := []) [] rfl
  refine W.widen (k := 0) (n := 0) (by omega) (by omega) ?_
  exact W.iret (v := 0) hx hb hr (fun t ht hW => ⟨⟨0, (), rfl, rfl, by rw [ht]; exact hP9, va_K.moved hW.alike hK9, hD9⟩, hS.F ht⟩) hS.2.2 dX9_told_125
set_option maxHeartbeats 4000000 in
set_option maxRecDepth 100000 in
theorem c_told8 (l : Launch) (dC : Nat → ClassId) (dI : Nat → Nat → Nat) (sz : Nat) (h0 : Nat) (w1 : Nat) (w6 : Nat) (w8 : Nat) (w15 : Nat) (w22 : Nat) (w26 : Nat) (w31 : Nat) (w35 : Nat) (w40 : Nat) (w48 : Nat) (w50 : Nat) (w52 : Nat) (w9 : Nat) (w10 : Nat) (w11 : Nat) (w12 : Nat) (w13 : Nat) (w23 : Nat) (w24 : Nat) (w25 : Nat) (w2 : Nat) (w3 : Nat) (w4 : Nat) (d14 : ClassId)  : Met l yX9_told (Cond.code yX9_told cX9_told 2 (some .int) :: wsG) ({ frames := 2, cells := 0, slots := 0, locals := 37 } : Room) (va_Pc [.ref h0, .int 8] (fun U => U.heap.size = sz ∧ va_P (dC, dI) vwCl [(h0, .inr (9, [.ref w1, .ref w6, .int 0, .ref w8, .ref w15, .int 0, .int 0, .ref w22, .ref w26, .ref w31, .ref w35, .ref w40, .ref w48, .ref w50, .ref w52])), (w8, .inr (4, [.ref w9, .ref w10, .ref w11, .ref w12, .ref w13, .int 0, .int 0, .int 0])), (w11, .inl (d14, 1101, .inl (fun _ => 0))), (w22, .inr (3, [.ref w23, .ref w24, .ref w25, .int 0, .int 0])), (w1, .inr (5, [.ref w2, .int 0, .ref w3, .int 0, .ref w4, .int 0, .int (-1), .int 0]))] U.heap ∧ va_K (dC, dI) vwCl [(d14, .int)] U ∧ va_D (fun _ => True) [(h0, .inr (9, [.ref w1, .ref w6, .int 0, .ref w8, .ref w15, .int 0, .int 0, .ref w22, .ref w26, .ref w31, .ref w35, .ref w40, .ref w48, .ref w50, .ref w52])), (w8, .inr (4, [.ref w9, .ref w10, .ref w11, .ref w12, .ref w13, .int 0, .int 0, .int 0])), (w11, .inl (d14, 1101, .inl (fun _ => 0))), (w22, .inr (3, [.ref w23, .ref w24, .ref w25, .int 0, .int 0])), (w1, .inr (5, [.ref w2, .int 0, .ref w3, .int 0, .ref w4, .int 0, .int (-1), .int 0]))])) (va_Qi (fun (r : Int32) (_ : Unit) => r = 0) (fun (_ : Unit) (t : State) => va_P (dC, dI) vwCl [] t.heap ∧ va_K (dC, dI) vwCl [] t ∧ va_D (va_A [(h0, .inr (9, [.ref w1, .ref w6, .int 0, .ref w8, .ref w15, .int 0, .int 0, .ref w22, .ref w26, .ref w31, .ref w35, .ref w40, .ref w48, .ref w50, .ref w52])), (w8, .inr (4, [.ref w9, .ref w10, .ref w11, .ref w12, .ref w13, .int 0, .int 0, .int 0])), (w11, .inl (d14, 1101, .inl (fun _ => 0))), (w22, .inr (3, [.ref w23, .ref w24, .ref w25, .int 0, .int 0])), (w1, .inr (5, [.ref w2, .int 0, .ref w3, .int 0, .ref w4, .int 0, .int (-1), .int 0]))] sz) []) (va_A [(h0, .inr (9, [.ref w1, .ref w6, .int 0, .ref w8, .ref w15, .int 0, .int 0, .ref w22, .ref w26, .ref w31, .ref w35, .ref w40, .ref w48, .ref w50, .ref w52])), (w8, .inr (4, [.ref w9, .ref w10, .ref w11, .ref w12, .ref w13, .int 0, .int 0, .int 0])), (w11, .inl (d14, 1101, .inl (fun _ => 0))), (w22, .inr (3, [.ref w23, .ref w24, .ref w25, .int 0, .int 0])), (w1, .inr (5, [.ref w2, .int 0, .ref w3, .int 0, .ref w4, .int 0, .int (-1), .int 0]))] sz)) 0 0 (va_A [(h0, .inr (9, [.ref w1, .ref w6, .int 0, .ref w8, .ref w15, .int 0, .int 0, .ref w22, .ref w26, .ref w31, .ref w35, .ref w40, .ref w48, .ref w50, .ref w52])), (w8, .inr (4, [.ref w9, .ref w10, .ref w11, .ref w12, .ref w13, .int 0, .int 0, .int 0])), (w11, .inl (d14, 1101, .inl (fun _ => 0))), (w22, .inr (3, [.ref w23, .ref w24, .ref w25, .int 0, .int 0])), (w1, .inr (5, [.ref w2, .int 0, .ref w3, .int 0, .ref w4, .int 0, .int (-1), .int 0]))] sz) := by
  refine Met.ofW (cc := cX9_told) (maxL := 2) (ret := (some .int)) (by decide) rfl ?_
  intro p e s m args below meth c s₁ B hml hv
  obtain ⟨rfl, hsz, hP, hK, hD0⟩ := hv
  have hx := B.exec
  have hb := B.bytes
  have hr := B.returns
  have hts : ∀ w ∈ wsG, w.before _ s = true := hG_of (atoms_spec (ws := (Cond.code yX9_told cX9_told 2 (some .int) :: wsG)) B.pre)
  have hown : s.vm.findClass RX9 = some m.cls := findClass_of_methodNamed B.named
  have hlocks := B.notSynchronized
  subst hsz
  have hD := hD0.self (sz := s.heap.size)
  generalize hAe : va_A [(h0, .inr (9, [.ref w1, .ref w6, .int 0, .ref w8, .ref w15, .int 0, .int 0, .ref w22, .ref w26, .ref w31, .ref w35, .ref w40, .ref w48, .ref w50, .ref w52])), (w8, .inr (4, [.ref w9, .ref w10, .ref w11, .ref w12, .ref w13, .int 0, .int 0, .int 0])), (w11, .inl (d14, 1101, .inl (fun _ => 0))), (w22, .inr (3, [.ref w23, .ref w24, .ref w25, .int 0, .int 0])), (w1, .inr (5, [.ref w2, .int 0, .ref w3, .int 0, .ref w4, .int 0, .int (-1), .int 0]))] s.heap.size = A at hD ⊢
  have hA : ∀ q : Nat, s.heap.size ≤ q → A q := fun q h => by rw [← hAe]; exact Or.inr h
  have hS : va_S A s.heap s.heap [] := va_S.rf
  have hl := lv_entry ([.ref h0, .int 8]) (n := 2) (Nat.le_of_ble_eq_true rfl)
  rw [lg_entry_eq]
  generalize (lg_sl ([.ref h0, .int 8]) ++ List.replicate (2 - (lg_sl ([.ref h0, .int 8])).length) Slot.unset).toArray = ls at hl ⊢
  have hl : lv_has ls 2 [(0, .ref h0), (1, .int 8)] := hl
  refine lv_iload_n hx hb dX9_told_0 rfl (lv_at hl 1 rfl) ?_
  refine lv_tableIn (tgt := 126) (off := 125) hx hb dX9_told_1 (by decide +kernel) (by decide +kernel) (by decide +kernel) (by decide) ?_
  refine lv_aload_n hx hb dX9_told_126 rfl (lv_at hl 0 rfl) ?_
  refine va_get (D := (dC, dI)) (ci := 9) (v := .int 0) (C := RX9) (T := TX9) (N := 15) hx hb hts inG9 hown hK hP 0 rfl rfl 5 (by decide) (hts _ k337) (fun _ h9 => h9) rfl dX9_told_127 ?_
  have hP9 := hP.sub (ws' := []) [] rfl
  have hD9 := hD.sub (ws' := []) [] (by decide) rfl
  have hK9 := hK.sub (tys' := []) [] rfl
  refine W.widen (k := 0) (n := 0) (by omega) (by omega) ?_
  exact W.iret (v := 0) hx hb hr (fun t ht hW => ⟨⟨0, (), rfl, rfl, by rw [ht]; exact hP9, va_K.moved hW.alike hK9, hD9⟩, hS.F ht⟩) hS.2.2 dX9_told_130
set_option maxHeartbeats 4000000 in
set_option maxRecDepth 100000 in
theorem c_told9 (l : Launch) (dC : Nat → ClassId) (dI : Nat → Nat → Nat) (sz : Nat) (h0 : Nat) (w1 : Nat) (w6 : Nat) (w8 : Nat) (w15 : Nat) (w22 : Nat) (w26 : Nat) (w31 : Nat) (w35 : Nat) (w40 : Nat) (w48 : Nat) (w50 : Nat) (w52 : Nat) (w9 : Nat) (w10 : Nat) (w11 : Nat) (w12 : Nat) (w13 : Nat) (w23 : Nat) (w24 : Nat) (w25 : Nat) (w2 : Nat) (w3 : Nat) (w4 : Nat) (d14 : ClassId)  : Met l yX9_told (Cond.code yX9_told cX9_told 2 (some .int) :: wsG) ({ frames := 2, cells := 0, slots := 0, locals := 37 } : Room) (va_Pc [.ref h0, .int 9] (fun U => U.heap.size = sz ∧ va_P (dC, dI) vwCl [(h0, .inr (9, [.ref w1, .ref w6, .int 0, .ref w8, .ref w15, .int 0, .int 0, .ref w22, .ref w26, .ref w31, .ref w35, .ref w40, .ref w48, .ref w50, .ref w52])), (w8, .inr (4, [.ref w9, .ref w10, .ref w11, .ref w12, .ref w13, .int 0, .int 0, .int 0])), (w11, .inl (d14, 1101, .inl (fun _ => 0))), (w22, .inr (3, [.ref w23, .ref w24, .ref w25, .int 0, .int 0])), (w1, .inr (5, [.ref w2, .int 0, .ref w3, .int 0, .ref w4, .int 0, .int (-1), .int 0]))] U.heap ∧ va_K (dC, dI) vwCl [(d14, .int)] U ∧ va_D (fun _ => True) [(h0, .inr (9, [.ref w1, .ref w6, .int 0, .ref w8, .ref w15, .int 0, .int 0, .ref w22, .ref w26, .ref w31, .ref w35, .ref w40, .ref w48, .ref w50, .ref w52])), (w8, .inr (4, [.ref w9, .ref w10, .ref w11, .ref w12, .ref w13, .int 0, .int 0, .int 0])), (w11, .inl (d14, 1101, .inl (fun _ => 0))), (w22, .inr (3, [.ref w23, .ref w24, .ref w25, .int 0, .int 0])), (w1, .inr (5, [.ref w2, .int 0, .ref w3, .int 0, .ref w4, .int 0, .int (-1), .int 0]))])) (va_Qi (fun (r : Int32) (_ : Unit) => r = 0) (fun (_ : Unit) (t : State) => va_P (dC, dI) vwCl [] t.heap ∧ va_K (dC, dI) vwCl [] t ∧ va_D (va_A [(h0, .inr (9, [.ref w1, .ref w6, .int 0, .ref w8, .ref w15, .int 0, .int 0, .ref w22, .ref w26, .ref w31, .ref w35, .ref w40, .ref w48, .ref w50, .ref w52])), (w8, .inr (4, [.ref w9, .ref w10, .ref w11, .ref w12, .ref w13, .int 0, .int 0, .int 0])), (w11, .inl (d14, 1101, .inl (fun _ => 0))), (w22, .inr (3, [.ref w23, .ref w24, .ref w25, .int 0, .int 0])), (w1, .inr (5, [.ref w2, .int 0, .ref w3, .int 0, .ref w4, .int 0, .int (-1), .int 0]))] sz) []) (va_A [(h0, .inr (9, [.ref w1, .ref w6, .int 0, .ref w8, .ref w15, .int 0, .int 0, .ref w22, .ref w26, .ref w31, .ref w35, .ref w40, .ref w48, .ref w50, .ref w52])), (w8, .inr (4, [.ref w9, .ref w10, .ref w11, .ref w12, .ref w13, .int 0, .int 0, .int 0])), (w11, .inl (d14, 1101, .inl (fun _ => 0))), (w22, .inr (3, [.ref w23, .ref w24, .ref w25, .int 0, .int 0])), (w1, .inr (5, [.ref w2, .int 0, .ref w3, .int 0, .ref w4, .int 0, .int (-1), .int 0]))] sz)) 0 0 (va_A [(h0, .inr (9, [.ref w1, .ref w6, .int 0, .ref w8, .ref w15, .int 0, .int 0, .ref w22, .ref w26, .ref w31, .ref w35, .ref w40, .ref w48, .ref w50, .ref w52])), (w8, .inr (4, [.ref w9, .ref w10, .ref w11, .ref w12, .ref w13, .int 0, .int 0, .int 0])), (w11, .inl (d14, 1101, .inl (fun _ => 0))), (w22, .inr (3, [.ref w23, .ref w24, .ref w25, .int 0, .int 0])), (w1, .inr (5, [.ref w2, .int 0, .ref w3, .int 0, .ref w4, .int 0, .int (-1), .int 0]))] sz) := by
  refine Met.ofW (cc := cX9_told) (maxL := 2) (ret := (some .int)) (by decide) rfl ?_
  intro p e s m args below meth c s₁ B hml hv
  obtain ⟨rfl, hsz, hP, hK, hD0⟩ := hv
  have hx := B.exec
  have hb := B.bytes
  have hr := B.returns
  have hts : ∀ w ∈ wsG, w.before _ s = true := hG_of (atoms_spec (ws := (Cond.code yX9_told cX9_told 2 (some .int) :: wsG)) B.pre)
  have hown : s.vm.findClass RX9 = some m.cls := findClass_of_methodNamed B.named
  have hlocks := B.notSynchronized
  subst hsz
  have hD := hD0.self (sz := s.heap.size)
  generalize hAe : va_A [(h0, .inr (9, [.ref w1, .ref w6, .int 0, .ref w8, .ref w15, .int 0, .int 0, .ref w22, .ref w26, .ref w31, .ref w35, .ref w40, .ref w48, .ref w50, .ref w52])), (w8, .inr (4, [.ref w9, .ref w10, .ref w11, .ref w12, .ref w13, .int 0, .int 0, .int 0])), (w11, .inl (d14, 1101, .inl (fun _ => 0))), (w22, .inr (3, [.ref w23, .ref w24, .ref w25, .int 0, .int 0])), (w1, .inr (5, [.ref w2, .int 0, .ref w3, .int 0, .ref w4, .int 0, .int (-1), .int 0]))] s.heap.size = A at hD ⊢
  have hA : ∀ q : Nat, s.heap.size ≤ q → A q := fun q h => by rw [← hAe]; exact Or.inr h
  have hS : va_S A s.heap s.heap [] := va_S.rf
  have hl := lv_entry ([.ref h0, .int 9]) (n := 2) (Nat.le_of_ble_eq_true rfl)
  rw [lg_entry_eq]
  generalize (lg_sl ([.ref h0, .int 9]) ++ List.replicate (2 - (lg_sl ([.ref h0, .int 9])).length) Slot.unset).toArray = ls at hl ⊢
  have hl : lv_has ls 2 [(0, .ref h0), (1, .int 9)] := hl
  refine lv_iload_n hx hb dX9_told_0 rfl (lv_at hl 1 rfl) ?_
  refine lv_tableIn (tgt := 131) (off := 130) hx hb dX9_told_1 (by decide +kernel) (by decide +kernel) (by decide +kernel) (by decide) ?_
  refine lv_aload_n hx hb dX9_told_131 rfl (lv_at hl 0 rfl) ?_
  refine va_get (D := (dC, dI)) (ci := 9) (v := .ref w1) (C := RX9) (T := TX9) (N := 15) hx hb hts inG9 hown hK hP 0 rfl rfl 0 (by decide) (hts _ k332) (fun _ h9 => h9) rfl dX9_told_132 ?_
  refine va_get (D := (dC, dI)) (ci := 5) (v := .int 0) (C := RX5) (T := TX5) (N := 8) hx hb hts inG5 hown hK hP 4 rfl rfl 1 (by decide) (hts _ k37) (fun _ h9 => h9) rfl dX9_told_135 ?_
  have hP9 := hP.sub (ws' := []) [] rfl
  have hD9 := hD.sub (ws' := []) [] (by decide) rfl
  have hK9 := hK.sub (tys' := []) [] rfl
  refine W.widen (k := 0) (n := 0) (by omega) (by omega) ?_
  exact W.iret (v := 0) hx hb hr (fun t ht hW => ⟨⟨0, (), rfl, rfl, by rw [ht]; exact hP9, va_K.moved hW.alike hK9, hD9⟩, hS.F ht⟩) hS.2.2 dX9_told_138
theorem c_told (l : Launch) (dC : Nat → ClassId) (dI : Nat → Nat → Nat) (sz : Nat) (h0 : Nat) (w1 : Nat) (w6 : Nat) (w8 : Nat) (w15 : Nat) (w22 : Nat) (w26 : Nat) (w31 : Nat) (w35 : Nat) (w40 : Nat) (w48 : Nat) (w50 : Nat) (w52 : Nat) (w9 : Nat) (w10 : Nat) (w11 : Nat) (w12 : Nat) (w13 : Nat) (w23 : Nat) (w24 : Nat) (w25 : Nat) (w2 : Nat) (w3 : Nat) (w4 : Nat) (d14 : ClassId) (p1 : Int32) (hq : ¬ p1 < 0 ∧ ¬ (9 : Int32) < p1) : Met l yX9_told (Cond.code yX9_told cX9_told 2 (some .int) :: wsG) ({ frames := 2, cells := 0, slots := 0, locals := 37 } : Room) (va_Pc [.ref h0, .int p1] (fun U => U.heap.size = sz ∧ va_P (dC, dI) vwCl [(h0, .inr (9, [.ref w1, .ref w6, .int 0, .ref w8, .ref w15, .int 0, .int 0, .ref w22, .ref w26, .ref w31, .ref w35, .ref w40, .ref w48, .ref w50, .ref w52])), (w8, .inr (4, [.ref w9, .ref w10, .ref w11, .ref w12, .ref w13, .int 0, .int 0, .int 0])), (w11, .inl (d14, 1101, .inl (fun _ => 0))), (w22, .inr (3, [.ref w23, .ref w24, .ref w25, .int 0, .int 0])), (w1, .inr (5, [.ref w2, .int 0, .ref w3, .int 0, .ref w4, .int 0, .int (-1), .int 0]))] U.heap ∧ va_K (dC, dI) vwCl [(d14, .int)] U ∧ va_D (fun _ => True) [(h0, .inr (9, [.ref w1, .ref w6, .int 0, .ref w8, .ref w15, .int 0, .int 0, .ref w22, .ref w26, .ref w31, .ref w35, .ref w40, .ref w48, .ref w50, .ref w52])), (w8, .inr (4, [.ref w9, .ref w10, .ref w11, .ref w12, .ref w13, .int 0, .int 0, .int 0])), (w11, .inl (d14, 1101, .inl (fun _ => 0))), (w22, .inr (3, [.ref w23, .ref w24, .ref w25, .int 0, .int 0])), (w1, .inr (5, [.ref w2, .int 0, .ref w3, .int 0, .ref w4, .int 0, .int (-1), .int 0]))])) (va_Qi (fun (r : Int32) (_ : Unit) => r = 0) (fun (_ : Unit) (t : State) => va_P (dC, dI) vwCl [] t.heap ∧ va_K (dC, dI) vwCl [] t ∧ va_D (va_A [(h0, .inr (9, [.ref w1, .ref w6, .int 0, .ref w8, .ref w15, .int 0, .int 0, .ref w22, .ref w26, .ref w31, .ref w35, .ref w40, .ref w48, .ref w50, .ref w52])), (w8, .inr (4, [.ref w9, .ref w10, .ref w11, .ref w12, .ref w13, .int 0, .int 0, .int 0])), (w11, .inl (d14, 1101, .inl (fun _ => 0))), (w22, .inr (3, [.ref w23, .ref w24, .ref w25, .int 0, .int 0])), (w1, .inr (5, [.ref w2, .int 0, .ref w3, .int 0, .ref w4, .int 0, .int (-1), .int 0]))] sz) []) (va_A [(h0, .inr (9, [.ref w1, .ref w6, .int 0, .ref w8, .ref w15, .int 0, .int 0, .ref w22, .ref w26, .ref w31, .ref w35, .ref w40, .ref w48, .ref w50, .ref w52])), (w8, .inr (4, [.ref w9, .ref w10, .ref w11, .ref w12, .ref w13, .int 0, .int 0, .int 0])), (w11, .inl (d14, 1101, .inl (fun _ => 0))), (w22, .inr (3, [.ref w23, .ref w24, .ref w25, .int 0, .int 0])), (w1, .inr (5, [.ref w2, .int 0, .ref w3, .int 0, .ref w4, .int 0, .int (-1), .int 0]))] sz)) 0 0 (va_A [(h0, .inr (9, [.ref w1, .ref w6, .int 0, .ref w8, .ref w15, .int 0, .int 0, .ref w22, .ref w26, .ref w31, .ref w35, .ref w40, .ref w48, .ref w50, .ref w52])), (w8, .inr (4, [.ref w9, .ref w10, .ref w11, .ref w12, .ref w13, .int 0, .int 0, .int 0])), (w11, .inl (d14, 1101, .inl (fun _ => 0))), (w22, .inr (3, [.ref w23, .ref w24, .ref w25, .int 0, .int 0])), (w1, .inr (5, [.ref w2, .int 0, .ref w3, .int 0, .ref w4, .int 0, .int (-1), .int 0]))] sz) := by
  rcases (show p1 = 0 ∨ p1 = 1 ∨ p1 = 2 ∨ p1 = 3 ∨ p1 = 4 ∨ p1 = 5 ∨ p1 = 6 ∨ p1 = 7 ∨ p1 = 8 ∨ p1 = 9 from x_cases10 hq) with rfl | rfl | rfl | rfl | rfl | rfl | rfl | rfl | rfl | rfl
  · exact c_told0 l dC dI sz h0 w1 w6 w8 w15 w22 w26 w31 w35 w40 w48 w50 w52 w9 w10 w11 w12 w13 w23 w24 w25 w2 w3 w4 d14
  · exact c_told1 l dC dI sz h0 w1 w6 w8 w15 w22 w26 w31 w35 w40 w48 w50 w52 w9 w10 w11 w12 w13 w23 w24 w25 w2 w3 w4 d14
  · exact c_told2 l dC dI sz h0 w1 w6 w8 w15 w22 w26 w31 w35 w40 w48 w50 w52 w9 w10 w11 w12 w13 w23 w24 w25 w2 w3 w4 d14
  · exact c_told3 l dC dI sz h0 w1 w6 w8 w15 w22 w26 w31 w35 w40 w48 w50 w52 w9 w10 w11 w12 w13 w23 w24 w25 w2 w3 w4 d14
  · exact c_told4 l dC dI sz h0 w1 w6 w8 w15 w22 w26 w31 w35 w40 w48 w50 w52 w9 w10 w11 w12 w13 w23 w24 w25 w2 w3 w4 d14
  · exact c_told5 l dC dI sz h0 w1 w6 w8 w15 w22 w26 w31 w35 w40 w48 w50 w52 w9 w10 w11 w12 w13 w23 w24 w25 w2 w3 w4 d14
  · exact c_told6 l dC dI sz h0 w1 w6 w8 w15 w22 w26 w31 w35 w40 w48 w50 w52 w9 w10 w11 w12 w13 w23 w24 w25 w2 w3 w4 d14
  · exact c_told7 l dC dI sz h0 w1 w6 w8 w15 w22 w26 w31 w35 w40 w48 w50 w52 w9 w10 w11 w12 w13 w23 w24 w25 w2 w3 w4 d14
  · exact c_told8 l dC dI sz h0 w1 w6 w8 w15 w22 w26 w31 w35 w40 w48 w50 w52 w9 w10 w11 w12 w13 w23 w24 w25 w2 w3 w4 d14
  · exact c_told9 l dC dI sz h0 w1 w6 w8 w15 w22 w26 w31 w35 w40 w48 w50 w52 w9 w10 w11 w12 w13 w23 w24 w25 w2 w3 w4 d14

set_option maxHeartbeats 4000000 in
set_option maxRecDepth 100000 in
theorem c_firm0 (l : Launch) (dC : Nat → ClassId) (dI : Nat → Nat → Nat) (sz : Nat) (h0 : Nat) (w1 : Nat) (w6 : Nat) (w8 : Nat) (w15 : Nat) (w22 : Nat) (w26 : Nat) (w31 : Nat) (w35 : Nat) (w40 : Nat) (w48 : Nat) (w50 : Nat) (w52 : Nat) (w9 : Nat) (w10 : Nat) (w11 : Nat) (w12 : Nat) (w13 : Nat)  : Met l yX9_firm (Cond.code yX9_firm cX9_firm 2 (some .int) :: wsG) ({ frames := 2, cells := 0, slots := 0, locals := 41 } : Room) (va_Pc [.ref h0, .int 0] (fun U => U.heap.size = sz ∧ va_P (dC, dI) vwCl [(h0, .inr (9, [.ref w1, .ref w6, .int 0, .ref w8, .ref w15, .int 0, .int 0, .ref w22, .ref w26, .ref w31, .ref w35, .ref w40, .ref w48, .ref w50, .ref w52])), (w8, .inr (4, [.ref w9, .ref w10, .ref w11, .ref w12, .ref w13, .int 0, .int 0, .int 0]))] U.heap ∧ va_K (dC, dI) vwCl [] U ∧ va_D (fun _ => True) [(h0, .inr (9, [.ref w1, .ref w6, .int 0, .ref w8, .ref w15, .int 0, .int 0, .ref w22, .ref w26, .ref w31, .ref w35, .ref w40, .ref w48, .ref w50, .ref w52])), (w8, .inr (4, [.ref w9, .ref w10, .ref w11, .ref w12, .ref w13, .int 0, .int 0, .int 0]))])) (va_Qi (fun (r : Int32) (_ : Unit) => r = 0) (fun (_ : Unit) (t : State) => va_P (dC, dI) vwCl [] t.heap ∧ va_K (dC, dI) vwCl [] t ∧ va_D (va_A [(h0, .inr (9, [.ref w1, .ref w6, .int 0, .ref w8, .ref w15, .int 0, .int 0, .ref w22, .ref w26, .ref w31, .ref w35, .ref w40, .ref w48, .ref w50, .ref w52])), (w8, .inr (4, [.ref w9, .ref w10, .ref w11, .ref w12, .ref w13, .int 0, .int 0, .int 0]))] sz) []) (va_A [(h0, .inr (9, [.ref w1, .ref w6, .int 0, .ref w8, .ref w15, .int 0, .int 0, .ref w22, .ref w26, .ref w31, .ref w35, .ref w40, .ref w48, .ref w50, .ref w52])), (w8, .inr (4, [.ref w9, .ref w10, .ref w11, .ref w12, .ref w13, .int 0, .int 0, .int 0]))] sz)) 0 0 (va_A [(h0, .inr (9, [.ref w1, .ref w6, .int 0, .ref w8, .ref w15, .int 0, .int 0, .ref w22, .ref w26, .ref w31, .ref w35, .ref w40, .ref w48, .ref w50, .ref w52])), (w8, .inr (4, [.ref w9, .ref w10, .ref w11, .ref w12, .ref w13, .int 0, .int 0, .int 0]))] sz) := by
  refine Met.ofW (cc := cX9_firm) (maxL := 2) (ret := (some .int)) (by decide) rfl ?_
  intro p e s m args below meth c s₁ B hml hv
  obtain ⟨rfl, hsz, hP, hK, hD0⟩ := hv
  have hx := B.exec
  have hb := B.bytes
  have hr := B.returns
  have hts : ∀ w ∈ wsG, w.before _ s = true := hG_of (atoms_spec (ws := (Cond.code yX9_firm cX9_firm 2 (some .int) :: wsG)) B.pre)
  have hown : s.vm.findClass RX9 = some m.cls := findClass_of_methodNamed B.named
  have hlocks := B.notSynchronized
  subst hsz
  have hD := hD0.self (sz := s.heap.size)
  generalize hAe : va_A [(h0, .inr (9, [.ref w1, .ref w6, .int 0, .ref w8, .ref w15, .int 0, .int 0, .ref w22, .ref w26, .ref w31, .ref w35, .ref w40, .ref w48, .ref w50, .ref w52])), (w8, .inr (4, [.ref w9, .ref w10, .ref w11, .ref w12, .ref w13, .int 0, .int 0, .int 0]))] s.heap.size = A at hD ⊢
  have hA : ∀ q : Nat, s.heap.size ≤ q → A q := fun q h => by rw [← hAe]; exact Or.inr h
  have hS : va_S A s.heap s.heap [] := va_S.rf
  have hl := lv_entry ([.ref h0, .int 0]) (n := 2) (Nat.le_of_ble_eq_true rfl)
  rw [lg_entry_eq]
  generalize (lg_sl ([.ref h0, .int 0]) ++ List.replicate (2 - (lg_sl ([.ref h0, .int 0])).length) Slot.unset).toArray = ls at hl ⊢
  have hl : lv_has ls 2 [(0, .ref h0), (1, .int 0)] := hl
  refine lv_aload_n hx hb dX9_firm_0 rfl (lv_at hl 0 rfl) ?_
  refine lv_iload_n hx hb dX9_firm_1 rfl (lv_at hl 1 rfl) ?_
  refine lv_if_lt (tgt := 14) hx hb dX9_firm_2 (by decide) (fun c9 => absurd c9 (by decide +kernel)) (fun _ => ?_)
  refine lv_iload_n hx hb dX9_firm_5 rfl (lv_at hl 1 rfl) ?_
  refine lv_iconst (v := 2) hx hb dX9_firm_6 (by decide) ?_
  refine lv_icmp_gt (tgt := 14) hx hb dX9_firm_7 (by decide) (fun c9 => absurd c9 (by decide +kernel)) (fun _ => ?_)
  refine lv_iconst (v := 1) hx hb dX9_firm_10 (by decide) ?_
  refine lv_goto (tgt := 15) hx hb dX9_firm_11 (by decide) ?_
  have hPc := hP.sub (ws' := [(h0, .inr (9, [.ref w1, .ref w6, .int 0, .ref w8, .ref w15, .int 0, .int 0, .ref w22, .ref w26, .ref w31, .ref w35, .ref w40, .ref w48, .ref w50, .ref w52]))]) [0] rfl
  have hDc := hD.sub (ws' := [(h0, .inr (9, [.ref w1, .ref w6, .int 0, .ref w8, .ref w15, .int 0, .int 0, .ref w22, .ref w26, .ref w31, .ref w35, .ref w40, .ref w48, .ref w50, .ref w52]))]) [0] (by decide) rfl
  have hKc := hK.sub (tys' := []) [] rfl
  have hFc := va_free (wc := [(h0, .inr (9, [.ref w1, .ref w6, .int 0, .ref w8, .ref w15, .int 0, .int 0, .ref w22, .ref w26, .ref w31, .ref w35, .ref w40, .ref w48, .ref w50, .ref w52]))]) hD hS hA [0] rfl
  refine va_callv (va_runV (As := [.int 1]) (rest := []) ⟨hx, hb, hml, hown, hts⟩ (c_needArg1 l dC dI s.heap.size (h0) (w1) (w6) (w8) (w15) (w22) (w26) (w31) (w35) (w40) (w48) (w50) (w52)) (cwV 1 hts (gV_G k596 k598 ks_yX9_needArgument k1 k599) rfl rfl rfl (by decide +kernel) ⟨Nat.le_of_ble_eq_true rfl, Nat.le_of_ble_eq_true rfl⟩) ⟨fun a U g mk q => by obtain ⟨q0, q1, qP, qK, qD⟩ := q; exact ⟨q0, q1, qP, va_K.moved (u := U) (U := U.calling g mk a) (Vm.Alike.refl U.vm) qK, qD⟩, va_recv hKc hPc (ci := 9) (q0 := 0) rfl rfl, fun U hU hW => ⟨rfl, by rw [hU], by rw [hU]; exact hPc, va_K.moved hW.alike hKc, hDc.weaken (fun _ _ _ _ => trivial)⟩⟩ rfl rfl hl.1 rfl (lv_room (Nat.le_of_ble_eq_true rfl)) dX9_firm_15 ⟨Nat.le_of_ble_eq_true rfl, Nat.le_of_ble_eq_true rfl⟩) hS (fun q _ h => hFc q h) hFc (fun u t H1 locs ht hvm hw hB hz1 hk1 hS => ?_)
  obtain ⟨hP1, hK1, hD1⟩ := hB
  rw [ht] at hP1
  have hK1 := va_K.moved hvm.symm hK1
  try dsimp only at hw
  obtain ⟨hP, hD⟩ := va_join (wr := [(w8, .inr (4, [.ref w9, .ref w10, .ref w11, .ref w12, .ref w13, .int 0, .int 0, .int 0]))]) (w1 := [(h0, .inr (9, [.ref w1, .ref w6, .int 0, .ref w8, .ref w15, .int 0, .int 0, .ref w22, .ref w26, .ref w31, .ref w35, .ref w40, .ref w48, .ref w50, .ref w52]))]) hP hD [0] [1] rfl rfl (by decide) (by decide) hk1 hFc hP1 hD1
  have hK := hK.app hK1
  generalize H1 = H at hP hS ⊢
  have hP : va_P (dC, dI) vwCl [(w8, .inr (4, [.ref w9, .ref w10, .ref w11, .ref w12, .ref w13, .int 0, .int 0, .int 0])), (h0, .inr (9, [.ref w1, .ref w6, .int 0, .ref w8, .ref w15, .int 0, .int 0, .ref w22, .ref w26, .ref w31, .ref w35, .ref w40, .ref w48, .ref w50, .ref w52]))] H := hP
  have hD : va_D A [(w8, .inr (4, [.ref w9, .ref w10, .ref w11, .ref w12, .ref w13, .int 0, .int 0, .int 0])), (h0, .inr (9, [.ref w1, .ref w6, .int 0, .ref w8, .ref w15, .int 0, .int 0, .ref w22, .ref w26, .ref w31, .ref w35, .ref w40, .ref w48, .ref w50, .ref w52]))] := hD
  have hK : va_K (dC, dI) vwCl [] s := hK
  refine W.widen (k := 0) (n := 0) (by omega) (by omega) ?_
  refine lv_aload_n hx hb dX9_firm_18 rfl (lv_at hl 0 rfl) ?_
  refine va_get (D := (dC, dI)) (ci := 9) (v := .ref w8) (C := RX9) (T := TX9) (N := 15) hx hb hts inG9 hown hK hP 1 rfl rfl 3 (by decide) (hts _ k335) (fun _ h9 => h9) rfl dX9_firm_19 ?_
  refine lv_iload_n hx hb dX9_firm_22 rfl (lv_at hl 1 rfl) ?_
  refine lv_iconst (v := 1) hx hb dX9_firm_23 (by decide) ?_
  refine lv_icmp_eq (tgt := 31) hx hb dX9_firm_24 (by decide) (fun c9 => absurd c9 (by decide +kernel)) (fun _ => ?_)
  refine lv_iconst (v := 1) hx hb dX9_firm_27 (by decide) ?_
  refine lv_goto (tgt := 32) hx hb dX9_firm_28 (by decide) ?_
  refine lv_iload_n hx hb dX9_firm_32 rfl (lv_at hl 1 rfl) ?_
  refine lv_if_eq (tgt := 40) hx hb dX9_firm_33 (by decide) (fun _ => ?_) (fun c9 => absurd (by decide +kernel) c9)
  refine lv_iconst (v := 0) hx hb dX9_firm_40 (by decide) ?_
  refine lv_iconst (v := 0) hx hb dX9_firm_41 (by decide) ?_
  have hPc := hP.sub (ws' := [(w8, .inr (4, [.ref w9, .ref w10, .ref w11, .ref w12, .ref w13, .int 0, .int 0, .int 0]))]) [0] rfl
  have hDc := hD.sub (ws' := [(w8, .inr (4, [.ref w9, .ref w10, .ref w11, .ref w12, .ref w13, .int 0, .int 0, .int 0]))]) [0] (by decide) rfl
  have hKc := hK.sub (tys' := []) [] rfl
  have hFc := va_free (wc := [(w8, .inr (4, [.ref w9, .ref w10, .ref w11, .ref w12, .ref w13, .int 0, .int 0, .int 0]))]) hD hS hA [0] rfl
  refine va_calli (va_runV (As := [.int 1, .int 0, .int 0]) (rest := []) ⟨hx, hb, hml, hown, hts⟩ (c_countLeaves l dC dI H.size (w8) (w9) (w10) (w11) (w12) (w13) (1) (0) (0)) (cwV 3 hts (gV_G k527 k528 k529 k3 k530) rfl rfl rfl (by decide +kernel) ⟨Nat.le_of_ble_eq_true rfl, Nat.le_of_ble_eq_true rfl⟩) ⟨fun a U g mk q => by obtain ⟨q0, q1, qP, qK, qD⟩ := q; exact ⟨q0, q1, qP, va_K.moved (u := U) (U := U.calling g mk a) (Vm.Alike.refl U.vm) qK, qD⟩, va_recv hKc hPc (ci := 4) (q0 := 0) rfl rfl, fun U hU hW => ⟨rfl, by rw [hU], by rw [hU]; exact hPc, va_K.moved hW.alike hKc, hDc.weaken (fun _ _ _ _ => trivial)⟩⟩ rfl rfl hl.1 rfl (lv_room (Nat.le_of_ble_eq_true rfl)) dX9_firm_42 ⟨Nat.le_of_ble_eq_true rfl, Nat.le_of_ble_eq_true rfl⟩) hS (fun q _ h => hFc q h) hFc (fun r1 u t H1 locs ht hvm hw hB hz1 hk1 hS => ?_)
  obtain ⟨hP1, hK1, hD1⟩ := hB
  rw [ht] at hP1
  have hK1 := va_K.moved hvm.symm hK1
  try dsimp only at hw
  obtain ⟨hP, hD⟩ := va_join (wr := [(h0, .inr (9, [.ref w1, .ref w6, .int 0, .ref w8, .ref w15, .int 0, .int 0, .ref w22, .ref w26, .ref w31, .ref w35, .ref w40, .ref w48, .ref w50, .ref w52]))]) (w1 := [(w8, .inr (4, [.ref w9, .ref w10, .ref w11, .ref w12, .ref w13, .int 0, .int 0, .int 0]))]) hP hD [0] [1] rfl rfl (by decide) (by decide) hk1 hFc hP1 hD1
  have hK := hK.app hK1
  generalize H1 = H at hP hS ⊢
  have hP : va_P (dC, dI) vwCl [(h0, .inr (9, [.ref w1, .ref w6, .int 0, .ref w8, .ref w15, .int 0, .int 0, .ref w22, .ref w26, .ref w31, .ref w35, .ref w40, .ref w48, .ref w50, .ref w52])), (w8, .inr (4, [.ref w9, .ref w10, .ref w11, .ref w12, .ref w13, .int 0, .int 0, .int 0]))] H := hP
  have hD : va_D A [(h0, .inr (9, [.ref w1, .ref w6, .int 0, .ref w8, .ref w15, .int 0, .int 0, .ref w22, .ref w26, .ref w31, .ref w35, .ref w40, .ref w48, .ref w50, .ref w52])), (w8, .inr (4, [.ref w9, .ref w10, .ref w11, .ref w12, .ref w13, .int 0, .int 0, .int 0]))] := hD
  have hK : va_K (dC, dI) vwCl [] s := hK
  refine W.widen (k := 0) (n := 0) (by omega) (by omega) ?_
  obtain rfl : r1 = 0 := hw
  have hP9 := hP.sub (ws' := []) [] rfl
  have hD9 := hD.sub (ws' := []) [] (by decide) rfl
  have hK9 := hK.sub (tys' := []) [] rfl
  refine W.widen (k := 0) (n := 0) (by omega) (by omega) ?_
  exact W.iret (v := 0) hx hb hr (fun t ht hW => ⟨⟨0, (), rfl, rfl, by rw [ht]; exact hP9, va_K.moved hW.alike hK9, hD9⟩, hS.F ht⟩) hS.2.2 dX9_firm_45
set_option maxHeartbeats 4000000 in
set_option maxRecDepth 100000 in
theorem c_firm1 (l : Launch) (dC : Nat → ClassId) (dI : Nat → Nat → Nat) (sz : Nat) (h0 : Nat) (w1 : Nat) (w6 : Nat) (w8 : Nat) (w15 : Nat) (w22 : Nat) (w26 : Nat) (w31 : Nat) (w35 : Nat) (w40 : Nat) (w48 : Nat) (w50 : Nat) (w52 : Nat) (w9 : Nat) (w10 : Nat) (w11 : Nat) (w12 : Nat) (w13 : Nat)  : Met l yX9_firm (Cond.code yX9_firm cX9_firm 2 (some .int) :: wsG) ({ frames := 2, cells := 0, slots := 0, locals := 41 } : Room) (va_Pc [.ref h0, .int 1] (fun U => U.heap.size = sz ∧ va_P (dC, dI) vwCl [(h0, .inr (9, [.ref w1, .ref w6, .int 0, .ref w8, .ref w15, .int 0, .int 0, .ref w22, .ref w26, .ref w31, .ref w35, .ref w40, .ref w48, .ref w50, .ref w52])), (w8, .inr (4, [.ref w9, .ref w10, .ref w11, .ref w12, .ref w13, .int 0, .int 0, .int 0]))] U.heap ∧ va_K (dC, dI) vwCl [] U ∧ va_D (fun _ => True) [(h0, .inr (9, [.ref w1, .ref w6, .int 0, .ref w8, .ref w15, .int 0, .int 0, .ref w22, .ref w26, .ref w31, .ref w35, .ref w40, .ref w48, .ref w50, .ref w52])), (w8, .inr (4, [.ref w9, .ref w10, .ref w11, .ref w12, .ref w13, .int 0, .int 0, .int 0]))])) (va_Qi (fun (r : Int32) (_ : Unit) => r = 0) (fun (_ : Unit) (t : State) => va_P (dC, dI) vwCl [] t.heap ∧ va_K (dC, dI) vwCl [] t ∧ va_D (va_A [(h0, .inr (9, [.ref w1, .ref w6, .int 0, .ref w8, .ref w15, .int 0, .int 0, .ref w22, .ref w26, .ref w31, .ref w35, .ref w40, .ref w48, .ref w50, .ref w52])), (w8, .inr (4, [.ref w9, .ref w10, .ref w11, .ref w12, .ref w13, .int 0, .int 0, .int 0]))] sz) []) (va_A [(h0, .inr (9, [.ref w1, .ref w6, .int 0, .ref w8, .ref w15, .int 0, .int 0, .ref w22, .ref w26, .ref w31, .ref w35, .ref w40, .ref w48, .ref w50, .ref w52])), (w8, .inr (4, [.ref w9, .ref w10, .ref w11, .ref w12, .ref w13, .int 0, .int 0, .int 0]))] sz)) 0 0 (va_A [(h0, .inr (9, [.ref w1, .ref w6, .int 0, .ref w8, .ref w15, .int 0, .int 0, .ref w22, .ref w26, .ref w31, .ref w35, .ref w40, .ref w48, .ref w50, .ref w52])), (w8, .inr (4, [.ref w9, .ref w10, .ref w11, .ref w12, .ref w13, .int 0, .int 0, .int 0]))] sz) := by
  refine Met.ofW (cc := cX9_firm) (maxL := 2) (ret := (some .int)) (by decide) rfl ?_
  intro p e s m args below meth c s₁ B hml hv
  obtain ⟨rfl, hsz, hP, hK, hD0⟩ := hv
  have hx := B.exec
  have hb := B.bytes
  have hr := B.returns
  have hts : ∀ w ∈ wsG, w.before _ s = true := hG_of (atoms_spec (ws := (Cond.code yX9_firm cX9_firm 2 (some .int) :: wsG)) B.pre)
  have hown : s.vm.findClass RX9 = some m.cls := findClass_of_methodNamed B.named
  have hlocks := B.notSynchronized
  subst hsz
  have hD := hD0.self (sz := s.heap.size)
  generalize hAe : va_A [(h0, .inr (9, [.ref w1, .ref w6, .int 0, .ref w8, .ref w15, .int 0, .int 0, .ref w22, .ref w26, .ref w31, .ref w35, .ref w40, .ref w48, .ref w50, .ref w52])), (w8, .inr (4, [.ref w9, .ref w10, .ref w11, .ref w12, .ref w13, .int 0, .int 0, .int 0]))] s.heap.size = A at hD ⊢
  have hA : ∀ q : Nat, s.heap.size ≤ q → A q := fun q h => by rw [← hAe]; exact Or.inr h
  have hS : va_S A s.heap s.heap [] := va_S.rf
  have hl := lv_entry ([.ref h0, .int 1]) (n := 2) (Nat.le_of_ble_eq_true rfl)
  rw [lg_entry_eq]
  generalize (lg_sl ([.ref h0, .int 1]) ++ List.replicate (2 - (lg_sl ([.ref h0, .int 1])).length) Slot.unset).toArray = ls at hl ⊢
  have hl : lv_has ls 2 [(0, .ref h0), (1, .int 1)] := hl
  refine lv_aload_n hx hb dX9_firm_0 rfl (lv_at hl 0 rfl) ?_
  refine lv_iload_n hx hb dX9_firm_1 rfl (lv_at hl 1 rfl) ?_
  refine lv_if_lt (tgt := 14) hx hb dX9_firm_2 (by decide) (fun c9 => absurd c9 (by decide +kernel)) (fun _ => ?_)
  refine lv_iload_n hx hb dX9_firm_5 rfl (lv_at hl 1 rfl) ?_
  refine lv_iconst (v := 2) hx hb dX9_firm_6 (by decide) ?_
  refine lv_icmp_gt (tgt := 14) hx hb dX9_firm_7 (by decide) (fun c9 => absurd c9 (by decide +kernel)) (fun _ => ?_)
  refine lv_iconst (v := 1) hx hb dX9_firm_10 (by decide) ?_
  refine lv_goto (tgt := 15) hx hb dX9_firm_11 (by decide) ?_
  have hPc := hP.sub (ws' := [(h0, .inr (9, [.ref w1, .ref w6, .int 0, .ref w8, .ref w15, .int 0, .int 0, .ref w22, .ref w26, .ref w31, .ref w35, .ref w40, .ref w48, .ref w50, .ref w52]))]) [0] rfl
  have hDc := hD.sub (ws' := [(h0, .inr (9, [.ref w1, .ref w6, .int 0, .ref w8, .ref w15, .int 0, .int 0, .ref w22, .ref w26, .ref w31, .ref w35, .ref w40, .ref w48, .ref w50, .ref w52]))]) [0] (by decide) rfl
  have hKc := hK.sub (tys' := []) [] rfl
  have hFc := va_free (wc := [(h0, .inr (9, [.ref w1, .ref w6, .int 0, .ref w8, .ref w15, .int 0, .int 0, .ref w22, .ref w26, .ref w31, .ref w35, .ref w40, .ref w48, .ref w50, .ref w52]))]) hD hS hA [0] rfl
  refine va_callv (va_runV (As := [.int 1]) (rest := []) ⟨hx, hb, hml, hown, hts⟩ (c_needArg1 l dC dI s.heap.size (h0) (w1) (w6) (w8) (w15) (w22) (w26) (w31) (w35) (w40) (w48) (w50) (w52)) (cwV 1 hts (gV_G k596 k598 ks_yX9_needArgument k1 k599) rfl rfl rfl (by decide +kernel) ⟨Nat.le_of_ble_eq_true rfl, Nat.le_of_ble_eq_true rfl⟩) ⟨fun a U g mk q => by obtain ⟨q0, q1, qP, qK, qD⟩ := q; exact ⟨q0, q1, qP, va_K.moved (u := U) (U := U.calling g mk a) (Vm.Alike.refl U.vm) qK, qD⟩, va_recv hKc hPc (ci := 9) (q0 := 0) rfl rfl, fun U hU hW => ⟨rfl, by rw [hU], by rw [hU]; exact hPc, va_K.moved hW.alike hKc, hDc.weaken (fun _ _ _ _ => trivial)⟩⟩ rfl rfl hl.1 rfl (lv_room (Nat.le_of_ble_eq_true rfl)) dX9_firm_15 ⟨Nat.le_of_ble_eq_true rfl, Nat.le_of_ble_eq_true rfl⟩) hS (fun q _ h => hFc q h) hFc (fun u t H1 locs ht hvm hw hB hz1 hk1 hS => ?_)
  obtain ⟨hP1, hK1, hD1⟩ := hB
  rw [ht] at hP1
  have hK1 := va_K.moved hvm.symm hK1
  try dsimp only at hw
  obtain ⟨hP, hD⟩ := va_join (wr := [(w8, .inr (4, [.ref w9, .ref w10, .ref w11, .ref w12, .ref w13, .int 0, .int 0, .int 0]))]) (w1 := [(h0, .inr (9, [.ref w1, .ref w6, .int 0, .ref w8, .ref w15, .int 0, .int 0, .ref w22, .ref w26, .ref w31, .ref w35, .ref w40, .ref w48, .ref w50, .ref w52]))]) hP hD [0] [1] rfl rfl (by decide) (by decide) hk1 hFc hP1 hD1
  have hK := hK.app hK1
  generalize H1 = H at hP hS ⊢
  have hP : va_P (dC, dI) vwCl [(w8, .inr (4, [.ref w9, .ref w10, .ref w11, .ref w12, .ref w13, .int 0, .int 0, .int 0])), (h0, .inr (9, [.ref w1, .ref w6, .int 0, .ref w8, .ref w15, .int 0, .int 0, .ref w22, .ref w26, .ref w31, .ref w35, .ref w40, .ref w48, .ref w50, .ref w52]))] H := hP
  have hD : va_D A [(w8, .inr (4, [.ref w9, .ref w10, .ref w11, .ref w12, .ref w13, .int 0, .int 0, .int 0])), (h0, .inr (9, [.ref w1, .ref w6, .int 0, .ref w8, .ref w15, .int 0, .int 0, .ref w22, .ref w26, .ref w31, .ref w35, .ref w40, .ref w48, .ref w50, .ref w52]))] := hD
  have hK : va_K (dC, dI) vwCl [] s := hK
  refine W.widen (k := 0) (n := 0) (by omega) (by omega) ?_
  refine lv_aload_n hx hb dX9_firm_18 rfl (lv_at hl 0 rfl) ?_
  refine va_get (D := (dC, dI)) (ci := 9) (v := .ref w8) (C := RX9) (T := TX9) (N := 15) hx hb hts inG9 hown hK hP 1 rfl rfl 3 (by decide) (hts _ k335) (fun _ h9 => h9) rfl dX9_firm_19 ?_
  refine lv_iload_n hx hb dX9_firm_22 rfl (lv_at hl 1 rfl) ?_
  refine lv_iconst (v := 1) hx hb dX9_firm_23 (by decide) ?_
  refine lv_icmp_eq (tgt := 31) hx hb dX9_firm_24 (by decide) (fun _ => ?_) (fun c9 => absurd (by decide +kernel) c9)
  refine lv_iconst (v := 0) hx hb dX9_firm_31 (by decide) ?_
  refine lv_iload_n hx hb dX9_firm_32 rfl (lv_at hl 1 rfl) ?_
  refine lv_if_eq (tgt := 40) hx hb dX9_firm_33 (by decide) (fun c9 => absurd c9 (by decide +kernel)) (fun _ => ?_)
  refine lv_iconst (v := 1) hx hb dX9_firm_36 (by decide) ?_
  refine lv_goto (tgt := 41) hx hb dX9_firm_37 (by decide) ?_
  refine lv_iconst (v := 0) hx hb dX9_firm_41 (by decide) ?_
  have hPc := hP.sub (ws' := [(w8, .inr (4, [.ref w9, .ref w10, .ref w11, .ref w12, .ref w13, .int 0, .int 0, .int 0]))]) [0] rfl
  have hDc := hD.sub (ws' := [(w8, .inr (4, [.ref w9, .ref w10, .ref w11, .ref w12, .ref w13, .int 0, .int 0, .int 0]))]) [0] (by decide) rfl
  have hKc := hK.sub (tys' := []) [] rfl
  have hFc := va_free (wc := [(w8, .inr (4, [.ref w9, .ref w10, .ref w11, .ref w12, .ref w13, .int 0, .int 0, .int 0]))]) hD hS hA [0] rfl
  refine va_calli (va_runV (As := [.int 0, .int 1, .int 0]) (rest := []) ⟨hx, hb, hml, hown, hts⟩ (c_countLeaves l dC dI H.size (w8) (w9) (w10) (w11) (w12) (w13) (0) (1) (0)) (cwV 3 hts (gV_G k527 k528 k529 k3 k530) rfl rfl rfl (by decide +kernel) ⟨Nat.le_of_ble_eq_true rfl, Nat.le_of_ble_eq_true rfl⟩) ⟨fun a U g mk q => by obtain ⟨q0, q1, qP, qK, qD⟩ := q; exact ⟨q0, q1, qP, va_K.moved (u := U) (U := U.calling g mk a) (Vm.Alike.refl U.vm) qK, qD⟩, va_recv hKc hPc (ci := 4) (q0 := 0) rfl rfl, fun U hU hW => ⟨rfl, by rw [hU], by rw [hU]; exact hPc, va_K.moved hW.alike hKc, hDc.weaken (fun _ _ _ _ => trivial)⟩⟩ rfl rfl hl.1 rfl (lv_room (Nat.le_of_ble_eq_true rfl)) dX9_firm_42 ⟨Nat.le_of_ble_eq_true rfl, Nat.le_of_ble_eq_true rfl⟩) hS (fun q _ h => hFc q h) hFc (fun r1 u t H1 locs ht hvm hw hB hz1 hk1 hS => ?_)
  obtain ⟨hP1, hK1, hD1⟩ := hB
  rw [ht] at hP1
  have hK1 := va_K.moved hvm.symm hK1
  try dsimp only at hw
  obtain ⟨hP, hD⟩ := va_join (wr := [(h0, .inr (9, [.ref w1, .ref w6, .int 0, .ref w8, .ref w15, .int 0, .int 0, .ref w22, .ref w26, .ref w31, .ref w35, .ref w40, .ref w48, .ref w50, .ref w52]))]) (w1 := [(w8, .inr (4, [.ref w9, .ref w10, .ref w11, .ref w12, .ref w13, .int 0, .int 0, .int 0]))]) hP hD [0] [1] rfl rfl (by decide) (by decide) hk1 hFc hP1 hD1
  have hK := hK.app hK1
  generalize H1 = H at hP hS ⊢
  have hP : va_P (dC, dI) vwCl [(h0, .inr (9, [.ref w1, .ref w6, .int 0, .ref w8, .ref w15, .int 0, .int 0, .ref w22, .ref w26, .ref w31, .ref w35, .ref w40, .ref w48, .ref w50, .ref w52])), (w8, .inr (4, [.ref w9, .ref w10, .ref w11, .ref w12, .ref w13, .int 0, .int 0, .int 0]))] H := hP
  have hD : va_D A [(h0, .inr (9, [.ref w1, .ref w6, .int 0, .ref w8, .ref w15, .int 0, .int 0, .ref w22, .ref w26, .ref w31, .ref w35, .ref w40, .ref w48, .ref w50, .ref w52])), (w8, .inr (4, [.ref w9, .ref w10, .ref w11, .ref w12, .ref w13, .int 0, .int 0, .int 0]))] := hD
  have hK : va_K (dC, dI) vwCl [] s := hK
  refine W.widen (k := 0) (n := 0) (by omega) (by omega) ?_
  obtain rfl : r1 = 0 := hw
  have hP9 := hP.sub (ws' := []) [] rfl
  have hD9 := hD.sub (ws' := []) [] (by decide) rfl
  have hK9 := hK.sub (tys' := []) [] rfl
  refine W.widen (k := 0) (n := 0) (by omega) (by omega) ?_
  exact W.iret (v := 0) hx hb hr (fun t ht hW => ⟨⟨0, (), rfl, rfl, by rw [ht]; exact hP9, va_K.moved hW.alike hK9, hD9⟩, hS.F ht⟩) hS.2.2 dX9_firm_45
set_option maxHeartbeats 4000000 in
set_option maxRecDepth 100000 in
theorem c_firm2 (l : Launch) (dC : Nat → ClassId) (dI : Nat → Nat → Nat) (sz : Nat) (h0 : Nat) (w1 : Nat) (w6 : Nat) (w8 : Nat) (w15 : Nat) (w22 : Nat) (w26 : Nat) (w31 : Nat) (w35 : Nat) (w40 : Nat) (w48 : Nat) (w50 : Nat) (w52 : Nat) (w9 : Nat) (w10 : Nat) (w11 : Nat) (w12 : Nat) (w13 : Nat)  : Met l yX9_firm (Cond.code yX9_firm cX9_firm 2 (some .int) :: wsG) ({ frames := 2, cells := 0, slots := 0, locals := 41 } : Room) (va_Pc [.ref h0, .int 2] (fun U => U.heap.size = sz ∧ va_P (dC, dI) vwCl [(h0, .inr (9, [.ref w1, .ref w6, .int 0, .ref w8, .ref w15, .int 0, .int 0, .ref w22, .ref w26, .ref w31, .ref w35, .ref w40, .ref w48, .ref w50, .ref w52])), (w8, .inr (4, [.ref w9, .ref w10, .ref w11, .ref w12, .ref w13, .int 0, .int 0, .int 0]))] U.heap ∧ va_K (dC, dI) vwCl [] U ∧ va_D (fun _ => True) [(h0, .inr (9, [.ref w1, .ref w6, .int 0, .ref w8, .ref w15, .int 0, .int 0, .ref w22, .ref w26, .ref w31, .ref w35, .ref w40, .ref w48, .ref w50, .ref w52])), (w8, .inr (4, [.ref w9, .ref w10, .ref w11, .ref w12, .ref w13, .int 0, .int 0, .int 0]))])) (va_Qi (fun (r : Int32) (_ : Unit) => r = 0) (fun (_ : Unit) (t : State) => va_P (dC, dI) vwCl [] t.heap ∧ va_K (dC, dI) vwCl [] t ∧ va_D (va_A [(h0, .inr (9, [.ref w1, .ref w6, .int 0, .ref w8, .ref w15, .int 0, .int 0, .ref w22, .ref w26, .ref w31, .ref w35, .ref w40, .ref w48, .ref w50, .ref w52])), (w8, .inr (4, [.ref w9, .ref w10, .ref w11, .ref w12, .ref w13, .int 0, .int 0, .int 0]))] sz) []) (va_A [(h0, .inr (9, [.ref w1, .ref w6, .int 0, .ref w8, .ref w15, .int 0, .int 0, .ref w22, .ref w26, .ref w31, .ref w35, .ref w40, .ref w48, .ref w50, .ref w52])), (w8, .inr (4, [.ref w9, .ref w10, .ref w11, .ref w12, .ref w13, .int 0, .int 0, .int 0]))] sz)) 0 0 (va_A [(h0, .inr (9, [.ref w1, .ref w6, .int 0, .ref w8, .ref w15, .int 0, .int 0, .ref w22, .ref w26, .ref w31, .ref w35, .ref w40, .ref w48, .ref w50, .ref w52])), (w8, .inr (4, [.ref w9, .ref w10, .ref w11, .ref w12, .ref w13, .int 0, .int 0, .int 0]))] sz) := by
  refine Met.ofW (cc := cX9_firm) (maxL := 2) (ret := (some .int)) (by decide) rfl ?_
  intro p e s m args below meth c s₁ B hml hv
  obtain ⟨rfl, hsz, hP, hK, hD0⟩ := hv
  have hx := B.exec
  have hb := B.bytes
  have hr := B.returns
  have hts : ∀ w ∈ wsG, w.before _ s = true := hG_of (atoms_spec (ws := (Cond.code yX9_firm cX9_firm 2 (some .int) :: wsG)) B.pre)
  have hown : s.vm.findClass RX9 = some m.cls := findClass_of_methodNamed B.named
  have hlocks := B.notSynchronized
  subst hsz
  have hD := hD0.self (sz := s.heap.size)
  generalize hAe : va_A [(h0, .inr (9, [.ref w1, .ref w6, .int 0, .ref w8, .ref w15, .int 0, .int 0, .ref w22, .ref w26, .ref w31, .ref w35, .ref w40, .ref w48, .ref w50, .ref w52])), (w8, .inr (4, [.ref w9, .ref w10, .ref w11, .ref w12, .ref w13, .int 0, .int 0, .int 0]))] s.heap.size = A at hD ⊢
  have hA : ∀ q : Nat, s.heap.size ≤ q → A q := fun q h => by rw [← hAe]; exact Or.inr h
  have hS : va_S A s.heap s.heap [] := va_S.rf
  have hl := lv_entry ([.ref h0, .int 2]) (n := 2) (Nat.le_of_ble_eq_true rfl)
  rw [lg_entry_eq]
  generalize (lg_sl ([.ref h0, .int 2]) ++ List.replicate (2 - (lg_sl ([.ref h0, .int 2])).length) Slot.unset).toArray = ls at hl ⊢
  have hl : lv_has ls 2 [(0, .ref h0), (1, .int 2)] := hl
  refine lv_aload_n hx hb dX9_firm_0 rfl (lv_at hl 0 rfl) ?_
  refine lv_iload_n hx hb dX9_firm_1 rfl (lv_at hl 1 rfl) ?_
  refine lv_if_lt (tgt := 14) hx hb dX9_firm_2 (by decide) (fun c9 => absurd c9 (by decide +kernel)) (fun _ => ?_)
  refine lv_iload_n hx hb dX9_firm_5 rfl (lv_at hl 1 rfl) ?_
  refine lv_iconst (v := 2) hx hb dX9_firm_6 (by decide) ?_
  refine lv_icmp_gt (tgt := 14) hx hb dX9_firm_7 (by decide) (fun c9 => absurd c9 (by decide +kernel)) (fun _ => ?_)
  refine lv_iconst (v := 1) hx hb dX9_firm_10 (by decide) ?_
  refine lv_goto (tgt := 15) hx hb dX9_firm_11 (by decide) ?_
  have hPc := hP.sub (ws' := [(h0, .inr (9, [.ref w1, .ref w6, .int 0, .ref w8, .ref w15, .int 0, .int 0, .ref w22, .ref w26, .ref w31, .ref w35, .ref w40, .ref w48, .ref w50, .ref w52]))]) [0] rfl
  have hDc := hD.sub (ws' := [(h0, .inr (9, [.ref w1, .ref w6, .int 0, .ref w8, .ref w15, .int 0, .int 0, .ref w22, .ref w26, .ref w31, .ref w35, .ref w40, .ref w48, .ref w50, .ref w52]))]) [0] (by decide) rfl
  have hKc := hK.sub (tys' := []) [] rfl
  have hFc := va_free (wc := [(h0, .inr (9, [.ref w1, .ref w6, .int 0, .ref w8, .ref w15, .int 0, .int 0, .ref w22, .ref w26, .ref w31, .ref w35, .ref w40, .ref w48, .ref w50, .ref w52]))]) hD hS hA [0] rfl
  refine va_callv (va_runV (As := [.int 1]) (rest := []) ⟨hx, hb, hml, hown, hts⟩ (c_needArg1 l dC dI s.heap.size (h0) (w1) (w6) (w8) (w15) (w22) (w26) (w31) (w35) (w40) (w48) (w50) (w52)) (cwV 1 hts (gV_G k596 k598 ks_yX9_needArgument k1 k599) rfl rfl rfl (by decide +kernel) ⟨Nat.le_of_ble_eq_true rfl, Nat.le_of_ble_eq_true rfl⟩) ⟨fun a U g mk q => by obtain ⟨q0, q1, qP, qK, qD⟩ := q; exact ⟨q0, q1, qP, va_K.moved (u := U) (U := U.calling g mk a) (Vm.Alike.refl U.vm) qK, qD⟩, va_recv hKc hPc (ci := 9) (q0 := 0) rfl rfl, fun U hU hW => ⟨rfl, by rw [hU], by rw [hU]; exact hPc, va_K.moved hW.alike hKc, hDc.weaken (fun _ _ _ _ => trivial)⟩⟩ rfl rfl hl.1 rfl (lv_room (Nat.le_of_ble_eq_true rfl)) dX9_firm_15 ⟨Nat.le_of_ble_eq_true rfl, Nat.le_of_ble_eq_true rfl⟩) hS (fun q _ h => hFc q h) hFc (fun u t H1 locs ht hvm hw hB hz1 hk1 hS => ?_)
  obtain ⟨hP1, hK1, hD1⟩ := hB
  rw [ht] at hP1
  have hK1 := va_K.moved hvm.symm hK1
  try dsimp only at hw
  obtain ⟨hP, hD⟩ := va_join (wr := [(w8, .inr (4, [.ref w9, .ref w10, .ref w11, .ref w12, .ref w13, .int 0, .int 0, .int 0]))]) (w1 := [(h0, .inr (9, [.ref w1, .ref w6, .int 0, .ref w8, .ref w15, .int 0, .int 0, .ref w22, .ref w26, .ref w31, .ref w35, .ref w40, .ref w48, .ref w50, .ref w52]))]) hP hD [0] [1] rfl rfl (by decide) (by decide) hk1 hFc hP1 hD1
  have hK := hK.app hK1
  generalize H1 = H at hP hS ⊢
  have hP : va_P (dC, dI) vwCl [(w8, .inr (4, [.ref w9, .ref w10, .ref w11, .ref w12, .ref w13, .int 0, .int 0, .int 0])), (h0, .inr (9, [.ref w1, .ref w6, .int 0, .ref w8, .ref w15, .int 0, .int 0, .ref w22, .ref w26, .ref w31, .ref w35, .ref w40, .ref w48, .ref w50, .ref w52]))] H := hP
  have hD : va_D A [(w8, .inr (4, [.ref w9, .ref w10, .ref w11, .ref w12, .ref w13, .int 0, .int 0, .int 0])), (h0, .inr (9, [.ref w1, .ref w6, .int 0, .ref w8, .ref w15, .int 0, .int 0, .ref w22, .ref w26, .ref w31, .ref w35, .ref w40, .ref w48, .ref w50, .ref w52]))] := hD
  have hK : va_K (dC, dI) vwCl [] s := hK
  refine W.widen (k := 0) (n := 0) (by omega) (by omega) ?_
  refine lv_aload_n hx hb dX9_firm_18 rfl (lv_at hl 0 rfl) ?_
  refine va_get (D := (dC, dI)) (ci := 9) (v := .ref w8) (C := RX9) (T := TX9) (N := 15) hx hb hts inG9 hown hK hP 1 rfl rfl 3 (by decide) (hts _ k335) (fun _ h9 => h9) rfl dX9_firm_19 ?_
  refine lv_iload_n hx hb dX9_firm_22 rfl (lv_at hl 1 rfl) ?_
  refine lv_iconst (v := 1) hx hb dX9_firm_23 (by decide) ?_
  refine lv_icmp_eq (tgt := 31) hx hb dX9_firm_24 (by decide) (fun c9 => absurd c9 (by decide +kernel)) (fun _ => ?_)
  refine lv_iconst (v := 1) hx hb dX9_firm_27 (by decide) ?_
  refine lv_goto (tgt := 32) hx hb dX9_firm_28 (by decide) ?_
  refine lv_iload_n hx hb dX9_firm_32 rfl (lv_at hl 1 rfl) ?_
  refine lv_if_eq (tgt := 40) hx hb dX9_firm_33 (by decide) (fun c9 => absurd c9 (by decide +kernel)) (fun _ => ?_)
  refine lv_iconst (v := 1) hx hb dX9_firm_36 (by decide) ?_
  refine lv_goto (tgt := 41) hx hb dX9_firm_37 (by decide) ?_
  refine lv_iconst (v := 0) hx hb dX9_firm_41 (by decide) ?_
  have hPc := hP.sub (ws' := [(w8, .inr (4, [.ref w9, .ref w10, .ref w11, .ref w12, .ref w13, .int 0, .int 0, .int 0]))]) [0] rfl
  have hDc := hD.sub (ws' := [(w8, .inr (4, [.ref w9, .ref w10, .ref w11, .ref w12, .ref w13, .int 0, .int 0, .int 0]))]) [0] (by decide) rfl
  have hKc := hK.sub (tys' := []) [] rfl
  have hFc := va_free (wc := [(w8, .inr (4, [.ref w9, .ref w10, .ref w11, .ref w12, .ref w13, .int 0, .int 0, .int 0]))]) hD hS hA [0] rfl
  refine va_calli (va_runV (As := [.int 1, .int 1, .int 0]) (rest := []) ⟨hx, hb, hml, hown, hts⟩ (c_countLeaves l dC dI H.size (w8) (w9) (w10) (w11) (w12) (w13) (1) (1) (0)) (cwV 3 hts (gV_G k527 k528 k529 k3 k530) rfl rfl rfl (by decide +kernel) ⟨Nat.le_of_ble_eq_true rfl, Nat.le_of_ble_eq_true rfl⟩) ⟨fun a U g mk q => by obtain ⟨q0, q1, qP, qK, qD⟩ := q; exact ⟨q0, q1, qP, va_K.moved (u := U) (U := U.calling g mk a) (Vm.Alike.refl U.vm) qK, qD⟩, va_recv hKc hPc (ci := 4) (q0 := 0) rfl rfl, fun U hU hW => ⟨rfl, by rw [hU], by rw [hU]; exact hPc, va_K.moved hW.alike hKc, hDc.weaken (fun _ _ _ _ => trivial)⟩⟩ rfl rfl hl.1 rfl (lv_room (Nat.le_of_ble_eq_true rfl)) dX9_firm_42 ⟨Nat.le_of_ble_eq_true rfl, Nat.le_of_ble_eq_true rfl⟩) hS (fun q _ h => hFc q h) hFc (fun r1 u t H1 locs ht hvm hw hB hz1 hk1 hS => ?_)
  obtain ⟨hP1, hK1, hD1⟩ := hB
  rw [ht] at hP1
  have hK1 := va_K.moved hvm.symm hK1
  try dsimp only at hw
  obtain ⟨hP, hD⟩ := va_join (wr := [(h0, .inr (9, [.ref w1, .ref w6, .int 0, .ref w8, .ref w15, .int 0, .int 0, .ref w22, .ref w26, .ref w31, .ref w35, .ref w40, .ref w48, .ref w50, .ref w52]))]) (w1 := [(w8, .inr (4, [.ref w9, .ref w10, .ref w11, .ref w12, .ref w13, .int 0, .int 0, .int 0]))]) hP hD [0] [1] rfl rfl (by decide) (by decide) hk1 hFc hP1 hD1
  have hK := hK.app hK1
  generalize H1 = H at hP hS ⊢
  have hP : va_P (dC, dI) vwCl [(h0, .inr (9, [.ref w1, .ref w6, .int 0, .ref w8, .ref w15, .int 0, .int 0, .ref w22, .ref w26, .ref w31, .ref w35, .ref w40, .ref w48, .ref w50, .ref w52])), (w8, .inr (4, [.ref w9, .ref w10, .ref w11, .ref w12, .ref w13, .int 0, .int 0, .int 0]))] H := hP
  have hD : va_D A [(h0, .inr (9, [.ref w1, .ref w6, .int 0, .ref w8, .ref w15, .int 0, .int 0, .ref w22, .ref w26, .ref w31, .ref w35, .ref w40, .ref w48, .ref w50, .ref w52])), (w8, .inr (4, [.ref w9, .ref w10, .ref w11, .ref w12, .ref w13, .int 0, .int 0, .int 0]))] := hD
  have hK : va_K (dC, dI) vwCl [] s := hK
  refine W.widen (k := 0) (n := 0) (by omega) (by omega) ?_
  obtain rfl : r1 = 0 := hw
  have hP9 := hP.sub (ws' := []) [] rfl
  have hD9 := hD.sub (ws' := []) [] (by decide) rfl
  have hK9 := hK.sub (tys' := []) [] rfl
  refine W.widen (k := 0) (n := 0) (by omega) (by omega) ?_
  exact W.iret (v := 0) hx hb hr (fun t ht hW => ⟨⟨0, (), rfl, rfl, by rw [ht]; exact hP9, va_K.moved hW.alike hK9, hD9⟩, hS.F ht⟩) hS.2.2 dX9_firm_45
theorem c_firm (l : Launch) (dC : Nat → ClassId) (dI : Nat → Nat → Nat) (sz : Nat) (h0 : Nat) (w1 : Nat) (w6 : Nat) (w8 : Nat) (w15 : Nat) (w22 : Nat) (w26 : Nat) (w31 : Nat) (w35 : Nat) (w40 : Nat) (w48 : Nat) (w50 : Nat) (w52 : Nat) (w9 : Nat) (w10 : Nat) (w11 : Nat) (w12 : Nat) (w13 : Nat) (p1 : Int32) (hq : ¬ p1 < 0 ∧ ¬ (2 : Int32) < p1) : Met l yX9_firm (Cond.code yX9_firm cX9_firm 2 (some .int) :: wsG) ({ frames := 2, cells := 0, slots := 0, locals := 41 } : Room) (va_Pc [.ref h0, .int p1] (fun U => U.heap.size = sz ∧ va_P (dC, dI) vwCl [(h0, .inr (9, [.ref w1, .ref w6, .int 0, .ref w8, .ref w15, .int 0, .int 0, .ref w22, .ref w26, .ref w31, .ref w35, .ref w40, .ref w48, .ref w50, .ref w52])), (w8, .inr (4, [.ref w9, .ref w10, .ref w11, .ref w12, .ref w13, .int 0, .int 0, .int 0]))] U.heap ∧ va_K (dC, dI) vwCl [] U ∧ va_D (fun _ => True) [(h0, .inr (9, [.ref w1, .ref w6, .int 0, .ref w8, .ref w15, .int 0, .int 0, .ref w22, .ref w26, .ref w31, .ref w35, .ref w40, .ref w48, .ref w50, .ref w52])), (w8, .inr (4, [.ref w9, .ref w10, .ref w11, .ref w12, .ref w13, .int 0, .int 0, .int 0]))])) (va_Qi (fun (r : Int32) (_ : Unit) => r = 0) (fun (_ : Unit) (t : State) => va_P (dC, dI) vwCl [] t.heap ∧ va_K (dC, dI) vwCl [] t ∧ va_D (va_A [(h0, .inr (9, [.ref w1, .ref w6, .int 0, .ref w8, .ref w15, .int 0, .int 0, .ref w22, .ref w26, .ref w31, .ref w35, .ref w40, .ref w48, .ref w50, .ref w52])), (w8, .inr (4, [.ref w9, .ref w10, .ref w11, .ref w12, .ref w13, .int 0, .int 0, .int 0]))] sz) []) (va_A [(h0, .inr (9, [.ref w1, .ref w6, .int 0, .ref w8, .ref w15, .int 0, .int 0, .ref w22, .ref w26, .ref w31, .ref w35, .ref w40, .ref w48, .ref w50, .ref w52])), (w8, .inr (4, [.ref w9, .ref w10, .ref w11, .ref w12, .ref w13, .int 0, .int 0, .int 0]))] sz)) 0 0 (va_A [(h0, .inr (9, [.ref w1, .ref w6, .int 0, .ref w8, .ref w15, .int 0, .int 0, .ref w22, .ref w26, .ref w31, .ref w35, .ref w40, .ref w48, .ref w50, .ref w52])), (w8, .inr (4, [.ref w9, .ref w10, .ref w11, .ref w12, .ref w13, .int 0, .int 0, .int 0]))] sz) := by
  rcases (show p1 = 0 ∨ p1 = 1 ∨ p1 = 2 from x_cases3 hq) with rfl | rfl | rfl
  · exact c_firm0 l dC dI sz h0 w1 w6 w8 w15 w22 w26 w31 w35 w40 w48 w50 w52 w9 w10 w11 w12 w13
  · exact c_firm1 l dC dI sz h0 w1 w6 w8 w15 w22 w26 w31 w35 w40 w48 w50 w52 w9 w10 w11 w12 w13
  · exact c_firm2 l dC dI sz h0 w1 w6 w8 w15 w22 w26 w31 w35 w40 w48 w50 w52 w9 w10 w11 w12 w13

set_option maxHeartbeats 4000000 in
set_option maxRecDepth 100000 in
theorem c_shortest (l : Launch) (dC : Nat → ClassId) (dI : Nat → Nat → Nat) (sz : Nat) (h0 : Nat) (w1 : Nat) (w6 : Nat) (w8 : Nat) (w15 : Nat) (w22 : Nat) (w26 : Nat) (w31 : Nat) (w35 : Nat) (w40 : Nat) (w48 : Nat) (w50 : Nat) (w52 : Nat) (w9 : Nat) (w10 : Nat) (w11 : Nat) (w12 : Nat) (w13 : Nat)  : Met l yX9_shortest (Cond.code yX9_shortest cX9_shortest 1 (some .int) :: wsG) ({ frames := 2, cells := 0, slots := 0, locals := 41 } : Room) (va_Pc [.ref h0] (fun U => U.heap.size = sz ∧ va_P (dC, dI) vwCl [(h0, .inr (9, [.ref w1, .ref w6, .int 0, .ref w8, .ref w15, .int 0, .int 0, .ref w22, .ref w26, .ref w31, .ref w35, .ref w40, .ref w48, .ref w50, .ref w52])), (w8, .inr (4, [.ref w9, .ref w10, .ref w11, .ref w12, .ref w13, .int 0, .int 0, .int 0]))] U.heap ∧ va_K (dC, dI) vwCl [] U ∧ va_D (fun _ => True) [(h0, .inr (9, [.ref w1, .ref w6, .int 0, .ref w8, .ref w15, .int 0, .int 0, .ref w22, .ref w26, .ref w31, .ref w35, .ref w40, .ref w48, .ref w50, .ref w52])), (w8, .inr (4, [.ref w9, .ref w10, .ref w11, .ref w12, .ref w13, .int 0, .int 0, .int 0]))])) (va_Qi (fun (r : Int32) (_ : Unit) => r = 0) (fun (_ : Unit) (t : State) => va_P (dC, dI) vwCl [] t.heap ∧ va_K (dC, dI) vwCl [] t ∧ va_D (va_A [(h0, .inr (9, [.ref w1, .ref w6, .int 0, .ref w8, .ref w15, .int 0, .int 0, .ref w22, .ref w26, .ref w31, .ref w35, .ref w40, .ref w48, .ref w50, .ref w52])), (w8, .inr (4, [.ref w9, .ref w10, .ref w11, .ref w12, .ref w13, .int 0, .int 0, .int 0]))] sz) []) (va_A [(h0, .inr (9, [.ref w1, .ref w6, .int 0, .ref w8, .ref w15, .int 0, .int 0, .ref w22, .ref w26, .ref w31, .ref w35, .ref w40, .ref w48, .ref w50, .ref w52])), (w8, .inr (4, [.ref w9, .ref w10, .ref w11, .ref w12, .ref w13, .int 0, .int 0, .int 0]))] sz)) 0 0 (va_A [(h0, .inr (9, [.ref w1, .ref w6, .int 0, .ref w8, .ref w15, .int 0, .int 0, .ref w22, .ref w26, .ref w31, .ref w35, .ref w40, .ref w48, .ref w50, .ref w52])), (w8, .inr (4, [.ref w9, .ref w10, .ref w11, .ref w12, .ref w13, .int 0, .int 0, .int 0]))] sz) := by
  refine Met.ofW (cc := cX9_shortest) (maxL := 1) (ret := (some .int)) (by decide) rfl ?_
  intro p e s m args below meth c s₁ B hml hv
  obtain ⟨rfl, hsz, hP, hK, hD0⟩ := hv
  have hx := B.exec
  have hb := B.bytes
  have hr := B.returns
  have hts : ∀ w ∈ wsG, w.before _ s = true := hG_of (atoms_spec (ws := (Cond.code yX9_shortest cX9_shortest 1 (some .int) :: wsG)) B.pre)
  have hown : s.vm.findClass RX9 = some m.cls := findClass_of_methodNamed B.named
  have hlocks := B.notSynchronized
  subst hsz
  have hD := hD0.self (sz := s.heap.size)
  generalize hAe : va_A [(h0, .inr (9, [.ref w1, .ref w6, .int 0, .ref w8, .ref w15, .int 0, .int 0, .ref w22, .ref w26, .ref w31, .ref w35, .ref w40, .ref w48, .ref w50, .ref w52])), (w8, .inr (4, [.ref w9, .ref w10, .ref w11, .ref w12, .ref w13, .int 0, .int 0, .int 0]))] s.heap.size = A at hD ⊢
  have hA : ∀ q : Nat, s.heap.size ≤ q → A q := fun q h => by rw [← hAe]; exact Or.inr h
  have hS : va_S A s.heap s.heap [] := va_S.rf
  have hl := lv_entry ([.ref h0]) (n := 1) (Nat.le_of_ble_eq_true rfl)
  rw [lg_entry_eq]
  generalize (lg_sl ([.ref h0]) ++ List.replicate (1 - (lg_sl ([.ref h0])).length) Slot.unset).toArray = ls at hl ⊢
  have hl : lv_has ls 1 [(0, .ref h0)] := hl
  refine lv_aload_n hx hb dX9_shortest_0 rfl (lv_at hl 0 rfl) ?_
  refine va_get (D := (dC, dI)) (ci := 9) (v := .ref w8) (C := RX9) (T := TX9) (N := 15) hx hb hts inG9 hown hK hP 0 rfl rfl 3 (by decide) (hts _ k335) (fun _ h9 => h9) rfl dX9_shortest_1 ?_
  refine lv_iconst (v := 1) hx hb dX9_shortest_4 (by decide) ?_
  refine lv_iconst (v := 0) hx hb dX9_shortest_5 (by decide) ?_
  refine lv_iconst (v := 1) hx hb dX9_shortest_6 (by decide) ?_
  have hPc := hP.sub (ws' := [(w8, .inr (4, [.ref w9, .ref w10, .ref w11, .ref w12, .ref w13, .int 0, .int 0, .int 0]))]) [1] rfl
  have hDc := hD.sub (ws' := [(w8, .inr (4, [.ref w9, .ref w10, .ref w11, .ref w12, .ref w13, .int 0, .int 0, .int 0]))]) [1] (by decide) rfl
  have hKc := hK.sub (tys' := []) [] rfl
  have hFc := va_free (wc := [(w8, .inr (4, [.ref w9, .ref w10, .ref w11, .ref w12, .ref w13, .int 0, .int 0, .int 0]))]) hD hS hA [1] rfl
  refine va_calli (va_runV (As := [.int 1, .int 0, .int 1]) (rest := []) ⟨hx, hb, hml, hown, hts⟩ (c_countLeaves l dC dI s.heap.size (w8) (w9) (w10) (w11) (w12) (w13) (1) (0) (1)) (cwV 3 hts (gV_G k527 k528 k529 k3 k530) rfl rfl rfl (by decide +kernel) ⟨Nat.le_of_ble_eq_true rfl, Nat.le_of_ble_eq_true rfl⟩) ⟨fun a U g mk q => by obtain ⟨q0, q1, qP, qK, qD⟩ := q; exact ⟨q0, q1, qP, va_K.moved (u := U) (U := U.calling g mk a) (Vm.Alike.refl U.vm) qK, qD⟩, va_recv hKc hPc (ci := 4) (q0 := 0) rfl rfl, fun U hU hW => ⟨rfl, by rw [hU], by rw [hU]; exact hPc, va_K.moved hW.alike hKc, hDc.weaken (fun _ _ _ _ => trivial)⟩⟩ rfl rfl hl.1 rfl (lv_room (Nat.le_of_ble_eq_true rfl)) dX9_shortest_7 ⟨Nat.le_of_ble_eq_true rfl, Nat.le_of_ble_eq_true rfl⟩) hS (fun q _ h => hFc q h) hFc (fun r1 u t H1 locs ht hvm hw hB hz1 hk1 hS => ?_)
  obtain ⟨hP1, hK1, hD1⟩ := hB
  rw [ht] at hP1
  have hK1 := va_K.moved hvm.symm hK1
  try dsimp only at hw
  obtain ⟨hP, hD⟩ := va_join (wr := [(h0, .inr (9, [.ref w1, .ref w6, .int 0, .ref w8, .ref w15, .int 0, .int 0, .ref w22, .ref w26, .ref w31, .ref w35, .ref w40, .ref w48, .ref w50, .ref w52]))]) (w1 := [(w8, .inr (4, [.ref w9, .ref w10, .ref w11, .ref w12, .ref w13, .int 0, .int 0, .int 0]))]) hP hD [1] [0] rfl rfl (by decide) (by decide) hk1 hFc hP1 hD1
  have hK := hK.app hK1
  generalize H1 = H at hP hS ⊢
  have hP : va_P (dC, dI) vwCl [(h0, .inr (9, [.ref w1, .ref w6, .int 0, .ref w8, .ref w15, .int 0, .int 0, .ref w22, .ref w26, .ref w31, .ref w35, .ref w40, .ref w48, .ref w50, .ref w52])), (w8, .inr (4, [.ref w9, .ref w10, .ref w11, .ref w12, .ref w13, .int 0, .int 0, .int 0]))] H := hP
  have hD : va_D A [(h0, .inr (9, [.ref w1, .ref w6, .int 0, .ref w8, .ref w15, .int 0, .int 0, .ref w22, .ref w26, .ref w31, .ref w35, .ref w40, .ref w48, .ref w50, .ref w52])), (w8, .inr (4, [.ref w9, .ref w10, .ref w11, .ref w12, .ref w13, .int 0, .int 0, .int 0]))] := hD
  have hK : va_K (dC, dI) vwCl [] s := hK
  refine W.widen (k := 0) (n := 0) (by omega) (by omega) ?_
  obtain rfl : r1 = 0 := hw
  have hP9 := hP.sub (ws' := []) [] rfl
  have hD9 := hD.sub (ws' := []) [] (by decide) rfl
  have hK9 := hK.sub (tys' := []) [] rfl
  refine W.widen (k := 0) (n := 0) (by omega) (by omega) ?_
  exact W.iret (v := 0) hx hb hr (fun t ht hW => ⟨⟨0, (), rfl, rfl, by rw [ht]; exact hP9, va_K.moved hW.alike hK9, hD9⟩, hS.F ht⟩) hS.2.2 dX9_shortest_10
set_option maxHeartbeats 4000000 in
set_option maxRecDepth 100000 in
theorem c_fitting (l : Launch) (dC : Nat → ClassId) (dI : Nat → Nat → Nat) (sz : Nat) (h0 : Nat) (w1 : Nat) (w6 : Nat) (w8 : Nat) (w15 : Nat) (w22 : Nat) (w26 : Nat) (w31 : Nat) (w35 : Nat) (w40 : Nat) (w48 : Nat) (w50 : Nat) (w52 : Nat)  : Met l yX9_fitting (Cond.code yX9_fitting cX9_fitting 3 (some .int) :: wsG) ({ frames := 1, cells := 0, slots := 0, locals := 14 } : Room) (va_Pc [.ref h0] (fun U => U.heap.size = sz ∧ va_P (dC, dI) vwCl [(h0, .inr (9, [.ref w1, .ref w6, .int 0, .ref w8, .ref w15, .int 0, .int 0, .ref w22, .ref w26, .ref w31, .ref w35, .ref w40, .ref w48, .ref w50, .ref w52]))] U.heap ∧ va_K (dC, dI) vwCl [] U ∧ va_D (fun _ => True) [(h0, .inr (9, [.ref w1, .ref w6, .int 0, .ref w8, .ref w15, .int 0, .int 0, .ref w22, .ref w26, .ref w31, .ref w35, .ref w40, .ref w48, .ref w50, .ref w52]))])) (va_Qi (fun (r : Int32) (_ : Unit) => r = 0) (fun (_ : Unit) (t : State) => va_P (dC, dI) vwCl [] t.heap ∧ va_K (dC, dI) vwCl [] t ∧ va_D (va_A [(h0, .inr (9, [.ref w1, .ref w6, .int 0, .ref w8, .ref w15, .int 0, .int 0, .ref w22, .ref w26, .ref w31, .ref w35, .ref w40, .ref w48, .ref w50, .ref w52]))] sz) []) (va_A [(h0, .inr (9, [.ref w1, .ref w6, .int 0, .ref w8, .ref w15, .int 0, .int 0, .ref w22, .ref w26, .ref w31, .ref w35, .ref w40, .ref w48, .ref w50, .ref w52]))] sz)) 0 0 (va_A [(h0, .inr (9, [.ref w1, .ref w6, .int 0, .ref w8, .ref w15, .int 0, .int 0, .ref w22, .ref w26, .ref w31, .ref w35, .ref w40, .ref w48, .ref w50, .ref w52]))] sz) := by
  refine Met.ofW (cc := cX9_fitting) (maxL := 3) (ret := (some .int)) (by decide) rfl ?_
  intro p e s m args below meth c s₁ B hml hv
  obtain ⟨rfl, hsz, hP, hK, hD0⟩ := hv
  have hx := B.exec
  have hb := B.bytes
  have hr := B.returns
  have hts : ∀ w ∈ wsG, w.before _ s = true := hG_of (atoms_spec (ws := (Cond.code yX9_fitting cX9_fitting 3 (some .int) :: wsG)) B.pre)
  have hown : s.vm.findClass RX9 = some m.cls := findClass_of_methodNamed B.named
  have hlocks := B.notSynchronized
  subst hsz
  have hD := hD0.self (sz := s.heap.size)
  generalize hAe : va_A [(h0, .inr (9, [.ref w1, .ref w6, .int 0, .ref w8, .ref w15, .int 0, .int 0, .ref w22, .ref w26, .ref w31, .ref w35, .ref w40, .ref w48, .ref w50, .ref w52]))] s.heap.size = A at hD ⊢
  have hA : ∀ q : Nat, s.heap.size ≤ q → A q := fun q h => by rw [← hAe]; exact Or.inr h
  have hS : va_S A s.heap s.heap [] := va_S.rf
  have hl := lv_entry ([.ref h0]) (n := 3) (Nat.le_of_ble_eq_true rfl)
  rw [lg_entry_eq]
  generalize (lg_sl ([.ref h0]) ++ List.replicate (3 - (lg_sl ([.ref h0])).length) Slot.unset).toArray = ls at hl ⊢
  have hl : lv_has ls 3 [(0, .ref h0)] := hl
  refine lv_iconst (v := 0) hx hb dX9_fitting_0 (by decide) ?_
  refine lv_istore_n (lv' := [(1, .int 0), (0, .ref h0)]) hx hb dX9_fitting_1 rfl hl (by decide) rfl (fun ls hl => ?_)
  refine lv_iconst (v := 0) hx hb dX9_fitting_2 (by decide) ?_
  refine lv_istore_n (lv' := [(2, .int 0), (1, .int 0), (0, .ref h0)]) hx hb dX9_fitting_3 rfl hl (by decide) rfl (fun ls hl => ?_)
  refine lv_iload_n hx hb dX9_fitting_4 rfl (lv_at hl 0 rfl) ?_
  refine lv_aload_n hx hb dX9_fitting_5 rfl (lv_at hl 2 rfl) ?_
  refine va_get (D := (dC, dI)) (ci := 9) (v := .int 0) (C := RX9) (T := TX9) (N := 15) hx hb hts inG9 hown hK hP 0 rfl rfl 2 (by decide) (hts _ k334) (fun _ h9 => h9) rfl dX9_fitting_6 ?_
  refine lv_icmp_ge (tgt := 35) hx hb dX9_fitting_9 (by decide) (fun _ => ?_) (fun c9 => absurd (by decide +kernel) c9)
  refine lv_iload_n hx hb dX9_fitting_35 rfl (lv_at hl 1 rfl) ?_
  have hP9 := hP.sub (ws' := []) [] rfl
  have hD9 := hD.sub (ws' := []) [] (by decide) rfl
  have hK9 := hK.sub (tys' := []) [] rfl
  refine W.widen (k := 0) (n := 0) (by omega) (by omega) ?_
  exact W.iret (v := 0) hx hb hr (fun t ht hW => ⟨⟨0, (), rfl, rfl, by rw [ht]; exact hP9, va_K.moved hW.alike hK9, hD9⟩, hS.F ht⟩) hS.2.2 dX9_fitting_36
set_option maxHeartbeats 4000000 in
set_option maxRecDepth 100000 in
theorem c_fault (l : Launch) (dC : Nat → ClassId) (dI : Nat → Nat → Nat) (sz : Nat) (h0 : Nat) (w1 : Nat) (w6 : Nat) (w8 : Nat) (w15 : Nat) (w22 : Nat) (w26 : Nat) (w31 : Nat) (w35 : Nat) (w40 : Nat) (w48 : Nat) (w50 : Nat) (w52 : Nat) (w2 : Nat) (w3 : Nat) (w4 : Nat)  : Met l yX9_fault (Cond.code yX9_fault cX9_fault 1 (some .int) :: wsG) ({ frames := 1, cells := 0, slots := 0, locals := 14 } : Room) (va_Pc [.ref h0] (fun U => U.heap.size = sz ∧ va_P (dC, dI) vwCl [(h0, .inr (9, [.ref w1, .ref w6, .int 0, .ref w8, .ref w15, .int 0, .int 0, .ref w22, .ref w26, .ref w31, .ref w35, .ref w40, .ref w48, .ref w50, .ref w52])), (w1, .inr (5, [.ref w2, .int 0, .ref w3, .int 0, .ref w4, .int 0, .int (-1), .int 0]))] U.heap ∧ va_K (dC, dI) vwCl [] U ∧ va_D (fun _ => True) [(h0, .inr (9, [.ref w1, .ref w6, .int 0, .ref w8, .ref w15, .int 0, .int 0, .ref w22, .ref w26, .ref w31, .ref w35, .ref w40, .ref w48, .ref w50, .ref w52])), (w1, .inr (5, [.ref w2, .int 0, .ref w3, .int 0, .ref w4, .int 0, .int (-1), .int 0]))])) (va_Qi (fun (r : Int32) (_ : Unit) => r = (-1)) (fun (_ : Unit) (t : State) => va_P (dC, dI) vwCl [] t.heap ∧ va_K (dC, dI) vwCl [] t ∧ va_D (va_A [(h0, .inr (9, [.ref w1, .ref w6, .int 0, .ref w8, .ref w15, .int 0, .int 0, .ref w22, .ref w26, .ref w31, .ref w35, .ref w40, .ref w48, .ref w50, .ref w52])), (w1, .inr (5, [.ref w2, .int 0, .ref w3, .int 0, .ref w4, .int 0, .int (-1), .int 0]))] sz) []) (va_A [(h0, .inr (9, [.ref w1, .ref w6, .int 0, .ref w8, .ref w15, .int 0, .int 0, .ref w22, .ref w26, .ref w31, .ref w35, .ref w40, .ref w48, .ref w50, .ref w52])), (w1, .inr (5, [.ref w2, .int 0, .ref w3, .int 0, .ref w4, .int 0, .int (-1), .int 0]))] sz)) 0 0 (va_A [(h0, .inr (9, [.ref w1, .ref w6, .int 0, .ref w8, .ref w15, .int 0, .int 0, .ref w22, .ref w26, .ref w31, .ref w35, .ref w40, .ref w48, .ref w50, .ref w52])), (w1, .inr (5, [.ref w2, .int 0, .ref w3, .int 0, .ref w4, .int 0, .int (-1), .int 0]))] sz) := by
  refine Met.ofW (cc := cX9_fault) (maxL := 1) (ret := (some .int)) (by decide) rfl ?_
  intro p e s m args below meth c s₁ B hml hv
  obtain ⟨rfl, hsz, hP, hK, hD0⟩ := hv
  have hx := B.exec
  have hb := B.bytes
  have hr := B.returns
  have hts : ∀ w ∈ wsG, w.before _ s = true := hG_of (atoms_spec (ws := (Cond.code yX9_fault cX9_fault 1 (some .int) :: wsG)) B.pre)
  have hown : s.vm.findClass RX9 = some m.cls := findClass_of_methodNamed B.named
  have hlocks := B.notSynchronized
  subst hsz
  have hD := hD0.self (sz := s.heap.size)
  generalize hAe : va_A [(h0, .inr (9, [.ref w1, .ref w6, .int 0, .ref w8, .ref w15, .int 0, .int 0, .ref w22, .ref w26, .ref w31, .ref w35, .ref w40, .ref w48, .ref w50, .ref w52])), (w1, .inr (5, [.ref w2, .int 0, .ref w3, .int 0, .ref w4, .int 0, .int (-1), .int 0]))] s.heap.size = A at hD ⊢
  have hA : ∀ q : Nat, s.heap.size ≤ q → A q := fun q h => by rw [← hAe]; exact Or.inr h
  have hS : va_S A s.heap s.heap [] := va_S.rf
  have hl := lv_entry ([.ref h0]) (n := 1) (Nat.le_of_ble_eq_true rfl)
  rw [lg_entry_eq]
  generalize (lg_sl ([.ref h0]) ++ List.replicate (1 - (lg_sl ([.ref h0])).length) Slot.unset).toArray = ls at hl ⊢
  have hl : lv_has ls 1 [(0, .ref h0)] := hl
  refine lv_aload_n hx hb dX9_fault_0 rfl (lv_at hl 0 rfl) ?_
  refine va_get (D := (dC, dI)) (ci := 9) (v := .ref w1) (C := RX9) (T := TX9) (N := 15) hx hb hts inG9 hown hK hP 0 rfl rfl 0 (by decide) (hts _ k332) (fun _ h9 => h9) rfl dX9_fault_1 ?_
  refine va_get (D := (dC, dI)) (ci := 5) (v := .int (-1)) (C := RX5) (T := TX5) (N := 8) hx hb hts inG5 hown hK hP 1 rfl rfl 6 (by decide) (hts _ k46) (fun _ h9 => h9) rfl dX9_fault_4 ?_
  have hP9 := hP.sub (ws' := []) [] rfl
  have hD9 := hD.sub (ws' := []) [] (by decide) rfl
  have hK9 := hK.sub (tys' := []) [] rfl
  refine W.widen (k := 0) (n := 0) (by omega) (by omega) ?_
  exact W.iret (v := (-1)) hx hb hr (fun t ht hW => ⟨⟨(-1), (), rfl, rfl, by rw [ht]; exact hP9, va_K.moved hW.alike hK9, hD9⟩, hS.F ht⟩) hS.2.2 dX9_fault_7
set_option maxHeartbeats 4000000 in
set_option maxRecDepth 100000 in
theorem c_undo (l : Launch) (dC : Nat → ClassId) (dI : Nat → Nat → Nat) (sz : Nat) (h0 : Nat) (w1 : Nat) (w6 : Nat) (w8 : Nat) (w15 : Nat) (w22 : Nat) (w26 : Nat) (w31 : Nat) (w35 : Nat) (w40 : Nat) (w48 : Nat) (w50 : Nat) (w52 : Nat) (w23 : Nat) (w24 : Nat) (w25 : Nat)  : Met l yX9_undo (Cond.code yX9_undo cX9_undo 1 (some .int) :: wsG) ({ frames := 1, cells := 0, slots := 0, locals := 14 } : Room) (va_Pc [.ref h0] (fun U => U.heap.size = sz ∧ va_P (dC, dI) vwCl [(h0, .inr (9, [.ref w1, .ref w6, .int 0, .ref w8, .ref w15, .int 0, .int 0, .ref w22, .ref w26, .ref w31, .ref w35, .ref w40, .ref w48, .ref w50, .ref w52])), (w22, .inr (3, [.ref w23, .ref w24, .ref w25, .int 0, .int 0]))] U.heap ∧ va_K (dC, dI) vwCl [] U ∧ va_D (fun _ => True) [(h0, .inr (9, [.ref w1, .ref w6, .int 0, .ref w8, .ref w15, .int 0, .int 0, .ref w22, .ref w26, .ref w31, .ref w35, .ref w40, .ref w48, .ref w50, .ref w52])), (w22, .inr (3, [.ref w23, .ref w24, .ref w25, .int 0, .int 0]))])) (va_Qi (fun (r : Int32) (_ : Unit) => r = (-1)) (fun (_ : Unit) (t : State) => va_P (dC, dI) vwCl [] t.heap ∧ va_K (dC, dI) vwCl [] t ∧ va_D (va_A [(h0, .inr (9, [.ref w1, .ref w6, .int 0, .ref w8, .ref w15, .int 0, .int 0, .ref w22, .ref w26, .ref w31, .ref w35, .ref w40, .ref w48, .ref w50, .ref w52])), (w22, .inr (3, [.ref w23, .ref w24, .ref w25, .int 0, .int 0]))] sz) []) (va_A [(h0, .inr (9, [.ref w1, .ref w6, .int 0, .ref w8, .ref w15, .int 0, .int 0, .ref w22, .ref w26, .ref w31, .ref w35, .ref w40, .ref w48, .ref w50, .ref w52])), (w22, .inr (3, [.ref w23, .ref w24, .ref w25, .int 0, .int 0]))] sz)) 0 0 (va_A [(h0, .inr (9, [.ref w1, .ref w6, .int 0, .ref w8, .ref w15, .int 0, .int 0, .ref w22, .ref w26, .ref w31, .ref w35, .ref w40, .ref w48, .ref w50, .ref w52])), (w22, .inr (3, [.ref w23, .ref w24, .ref w25, .int 0, .int 0]))] sz) := by
  refine Met.ofW (cc := cX9_undo) (maxL := 1) (ret := (some .int)) (by decide) rfl ?_
  intro p e s m args below meth c s₁ B hml hv
  obtain ⟨rfl, hsz, hP, hK, hD0⟩ := hv
  have hx := B.exec
  have hb := B.bytes
  have hr := B.returns
  have hts : ∀ w ∈ wsG, w.before _ s = true := hG_of (atoms_spec (ws := (Cond.code yX9_undo cX9_undo 1 (some .int) :: wsG)) B.pre)
  have hown : s.vm.findClass RX9 = some m.cls := findClass_of_methodNamed B.named
  have hlocks := B.notSynchronized
  subst hsz
  have hD := hD0.self (sz := s.heap.size)
  generalize hAe : va_A [(h0, .inr (9, [.ref w1, .ref w6, .int 0, .ref w8, .ref w15, .int 0, .int 0, .ref w22, .ref w26, .ref w31, .ref w35, .ref w40, .ref w48, .ref w50, .ref w52])), (w22, .inr (3, [.ref w23, .ref w24, .ref w25, .int 0, .int 0]))] s.heap.size = A at hD ⊢
  have hA : ∀ q : Nat, s.heap.size ≤ q → A q := fun q h => by rw [← hAe]; exact Or.inr h
  have hS : va_S A s.heap s.heap [] := va_S.rf
  have hl := lv_entry ([.ref h0]) (n := 1) (Nat.le_of_ble_eq_true rfl)
  rw [lg_entry_eq]
  generalize (lg_sl ([.ref h0]) ++ List.replicate (1 - (lg_sl ([.ref h0])).length) Slot.unset).toArray = ls at hl ⊢
  have hl : lv_has ls 1 [(0, .ref h0)] := hl
  refine lv_aload_n hx hb dX9_undo_0 rfl (lv_at hl 0 rfl) ?_
  refine va_get (D := (dC, dI)) (ci := 9) (v := .ref w22) (C := RX9) (T := TX9) (N := 15) hx hb hts inG9 hown hK hP 0 rfl rfl 7 (by decide) (hts _ k339) (fun _ h9 => h9) rfl dX9_undo_1 ?_
  refine va_get (D := (dC, dI)) (ci := 3) (v := .int 0) (C := RX3) (T := TX3) (N := 5) hx hb hts inG3 hown hK hP 1 rfl rfl 4 (by decide) (hts _ k135) (fun _ h9 => h9) rfl dX9_undo_4 ?_
  refine lv_if_ne (tgt := 12) hx hb dX9_undo_7 (by decide) (fun c9 => absurd (by decide +kernel) c9) (fun _ => ?_)
  refine lv_iconst (v := (-1)) hx hb dX9_undo_10 (by decide) ?_
  have hP9 := hP.sub (ws' := []) [] rfl
  have hD9 := hD.sub (ws' := []) [] (by decide) rfl
  have hK9 := hK.sub (tys' := []) [] rfl
  refine W.widen (k := 0) (n := 0) (by omega) (by omega) ?_
  exact W.iret (v := (-1)) hx hb hr (fun t ht hW => ⟨⟨(-1), (), rfl, rfl, by rw [ht]; exact hP9, va_K.moved hW.alike hK9, hD9⟩, hS.F ht⟩) hS.2.2 dX9_undo_11
set_option maxHeartbeats 4000000 in
set_option maxRecDepth 100000 in
theorem c_clear (l : Launch) (dC : Nat → ClassId) (dI : Nat → Nat → Nat) (sz : Nat) (h0 : Nat) (w1 : Nat) (w6 : Nat) (w8 : Nat) (w15 : Nat) (w22 : Nat) (w26 : Nat) (w31 : Nat) (w35 : Nat) (w40 : Nat) (w48 : Nat) (w50 : Nat) (w52 : Nat) (w9 : Nat) (w10 : Nat) (w11 : Nat) (w12 : Nat) (w13 : Nat) (w23 : Nat) (w24 : Nat) (w25 : Nat) (d14 : ClassId)  : Met l yX9_clear (Cond.code yX9_clear cX9_clear 2 (some .int) :: wsG) ({ frames := 2, cells := 0, slots := 0, locals := 38 } : Room) (va_Pc [.ref h0] (fun U => U.heap.size = sz ∧ va_P (dC, dI) vwCl [(h0, .inr (9, [.ref w1, .ref w6, .int 0, .ref w8, .ref w15, .int 0, .int 0, .ref w22, .ref w26, .ref w31, .ref w35, .ref w40, .ref w48, .ref w50, .ref w52])), (w8, .inr (4, [.ref w9, .ref w10, .ref w11, .ref w12, .ref w13, .int 0, .int 0, .int 0])), (w11, .inl (d14, 1101, .inl (fun _ => 0))), (w22, .inr (3, [.ref w23, .ref w24, .ref w25, .int 0, .int 0]))] U.heap ∧ va_K (dC, dI) vwCl [(d14, .int)] U ∧ va_D (fun _ => True) [(h0, .inr (9, [.ref w1, .ref w6, .int 0, .ref w8, .ref w15, .int 0, .int 0, .ref w22, .ref w26, .ref w31, .ref w35, .ref w40, .ref w48, .ref w50, .ref w52])), (w8, .inr (4, [.ref w9, .ref w10, .ref w11, .ref w12, .ref w13, .int 0, .int 0, .int 0])), (w11, .inl (d14, 1101, .inl (fun _ => 0))), (w22, .inr (3, [.ref w23, .ref w24, .ref w25, .int 0, .int 0]))])) (va_Qi (fun (r : Int32) (_ : Unit) => r = 0) (fun (_ : Unit) (t : State) => va_P (dC, dI) vwCl [] t.heap ∧ va_K (dC, dI) vwCl [] t ∧ va_D (va_A [(h0, .inr (9, [.ref w1, .ref w6, .int 0, .ref w8, .ref w15, .int 0, .int 0, .ref w22, .ref w26, .ref w31, .ref w35, .ref w40, .ref w48, .ref w50, .ref w52])), (w8, .inr (4, [.ref w9, .ref w10, .ref w11, .ref w12, .ref w13, .int 0, .int 0, .int 0])), (w11, .inl (d14, 1101, .inl (fun _ => 0))), (w22, .inr (3, [.ref w23, .ref w24, .ref w25, .int 0, .int 0]))] sz) []) (va_A [(h0, .inr (9, [.ref w1, .ref w6, .int 0, .ref w8, .ref w15, .int 0, .int 0, .ref w22, .ref w26, .ref w31, .ref w35, .ref w40, .ref w48, .ref w50, .ref w52])), (w8, .inr (4, [.ref w9, .ref w10, .ref w11, .ref w12, .ref w13, .int 0, .int 0, .int 0])), (w11, .inl (d14, 1101, .inl (fun _ => 0))), (w22, .inr (3, [.ref w23, .ref w24, .ref w25, .int 0, .int 0]))] sz)) 0 0 (va_A [(h0, .inr (9, [.ref w1, .ref w6, .int 0, .ref w8, .ref w15, .int 0, .int 0, .ref w22, .ref w26, .ref w31, .ref w35, .ref w40, .ref w48, .ref w50, .ref w52])), (w8, .inr (4, [.ref w9, .ref w10, .ref w11, .ref w12, .ref w13, .int 0, .int 0, .int 0])), (w11, .inl (d14, 1101, .inl (fun _ => 0))), (w22, .inr (3, [.ref w23, .ref w24, .ref w25, .int 0, .int 0]))] sz) := by
  refine Met.ofW (cc := cX9_clear) (maxL := 2) (ret := (some .int)) (by decide) rfl ?_
  intro p e s m args below meth c s₁ B hml hv
  obtain ⟨rfl, hsz, hP, hK, hD0⟩ := hv
  have hx := B.exec
  have hb := B.bytes
  have hr := B.returns
  have hts : ∀ w ∈ wsG, w.before _ s = true := hG_of (atoms_spec (ws := (Cond.code yX9_clear cX9_clear 2 (some .int) :: wsG)) B.pre)
  have hown : s.vm.findClass RX9 = some m.cls := findClass_of_methodNamed B.named
  have hlocks := B.notSynchronized
  subst hsz
  have hD := hD0.self (sz := s.heap.size)
  generalize hAe : va_A [(h0, .inr (9, [.ref w1, .ref w6, .int 0, .ref w8, .ref w15, .int 0, .int 0, .ref w22, .ref w26, .ref w31, .ref w35, .ref w40, .ref w48, .ref w50, .ref w52])), (w8, .inr (4, [.ref w9, .ref w10, .ref w11, .ref w12, .ref w13, .int 0, .int 0, .int 0])), (w11, .inl (d14, 1101, .inl (fun _ => 0))), (w22, .inr (3, [.ref w23, .ref w24, .ref w25, .int 0, .int 0]))] s.heap.size = A at hD ⊢
  have hA : ∀ q : Nat, s.heap.size ≤ q → A q := fun q h => by rw [← hAe]; exact Or.inr h
  have hS : va_S A s.heap s.heap [] := va_S.rf
  have hl := lv_entry ([.ref h0]) (n := 2) (Nat.le_of_ble_eq_true rfl)
  rw [lg_entry_eq]
  generalize (lg_sl ([.ref h0]) ++ List.replicate (2 - (lg_sl ([.ref h0])).length) Slot.unset).toArray = ls at hl ⊢
  have hl : lv_has ls 2 [(0, .ref h0)] := hl
  refine lv_aload_n hx hb dX9_clear_0 rfl (lv_at hl 0 rfl) ?_
  refine va_get (D := (dC, dI)) (ci := 9) (v := .ref w8) (C := RX9) (T := TX9) (N := 15) hx hb hts inG9 hown hK hP 0 rfl rfl 3 (by decide) (hts _ k335) (fun _ h9 => h9) rfl dX9_clear_1 ?_
  have hPc := hP.sub (ws' := [(w8, .inr (4, [.ref w9, .ref w10, .ref w11, .ref w12, .ref w13, .int 0, .int 0, .int 0])), (w11, .inl (d14, 1101, .inl (fun _ => 0)))]) [1, 2] rfl
  have hDc := hD.sub (ws' := [(w8, .inr (4, [.ref w9, .ref w10, .ref w11, .ref w12, .ref w13, .int 0, .int 0, .int 0])), (w11, .inl (d14, 1101, .inl (fun _ => 0)))]) [1, 2] (by decide) rfl
  have hKc := hK.sub (tys' := [(d14, .int)]) [0] rfl
  have hFc := va_free (wc := [(w8, .inr (4, [.ref w9, .ref w10, .ref w11, .ref w12, .ref w13, .int 0, .int 0, .int 0])), (w11, .inl (d14, 1101, .inl (fun _ => 0)))]) hD hS hA [1, 2] rfl
  refine va_calli (va_runV (As := []) (rest := []) ⟨hx, hb, hml, hown, hts⟩ (c_size l dC dI s.heap.size (w8) (w9) (w10) (w11) (w12) (w13) (d14)) (cwV 0 hts (gV_G k513 k514 k515 k3 k516) rfl rfl rfl (by decide +kernel) ⟨Nat.le_of_ble_eq_true rfl, Nat.le_of_ble_eq_true rfl⟩) ⟨fun a U g mk q => by obtain ⟨q0, q1, qP, qK, qD⟩ := q; exact ⟨q0, q1, qP, va_K.moved (u := U) (U := U.calling g mk a) (Vm.Alike.refl U.vm) qK, qD⟩, va_recv hKc hPc (ci := 4) (q0 := 0) rfl rfl, fun U hU hW => ⟨rfl, by rw [hU], by rw [hU]; exact hPc, va_K.moved hW.alike hKc, hDc.weaken (fun _ _ _ _ => trivial)⟩⟩ rfl rfl hl.1 rfl (lv_room (Nat.le_of_ble_eq_true rfl)) dX9_clear_4 ⟨Nat.le_of_ble_eq_true rfl, Nat.le_of_ble_eq_true rfl⟩) hS (fun q _ h => hFc q h) hFc (fun r1 u t H1 locs ht hvm hw hB hz1 hk1 hS => ?_)
  obtain ⟨hP1, hK1, hD1⟩ := hB
  rw [ht] at hP1
  have hK1 := va_K.moved hvm.symm hK1
  try dsimp only at hw
  obtain ⟨hP, hD⟩ := va_join (wr := [(h0, .inr (9, [.ref w1, .ref w6, .int 0, .ref w8, .ref w15, .int 0, .int 0, .ref w22, .ref w26, .ref w31, .ref w35, .ref w40, .ref w48, .ref w50, .ref w52])), (w22, .inr (3, [.ref w23, .ref w24, .ref w25, .int 0, .int 0]))]) (w1 := [(w8, .inr (4, [.ref w9, .ref w10, .ref w11, .ref w12, .ref w13, .int 0, .int 0, .int 0])), (w11, .inl (d14, 1101, .inl (fun _ => 0)))]) hP hD [1, 2] [0, 3] rfl rfl (by decide) (by decide) hk1 hFc hP1 hD1
  have hK := hK.app hK1
  generalize H1 = H at hP hS ⊢
  have hP : va_P (dC, dI) vwCl [(h0, .inr (9, [.ref w1, .ref w6, .int 0, .ref w8, .ref w15, .int 0, .int 0, .ref w22, .ref w26, .ref w31, .ref w35, .ref w40, .ref w48, .ref w50, .ref w52])), (w22, .inr (3, [.ref w23, .ref w24, .ref w25, .int 0, .int 0])), (w8, .inr (4, [.ref w9, .ref w10, .ref w11, .ref w12, .ref w13, .int 0, .int 0, .int 0])), (w11, .inl (d14, 1101, .inl (fun _ => 0)))] H := hP
  have hD : va_D A [(h0, .inr (9, [.ref w1, .ref w6, .int 0, .ref w8, .ref w15, .int 0, .int 0, .ref w22, .ref w26, .ref w31, .ref w35, .ref w40, .ref w48, .ref w50, .ref w52])), (w22, .inr (3, [.ref w23, .ref w24, .ref w25, .int 0, .int 0])), (w8, .inr (4, [.ref w9, .ref w10, .ref w11, .ref w12, .ref w13, .int 0, .int 0, .int 0])), (w11, .inl (d14, 1101, .inl (fun _ => 0)))] := hD
  have hK : va_K (dC, dI) vwCl [(d14, .int), (d14, .int)] s := hK
  refine W.widen (k := 0) (n := 0) (by omega) (by omega) ?_
  obtain rfl : r1 = 0 := hw
  refine lv_istore_n (lv' := [(1, .int 0), (0, .ref h0)]) hx hb dX9_clear_7 rfl hl (by decide) rfl (fun ls hl => ?_)
  refine lv_aload_n hx hb dX9_clear_8 rfl (lv_at hl 1 rfl) ?_
  refine va_get (D := (dC, dI)) (ci := 9) (v := .ref w8) (C := RX9) (T := TX9) (N := 15) hx hb hts inG9 hown hK hP 0 rfl rfl 3 (by decide) (hts _ k335) (fun _ h9 => h9) rfl dX9_clear_9 ?_
  have hPc := hP.sub (ws' := [(w8, .inr (4, [.ref w9, .ref w10, .ref w11, .ref w12, .ref w13, .int 0, .int 0, .int 0]))]) [2] rfl
  have hDc := hD.sub (ws' := [(w8, .inr (4, [.ref w9, .ref w10, .ref w11, .ref w12, .ref w13, .int 0, .int 0, .int 0]))]) [2] (by decide) rfl
  have hKc := hK.sub (tys' := []) [] rfl
  have hFc := va_free (wc := [(w8, .inr (4, [.ref w9, .ref w10, .ref w11, .ref w12, .ref w13, .int 0, .int 0, .int 0]))]) hD hS hA [2] rfl
  refine va_callv (va_runV (As := []) (rest := []) ⟨hx, hb, hml, hown, hts⟩ (c_empty l dC dI H.size (w8) (w9) (w10) (w11) (w12) (w13)) (cwV 0 hts (gV_G k521 k407 k408 k3 k409) rfl rfl rfl (by decide +kernel) ⟨Nat.le_of_ble_eq_true rfl, Nat.le_of_ble_eq_true rfl⟩) ⟨fun a U g mk q => by obtain ⟨q0, q1, qP, qK, qD⟩ := q; exact ⟨q0, q1, qP, va_K.moved (u := U) (U := U.calling g mk a) (Vm.Alike.refl U.vm) qK, qD⟩, va_recv hKc hPc (ci := 4) (q0 := 0) rfl rfl, fun U hU hW => ⟨rfl, by rw [hU], by rw [hU]; exact hPc, va_K.moved hW.alike hKc, hDc.weaken (fun _ _ _ _ => trivial)⟩⟩ rfl rfl hl.1 rfl (lv_room (Nat.le_of_ble_eq_true rfl)) dX9_clear_12 ⟨Nat.le_of_ble_eq_true rfl, Nat.le_of_ble_eq_true rfl⟩) hS (fun q _ h => hFc q h) hFc (fun u t H1 locs ht hvm hw hB hz1 hk1 hS => ?_)
  obtain ⟨hP1, hK1, hD1⟩ := hB
  rw [ht] at hP1
  have hK1 := va_K.moved hvm.symm hK1
  try dsimp only at hw
  obtain ⟨hP, hD⟩ := va_join (wr := [(h0, .inr (9, [.ref w1, .ref w6, .int 0, .ref w8, .ref w15, .int 0, .int 0, .ref w22, .ref w26, .ref w31, .ref w35, .ref w40, .ref w48, .ref w50, .ref w52])), (w22, .inr (3, [.ref w23, .ref w24, .ref w25, .int 0, .int 0])), (w11, .inl (d14, 1101, .inl (fun _ => 0)))]) (w1 := [(w8, .inr (4, [.ref w9, .ref w10, .ref w11, .ref w12, .ref w13, .int 0, .int 0, .int 0]))]) hP hD [2] [0, 1, 3] rfl rfl (by decide) (by decide) hk1 hFc hP1 hD1
  have hK := hK.app hK1
  generalize H1 = H at hP hS ⊢
  have hP : va_P (dC, dI) vwCl [(h0, .inr (9, [.ref w1, .ref w6, .int 0, .ref w8, .ref w15, .int 0, .int 0, .ref w22, .ref w26, .ref w31, .ref w35, .ref w40, .ref w48, .ref w50, .ref w52])), (w22, .inr (3, [.ref w23, .ref w24, .ref w25, .int 0, .int 0])), (w11, .inl (d14, 1101, .inl (fun _ => 0))), (w8, .inr (4, [.ref w9, .ref w10, .ref w11, .ref w12, .ref w13, .int 0, .int 0, .int 0]))] H := hP
  have hD : va_D A [(h0, .inr (9, [.ref w1, .ref w6, .int 0, .ref w8, .ref w15, .int 0, .int 0, .ref w22, .ref w26, .ref w31, .ref w35, .ref w40, .ref w48, .ref w50, .ref w52])), (w22, .inr (3, [.ref w23, .ref w24, .ref w25, .int 0, .int 0])), (w11, .inl (d14, 1101, .inl (fun _ => 0))), (w8, .inr (4, [.ref w9, .ref w10, .ref w11, .ref w12, .ref w13, .int 0, .int 0, .int 0]))] := hD
  have hK : va_K (dC, dI) vwCl [(d14, .int), (d14, .int)] s := hK
  refine W.widen (k := 0) (n := 0) (by omega) (by omega) ?_
  refine lv_aload_n hx hb dX9_clear_15 rfl (lv_at hl 1 rfl) ?_
  refine va_get (D := (dC, dI)) (ci := 9) (v := .ref w8) (C := RX9) (T := TX9) (N := 15) hx hb hts inG9 hown hK hP 0 rfl rfl 3 (by decide) (hts _ k335) (fun _ h9 => h9) rfl dX9_clear_16 ?_
  have hPc := hP.sub (ws' := [(w8, .inr (4, [.ref w9, .ref w10, .ref w11, .ref w12, .ref w13, .int 0, .int 0, .int 0])), (w11, .inl (d14, 1101, .inl (fun _ => 0)))]) [3, 2] rfl
  have hDc := hD.sub (ws' := [(w8, .inr (4, [.ref w9, .ref w10, .ref w11, .ref w12, .ref w13, .int 0, .int 0, .int 0])), (w11, .inl (d14, 1101, .inl (fun _ => 0)))]) [3, 2] (by decide) rfl
  have hKc := hK.sub (tys' := [(d14, .int)]) [0] rfl
  have hFc := va_free (wc := [(w8, .inr (4, [.ref w9, .ref w10, .ref w11, .ref w12, .ref w13, .int 0, .int 0, .int 0])), (w11, .inl (d14, 1101, .inl (fun _ => 0)))]) hD hS hA [3, 2] rfl
  refine va_callv (va_runV (As := []) (rest := []) ⟨hx, hb, hml, hown, hts⟩ (c_seal l dC dI H.size (w8) (w9) (w10) (w11) (w12) (w13) (d14)) (cwV 0 hts (gV_G k522 k415 k416 k3 k417) rfl rfl rfl (by decide +kernel) ⟨Nat.le_of_ble_eq_true rfl, Nat.le_of_ble_eq_true rfl⟩) ⟨fun a U g mk q => by obtain ⟨q0, q1, qP, qK, qD⟩ := q; exact ⟨q0, q1, qP, va_K.moved (u := U) (U := U.calling g mk a) (Vm.Alike.refl U.vm) qK, qD⟩, va_recv hKc hPc (ci := 4) (q0 := 0) rfl rfl, fun U hU hW => ⟨rfl, by rw [hU], by rw [hU]; exact hPc, va_K.moved hW.alike hKc, hDc.weaken (fun _ _ _ _ => trivial)⟩⟩ rfl rfl hl.1 rfl (lv_room (Nat.le_of_ble_eq_true rfl)) dX9_clear_19 ⟨Nat.le_of_ble_eq_true rfl, Nat.le_of_ble_eq_true rfl⟩) hS (fun q _ h => hFc q h) hFc (fun u t H1 locs ht hvm hw hB hz1 hk1 hS => ?_)
  obtain ⟨hP1, hK1, hD1⟩ := hB
  rw [ht] at hP1
  have hK1 := va_K.moved hvm.symm hK1
  try dsimp only at hw
  obtain ⟨hP, hD⟩ := va_join (wr := [(h0, .inr (9, [.ref w1, .ref w6, .int 0, .ref w8, .ref w15, .int 0, .int 0, .ref w22, .ref w26, .ref w31, .ref w35, .ref w40, .ref w48, .ref w50, .ref w52])), (w22, .inr (3, [.ref w23, .ref w24, .ref w25, .int 0, .int 0]))]) (w1 := [(w8, .inr (4, [.ref w9, .ref w10, .ref w11, .ref w12, .ref w13, .int 0, .int 0, .int 0])), (w11, .inl (d14, 1101, .inl (fun _ => 0)))]) hP hD [3, 2] [0, 1] rfl rfl (by decide) (by decide) hk1 hFc hP1 hD1
  have hK := hK.app hK1
  generalize H1 = H at hP hS ⊢
  have hP : va_P (dC, dI) vwCl [(h0, .inr (9, [.ref w1, .ref w6, .int 0, .ref w8, .ref w15, .int 0, .int 0, .ref w22, .ref w26, .ref w31, .ref w35, .ref w40, .ref w48, .ref w50, .ref w52])), (w22, .inr (3, [.ref w23, .ref w24, .ref w25, .int 0, .int 0])), (w8, .inr (4, [.ref w9, .ref w10, .ref w11, .ref w12, .ref w13, .int 0, .int 0, .int 0])), (w11, .inl (d14, 1101, .inl (fun _ => 0)))] H := hP
  have hD : va_D A [(h0, .inr (9, [.ref w1, .ref w6, .int 0, .ref w8, .ref w15, .int 0, .int 0, .ref w22, .ref w26, .ref w31, .ref w35, .ref w40, .ref w48, .ref w50, .ref w52])), (w22, .inr (3, [.ref w23, .ref w24, .ref w25, .int 0, .int 0])), (w8, .inr (4, [.ref w9, .ref w10, .ref w11, .ref w12, .ref w13, .int 0, .int 0, .int 0])), (w11, .inl (d14, 1101, .inl (fun _ => 0)))] := hD
  have hK : va_K (dC, dI) vwCl [(d14, .int), (d14, .int), (d14, .int)] s := hK
  refine W.widen (k := 0) (n := 0) (by omega) (by omega) ?_
  refine lv_aload_n hx hb dX9_clear_22 rfl (lv_at hl 1 rfl) ?_
  refine va_get (D := (dC, dI)) (ci := 9) (v := .ref w22) (C := RX9) (T := TX9) (N := 15) hx hb hts inG9 hown hK hP 0 rfl rfl 7 (by decide) (hts _ k339) (fun _ h9 => h9) rfl dX9_clear_23 ?_
  refine lv_iconst (v := 0) hx hb dX9_clear_26 (by decide) ?_
  refine va_put (D := (dC, dI)) (ci := 3) (v := .int 0) (ty := .int) (C := RX3) (T := TX3) (N := 5) hx hb hts inG3 tyX3 tyX3_ok nmX3 hown hK hP hD hS 1 rfl rfl 4 (by decide) (hts _ k135) (fun _ h9 => h9) rfl (by decide +kernel) rfl rfl (Nat.le_of_ble_eq_true rfl) dX9_clear_27 (fun H locs hP hD hS => ?_)
  have hP : va_P (dC, dI) vwCl [(h0, .inr (9, [.ref w1, .ref w6, .int 0, .ref w8, .ref w15, .int 0, .int 0, .ref w22, .ref w26, .ref w31, .ref w35, .ref w40, .ref w48, .ref w50, .ref w52])), (w22, .inr (3, [.ref w23, .ref w24, .ref w25, .int 0, .int 0])), (w8, .inr (4, [.ref w9, .ref w10, .ref w11, .ref w12, .ref w13, .int 0, .int 0, .int 0])), (w11, .inl (d14, 1101, .inl (fun _ => 0)))] H := hP
  have hD : va_D A [(h0, .inr (9, [.ref w1, .ref w6, .int 0, .ref w8, .ref w15, .int 0, .int 0, .ref w22, .ref w26, .ref w31, .ref w35, .ref w40, .ref w48, .ref w50, .ref w52])), (w22, .inr (3, [.ref w23, .ref w24, .ref w25, .int 0, .int 0])), (w8, .inr (4, [.ref w9, .ref w10, .ref w11, .ref w12, .ref w13, .int 0, .int 0, .int 0])), (w11, .inl (d14, 1101, .inl (fun _ => 0)))] := hD
  refine lv_aload_n hx hb dX9_clear_30 rfl (lv_at hl 1 rfl) ?_
  refine lv_iconst (v := 0) hx hb dX9_clear_31 (by decide) ?_
  refine va_put (D := (dC, dI)) (ci := 9) (v := .int 0) (ty := .int) (C := RX9) (T := TX9) (N := 15) hx hb hts inG9 tyX9 tyX9_ok nmX9 hown hK hP hD hS 0 rfl rfl 5 (by decide) (hts _ k337) (fun _ h9 => h9) rfl (by decide +kernel) rfl rfl (Nat.le_of_ble_eq_true rfl) dX9_clear_32 (fun H locs hP hD hS => ?_)
  have hP : va_P (dC, dI) vwCl [(h0, .inr (9, [.ref w1, .ref w6, .int 0, .ref w8, .ref w15, .int 0, .int 0, .ref w22, .ref w26, .ref w31, .ref w35, .ref w40, .ref w48, .ref w50, .ref w52])), (w22, .inr (3, [.ref w23, .ref w24, .ref w25, .int 0, .int 0])), (w8, .inr (4, [.ref w9, .ref w10, .ref w11, .ref w12, .ref w13, .int 0, .int 0, .int 0])), (w11, .inl (d14, 1101, .inl (fun _ => 0)))] H := hP
  have hD : va_D A [(h0, .inr (9, [.ref w1, .ref w6, .int 0, .ref w8, .ref w15, .int 0, .int 0, .ref w22, .ref w26, .ref w31, .ref w35, .ref w40, .ref w48, .ref w50, .ref w52])), (w22, .inr (3, [.ref w23, .ref w24, .ref w25, .int 0, .int 0])), (w8, .inr (4, [.ref w9, .ref w10, .ref w11, .ref w12, .ref w13, .int 0, .int 0, .int 0])), (w11, .inl (d14, 1101, .inl (fun _ => 0)))] := hD
  refine lv_aload_n hx hb dX9_clear_35 rfl (lv_at hl 1 rfl) ?_
  refine lv_dup hx hb dX9_clear_36 rfl ?_
  refine va_get (D := (dC, dI)) (ci := 9) (v := .int 0) (C := RX9) (T := TX9) (N := 15) hx hb hts inG9 hown hK hP 0 rfl rfl 6 (by decide) (hts _ k338) (fun _ h9 => h9) rfl dX9_clear_37 ?_
  refine lv_iconst (v := 1) hx hb dX9_clear_40 (by decide) ?_
  refine lv_iadd hx hb dX9_clear_41 ?_
  refine lv_topi (fun x9 ex9 => ?_)
  obtain rfl : x9 = 1 := ex9.trans (by decide +kernel)
  refine va_put (D := (dC, dI)) (ci := 9) (v := .int 1) (ty := .int) (C := RX9) (T := TX9) (N := 15) hx hb hts inG9 tyX9 tyX9_ok nmX9 hown hK hP hD hS 0 rfl rfl 6 (by decide) (hts _ k338) (fun _ h9 => h9) rfl (by decide +kernel) rfl rfl (Nat.le_of_ble_eq_true rfl) dX9_clear_42 (fun H locs hP hD hS => ?_)
  have hP : va_P (dC, dI) vwCl [(h0, .inr (9, [.ref w1, .ref w6, .int 0, .ref w8, .ref w15, .int 0, .int 1, .ref w22, .ref w26, .ref w31, .ref w35, .ref w40, .ref w48, .ref w50, .ref w52])), (w22, .inr (3, [.ref w23, .ref w24, .ref w25, .int 0, .int 0])), (w8, .inr (4, [.ref w9, .ref w10, .ref w11, .ref w12, .ref w13, .int 0, .int 0, .int 0])), (w11, .inl (d14, 1101, .inl (fun _ => 0)))] H := hP
  have hD : va_D A [(h0, .inr (9, [.ref w1, .ref w6, .int 0, .ref w8, .ref w15, .int 0, .int 1, .ref w22, .ref w26, .ref w31, .ref w35, .ref w40, .ref w48, .ref w50, .ref w52])), (w22, .inr (3, [.ref w23, .ref w24, .ref w25, .int 0, .int 0])), (w8, .inr (4, [.ref w9, .ref w10, .ref w11, .ref w12, .ref w13, .int 0, .int 0, .int 0])), (w11, .inl (d14, 1101, .inl (fun _ => 0)))] := hD
  refine lv_iload_n hx hb dX9_clear_45 rfl (lv_at hl 0 rfl) ?_
  have hP9 := hP.sub (ws' := []) [] rfl
  have hD9 := hD.sub (ws' := []) [] (by decide) rfl
  have hK9 := hK.sub (tys' := []) [] rfl
  refine W.widen (k := 0) (n := 0) (by omega) (by omega) ?_
  exact W.iret (v := 0) hx hb hr (fun t ht hW => ⟨⟨0, (), rfl, rfl, by rw [ht]; exact hP9, va_K.moved hW.alike hK9, hD9⟩, hS.F ht⟩) hS.2.2 dX9_clear_46
set_option maxHeartbeats 4000000 in
set_option maxRecDepth 100000 in
theorem c_status0 (l : Launch) (dC : Nat → ClassId) (dI : Nat → Nat → Nat) (sz : Nat) (h0 : Nat) (w1 : Nat) (w6 : Nat) (w8 : Nat) (w15 : Nat) (w22 : Nat) (w26 : Nat) (w31 : Nat) (w35 : Nat) (w40 : Nat) (w48 : Nat) (w50 : Nat) (w52 : Nat) (d53 : ClassId)  : Met l yX9_status (Cond.code yX9_status cX9_status 2 (some .int) :: wsG) ({ frames := 1, cells := 0, slots := 0, locals := 14 } : Room) (va_Pc [.ref h0, .int 0] (fun U => U.heap.size = sz ∧ va_P (dC, dI) vwCl [(h0, .inr (9, [.ref w1, .ref w6, .int 0, .ref w8, .ref w15, .int 0, .int 0, .ref w22, .ref w26, .ref w31, .ref w35, .ref w40, .ref w48, .ref w50, .ref w52])), (w52, .inl (d53, 3, .inl (fun _ => 0)))] U.heap ∧ va_K (dC, dI) vwCl [(d53, .int)] U ∧ va_D (fun _ => True) [(h0, .inr (9, [.ref w1, .ref w6, .int 0, .ref w8, .ref w15, .int 0, .int 0, .ref w22, .ref w26, .ref w31, .ref w35, .ref w40, .ref w48, .ref w50, .ref w52])), (w52, .inl (d53, 3, .inl (fun _ => 0)))])) (va_Qi (fun (r : Int32) (_ : Unit) => r = 0) (fun (_ : Unit) (t : State) => va_P (dC, dI) vwCl [] t.heap ∧ va_K (dC, dI) vwCl [] t ∧ va_D (va_A [(h0, .inr (9, [.ref w1, .ref w6, .int 0, .ref w8, .ref w15, .int 0, .int 0, .ref w22, .ref w26, .ref w31, .ref w35, .ref w40, .ref w48, .ref w50, .ref w52])), (w52, .inl (d53, 3, .inl (fun _ => 0)))] sz) []) (va_A [(h0, .inr (9, [.ref w1, .ref w6, .int 0, .ref w8, .ref w15, .int 0, .int 0, .ref w22, .ref w26, .ref w31, .ref w35, .ref w40, .ref w48, .ref w50, .ref w52])), (w52, .inl (d53, 3, .inl (fun _ => 0)))] sz)) 0 0 (va_A [(h0, .inr (9, [.ref w1, .ref w6, .int 0, .ref w8, .ref w15, .int 0, .int 0, .ref w22, .ref w26, .ref w31, .ref w35, .ref w40, .ref w48, .ref w50, .ref w52])), (w52, .inl (d53, 3, .inl (fun _ => 0)))] sz) := by
  refine Met.ofW (cc := cX9_status) (maxL := 2) (ret := (some .int)) (by decide) rfl ?_
  intro p e s m args below meth c s₁ B hml hv
  obtain ⟨rfl, hsz, hP, hK, hD0⟩ := hv
  have hx := B.exec
  have hb := B.bytes
  have hr := B.returns
  have hts : ∀ w ∈ wsG, w.before _ s = true := hG_of (atoms_spec (ws := (Cond.code yX9_status cX9_status 2 (some .int) :: wsG)) B.pre)
  have hown : s.vm.findClass RX9 = some m.cls := findClass_of_methodNamed B.named
  have hlocks := B.notSynchronized
  subst hsz
  have hD := hD0.self (sz := s.heap.size)
  generalize hAe : va_A [(h0, .inr (9, [.ref w1, .ref w6, .int 0, .ref w8, .ref w15, .int 0, .int 0, .ref w22, .ref w26, .ref w31, .ref w35, .ref w40, .ref w48, .ref w50, .ref w52])), (w52, .inl (d53, 3, .inl (fun _ => 0)))] s.heap.size = A at hD ⊢
  have hA : ∀ q : Nat, s.heap.size ≤ q → A q := fun q h => by rw [← hAe]; exact Or.inr h
  have hS : va_S A s.heap s.heap [] := va_S.rf
  have hl := lv_entry ([.ref h0, .int 0]) (n := 2) (Nat.le_of_ble_eq_true rfl)
  rw [lg_entry_eq]
  generalize (lg_sl ([.ref h0, .int 0]) ++ List.replicate (2 - (lg_sl ([.ref h0, .int 0])).length) Slot.unset).toArray = ls at hl ⊢
  have hl : lv_has ls 2 [(0, .ref h0), (1, .int 0)] := hl
  refine lv_iload_n hx hb dX9_status_0 rfl (lv_at hl 1 rfl) ?_
  refine lv_if_lt (tgt := 22) hx hb dX9_status_1 (by decide) (fun c9 => absurd c9 (by decide +kernel)) (fun _ => ?_)
  refine lv_iload_n hx hb dX9_status_4 rfl (lv_at hl 1 rfl) ?_
  refine lv_aload_n hx hb dX9_status_5 rfl (lv_at hl 0 rfl) ?_
  refine va_get (D := (dC, dI)) (ci := 9) (v := .ref w52) (C := RX9) (T := TX9) (N := 15) hx hb hts inG9 hown hK hP 0 rfl rfl 14 (by decide) (hts _ k346) (fun _ h9 => h9) rfl dX9_status_6 ?_
  refine va_alen (v := 3) hx hb hK hP 1 0 rfl rfl rfl dX9_status_9 ?_
  refine lv_icmp_ge (tgt := 22) hx hb dX9_status_10 (by decide) (fun c9 => absurd c9 (by decide +kernel)) (fun _ => ?_)
  refine lv_aload_n hx hb dX9_status_13 rfl (lv_at hl 0 rfl) ?_
  refine va_get (D := (dC, dI)) (ci := 9) (v := .ref w52) (C := RX9) (T := TX9) (N := 15) hx hb hts inG9 hown hK hP 0 rfl rfl 14 (by decide) (hts _ k346) (fun _ h9 => h9) rfl dX9_status_14 ?_
  refine lv_iload_n hx hb dX9_status_17 rfl (lv_at hl 1 rfl) ?_
  refine va_iald hx hb hK hP 1 0 rfl rfl (by unfold vp_in; decide +kernel) dX9_status_18 ?_
  refine lv_topi (fun x18_ ex18_ => ?_)
  obtain rfl : x18_ = 0 := ex18_
  refine lv_goto (tgt := 23) hx hb dX9_status_19 (by decide) ?_
  have hP9 := hP.sub (ws' := []) [] rfl
  have hD9 := hD.sub (ws' := []) [] (by decide) rfl
  have hK9 := hK.sub (tys' := []) [] rfl
  refine W.widen (k := 0) (n := 0) (by omega) (by omega) ?_
  exact W.iret (v := 0) hx hb hr (fun t ht hW => ⟨⟨0, (), rfl, rfl, by rw [ht]; exact hP9, va_K.moved hW.alike hK9, hD9⟩, hS.F ht⟩) hS.2.2 dX9_status_23
set_option maxHeartbeats 4000000 in
set_option maxRecDepth 100000 in
theorem c_status1 (l : Launch) (dC : Nat → ClassId) (dI : Nat → Nat → Nat) (sz : Nat) (h0 : Nat) (w1 : Nat) (w6 : Nat) (w8 : Nat) (w15 : Nat) (w22 : Nat) (w26 : Nat) (w31 : Nat) (w35 : Nat) (w40 : Nat) (w48 : Nat) (w50 : Nat) (w52 : Nat) (d53 : ClassId)  : Met l yX9_status (Cond.code yX9_status cX9_status 2 (some .int) :: wsG) ({ frames := 1, cells := 0, slots := 0, locals := 14 } : Room) (va_Pc [.ref h0, .int 1] (fun U => U.heap.size = sz ∧ va_P (dC, dI) vwCl [(h0, .inr (9, [.ref w1, .ref w6, .int 0, .ref w8, .ref w15, .int 0, .int 0, .ref w22, .ref w26, .ref w31, .ref w35, .ref w40, .ref w48, .ref w50, .ref w52])), (w52, .inl (d53, 3, .inl (fun _ => 0)))] U.heap ∧ va_K (dC, dI) vwCl [(d53, .int)] U ∧ va_D (fun _ => True) [(h0, .inr (9, [.ref w1, .ref w6, .int 0, .ref w8, .ref w15, .int 0, .int 0, .ref w22, .ref w26, .ref w31, .ref w35, .ref w40, .ref w48, .ref w50, .ref w52])), (w52, .inl (d53, 3, .inl (fun _ => 0)))])) (va_Qi (fun (r : Int32) (_ : Unit) => r = 0) (fun (_ : Unit) (t : State) => va_P (dC, dI) vwCl [] t.heap ∧ va_K (dC, dI) vwCl [] t ∧ va_D (va_A [(h0, .inr (9, [.ref w1, .ref w6, .int 0, .ref w8, .ref w15, .int 0, .int 0, .ref w22, .ref w26, .ref w31, .ref w35, .ref w40, .ref w48, .ref w50, .ref w52])), (w52, .inl (d53, 3, .inl (fun _ => 0)))] sz) []) (va_A [(h0, .inr (9, [.ref w1, .ref w6, .int 0, .ref w8, .ref w15, .int 0, .int 0, .ref w22, .ref w26, .ref w31, .ref w35, .ref w40, .ref w48, .ref w50, .ref w52])), (w52, .inl (d53, 3, .inl (fun _ => 0)))] sz)) 0 0 (va_A [(h0, .inr (9, [.ref w1, .ref w6, .int 0, .ref w8, .ref w15, .int 0, .int 0, .ref w22, .ref w26, .ref w31, .ref w35, .ref w40, .ref w48, .ref w50, .ref w52])), (w52, .inl (d53, 3, .inl (fun _ => 0)))] sz) := by
  refine Met.ofW (cc := cX9_status) (maxL := 2) (ret := (some .int)) (by decide) rfl ?_
  intro p e s m args below meth c s₁ B hml hv
  obtain ⟨rfl, hsz, hP, hK, hD0⟩ := hv
  have hx := B.exec
  have hb := B.bytes
  have hr := B.returns
  have hts : ∀ w ∈ wsG, w.before _ s = true := hG_of (atoms_spec (ws := (Cond.code yX9_status cX9_status 2 (some .int) :: wsG)) B.pre)
  have hown : s.vm.findClass RX9 = some m.cls := findClass_of_methodNamed B.named
  have hlocks := B.notSynchronized
  subst hsz
  have hD := hD0.self (sz := s.heap.size)
  generalize hAe : va_A [(h0, .inr (9, [.ref w1, .ref w6, .int 0, .ref w8, .ref w15, .int 0, .int 0, .ref w22, .ref w26, .ref w31, .ref w35, .ref w40, .ref w48, .ref w50, .ref w52])), (w52, .inl (d53, 3, .inl (fun _ => 0)))] s.heap.size = A at hD ⊢
  have hA : ∀ q : Nat, s.heap.size ≤ q → A q := fun q h => by rw [← hAe]; exact Or.inr h
  have hS : va_S A s.heap s.heap [] := va_S.rf
  have hl := lv_entry ([.ref h0, .int 1]) (n := 2) (Nat.le_of_ble_eq_true rfl)
  rw [lg_entry_eq]
  generalize (lg_sl ([.ref h0, .int 1]) ++ List.replicate (2 - (lg_sl ([.ref h0, .int 1])).length) Slot.unset).toArray = ls at hl ⊢
  have hl : lv_has ls 2 [(0, .ref h0), (1, .int 1)] := hl
  refine lv_iload_n hx hb dX9_status_0 rfl (lv_at hl 1 rfl) ?_
  refine lv_if_lt (tgt := 22) hx hb dX9_status_1 (by decide) (fun c9 => absurd c9 (by decide +kernel)) (fun _ => ?_)
  refine lv_iload_n hx hb dX9_status_4 rfl (lv_at hl 1 rfl) ?_
  refine lv_aload_n hx hb dX9_status_5 rfl (lv_at hl 0 rfl) ?_
  refine va_get (D := (dC, dI)) (ci := 9) (v := .ref w52) (C := RX9) (T := TX9) (N := 15) hx hb hts inG9 hown hK hP 0 rfl rfl 14 (by decide) (hts _ k346) (fun _ h9 => h9) rfl dX9_status_6 ?_
  refine va_alen (v := 3) hx hb hK hP 1 0 rfl rfl rfl dX9_status_9 ?_
  refine lv_icmp_ge (tgt := 22) hx hb dX9_status_10 (by decide) (fun c9 => absurd c9 (by decide +kernel)) (fun _ => ?_)
  refine lv_aload_n hx hb dX9_status_13 rfl (lv_at hl 0 rfl) ?_
  refine va_get (D := (dC, dI)) (ci := 9) (v := .ref w52) (C := RX9) (T := TX9) (N := 15) hx hb hts inG9 hown hK hP 0 rfl rfl 14 (by decide) (hts _ k346) (fun _ h9 => h9) rfl dX9_status_14 ?_
  refine lv_iload_n hx hb dX9_status_17 rfl (lv_at hl 1 rfl) ?_
  refine va_iald hx hb hK hP 1 0 rfl rfl (by unfold vp_in; decide +kernel) dX9_status_18 ?_
  refine lv_topi (fun x18_ ex18_ => ?_)
  obtain rfl : x18_ = 0 := ex18_
  refine lv_goto (tgt := 23) hx hb dX9_status_19 (by decide) ?_
  have hP9 := hP.sub (ws' := []) [] rfl
  have hD9 := hD.sub (ws' := []) [] (by decide) rfl
  have hK9 := hK.sub (tys' := []) [] rfl
  refine W.widen (k := 0) (n := 0) (by omega) (by omega) ?_
  exact W.iret (v := 0) hx hb hr (fun t ht hW => ⟨⟨0, (), rfl, rfl, by rw [ht]; exact hP9, va_K.moved hW.alike hK9, hD9⟩, hS.F ht⟩) hS.2.2 dX9_status_23
set_option maxHeartbeats 4000000 in
set_option maxRecDepth 100000 in
theorem c_status2 (l : Launch) (dC : Nat → ClassId) (dI : Nat → Nat → Nat) (sz : Nat) (h0 : Nat) (w1 : Nat) (w6 : Nat) (w8 : Nat) (w15 : Nat) (w22 : Nat) (w26 : Nat) (w31 : Nat) (w35 : Nat) (w40 : Nat) (w48 : Nat) (w50 : Nat) (w52 : Nat) (d53 : ClassId)  : Met l yX9_status (Cond.code yX9_status cX9_status 2 (some .int) :: wsG) ({ frames := 1, cells := 0, slots := 0, locals := 14 } : Room) (va_Pc [.ref h0, .int 2] (fun U => U.heap.size = sz ∧ va_P (dC, dI) vwCl [(h0, .inr (9, [.ref w1, .ref w6, .int 0, .ref w8, .ref w15, .int 0, .int 0, .ref w22, .ref w26, .ref w31, .ref w35, .ref w40, .ref w48, .ref w50, .ref w52])), (w52, .inl (d53, 3, .inl (fun _ => 0)))] U.heap ∧ va_K (dC, dI) vwCl [(d53, .int)] U ∧ va_D (fun _ => True) [(h0, .inr (9, [.ref w1, .ref w6, .int 0, .ref w8, .ref w15, .int 0, .int 0, .ref w22, .ref w26, .ref w31, .ref w35, .ref w40, .ref w48, .ref w50, .ref w52])), (w52, .inl (d53, 3, .inl (fun _ => 0)))])) (va_Qi (fun (r : Int32) (_ : Unit) => r = 0) (fun (_ : Unit) (t : State) => va_P (dC, dI) vwCl [] t.heap ∧ va_K (dC, dI) vwCl [] t ∧ va_D (va_A [(h0, .inr (9, [.ref w1, .ref w6, .int 0, .ref w8, .ref w15, .int 0, .int 0, .ref w22, .ref w26, .ref w31, .ref w35, .ref w40, .ref w48, .ref w50, .ref w52])), (w52, .inl (d53, 3, .inl (fun _ => 0)))] sz) []) (va_A [(h0, .inr (9, [.ref w1, .ref w6, .int 0, .ref w8, .ref w15, .int 0, .int 0, .ref w22, .ref w26, .ref w31, .ref w35, .ref w40, .ref w48, .ref w50, .ref w52])), (w52, .inl (d53, 3, .inl (fun _ => 0)))] sz)) 0 0 (va_A [(h0, .inr (9, [.ref w1, .ref w6, .int 0, .ref w8, .ref w15, .int 0, .int 0, .ref w22, .ref w26, .ref w31, .ref w35, .ref w40, .ref w48, .ref w50, .ref w52])), (w52, .inl (d53, 3, .inl (fun _ => 0)))] sz) := by
  refine Met.ofW (cc := cX9_status) (maxL := 2) (ret := (some .int)) (by decide) rfl ?_
  intro p e s m args below meth c s₁ B hml hv
  obtain ⟨rfl, hsz, hP, hK, hD0⟩ := hv
  have hx := B.exec
  have hb := B.bytes
  have hr := B.returns
  have hts : ∀ w ∈ wsG, w.before _ s = true := hG_of (atoms_spec (ws := (Cond.code yX9_status cX9_status 2 (some .int) :: wsG)) B.pre)
  have hown : s.vm.findClass RX9 = some m.cls := findClass_of_methodNamed B.named
  have hlocks := B.notSynchronized
  subst hsz
  have hD := hD0.self (sz := s.heap.size)
  generalize hAe : va_A [(h0, .inr (9, [.ref w1, .ref w6, .int 0, .ref w8, .ref w15, .int 0, .int 0, .ref w22, .ref w26, .ref w31, .ref w35, .ref w40, .ref w48, .ref w50, .ref w52])), (w52, .inl (d53, 3, .inl (fun _ => 0)))] s.heap.size = A at hD ⊢
  have hA : ∀ q : Nat, s.heap.size ≤ q → A q := fun q h => by rw [← hAe]; exact Or.inr h
  have hS : va_S A s.heap s.heap [] := va_S.rf
  have hl := lv_entry ([.ref h0, .int 2]) (n := 2) (Nat.le_of_ble_eq_true rfl)
  rw [lg_entry_eq]
  generalize (lg_sl ([.ref h0, .int 2]) ++ List.replicate (2 - (lg_sl ([.ref h0, .int 2])).length) Slot.unset).toArray = ls at hl ⊢
  have hl : lv_has ls 2 [(0, .ref h0), (1, .int 2)] := hl
  refine lv_iload_n hx hb dX9_status_0 rfl (lv_at hl 1 rfl) ?_
  refine lv_if_lt (tgt := 22) hx hb dX9_status_1 (by decide) (fun c9 => absurd c9 (by decide +kernel)) (fun _ => ?_)
  refine lv_iload_n hx hb dX9_status_4 rfl (lv_at hl 1 rfl) ?_
  refine lv_aload_n hx hb dX9_status_5 rfl (lv_at hl 0 rfl) ?_
  refine va_get (D := (dC, dI)) (ci := 9) (v := .ref w52) (C := RX9) (T := TX9) (N := 15) hx hb hts inG9 hown hK hP 0 rfl rfl 14 (by decide) (hts _ k346) (fun _ h9 => h9) rfl dX9_status_6 ?_
  refine va_alen (v := 3) hx hb hK hP 1 0 rfl rfl rfl dX9_status_9 ?_
  refine lv_icmp_ge (tgt := 22) hx hb dX9_status_10 (by decide) (fun c9 => absurd c9 (by decide +kernel)) (fun _ => ?_)
  refine lv_aload_n hx hb dX9_status_13 rfl (lv_at hl 0 rfl) ?_
  refine va_get (D := (dC, dI)) (ci := 9) (v := .ref w52) (C := RX9) (T := TX9) (N := 15) hx hb hts inG9 hown hK hP 0 rfl rfl 14 (by decide) (hts _ k346) (fun _ h9 => h9) rfl dX9_status_14 ?_
  refine lv_iload_n hx hb dX9_status_17 rfl (lv_at hl 1 rfl) ?_
  refine va_iald hx hb hK hP 1 0 rfl rfl (by unfold vp_in; decide +kernel) dX9_status_18 ?_
  refine lv_topi (fun x18_ ex18_ => ?_)
  obtain rfl : x18_ = 0 := ex18_
  refine lv_goto (tgt := 23) hx hb dX9_status_19 (by decide) ?_
  have hP9 := hP.sub (ws' := []) [] rfl
  have hD9 := hD.sub (ws' := []) [] (by decide) rfl
  have hK9 := hK.sub (tys' := []) [] rfl
  refine W.widen (k := 0) (n := 0) (by omega) (by omega) ?_
  exact W.iret (v := 0) hx hb hr (fun t ht hW => ⟨⟨0, (), rfl, rfl, by rw [ht]; exact hP9, va_K.moved hW.alike hK9, hD9⟩, hS.F ht⟩) hS.2.2 dX9_status_23
theorem c_status (l : Launch) (dC : Nat → ClassId) (dI : Nat → Nat → Nat) (sz : Nat) (h0 : Nat) (w1 : Nat) (w6 : Nat) (w8 : Nat) (w15 : Nat) (w22 : Nat) (w26 : Nat) (w31 : Nat) (w35 : Nat) (w40 : Nat) (w48 : Nat) (w50 : Nat) (w52 : Nat) (d53 : ClassId) (p1 : Int32) (hq : ¬ p1 < 0 ∧ ¬ (2 : Int32) < p1) : Met l yX9_status (Cond.code yX9_status cX9_status 2 (some .int) :: wsG) ({ frames := 1, cells := 0, slots := 0, locals := 14 } : Room) (va_Pc [.ref h0, .int p1] (fun U => U.heap.size = sz ∧ va_P (dC, dI) vwCl [(h0, .inr (9, [.ref w1, .ref w6, .int 0, .ref w8, .ref w15, .int 0, .int 0, .ref w22, .ref w26, .ref w31, .ref w35, .ref w40, .ref w48, .ref w50, .ref w52])), (w52, .inl (d53, 3, .inl (fun _ => 0)))] U.heap ∧ va_K (dC, dI) vwCl [(d53, .int)] U ∧ va_D (fun _ => True) [(h0, .inr (9, [.ref w1, .ref w6, .int 0, .ref w8, .ref w15, .int 0, .int 0, .ref w22, .ref w26, .ref w31, .ref w35, .ref w40, .ref w48, .ref w50, .ref w52])), (w52, .inl (d53, 3, .inl (fun _ => 0)))])) (va_Qi (fun (r : Int32) (_ : Unit) => r = 0) (fun (_ : Unit) (t : State) => va_P (dC, dI) vwCl [] t.heap ∧ va_K (dC, dI) vwCl [] t ∧ va_D (va_A [(h0, .inr (9, [.ref w1, .ref w6, .int 0, .ref w8, .ref w15, .int 0, .int 0, .ref w22, .ref w26, .ref w31, .ref w35, .ref w40, .ref w48, .ref w50, .ref w52])), (w52, .inl (d53, 3, .inl (fun _ => 0)))] sz) []) (va_A [(h0, .inr (9, [.ref w1, .ref w6, .int 0, .ref w8, .ref w15, .int 0, .int 0, .ref w22, .ref w26, .ref w31, .ref w35, .ref w40, .ref w48, .ref w50, .ref w52])), (w52, .inl (d53, 3, .inl (fun _ => 0)))] sz)) 0 0 (va_A [(h0, .inr (9, [.ref w1, .ref w6, .int 0, .ref w8, .ref w15, .int 0, .int 0, .ref w22, .ref w26, .ref w31, .ref w35, .ref w40, .ref w48, .ref w50, .ref w52])), (w52, .inl (d53, 3, .inl (fun _ => 0)))] sz) := by
  rcases (show p1 = 0 ∨ p1 = 1 ∨ p1 = 2 from x_cases3 hq) with rfl | rfl | rfl
  · exact c_status0 l dC dI sz h0 w1 w6 w8 w15 w22 w26 w31 w35 w40 w48 w50 w52 d53
  · exact c_status1 l dC dI sz h0 w1 w6 w8 w15 w22 w26 w31 w35 w40 w48 w50 w52 d53
  · exact c_status2 l dC dI sz h0 w1 w6 w8 w15 w22 w26 w31 w35 w40 w48 w50 w52 d53

set_option maxHeartbeats 4000000 in
set_option maxRecDepth 100000 in
theorem c_statusX (l : Launch) (dC : Nat → ClassId) (dI : Nat → Nat → Nat) (sz : Nat) (h0 : Nat) (w1 : Nat) (w6 : Nat) (w8 : Nat) (w15 : Nat) (w22 : Nat) (w26 : Nat) (w31 : Nat) (w35 : Nat) (w40 : Nat) (w48 : Nat) (w50 : Nat) (w52 : Nat) (d53 : ClassId) (p1 : Int32) (hq : ¬ (¬ p1 < 0 ∧ ¬ (2 : Int32) < p1)) : Met l yX9_status (Cond.code yX9_status cX9_status 2 (some .int) :: wsG) ({ frames := 1, cells := 0, slots := 0, locals := 14 } : Room) (va_Pc [.ref h0, .int p1] (fun U => U.heap.size = sz ∧ va_P (dC, dI) vwCl [(h0, .inr (9, [.ref w1, .ref w6, .int 0, .ref w8, .ref w15, .int 0, .int 0, .ref w22, .ref w26, .ref w31, .ref w35, .ref w40, .ref w48, .ref w50, .ref w52])), (w52, .inl (d53, 3, .inl (fun _ => 0)))] U.heap ∧ va_K (dC, dI) vwCl [(d53, .int)] U ∧ va_D (fun _ => True) [(h0, .inr (9, [.ref w1, .ref w6, .int 0, .ref w8, .ref w15, .int 0, .int 0, .ref w22, .ref w26, .ref w31, .ref w35, .ref w40, .ref w48, .ref w50, .ref w52])), (w52, .inl (d53, 3, .inl (fun _ => 0)))])) (va_Qi (fun (r : Int32) (_ : Unit) => r = (-1)) (fun (_ : Unit) (t : State) => va_P (dC, dI) vwCl [] t.heap ∧ va_K (dC, dI) vwCl [] t ∧ va_D (va_A [(h0, .inr (9, [.ref w1, .ref w6, .int 0, .ref w8, .ref w15, .int 0, .int 0, .ref w22, .ref w26, .ref w31, .ref w35, .ref w40, .ref w48, .ref w50, .ref w52])), (w52, .inl (d53, 3, .inl (fun _ => 0)))] sz) []) (va_A [(h0, .inr (9, [.ref w1, .ref w6, .int 0, .ref w8, .ref w15, .int 0, .int 0, .ref w22, .ref w26, .ref w31, .ref w35, .ref w40, .ref w48, .ref w50, .ref w52])), (w52, .inl (d53, 3, .inl (fun _ => 0)))] sz)) 0 0 (va_A [(h0, .inr (9, [.ref w1, .ref w6, .int 0, .ref w8, .ref w15, .int 0, .int 0, .ref w22, .ref w26, .ref w31, .ref w35, .ref w40, .ref w48, .ref w50, .ref w52])), (w52, .inl (d53, 3, .inl (fun _ => 0)))] sz) := by
  refine Met.ofW (cc := cX9_status) (maxL := 2) (ret := (some .int)) (by decide) rfl ?_
  intro p e s m args below meth c s₁ B hml hv
  obtain ⟨rfl, hsz, hP, hK, hD0⟩ := hv
  have hx := B.exec
  have hb := B.bytes
  have hr := B.returns
  have hts : ∀ w ∈ wsG, w.before _ s = true := hG_of (atoms_spec (ws := (Cond.code yX9_status cX9_status 2 (some .int) :: wsG)) B.pre)
  have hown : s.vm.findClass RX9 = some m.cls := findClass_of_methodNamed B.named
  have hlocks := B.notSynchronized
  subst hsz
  have hD := hD0.self (sz := s.heap.size)
  generalize hAe : va_A [(h0, .inr (9, [.ref w1, .ref w6, .int 0, .ref w8, .ref w15, .int 0, .int 0, .ref w22, .ref w26, .ref w31, .ref w35, .ref w40, .ref w48, .ref w50, .ref w52])), (w52, .inl (d53, 3, .inl (fun _ => 0)))] s.heap.size = A at hD ⊢
  have hA : ∀ q : Nat, s.heap.size ≤ q → A q := fun q h => by rw [← hAe]; exact Or.inr h
  have hS : va_S A s.heap s.heap [] := va_S.rf
  have hl := lv_entry ([.ref h0, .int p1]) (n := 2) (Nat.le_of_ble_eq_true rfl)
  rw [lg_entry_eq]
  generalize (lg_sl ([.ref h0, .int p1]) ++ List.replicate (2 - (lg_sl ([.ref h0, .int p1])).length) Slot.unset).toArray = ls at hl ⊢
  have hl : lv_has ls 2 [(0, .ref h0), (1, .int p1)] := hl
  refine lv_iload_n hx hb dX9_status_0 rfl (lv_at hl 1 rfl) ?_
  refine lv_if_lt (tgt := 22) hx hb dX9_status_1 (by decide) (fun c1_ => ?_) (fun c1_ => ?_)
  · refine lv_iconst (v := (-1)) hx hb dX9_status_22 (by decide) ?_
    have hP9 := hP.sub (ws' := []) [] rfl
    have hD9 := hD.sub (ws' := []) [] (by decide) rfl
    have hK9 := hK.sub (tys' := []) [] rfl
    refine W.widen (k := 0) (n := 0) (by omega) (by omega) ?_
    exact W.iret (v := (-1)) hx hb hr (fun t ht hW => ⟨⟨(-1), (), rfl, rfl, by rw [ht]; exact hP9, va_K.moved hW.alike hK9, hD9⟩, hS.F ht⟩) hS.2.2 dX9_status_23
  · refine lv_iload_n hx hb dX9_status_4 rfl (lv_at hl 1 rfl) ?_
    refine lv_aload_n hx hb dX9_status_5 rfl (lv_at hl 0 rfl) ?_
    refine va_get (D := (dC, dI)) (ci := 9) (v := .ref w52) (C := RX9) (T := TX9) (N := 15) hx hb hts inG9 hown hK hP 0 rfl rfl 14 (by decide) (hts _ k346) (fun _ h9 => h9) rfl dX9_status_6 ?_
    refine va_alen (v := 3) hx hb hK hP 1 0 rfl rfl rfl dX9_status_9 ?_
    refine lv_icmp_ge (tgt := 22) hx hb dX9_status_10 (by decide) (fun _ => ?_) (fun c10_ => absurd (x_3 hq c1_) c10_)
    refine lv_iconst (v := (-1)) hx hb dX9_status_22 (by decide) ?_
    have hP9 := hP.sub (ws' := []) [] rfl
    have hD9 := hD.sub (ws' := []) [] (by decide) rfl
    have hK9 := hK.sub (tys' := []) [] rfl
    refine W.widen (k := 0) (n := 0) (by omega) (by omega) ?_
    exact W.iret (v := (-1)) hx hb hr (fun t ht hW => ⟨⟨(-1), (), rfl, rfl, by rw [ht]; exact hP9, va_K.moved hW.alike hK9, hD9⟩, hS.F ht⟩) hS.2.2 dX9_status_23
set_option maxHeartbeats 4000000 in
set_option maxRecDepth 100000 in
theorem c_faulty (l : Launch) (dC : Nat → ClassId) (dI : Nat → Nat → Nat) (sz : Nat) (w1 : Nat) (w2 : Nat) (w3 : Nat) (w4 : Nat)  : Met l yX5_faulty (Cond.code yX5_faulty cX5_faulty 3 (some .int) :: wsG) ({ frames := 1, cells := 0, slots := 0, locals := 14 } : Room) (va_Pc [.ref w1, .int 1, .int 0] (fun U => U.heap.size = sz ∧ va_P (dC, dI) vwCl [(w1, .inr (5, [.ref w2, .int 0, .ref w3, .int 0, .ref w4, .int 0, .int (-1), .int 0]))] U.heap ∧ va_K (dC, dI) vwCl [] U ∧ va_D (fun _ => True) [(w1, .inr (5, [.ref w2, .int 0, .ref w3, .int 0, .ref w4, .int 0, .int (-1), .int 0]))])) (va_Qi (fun (r : Int32) (_ : Unit) => r = 1) (fun (_ : Unit) (t : State) => va_P (dC, dI) vwCl [(w1, .inr (5, [.ref w2, .int 0, .ref w3, .int 0, .ref w4, .int 0, .int 0, .int 0]))] t.heap ∧ va_K (dC, dI) vwCl [] t ∧ va_D (va_A [(w1, .inr (5, [.ref w2, .int 0, .ref w3, .int 0, .ref w4, .int 0, .int (-1), .int 0]))] sz) [(w1, .inr (5, [.ref w2, .int 0, .ref w3, .int 0, .ref w4, .int 0, .int 0, .int 0]))]) (va_A [(w1, .inr (5, [.ref w2, .int 0, .ref w3, .int 0, .ref w4, .int 0, .int (-1), .int 0]))] sz)) 0 0 (va_A [(w1, .inr (5, [.ref w2, .int 0, .ref w3, .int 0, .ref w4, .int 0, .int (-1), .int 0]))] sz) := by
  refine Met.ofW (cc := cX5_faulty) (maxL := 3) (ret := (some .int)) (by decide) rfl ?_
  intro p e s m args below meth c s₁ B hml hv
  obtain ⟨rfl, hsz, hP, hK, hD0⟩ := hv
  have hx := B.exec
  have hb := B.bytes
  have hr := B.returns
  have hts : ∀ w ∈ wsG, w.before _ s = true := hG_of (atoms_spec (ws := (Cond.code yX5_faulty cX5_faulty 3 (some .int) :: wsG)) B.pre)
  have hown : s.vm.findClass RX5 = some m.cls := findClass_of_methodNamed B.named
  have hlocks := B.notSynchronized
  subst hsz
  have hD := hD0.self (sz := s.heap.size)
  generalize hAe : va_A [(w1, .inr (5, [.ref w2, .int 0, .ref w3, .int 0, .ref w4, .int 0, .int (-1), .int 0]))] s.heap.size = A at hD ⊢
  have hA : ∀ q : Nat, s.heap.size ≤ q → A q := fun q h => by rw [← hAe]; exact Or.inr h
  have hS : va_S A s.heap s.heap [] := va_S.rf
  have hl := lv_entry ([.ref w1, .int 1, .int 0]) (n := 3) (Nat.le_of_ble_eq_true rfl)
  rw [lg_entry_eq]
  generalize (lg_sl ([.ref w1, .int 1, .int 0]) ++ List.replicate (3 - (lg_sl ([.ref w1, .int 1, .int 0])).length) Slot.unset).toArray = ls at hl ⊢
  have hl : lv_has ls 3 [(0, .ref w1), (1, .int 1), (2, .int 0)] := hl
  refine lv_aload_n hx hb dX5_faulty_0 rfl (lv_at hl 0 rfl) ?_
  refine lv_iload_n hx hb dX5_faulty_1 rfl (lv_at hl 2 rfl) ?_
  refine va_put (D := (dC, dI)) (ci := 5) (v := .int 0) (ty := .int) (C := RX5) (T := TX5) (N := 8) hx hb hts inG5 tyX5 tyX5_ok nmX5 hown hK hP hD hS 0 rfl rfl 6 (by decide) (hts _ k45) (fun _ h9 => h9) rfl (by decide +kernel) rfl rfl (Nat.le_of_ble_eq_true rfl) dX5_faulty_2 (fun H locs hP hD hS => ?_)
  have hP : va_P (dC, dI) vwCl [(w1, .inr (5, [.ref w2, .int 0, .ref w3, .int 0, .ref w4, .int 0, .int 0, .int 0]))] H := hP
  have hD : va_D A [(w1, .inr (5, [.ref w2, .int 0, .ref w3, .int 0, .ref w4, .int 0, .int 0, .int 0]))] := hD
  refine lv_iload_n hx hb dX5_faulty_5 rfl (lv_at hl 1 rfl) ?_
  have hP9 := hP.sub (ws' := [(w1, .inr (5, [.ref w2, .int 0, .ref w3, .int 0, .ref w4, .int 0, .int 0, .int 0]))]) [0] rfl
  have hD9 := hD.sub (ws' := [(w1, .inr (5, [.ref w2, .int 0, .ref w3, .int 0, .ref w4, .int 0, .int 0, .int 0]))]) [0] (by decide) rfl
  have hK9 := hK.sub (tys' := []) [] rfl
  refine W.widen (k := 0) (n := 0) (by omega) (by omega) ?_
  exact W.iret (v := 1) hx hb hr (fun t ht hW => ⟨⟨1, (), rfl, rfl, by rw [ht]; exact hP9, va_K.moved hW.alike hK9, hD9⟩, hS.F ht⟩) hS.2.2 dX5_faulty_6
set_option maxHeartbeats 4000000 in
set_option maxRecDepth 100000 in
theorem c_readText (l : Launch) (dC : Nat → ClassId) (dI : Nat → Nat → Nat) (sz : Nat) (w1 : Nat) (w2 : Nat) (w3 : Nat) (w4 : Nat)  : Met l yX5_readText (Cond.code yX5_readText cX5_readText 5 (some .int) :: wsG) ({ frames := 2, cells := 0, slots := 0, locals := 36 } : Room) (va_Pc [.ref w1, .int 0] (fun U => U.heap.size = sz ∧ va_P (dC, dI) vwCl [(w1, .inr (5, [.ref w2, .int 0, .ref w3, .int 0, .ref w4, .int 0, .int (-1), .int 0]))] U.heap ∧ va_K (dC, dI) vwCl [] U ∧ va_D (fun _ => True) [(w1, .inr (5, [.ref w2, .int 0, .ref w3, .int 0, .ref w4, .int 0, .int (-1), .int 0]))])) (va_Qi (fun (r : Int32) (_ : Unit) => r = 1) (fun (_ : Unit) (t : State) => va_P (dC, dI) vwCl [(w1, .inr (5, [.ref w2, .int 0, .ref w3, .int 0, .ref w4, .int 0, .int 0, .int 0]))] t.heap ∧ va_K (dC, dI) vwCl [] t ∧ va_D (va_A [(w1, .inr (5, [.ref w2, .int 0, .ref w3, .int 0, .ref w4, .int 0, .int (-1), .int 0]))] sz) [(w1, .inr (5, [.ref w2, .int 0, .ref w3, .int 0, .ref w4, .int 0, .int 0, .int 0]))]) (va_A [(w1, .inr (5, [.ref w2, .int 0, .ref w3, .int 0, .ref w4, .int 0, .int (-1), .int 0]))] sz)) 0 0 (va_A [(w1, .inr (5, [.ref w2, .int 0, .ref w3, .int 0, .ref w4, .int 0, .int (-1), .int 0]))] sz) := by
  refine Met.ofW (cc := cX5_readText) (maxL := 5) (ret := (some .int)) (by decide) rfl ?_
  intro p e s m args below meth c s₁ B hml hv
  obtain ⟨rfl, hsz, hP, hK, hD0⟩ := hv
  have hx := B.exec
  have hb := B.bytes
  have hr := B.returns
  have hts : ∀ w ∈ wsG, w.before _ s = true := hG_of (atoms_spec (ws := (Cond.code yX5_readText cX5_readText 5 (some .int) :: wsG)) B.pre)
  have hown : s.vm.findClass RX5 = some m.cls := findClass_of_methodNamed B.named
  have hlocks := B.notSynchronized
  subst hsz
  have hD := hD0.self (sz := s.heap.size)
  generalize hAe : va_A [(w1, .inr (5, [.ref w2, .int 0, .ref w3, .int 0, .ref w4, .int 0, .int (-1), .int 0]))] s.heap.size = A at hD ⊢
  have hA : ∀ q : Nat, s.heap.size ≤ q → A q := fun q h => by rw [← hAe]; exact Or.inr h
  have hS : va_S A s.heap s.heap [] := va_S.rf
  have hl := lv_entry ([.ref w1, .int 0]) (n := 5) (Nat.le_of_ble_eq_true rfl)
  rw [lg_entry_eq]
  generalize (lg_sl ([.ref w1, .int 0]) ++ List.replicate (5 - (lg_sl ([.ref w1, .int 0])).length) Slot.unset).toArray = ls at hl ⊢
  have hl : lv_has ls 5 [(0, .ref w1), (1, .int 0)] := hl
  refine lv_aload_n hx hb dX5_readText_0 rfl (lv_at hl 0 rfl) ?_
  refine va_get (D := (dC, dI)) (ci := 5) (v := .int 0) (C := RX5) (T := TX5) (N := 8) hx hb hts inG5 hown hK hP 0 rfl rfl 3 (by decide) (hts _ k39) (fun _ h9 => h9) rfl dX5_readText_1 ?_
  refine lv_istore_n (lv' := [(2, .int 0), (0, .ref w1), (1, .int 0)]) hx hb dX5_readText_4 rfl hl (by decide) rfl (fun ls hl => ?_)
  refine lv_iconst (v := 0) hx hb dX5_readText_5 (by decide) ?_
  refine lv_istore_n (lv' := [(3, .int 0), (2, .int 0), (0, .ref w1), (1, .int 0)]) hx hb dX5_readText_6 rfl hl (by decide) rfl (fun ls hl => ?_)
  refine lv_aload_n hx hb dX5_readText_7 rfl (lv_at hl 2 rfl) ?_
  refine lv_iconst (v := 0) hx hb dX5_readText_8 (by decide) ?_
  refine va_put (D := (dC, dI)) (ci := 5) (v := .int 0) (ty := .int) (C := RX5) (T := TX5) (N := 8) hx hb hts inG5 tyX5 tyX5_ok nmX5 hown hK hP hD hS 0 rfl rfl 7 (by decide) (hts _ k47) (fun _ h9 => h9) rfl (by decide +kernel) rfl rfl (Nat.le_of_ble_eq_true rfl) dX5_readText_9 (fun H locs hP hD hS => ?_)
  have hP : va_P (dC, dI) vwCl [(w1, .inr (5, [.ref w2, .int 0, .ref w3, .int 0, .ref w4, .int 0, .int (-1), .int 0]))] H := hP
  have hD : va_D A [(w1, .inr (5, [.ref w2, .int 0, .ref w3, .int 0, .ref w4, .int 0, .int (-1), .int 0]))] := hD
  refine lv_aload_n hx hb dX5_readText_12 rfl (lv_at hl 2 rfl) ?_
  refine lv_iconst (v := 0) hx hb dX5_readText_13 (by decide) ?_
  refine va_put (D := (dC, dI)) (ci := 5) (v := .int 0) (ty := .int) (C := RX5) (T := TX5) (N := 8) hx hb hts inG5 tyX5 tyX5_ok nmX5 hown hK hP hD hS 0 rfl rfl 5 (by decide) (hts _ k43) (fun _ h9 => h9) rfl (by decide +kernel) rfl rfl (Nat.le_of_ble_eq_true rfl) dX5_readText_14 (fun H locs hP hD hS => ?_)
  have hP : va_P (dC, dI) vwCl [(w1, .inr (5, [.ref w2, .int 0, .ref w3, .int 0, .ref w4, .int 0, .int (-1), .int 0]))] H := hP
  have hD : va_D A [(w1, .inr (5, [.ref w2, .int 0, .ref w3, .int 0, .ref w4, .int 0, .int (-1), .int 0]))] := hD
  refine lv_aload_n hx hb dX5_readText_17 rfl (lv_at hl 2 rfl) ?_
  refine lv_iconst (v := (-1)) hx hb dX5_readText_18 (by decide) ?_
  refine va_put (D := (dC, dI)) (ci := 5) (v := .int (-1)) (ty := .int) (C := RX5) (T := TX5) (N := 8) hx hb hts inG5 tyX5 tyX5_ok nmX5 hown hK hP hD hS 0 rfl rfl 6 (by decide) (hts _ k45) (fun _ h9 => h9) rfl (by decide +kernel) rfl rfl (Nat.le_of_ble_eq_true rfl) dX5_readText_19 (fun H locs hP hD hS => ?_)
  have hP : va_P (dC, dI) vwCl [(w1, .inr (5, [.ref w2, .int 0, .ref w3, .int 0, .ref w4, .int 0, .int (-1), .int 0]))] H := hP
  have hD : va_D A [(w1, .inr (5, [.ref w2, .int 0, .ref w3, .int 0, .ref w4, .int 0, .int (-1), .int 0]))] := hD
  refine lv_iconst (v := 0) hx hb dX5_readText_22 (by decide) ?_
  refine lv_istore (lv' := [(4, .int 0), (3, .int 0), (2, .int 0), (0, .ref w1), (1, .int 0)]) hx hb dX5_readText_23 hl (by decide) rfl (fun ls hl => ?_)
  refine lv_iload hx hb dX5_readText_25 (lv_at hl 0 rfl) ?_
  refine lv_iload_n hx hb dX5_readText_27 rfl (lv_at hl 4 rfl) ?_
  refine lv_icmp_ge (tgt := 55) hx hb dX5_readText_28 (by decide) (fun _ => ?_) (fun c9 => absurd (by decide +kernel) c9)
  refine lv_iload_n hx hb dX5_readText_55 rfl (lv_at hl 1 rfl) ?_
  refine lv_if_ne (tgt := 73) hx hb dX5_readText_56 (by decide) (fun c9 => absurd (by decide +kernel) c9) (fun _ => ?_)
  refine lv_aload_n hx hb dX5_readText_59 rfl (lv_at hl 3 rfl) ?_
  refine va_get (D := (dC, dI)) (ci := 5) (v := .int 0) (C := RX5) (T := TX5) (N := 8) hx hb hts inG5 hown hK hP 0 rfl rfl 5 (by decide) (hts _ k43) (fun _ h9 => h9) rfl dX5_readText_60 ?_
  refine lv_if_ne (tgt := 73) hx hb dX5_readText_63 (by decide) (fun c9 => absurd (by decide +kernel) c9) (fun _ => ?_)
  refine lv_aload_n hx hb dX5_readText_66 rfl (lv_at hl 3 rfl) ?_
  refine lv_iconst (v := 1) hx hb dX5_readText_67 (by decide) ?_
  refine lv_iload_n hx hb dX5_readText_68 rfl (lv_at hl 4 rfl) ?_
  have hPc := hP.sub (ws' := [(w1, .inr (5, [.ref w2, .int 0, .ref w3, .int 0, .ref w4, .int 0, .int (-1), .int 0]))]) [0] rfl
  have hDc := hD.sub (ws' := [(w1, .inr (5, [.ref w2, .int 0, .ref w3, .int 0, .ref w4, .int 0, .int (-1), .int 0]))]) [0] (by decide) rfl
  have hKc := hK.sub (tys' := []) [] rfl
  have hFc := va_free (wc := [(w1, .inr (5, [.ref w2, .int 0, .ref w3, .int 0, .ref w4, .int 0, .int (-1), .int 0]))]) hD hS hA [0] rfl
  refine va_calli (va_runV (As := [.int 1, .int 0]) (rest := []) ⟨hx, hb, hml, hown, hts⟩ (c_faulty l dC dI H.size (w1) (w2) (w3) (w4)) (cwV 2 hts (gV_G k702 k704 ks_yX5_faulty k2 k705) rfl rfl rfl (by decide +kernel) ⟨Nat.le_of_ble_eq_true rfl, Nat.le_of_ble_eq_true rfl⟩) ⟨fun a U g mk q => by obtain ⟨q0, q1, qP, qK, qD⟩ := q; exact ⟨q0, q1, qP, va_K.moved (u := U) (U := U.calling g mk a) (Vm.Alike.refl U.vm) qK, qD⟩, va_recv hKc hPc (ci := 5) (q0 := 0) rfl rfl, fun U hU hW => ⟨rfl, by rw [hU], by rw [hU]; exact hPc, va_K.moved hW.alike hKc, hDc.weaken (fun _ _ _ _ => trivial)⟩⟩ rfl rfl hl.1 rfl (lv_room (Nat.le_of_ble_eq_true rfl)) dX5_readText_69 ⟨Nat.le_of_ble_eq_true rfl, Nat.le_of_ble_eq_true rfl⟩) hS (fun q _ h => hFc q h) hFc (fun r1 u t H1 locs ht hvm hw hB hz1 hk1 hS => ?_)
  obtain ⟨hP1, hK1, hD1⟩ := hB
  rw [ht] at hP1
  have hK1 := va_K.moved hvm.symm hK1
  try dsimp only at hw
  obtain ⟨hP, hD⟩ := va_join (wr := []) (w1 := [(w1, .inr (5, [.ref w2, .int 0, .ref w3, .int 0, .ref w4, .int 0, .int 0, .int 0]))]) hP hD [0] [] rfl rfl (by decide) (by decide) hk1 hFc hP1 hD1
  have hK := hK.app hK1
  generalize H1 = H at hP hS ⊢
  have hP : va_P (dC, dI) vwCl [(w1, .inr (5, [.ref w2, .int 0, .ref w3, .int 0, .ref w4, .int 0, .int 0, .int 0]))] H := hP
  have hD : va_D A [(w1, .inr (5, [.ref w2, .int 0, .ref w3, .int 0, .ref w4, .int 0, .int 0, .int 0]))] := hD
  have hK : va_K (dC, dI) vwCl [] s := hK
  refine W.widen (k := 0) (n := 0) (by omega) (by omega) ?_
  obtain rfl : r1 = 1 := hw
  refine lv_istore_n (lv' := [(3, .int 1), (4, .int 0), (2, .int 0), (0, .ref w1), (1, .int 0)]) hx hb dX5_readText_72 rfl hl (by decide) rfl (fun ls hl => ?_)
  refine lv_iload_n hx hb dX5_readText_73 rfl (lv_at hl 0 rfl) ?_
  refine lv_if_eq (tgt := 82) hx hb dX5_readText_74 (by decide) (fun c9 => absurd c9 (by decide +kernel)) (fun _ => ?_)
  refine lv_aload_n hx hb dX5_readText_77 rfl (lv_at hl 3 rfl) ?_
  refine lv_iload_n hx hb dX5_readText_78 rfl (lv_at hl 2 rfl) ?_
  refine va_put (D := (dC, dI)) (ci := 5) (v := .int 0) (ty := .int) (C := RX5) (T := TX5) (N := 8) hx hb hts inG5 tyX5 tyX5_ok nmX5 hown hK hP hD hS 0 rfl rfl 3 (by decide) (hts _ k39) (fun _ h9 => h9) rfl (by decide +kernel) rfl rfl (Nat.le_of_ble_eq_true rfl) dX5_readText_79 (fun H locs hP hD hS => ?_)
  have hP : va_P (dC, dI) vwCl [(w1, .inr (5, [.ref w2, .int 0, .ref w3, .int 0, .ref w4, .int 0, .int 0, .int 0]))] H := hP
  have hD : va_D A [(w1, .inr (5, [.ref w2, .int 0, .ref w3, .int 0, .ref w4, .int 0, .int 0, .int 0]))] := hD
  refine lv_iload_n hx hb dX5_readText_82 rfl (lv_at hl 0 rfl) ?_
  have hP9 := hP.sub (ws' := [(w1, .inr (5, [.ref w2, .int 0, .ref w3, .int 0, .ref w4, .int 0, .int 0, .int 0]))]) [0] rfl
  have hD9 := hD.sub (ws' := [(w1, .inr (5, [.ref w2, .int 0, .ref w3, .int 0, .ref w4, .int 0, .int 0, .int 0]))]) [0] (by decide) rfl
  have hK9 := hK.sub (tys' := []) [] rfl
  refine W.widen (k := 0) (n := 0) (by omega) (by omega) ?_
  exact W.iret (v := 1) hx hb hr (fun t ht hW => ⟨⟨1, (), rfl, rfl, by rw [ht]; exact hP9, va_K.moved hW.alike hK9, hD9⟩, hS.F ht⟩) hS.2.2 dX5_readText_83
set_option maxHeartbeats 4000000 in
set_option maxRecDepth 100000 in
theorem c_page (l : Launch) (dC : Nat → ClassId) (dI : Nat → Nat → Nat) (sz : Nat) (h0 : Nat) (w1 : Nat) (w6 : Nat) (w8 : Nat) (w15 : Nat) (w22 : Nat) (w26 : Nat) (w31 : Nat) (w35 : Nat) (w40 : Nat) (w48 : Nat) (w50 : Nat) (w52 : Nat) (w2 : Nat) (w3 : Nat) (w4 : Nat)  : Met l yX9_page (Cond.code yX9_page cX9_page 3 (some .int) :: wsG) ({ frames := 3, cells := 0, slots := 0, locals := 60 } : Room) (va_Pc [.ref h0, .int 0] (fun U => U.heap.size = sz ∧ va_P (dC, dI) vwCl [(h0, .inr (9, [.ref w1, .ref w6, .int 0, .ref w8, .ref w15, .int 0, .int 0, .ref w22, .ref w26, .ref w31, .ref w35, .ref w40, .ref w48, .ref w50, .ref w52])), (w1, .inr (5, [.ref w2, .int 0, .ref w3, .int 0, .ref w4, .int 0, .int (-1), .int 0]))] U.heap ∧ va_K (dC, dI) vwCl [] U ∧ va_D (fun _ => True) [(h0, .inr (9, [.ref w1, .ref w6, .int 0, .ref w8, .ref w15, .int 0, .int 0, .ref w22, .ref w26, .ref w31, .ref w35, .ref w40, .ref w48, .ref w50, .ref w52])), (w1, .inr (5, [.ref w2, .int 0, .ref w3, .int 0, .ref w4, .int 0, .int (-1), .int 0]))])) (va_Qi (fun (r : Int32) (_ : Unit) => r = (-9)) (fun (_ : Unit) (t : State) => va_P (dC, dI) vwCl [] t.heap ∧ va_K (dC, dI) vwCl [] t ∧ va_D (va_A [(h0, .inr (9, [.ref w1, .ref w6, .int 0, .ref w8, .ref w15, .int 0, .int 0, .ref w22, .ref w26, .ref w31, .ref w35, .ref w40, .ref w48, .ref w50, .ref w52])), (w1, .inr (5, [.ref w2, .int 0, .ref w3, .int 0, .ref w4, .int 0, .int (-1), .int 0]))] sz) []) (va_A [(h0, .inr (9, [.ref w1, .ref w6, .int 0, .ref w8, .ref w15, .int 0, .int 0, .ref w22, .ref w26, .ref w31, .ref w35, .ref w40, .ref w48, .ref w50, .ref w52])), (w1, .inr (5, [.ref w2, .int 0, .ref w3, .int 0, .ref w4, .int 0, .int (-1), .int 0]))] sz)) 0 0 (va_A [(h0, .inr (9, [.ref w1, .ref w6, .int 0, .ref w8, .ref w15, .int 0, .int 0, .ref w22, .ref w26, .ref w31, .ref w35, .ref w40, .ref w48, .ref w50, .ref w52])), (w1, .inr (5, [.ref w2, .int 0, .ref w3, .int 0, .ref w4, .int 0, .int (-1), .int 0]))] sz) := by
  refine Met.ofW (cc := cX9_page) (maxL := 3) (ret := (some .int)) (by decide) rfl ?_
  intro p e s m args below meth c s₁ B hml hv
  obtain ⟨rfl, hsz, hP, hK, hD0⟩ := hv
  have hx := B.exec
  have hb := B.bytes
  have hr := B.returns
  have hts : ∀ w ∈ wsG, w.before _ s = true := hG_of (atoms_spec (ws := (Cond.code yX9_page cX9_page 3 (some .int) :: wsG)) B.pre)
  have hown : s.vm.findClass RX9 = some m.cls := findClass_of_methodNamed B.named
  have hlocks := B.notSynchronized
  subst hsz
  have hD := hD0.self (sz := s.heap.size)
  generalize hAe : va_A [(h0, .inr (9, [.ref w1, .ref w6, .int 0, .ref w8, .ref w15, .int 0, .int 0, .ref w22, .ref w26, .ref w31, .ref w35, .ref w40, .ref w48, .ref w50, .ref w52])), (w1, .inr (5, [.ref w2, .int 0, .ref w3, .int 0, .ref w4, .int 0, .int (-1), .int 0]))] s.heap.size = A at hD ⊢
  have hA : ∀ q : Nat, s.heap.size ≤ q → A q := fun q h => by rw [← hAe]; exact Or.inr h
  have hS : va_S A s.heap s.heap [] := va_S.rf
  have hl := lv_entry ([.ref h0, .int 0]) (n := 3) (Nat.le_of_ble_eq_true rfl)
  rw [lg_entry_eq]
  generalize (lg_sl ([.ref h0, .int 0]) ++ List.replicate (3 - (lg_sl ([.ref h0, .int 0])).length) Slot.unset).toArray = ls at hl ⊢
  have hl : lv_has ls 3 [(0, .ref h0), (1, .int 0)] := hl
  refine lv_aload_n hx hb dX9_page_0 rfl (lv_at hl 0 rfl) ?_
  refine lv_iload_n hx hb dX9_page_1 rfl (lv_at hl 1 rfl) ?_
  refine lv_if_lt (tgt := 20) hx hb dX9_page_2 (by decide) (fun c9 => absurd c9 (by decide +kernel)) (fun _ => ?_)
  refine lv_iload_n hx hb dX9_page_5 rfl (lv_at hl 1 rfl) ?_
  refine lv_aload_n hx hb dX9_page_6 rfl (lv_at hl 0 rfl) ?_
  refine va_get (D := (dC, dI)) (ci := 9) (v := .ref w1) (C := RX9) (T := TX9) (N := 15) hx hb hts inG9 hown hK hP 0 rfl rfl 0 (by decide) (hts _ k332) (fun _ h9 => h9) rfl dX9_page_7 ?_
  refine va_get (D := (dC, dI)) (ci := 5) (v := .int 0) (C := RX5) (T := TX5) (N := 8) hx hb hts inG5 hown hK hP 1 rfl rfl 1 (by decide) (hts _ k37) (fun _ h9 => h9) rfl dX9_page_10 ?_
  refine lv_icmp_gt (tgt := 20) hx hb dX9_page_13 (by decide) (fun c9 => absurd c9 (by decide +kernel)) (fun _ => ?_)
  refine lv_iconst (v := 1) hx hb dX9_page_16 (by decide) ?_
  refine lv_goto (tgt := 21) hx hb dX9_page_17 (by decide) ?_
  have hPc := hP.sub (ws' := [(h0, .inr (9, [.ref w1, .ref w6, .int 0, .ref w8, .ref w15, .int 0, .int 0, .ref w22, .ref w26, .ref w31, .ref w35, .ref w40, .ref w48, .ref w50, .ref w52]))]) [0] rfl
  have hDc := hD.sub (ws' := [(h0, .inr (9, [.ref w1, .ref w6, .int 0, .ref w8, .ref w15, .int 0, .int 0, .ref w22, .ref w26, .ref w31, .ref w35, .ref w40, .ref w48, .ref w50, .ref w52]))]) [0] (by decide) rfl
  have hKc := hK.sub (tys' := []) [] rfl
  have hFc := va_free (wc := [(h0, .inr (9, [.ref w1, .ref w6, .int 0, .ref w8, .ref w15, .int 0, .int 0, .ref w22, .ref w26, .ref w31, .ref w35, .ref w40, .ref w48, .ref w50, .ref w52]))]) hD hS hA [0] rfl
  refine va_callv (va_runV (As := [.int 1]) (rest := []) ⟨hx, hb, hml, hown, hts⟩ (c_needArg1 l dC dI s.heap.size (h0) (w1) (w6) (w8) (w15) (w22) (w26) (w31) (w35) (w40) (w48) (w50) (w52)) (cwV 1 hts (gV_G k596 k598 ks_yX9_needArgument k1 k599) rfl rfl rfl (by decide +kernel) ⟨Nat.le_of_ble_eq_true rfl, Nat.le_of_ble_eq_true rfl⟩) ⟨fun a U g mk q => by obtain ⟨q0, q1, qP, qK, qD⟩ := q; exact ⟨q0, q1, qP, va_K.moved (u := U) (U := U.calling g mk a) (Vm.Alike.refl U.vm) qK, qD⟩, va_recv hKc hPc (ci := 9) (q0 := 0) rfl rfl, fun U hU hW => ⟨rfl, by rw [hU], by rw [hU]; exact hPc, va_K.moved hW.alike hKc, hDc.weaken (fun _ _ _ _ => trivial)⟩⟩ rfl rfl hl.1 rfl (lv_room (Nat.le_of_ble_eq_true rfl)) dX9_page_21 ⟨Nat.le_of_ble_eq_true rfl, Nat.le_of_ble_eq_true rfl⟩) hS (fun q _ h => hFc q h) hFc (fun u t H1 locs ht hvm hw hB hz1 hk1 hS => ?_)
  obtain ⟨hP1, hK1, hD1⟩ := hB
  rw [ht] at hP1
  have hK1 := va_K.moved hvm.symm hK1
  try dsimp only at hw
  obtain ⟨hP, hD⟩ := va_join (wr := [(w1, .inr (5, [.ref w2, .int 0, .ref w3, .int 0, .ref w4, .int 0, .int (-1), .int 0]))]) (w1 := [(h0, .inr (9, [.ref w1, .ref w6, .int 0, .ref w8, .ref w15, .int 0, .int 0, .ref w22, .ref w26, .ref w31, .ref w35, .ref w40, .ref w48, .ref w50, .ref w52]))]) hP hD [0] [1] rfl rfl (by decide) (by decide) hk1 hFc hP1 hD1
  have hK := hK.app hK1
  generalize H1 = H at hP hS ⊢
  have hP : va_P (dC, dI) vwCl [(w1, .inr (5, [.ref w2, .int 0, .ref w3, .int 0, .ref w4, .int 0, .int (-1), .int 0])), (h0, .inr (9, [.ref w1, .ref w6, .int 0, .ref w8, .ref w15, .int 0, .int 0, .ref w22, .ref w26, .ref w31, .ref w35, .ref w40, .ref w48, .ref w50, .ref w52]))] H := hP
  have hD : va_D A [(w1, .inr (5, [.ref w2, .int 0, .ref w3, .int 0, .ref w4, .int 0, .int (-1), .int 0])), (h0, .inr (9, [.ref w1, .ref w6, .int 0, .ref w8, .ref w15, .int 0, .int 0, .ref w22, .ref w26, .ref w31, .ref w35, .ref w40, .ref w48, .ref w50, .ref w52]))] := hD
  have hK : va_K (dC, dI) vwCl [] s := hK
  refine W.widen (k := 0) (n := 0) (by omega) (by omega) ?_
  refine lv_aload_n hx hb dX9_page_24 rfl (lv_at hl 0 rfl) ?_
  refine lv_aload_n hx hb dX9_page_25 rfl (lv_at hl 0 rfl) ?_
  refine va_get (D := (dC, dI)) (ci := 9) (v := .int 0) (C := RX9) (T := TX9) (N := 15) hx hb hts inG9 hown hK hP 1 rfl rfl 2 (by decide) (hts _ k334) (fun _ h9 => h9) rfl dX9_page_26 ?_
  refine lv_bipush (v := 8) hx hb dX9_page_29 (by decide) ?_
  refine lv_icmp_ge (tgt := 38) hx hb dX9_page_31 (by decide) (fun c9 => absurd c9 (by decide +kernel)) (fun _ => ?_)
  refine lv_iconst (v := 1) hx hb dX9_page_34 (by decide) ?_
  refine lv_goto (tgt := 39) hx hb dX9_page_35 (by decide) ?_
  have hPc := hP.sub (ws' := [(h0, .inr (9, [.ref w1, .ref w6, .int 0, .ref w8, .ref w15, .int 0, .int 0, .ref w22, .ref w26, .ref w31, .ref w35, .ref w40, .ref w48, .ref w50, .ref w52]))]) [1] rfl
  have hDc := hD.sub (ws' := [(h0, .inr (9, [.ref w1, .ref w6, .int 0, .ref w8, .ref w15, .int 0, .int 0, .ref w22, .ref w26, .ref w31, .ref w35, .ref w40, .ref w48, .ref w50, .ref w52]))]) [1] (by decide) rfl
  have hKc := hK.sub (tys' := []) [] rfl
  have hFc := va_free (wc := [(h0, .inr (9, [.ref w1, .ref w6, .int 0, .ref w8, .ref w15, .int 0, .int 0, .ref w22, .ref w26, .ref w31, .ref w35, .ref w40, .ref w48, .ref w50, .ref w52]))]) hD hS hA [1] rfl
  refine va_callv (va_runV (As := [.int 1]) (rest := []) ⟨hx, hb, hml, hown, hts⟩ (c_needState1 l dC dI H.size (h0) (w1) (w6) (w8) (w15) (w22) (w26) (w31) (w35) (w40) (w48) (w50) (w52)) (cwV 1 hts (gV_G k663 k665 ks_yX9_needState k1 k666) rfl rfl rfl (by decide +kernel) ⟨Nat.le_of_ble_eq_true rfl, Nat.le_of_ble_eq_true rfl⟩) ⟨fun a U g mk q => by obtain ⟨q0, q1, qP, qK, qD⟩ := q; exact ⟨q0, q1, qP, va_K.moved (u := U) (U := U.calling g mk a) (Vm.Alike.refl U.vm) qK, qD⟩, va_recv hKc hPc (ci := 9) (q0 := 0) rfl rfl, fun U hU hW => ⟨rfl, by rw [hU], by rw [hU]; exact hPc, va_K.moved hW.alike hKc, hDc.weaken (fun _ _ _ _ => trivial)⟩⟩ rfl rfl hl.1 rfl (lv_room (Nat.le_of_ble_eq_true rfl)) dX9_page_39 ⟨Nat.le_of_ble_eq_true rfl, Nat.le_of_ble_eq_true rfl⟩) hS (fun q _ h => hFc q h) hFc (fun u t H1 locs ht hvm hw hB hz1 hk1 hS => ?_)
  obtain ⟨hP1, hK1, hD1⟩ := hB
  rw [ht] at hP1
  have hK1 := va_K.moved hvm.symm hK1
  try dsimp only at hw
  obtain ⟨hP, hD⟩ := va_join (wr := [(w1, .inr (5, [.ref w2, .int 0, .ref w3, .int 0, .ref w4, .int 0, .int (-1), .int 0]))]) (w1 := [(h0, .inr (9, [.ref w1, .ref w6, .int 0, .ref w8, .ref w15, .int 0, .int 0, .ref w22, .ref w26, .ref w31, .ref w35, .ref w40, .ref w48, .ref w50, .ref w52]))]) hP hD [1] [0] rfl rfl (by decide) (by decide) hk1 hFc hP1 hD1
  have hK := hK.app hK1
  generalize H1 = H at hP hS ⊢
  have hP : va_P (dC, dI) vwCl [(w1, .inr (5, [.ref w2, .int 0, .ref w3, .int 0, .ref w4, .int 0, .int (-1), .int 0])), (h0, .inr (9, [.ref w1, .ref w6, .int 0, .ref w8, .ref w15, .int 0, .int 0, .ref w22, .ref w26, .ref w31, .ref w35, .ref w40, .ref w48, .ref w50, .ref w52]))] H := hP
  have hD : va_D A [(w1, .inr (5, [.ref w2, .int 0, .ref w3, .int 0, .ref w4, .int 0, .int (-1), .int 0])), (h0, .inr (9, [.ref w1, .ref w6, .int 0, .ref w8, .ref w15, .int 0, .int 0, .ref w22, .ref w26, .ref w31, .ref w35, .ref w40, .ref w48, .ref w50, .ref w52]))] := hD
  have hK : va_K (dC, dI) vwCl [] s := hK
  refine W.widen (k := 0) (n := 0) (by omega) (by omega) ?_
  refine lv_aload_n hx hb dX9_page_42 rfl (lv_at hl 0 rfl) ?_
  refine va_get (D := (dC, dI)) (ci := 9) (v := .ref w1) (C := RX9) (T := TX9) (N := 15) hx hb hts inG9 hown hK hP 1 rfl rfl 0 (by decide) (hts _ k332) (fun _ h9 => h9) rfl dX9_page_43 ?_
  refine lv_iload_n hx hb dX9_page_46 rfl (lv_at hl 1 rfl) ?_
  have hPc := hP.sub (ws' := [(w1, .inr (5, [.ref w2, .int 0, .ref w3, .int 0, .ref w4, .int 0, .int (-1), .int 0]))]) [0] rfl
  have hDc := hD.sub (ws' := [(w1, .inr (5, [.ref w2, .int 0, .ref w3, .int 0, .ref w4, .int 0, .int (-1), .int 0]))]) [0] (by decide) rfl
  have hKc := hK.sub (tys' := []) [] rfl
  have hFc := va_free (wc := [(w1, .inr (5, [.ref w2, .int 0, .ref w3, .int 0, .ref w4, .int 0, .int (-1), .int 0]))]) hD hS hA [0] rfl
  refine va_calli (va_runV (As := [.int 0]) (rest := []) ⟨hx, hb, hml, hown, hts⟩ (c_readText l dC dI H.size (w1) (w2) (w3) (w4)) (cwV 1 hts (gV_G k682 k683 k684 k2 k685) rfl rfl rfl (by decide +kernel) ⟨Nat.le_of_ble_eq_true rfl, Nat.le_of_ble_eq_true rfl⟩) ⟨fun a U g mk q => by obtain ⟨q0, q1, qP, qK, qD⟩ := q; exact ⟨q0, q1, qP, va_K.moved (u := U) (U := U.calling g mk a) (Vm.Alike.refl U.vm) qK, qD⟩, va_recv hKc hPc (ci := 5) (q0 := 0) rfl rfl, fun U hU hW => ⟨rfl, by rw [hU], by rw [hU]; exact hPc, va_K.moved hW.alike hKc, hDc.weaken (fun _ _ _ _ => trivial)⟩⟩ rfl rfl hl.1 rfl (lv_room (Nat.le_of_ble_eq_true rfl)) dX9_page_47 ⟨Nat.le_of_ble_eq_true rfl, Nat.le_of_ble_eq_true rfl⟩) hS (fun q _ h => hFc q h) hFc (fun r1 u t H1 locs ht hvm hw hB hz1 hk1 hS => ?_)
  obtain ⟨hP1, hK1, hD1⟩ := hB
  rw [ht] at hP1
  have hK1 := va_K.moved hvm.symm hK1
  try dsimp only at hw
  obtain ⟨hP, hD⟩ := va_join (wr := [(h0, .inr (9, [.ref w1, .ref w6, .int 0, .ref w8, .ref w15, .int 0, .int 0, .ref w22, .ref w26, .ref w31, .ref w35, .ref w40, .ref w48, .ref w50, .ref w52]))]) (w1 := [(w1, .inr (5, [.ref w2, .int 0, .ref w3, .int 0, .ref w4, .int 0, .int 0, .int 0]))]) hP hD [0] [1] rfl rfl (by decide) (by decide) hk1 hFc hP1 hD1
  have hK := hK.app hK1
  generalize H1 = H at hP hS ⊢
  have hP : va_P (dC, dI) vwCl [(h0, .inr (9, [.ref w1, .ref w6, .int 0, .ref w8, .ref w15, .int 0, .int 0, .ref w22, .ref w26, .ref w31, .ref w35, .ref w40, .ref w48, .ref w50, .ref w52])), (w1, .inr (5, [.ref w2, .int 0, .ref w3, .int 0, .ref w4, .int 0, .int 0, .int 0]))] H := hP
  have hD : va_D A [(h0, .inr (9, [.ref w1, .ref w6, .int 0, .ref w8, .ref w15, .int 0, .int 0, .ref w22, .ref w26, .ref w31, .ref w35, .ref w40, .ref w48, .ref w50, .ref w52])), (w1, .inr (5, [.ref w2, .int 0, .ref w3, .int 0, .ref w4, .int 0, .int 0, .int 0]))] := hD
  have hK : va_K (dC, dI) vwCl [] s := hK
  refine W.widen (k := 0) (n := 0) (by omega) (by omega) ?_
  obtain rfl : r1 = 1 := hw
  refine lv_istore_n (lv' := [(2, .int 1), (0, .ref h0), (1, .int 0)]) hx hb dX9_page_50 rfl hl (by decide) rfl (fun ls hl => ?_)
  refine lv_aload_n hx hb dX9_page_51 rfl (lv_at hl 1 rfl) ?_
  refine va_get (D := (dC, dI)) (ci := 9) (v := .ref w1) (C := RX9) (T := TX9) (N := 15) hx hb hts inG9 hown hK hP 0 rfl rfl 0 (by decide) (hts _ k332) (fun _ h9 => h9) rfl dX9_page_52 ?_
  refine lv_iconst (v := 0) hx hb dX9_page_55 (by decide) ?_
  refine va_put (D := (dC, dI)) (ci := 5) (v := .int 0) (ty := .int) (C := RX5) (T := TX5) (N := 8) hx hb hts inG5 tyX5 tyX5_ok nmX5 hown hK hP hD hS 1 rfl rfl 1 (by decide) (hts _ k37) (fun _ h9 => h9) rfl (by decide +kernel) rfl rfl (Nat.le_of_ble_eq_true rfl) dX9_page_56 (fun H locs hP hD hS => ?_)
  have hP : va_P (dC, dI) vwCl [(h0, .inr (9, [.ref w1, .ref w6, .int 0, .ref w8, .ref w15, .int 0, .int 0, .ref w22, .ref w26, .ref w31, .ref w35, .ref w40, .ref w48, .ref w50, .ref w52])), (w1, .inr (5, [.ref w2, .int 0, .ref w3, .int 0, .ref w4, .int 0, .int 0, .int 0]))] H := hP
  have hD : va_D A [(h0, .inr (9, [.ref w1, .ref w6, .int 0, .ref w8, .ref w15, .int 0, .int 0, .ref w22, .ref w26, .ref w31, .ref w35, .ref w40, .ref w48, .ref w50, .ref w52])), (w1, .inr (5, [.ref w2, .int 0, .ref w3, .int 0, .ref w4, .int 0, .int 0, .int 0]))] := hD
  refine lv_iload_n hx hb dX9_page_59 rfl (lv_at hl 0 rfl) ?_
  refine lv_if_eq (tgt := 68) hx hb dX9_page_60 (by decide) (fun c9 => absurd c9 (by decide +kernel)) (fun _ => ?_)
  refine lv_iload_n hx hb dX9_page_63 rfl (lv_at hl 0 rfl) ?_
  refine lv_bipush (v := 10) hx hb dX9_page_64 (by decide) ?_
  refine lv_isub hx hb dX9_page_66 ?_
  refine lv_topi (fun x9 ex9 => ?_)
  obtain rfl : x9 = (-9) := ex9.trans (by decide +kernel)
  have hP9 := hP.sub (ws' := []) [] rfl
  have hD9 := hD.sub (ws' := []) [] (by decide) rfl
  have hK9 := hK.sub (tys' := []) [] rfl
  refine W.widen (k := 0) (n := 0) (by omega) (by omega) ?_
  exact W.iret (v := (-9)) hx hb hr (fun t ht hW => ⟨⟨(-9), (), rfl, rfl, by rw [ht]; exact hP9, va_K.moved hW.alike hK9, hD9⟩, hS.F ht⟩) hS.2.2 dX9_page_67
set_option maxHeartbeats 4000000 in
set_option maxRecDepth 100000 in
theorem c_feedNumber0 (l : Launch) (dC : Nat → ClassId) (dI : Nat → Nat → Nat) (sz : Nat) (w1 : Nat) (w2 : Nat) (w3 : Nat) (w4 : Nat) (d5 : ClassId) (f0 : Nat → Int32) (p1 : Int32)  : Met l yX5_feedNumber (Cond.code yX5_feedNumber cX5_feedNumber 3 none :: wsG) ({ frames := 1, cells := 0, slots := 0, locals := 14 } : Room) (va_Pc [.ref w1, .int p1] (fun U => U.heap.size = sz ∧ va_P (dC, dI) vwCl [(w1, .inr (5, [.ref w2, .int 0, .ref w3, .int 0, .ref w4, .int 0, .int (-1), .int 0])), (w2, .inl (d5, 400, .inl (f0)))] U.heap ∧ va_K (dC, dI) vwCl [(d5, .int)] U ∧ va_D (fun _ => True) [(w1, .inr (5, [.ref w2, .int 0, .ref w3, .int 0, .ref w4, .int 0, .int (-1), .int 0])), (w2, .inl (d5, 400, .inl (f0)))])) (va_Qv (fun (_ : Unit) => True) (fun (_ : Unit) (t : State) => ∃ (f4 : Nat → Int32), va_P (dC, dI) vwCl [(w1, .inr (5, [.ref w2, .int 4, .ref w3, .int 0, .ref w4, .int 0, .int (-1), .int 0])), (w2, .inl (d5, 400, .inl (f4)))] t.heap ∧ va_K (dC, dI) vwCl [(d5, .int)] t ∧ va_D (va_A [(w1, .inr (5, [.ref w2, .int 0, .ref w3, .int 0, .ref w4, .int 0, .int (-1), .int 0])), (w2, .inl (d5, 400, .inl (f0)))] sz) [(w1, .inr (5, [.ref w2, .int 4, .ref w3, .int 0, .ref w4, .int 0, .int (-1), .int 0])), (w2, .inl (d5, 400, .inl (f4)))]) (va_A [(w1, .inr (5, [.ref w2, .int 0, .ref w3, .int 0, .ref w4, .int 0, .int (-1), .int 0])), (w2, .inl (d5, 400, .inl (f0)))] sz)) 0 0 (va_A [(w1, .inr (5, [.ref w2, .int 0, .ref w3, .int 0, .ref w4, .int 0, .int (-1), .int 0])), (w2, .inl (d5, 400, .inl (f0)))] sz) := by
  refine Met.ofW (cc := cX5_feedNumber) (maxL := 3) (ret := none) (by decide) rfl ?_
  intro p e s m args below meth c s₁ B hml hv
  obtain ⟨rfl, hsz, hP, hK, hD0⟩ := hv
  have hx := B.exec
  have hb := B.bytes
  have hr := B.returns
  have hts : ∀ w ∈ wsG, w.before _ s = true := hG_of (atoms_spec (ws := (Cond.code yX5_feedNumber cX5_feedNumber 3 none :: wsG)) B.pre)
  have hown : s.vm.findClass RX5 = some m.cls := findClass_of_methodNamed B.named
  have hlocks := B.notSynchronized
  subst hsz
  have hD := hD0.self (sz := s.heap.size)
  generalize hAe : va_A [(w1, .inr (5, [.ref w2, .int 0, .ref w3, .int 0, .ref w4, .int 0, .int (-1), .int 0])), (w2, .inl (d5, 400, .inl (f0)))] s.heap.size = A at hD ⊢
  have hA : ∀ q : Nat, s.heap.size ≤ q → A q := fun q h => by rw [← hAe]; exact Or.inr h
  have hS : va_S A s.heap s.heap [] := va_S.rf
  have hl := lv_entry ([.ref w1, .int p1]) (n := 3) (Nat.le_of_ble_eq_true rfl)
  rw [lg_entry_eq]
  generalize (lg_sl ([.ref w1, .int p1]) ++ List.replicate (3 - (lg_sl ([.ref w1, .int p1])).length) Slot.unset).toArray = ls at hl ⊢
  have hl : lv_has ls 3 [(0, .ref w1), (1, .int p1)] := hl
  refine lv_bipush (v := 24) hx hb dX5_feedNumber_0 (by decide) ?_
  refine lv_istore_n (lv' := [(2, .int 24), (0, .ref w1), (1, .int p1)]) hx hb dX5_feedNumber_2 rfl hl (by decide) rfl (fun ls hl => ?_)
  refine lv_iload_n hx hb dX5_feedNumber_3 rfl (lv_at hl 0 rfl) ?_
  refine lv_if_lt (tgt := 51) hx hb dX5_feedNumber_4 (by decide) (fun c9 => absurd c9 (by decide +kernel)) (fun _ => ?_)
  refine lv_aload_n hx hb dX5_feedNumber_7 rfl (lv_at hl 1 rfl) ?_
  refine va_get (D := (dC, dI)) (ci := 5) (v := .int 0) (C := RX5) (T := TX5) (N := 8) hx hb hts inG5 hown hK hP 0 rfl rfl 1 (by decide) (hts _ k36) (fun _ h9 => h9) rfl dX5_feedNumber_8 ?_
  refine lv_aload_n hx hb dX5_feedNumber_11 rfl (lv_at hl 1 rfl) ?_
  refine va_get (D := (dC, dI)) (ci := 5) (v := .ref w2) (C := RX5) (T := TX5) (N := 8) hx hb hts inG5 hown hK hP 0 rfl rfl 0 (by decide) (hts _ k35) (fun _ h9 => h9) rfl dX5_feedNumber_12 ?_
  refine va_alen (v := 400) hx hb hK hP 1 0 rfl rfl rfl dX5_feedNumber_15 ?_
  refine lv_icmp_ge (tgt := 45) hx hb dX5_feedNumber_16 (by decide) (fun c9 => absurd c9 (by decide +kernel)) (fun _ => ?_)
  refine lv_aload_n hx hb dX5_feedNumber_19 rfl (lv_at hl 1 rfl) ?_
  refine va_get (D := (dC, dI)) (ci := 5) (v := .ref w2) (C := RX5) (T := TX5) (N := 8) hx hb hts inG5 hown hK hP 0 rfl rfl 0 (by decide) (hts _ k35) (fun _ h9 => h9) rfl dX5_feedNumber_20 ?_
  refine lv_aload_n hx hb dX5_feedNumber_23 rfl (lv_at hl 1 rfl) ?_
  refine va_get (D := (dC, dI)) (ci := 5) (v := .int 0) (C := RX5) (T := TX5) (N := 8) hx hb hts inG5 hown hK hP 0 rfl rfl 1 (by decide) (hts _ k36) (fun _ h9 => h9) rfl dX5_feedNumber_24 ?_
  refine lv_iload_n hx hb dX5_feedNumber_27 rfl (lv_at hl 2 rfl) ?_
  refine lv_iload_n hx hb dX5_feedNumber_28 rfl (lv_at hl 0 rfl) ?_
  refine lv_iushr hx hb dX5_feedNumber_29 rfl ?_
  refine lv_topi (fun x29_ _ => ?_)
  refine lv_sipush (v := 255) hx hb dX5_feedNumber_30 (by decide) ?_
  refine lv_iand hx hb dX5_feedNumber_33 ?_
  refine lv_topi (fun x33_ _ => ?_)
  refine va_iast hx hb hK hP hD hS 1 0 rfl rfl (by unfold vp_in; decide +kernel) dX5_feedNumber_34 (fun H locs hP hD hS => ?_)
  have hP : va_P (dC, dI) vwCl [(w1, .inr (5, [.ref w2, .int 0, .ref w3, .int 0, .ref w4, .int 0, .int (-1), .int 0])), (w2, .inl (d5, 400, .inl (upd (f0) (0 : Int32).toNatClampNeg (x33_))))] H := hP
  have hD : va_D A [(w1, .inr (5, [.ref w2, .int 0, .ref w3, .int 0, .ref w4, .int 0, .int (-1), .int 0])), (w2, .inl (d5, 400, .inl (upd (f0) (0 : Int32).toNatClampNeg (x33_))))] := hD
  generalize upd (f0) (0 : Int32).toNatClampNeg (x33_) = f1 at hP hD
  refine lv_aload_n hx hb dX5_feedNumber_35 rfl (lv_at hl 1 rfl) ?_
  refine lv_dup hx hb dX5_feedNumber_36 rfl ?_
  refine va_get (D := (dC, dI)) (ci := 5) (v := .int 0) (C := RX5) (T := TX5) (N := 8) hx hb hts inG5 hown hK hP 0 rfl rfl 1 (by decide) (hts _ k36) (fun _ h9 => h9) rfl dX5_feedNumber_37 ?_
  refine lv_iconst (v := 1) hx hb dX5_feedNumber_40 (by decide) ?_
  refine lv_iadd hx hb dX5_feedNumber_41 ?_
  refine lv_topi (fun x9 ex9 => ?_)
  obtain rfl : x9 = 1 := ex9.trans (by decide +kernel)
  refine va_put (D := (dC, dI)) (ci := 5) (v := .int 1) (ty := .int) (C := RX5) (T := TX5) (N := 8) hx hb hts inG5 tyX5 tyX5_ok nmX5 hown hK hP hD hS 0 rfl rfl 1 (by decide) (hts _ k36) (fun _ h9 => h9) rfl (by decide +kernel) rfl rfl (Nat.le_of_ble_eq_true rfl) dX5_feedNumber_42 (fun H locs hP hD hS => ?_)
  have hP : va_P (dC, dI) vwCl [(w1, .inr (5, [.ref w2, .int 1, .ref w3, .int 0, .ref w4, .int 0, .int (-1), .int 0])), (w2, .inl (d5, 400, .inl (f1)))] H := hP
  have hD : va_D A [(w1, .inr (5, [.ref w2, .int 1, .ref w3, .int 0, .ref w4, .int 0, .int (-1), .int 0])), (w2, .inl (d5, 400, .inl (f1)))] := hD
  refine lv_iinc (v := 16) (lv' := [(2, .int 16), (0, .ref w1), (1, .int p1)]) hx hb dX5_feedNumber_45 hl (k := 0) rfl (by decide +kernel) (by decide) rfl (fun ls hl => ?_)
  refine lv_goto (tgt := 3) hx hb dX5_feedNumber_48 (by decide) ?_
  refine lv_iload_n hx hb dX5_feedNumber_3 rfl (lv_at hl 0 rfl) ?_
  refine lv_if_lt (tgt := 51) hx hb dX5_feedNumber_4 (by decide) (fun c9 => absurd c9 (by decide +kernel)) (fun _ => ?_)
  refine lv_aload_n hx hb dX5_feedNumber_7 rfl (lv_at hl 1 rfl) ?_
  refine va_get (D := (dC, dI)) (ci := 5) (v := .int 1) (C := RX5) (T := TX5) (N := 8) hx hb hts inG5 hown hK hP 0 rfl rfl 1 (by decide) (hts _ k36) (fun _ h9 => h9) rfl dX5_feedNumber_8 ?_
  refine lv_aload_n hx hb dX5_feedNumber_11 rfl (lv_at hl 1 rfl) ?_
  refine va_get (D := (dC, dI)) (ci := 5) (v := .ref w2) (C := RX5) (T := TX5) (N := 8) hx hb hts inG5 hown hK hP 0 rfl rfl 0 (by decide) (hts _ k35) (fun _ h9 => h9) rfl dX5_feedNumber_12 ?_
  refine va_alen (v := 400) hx hb hK hP 1 0 rfl rfl rfl dX5_feedNumber_15 ?_
  refine lv_icmp_ge (tgt := 45) hx hb dX5_feedNumber_16 (by decide) (fun c9 => absurd c9 (by decide +kernel)) (fun _ => ?_)
  refine lv_aload_n hx hb dX5_feedNumber_19 rfl (lv_at hl 1 rfl) ?_
  refine va_get (D := (dC, dI)) (ci := 5) (v := .ref w2) (C := RX5) (T := TX5) (N := 8) hx hb hts inG5 hown hK hP 0 rfl rfl 0 (by decide) (hts _ k35) (fun _ h9 => h9) rfl dX5_feedNumber_20 ?_
  refine lv_aload_n hx hb dX5_feedNumber_23 rfl (lv_at hl 1 rfl) ?_
  refine va_get (D := (dC, dI)) (ci := 5) (v := .int 1) (C := RX5) (T := TX5) (N := 8) hx hb hts inG5 hown hK hP 0 rfl rfl 1 (by decide) (hts _ k36) (fun _ h9 => h9) rfl dX5_feedNumber_24 ?_
  refine lv_iload_n hx hb dX5_feedNumber_27 rfl (lv_at hl 2 rfl) ?_
  refine lv_iload_n hx hb dX5_feedNumber_28 rfl (lv_at hl 0 rfl) ?_
  refine lv_iushr hx hb dX5_feedNumber_29 rfl ?_
  refine lv_topi (fun x29_ _ => ?_)
  refine lv_sipush (v := 255) hx hb dX5_feedNumber_30 (by decide) ?_
  refine lv_iand hx hb dX5_feedNumber_33 ?_
  refine lv_topi (fun x33_ _ => ?_)
  refine va_iast hx hb hK hP hD hS 1 0 rfl rfl (by unfold vp_in; decide +kernel) dX5_feedNumber_34 (fun H locs hP hD hS => ?_)
  have hP : va_P (dC, dI) vwCl [(w1, .inr (5, [.ref w2, .int 1, .ref w3, .int 0, .ref w4, .int 0, .int (-1), .int 0])), (w2, .inl (d5, 400, .inl (upd (f1) (1 : Int32).toNatClampNeg (x33_))))] H := hP
  have hD : va_D A [(w1, .inr (5, [.ref w2, .int 1, .ref w3, .int 0, .ref w4, .int 0, .int (-1), .int 0])), (w2, .inl (d5, 400, .inl (upd (f1) (1 : Int32).toNatClampNeg (x33_))))] := hD
  generalize upd (f1) (1 : Int32).toNatClampNeg (x33_) = f2 at hP hD
  refine lv_aload_n hx hb dX5_feedNumber_35 rfl (lv_at hl 1 rfl) ?_
  refine lv_dup hx hb dX5_feedNumber_36 rfl ?_
  refine va_get (D := (dC, dI)) (ci := 5) (v := .int 1) (C := RX5) (T := TX5) (N := 8) hx hb hts inG5 hown hK hP 0 rfl rfl 1 (by decide) (hts _ k36) (fun _ h9 => h9) rfl dX5_feedNumber_37 ?_
  refine lv_iconst (v := 1) hx hb dX5_feedNumber_40 (by decide) ?_
  refine lv_iadd hx hb dX5_feedNumber_41 ?_
  refine lv_topi (fun x9 ex9 => ?_)
  obtain rfl : x9 = 2 := ex9.trans (by decide +kernel)
  refine va_put (D := (dC, dI)) (ci := 5) (v := .int 2) (ty := .int) (C := RX5) (T := TX5) (N := 8) hx hb hts inG5 tyX5 tyX5_ok nmX5 hown hK hP hD hS 0 rfl rfl 1 (by decide) (hts _ k36) (fun _ h9 => h9) rfl (by decide +kernel) rfl rfl (Nat.le_of_ble_eq_true rfl) dX5_feedNumber_42 (fun H locs hP hD hS => ?_)
  have hP : va_P (dC, dI) vwCl [(w1, .inr (5, [.ref w2, .int 2, .ref w3, .int 0, .ref w4, .int 0, .int (-1), .int 0])), (w2, .inl (d5, 400, .inl (f2)))] H := hP
  have hD : va_D A [(w1, .inr (5, [.ref w2, .int 2, .ref w3, .int 0, .ref w4, .int 0, .int (-1), .int 0])), (w2, .inl (d5, 400, .inl (f2)))] := hD
  refine lv_iinc (v := 8) (lv' := [(2, .int 8), (0, .ref w1), (1, .int p1)]) hx hb dX5_feedNumber_45 hl (k := 0) rfl (by decide +kernel) (by decide) rfl (fun ls hl => ?_)
  refine lv_goto (tgt := 3) hx hb dX5_feedNumber_48 (by decide) ?_
  refine lv_iload_n hx hb dX5_feedNumber_3 rfl (lv_at hl 0 rfl) ?_
  refine lv_if_lt (tgt := 51) hx hb dX5_feedNumber_4 (by decide) (fun c9 => absurd c9 (by decide +kernel)) (fun _ => ?_)
  refine lv_aload_n hx hb dX5_feedNumber_7 rfl (lv_at hl 1 rfl) ?_
  refine va_get (D := (dC, dI)) (ci := 5) (v := .int 2) (C := RX5) (T := TX5) (N := 8) hx hb hts inG5 hown hK hP 0 rfl rfl 1 (by decide) (hts _ k36) (fun _ h9 => h9) rfl dX5_feedNumber_8 ?_
  refine lv_aload_n hx hb dX5_feedNumber_11 rfl (lv_at hl 1 rfl) ?_
  refine va_get (D := (dC, dI)) (ci := 5) (v := .ref w2) (C := RX5) (T := TX5) (N := 8) hx hb hts inG5 hown hK hP 0 rfl rfl 0 (by decide) (hts _ k35) (fun _ h9 => h9) rfl dX5_feedNumber_12 ?_
  refine va_alen (v := 400) hx hb hK hP 1 0 rfl rfl rfl dX5_feedNumber_15 ?_
  refine lv_icmp_ge (tgt := 45) hx hb dX5_feedNumber_16 (by decide) (fun c9 => absurd c9 (by decide +kernel)) (fun _ => ?_)
  refine lv_aload_n hx hb dX5_feedNumber_19 rfl (lv_at hl 1 rfl) ?_
  refine va_get (D := (dC, dI)) (ci := 5) (v := .ref w2) (C := RX5) (T := TX5) (N := 8) hx hb hts inG5 hown hK hP 0 rfl rfl 0 (by decide) (hts _ k35) (fun _ h9 => h9) rfl dX5_feedNumber_20 ?_
  refine lv_aload_n hx hb dX5_feedNumber_23 rfl (lv_at hl 1 rfl) ?_
  refine va_get (D := (dC, dI)) (ci := 5) (v := .int 2) (C := RX5) (T := TX5) (N := 8) hx hb hts inG5 hown hK hP 0 rfl rfl 1 (by decide) (hts _ k36) (fun _ h9 => h9) rfl dX5_feedNumber_24 ?_
  refine lv_iload_n hx hb dX5_feedNumber_27 rfl (lv_at hl 2 rfl) ?_
  refine lv_iload_n hx hb dX5_feedNumber_28 rfl (lv_at hl 0 rfl) ?_
  refine lv_iushr hx hb dX5_feedNumber_29 rfl ?_
  refine lv_topi (fun x29_ _ => ?_)
  refine lv_sipush (v := 255) hx hb dX5_feedNumber_30 (by decide) ?_
  refine lv_iand hx hb dX5_feedNumber_33 ?_
  refine lv_topi (fun x33_ _ => ?_)
  refine va_iast hx hb hK hP hD hS 1 0 rfl rfl (by unfold vp_in; decide +kernel) dX5_feedNumber_34 (fun H locs hP hD hS => ?_)
  have hP : va_P (dC, dI) vwCl [(w1, .inr (5, [.ref w2, .int 2, .ref w3, .int 0, .ref w4, .int 0, .int (-1), .int 0])), (w2, .inl (d5, 400, .inl (upd (f2) (2 : Int32).toNatClampNeg (x33_))))] H := hP
  have hD : va_D A [(w1, .inr (5, [.ref w2, .int 2, .ref w3, .int 0, .ref w4, .int 0, .int (-1), .int 0])), (w2, .inl (d5, 400, .inl (upd (f2) (2 : Int32).toNatClampNeg (x33_))))] := hD
  generalize upd (f2) (2 : Int32).toNatClampNeg (x33_) = f3 at hP hD
  refine lv_aload_n hx hb dX5_feedNumber_35 rfl (lv_at hl 1 rfl) ?_
  refine lv_dup hx hb dX5_feedNumber_36 rfl ?_
  refine va_get (D := (dC, dI)) (ci := 5) (v := .int 2) (C := RX5) (T := TX5) (N := 8) hx hb hts inG5 hown hK hP 0 rfl rfl 1 (by decide) (hts _ k36) (fun _ h9 => h9) rfl dX5_feedNumber_37 ?_
  refine lv_iconst (v := 1) hx hb dX5_feedNumber_40 (by decide) ?_
  refine lv_iadd hx hb dX5_feedNumber_41 ?_
  refine lv_topi (fun x9 ex9 => ?_)
  obtain rfl : x9 = 3 := ex9.trans (by decide +kernel)
  refine va_put (D := (dC, dI)) (ci := 5) (v := .int 3) (ty := .int) (C := RX5) (T := TX5) (N := 8) hx hb hts inG5 tyX5 tyX5_ok nmX5 hown hK hP hD hS 0 rfl rfl 1 (by decide) (hts _ k36) (fun _ h9 => h9) rfl (by decide +kernel) rfl rfl (Nat.le_of_ble_eq_true rfl) dX5_feedNumber_42 (fun H locs hP hD hS => ?_)
  have hP : va_P (dC, dI) vwCl [(w1, .inr (5, [.ref w2, .int 3, .ref w3, .int 0, .ref w4, .int 0, .int (-1), .int 0])), (w2, .inl (d5, 400, .inl (f3)))] H := hP
  have hD : va_D A [(w1, .inr (5, [.ref w2, .int 3, .ref w3, .int 0, .ref w4, .int 0, .int (-1), .int 0])), (w2, .inl (d5, 400, .inl (f3)))] := hD
  refine lv_iinc (v := 0) (lv' := [(2, .int 0), (0, .ref w1), (1, .int p1)]) hx hb dX5_feedNumber_45 hl (k := 0) rfl (by decide +kernel) (by decide) rfl (fun ls hl => ?_)
  refine lv_goto (tgt := 3) hx hb dX5_feedNumber_48 (by decide) ?_
  refine lv_iload_n hx hb dX5_feedNumber_3 rfl (lv_at hl 0 rfl) ?_
  refine lv_if_lt (tgt := 51) hx hb dX5_feedNumber_4 (by decide) (fun c9 => absurd c9 (by decide +kernel)) (fun _ => ?_)
  refine lv_aload_n hx hb dX5_feedNumber_7 rfl (lv_at hl 1 rfl) ?_
  refine va_get (D := (dC, dI)) (ci := 5) (v := .int 3) (C := RX5) (T := TX5) (N := 8) hx hb hts inG5 hown hK hP 0 rfl rfl 1 (by decide) (hts _ k36) (fun _ h9 => h9) rfl dX5_feedNumber_8 ?_
  refine lv_aload_n hx hb dX5_feedNumber_11 rfl (lv_at hl 1 rfl) ?_
  refine va_get (D := (dC, dI)) (ci := 5) (v := .ref w2) (C := RX5) (T := TX5) (N := 8) hx hb hts inG5 hown hK hP 0 rfl rfl 0 (by decide) (hts _ k35) (fun _ h9 => h9) rfl dX5_feedNumber_12 ?_
  refine va_alen (v := 400) hx hb hK hP 1 0 rfl rfl rfl dX5_feedNumber_15 ?_
  refine lv_icmp_ge (tgt := 45) hx hb dX5_feedNumber_16 (by decide) (fun c9 => absurd c9 (by decide +kernel)) (fun _ => ?_)
  refine lv_aload_n hx hb dX5_feedNumber_19 rfl (lv_at hl 1 rfl) ?_
  refine va_get (D := (dC, dI)) (ci := 5) (v := .ref w2) (C := RX5) (T := TX5) (N := 8) hx hb hts inG5 hown hK hP 0 rfl rfl 0 (by decide) (hts _ k35) (fun _ h9 => h9) rfl dX5_feedNumber_20 ?_
  refine lv_aload_n hx hb dX5_feedNumber_23 rfl (lv_at hl 1 rfl) ?_
  refine va_get (D := (dC, dI)) (ci := 5) (v := .int 3) (C := RX5) (T := TX5) (N := 8) hx hb hts inG5 hown hK hP 0 rfl rfl 1 (by decide) (hts _ k36) (fun _ h9 => h9) rfl dX5_feedNumber_24 ?_
  refine lv_iload_n hx hb dX5_feedNumber_27 rfl (lv_at hl 2 rfl) ?_
  refine lv_iload_n hx hb dX5_feedNumber_28 rfl (lv_at hl 0 rfl) ?_
  refine lv_iushr hx hb dX5_feedNumber_29 rfl ?_
  refine lv_topi (fun x29_ _ => ?_)
  refine lv_sipush (v := 255) hx hb dX5_feedNumber_30 (by decide) ?_
  refine lv_iand hx hb dX5_feedNumber_33 ?_
  refine lv_topi (fun x33_ _ => ?_)
  refine va_iast hx hb hK hP hD hS 1 0 rfl rfl (by unfold vp_in; decide +kernel) dX5_feedNumber_34 (fun H locs hP hD hS => ?_)
  have hP : va_P (dC, dI) vwCl [(w1, .inr (5, [.ref w2, .int 3, .ref w3, .int 0, .ref w4, .int 0, .int (-1), .int 0])), (w2, .inl (d5, 400, .inl (upd (f3) (3 : Int32).toNatClampNeg (x33_))))] H := hP
  have hD : va_D A [(w1, .inr (5, [.ref w2, .int 3, .ref w3, .int 0, .ref w4, .int 0, .int (-1), .int 0])), (w2, .inl (d5, 400, .inl (upd (f3) (3 : Int32).toNatClampNeg (x33_))))] := hD
  generalize upd (f3) (3 : Int32).toNatClampNeg (x33_) = f4 at hP hD
  refine lv_aload_n hx hb dX5_feedNumber_35 rfl (lv_at hl 1 rfl) ?_
  refine lv_dup hx hb dX5_feedNumber_36 rfl ?_
  refine va_get (D := (dC, dI)) (ci := 5) (v := .int 3) (C := RX5) (T := TX5) (N := 8) hx hb hts inG5 hown hK hP 0 rfl rfl 1 (by decide) (hts _ k36) (fun _ h9 => h9) rfl dX5_feedNumber_37 ?_
  refine lv_iconst (v := 1) hx hb dX5_feedNumber_40 (by decide) ?_
  refine lv_iadd hx hb dX5_feedNumber_41 ?_
  refine lv_topi (fun x9 ex9 => ?_)
  obtain rfl : x9 = 4 := ex9.trans (by decide +kernel)
  refine va_put (D := (dC, dI)) (ci := 5) (v := .int 4) (ty := .int) (C := RX5) (T := TX5) (N := 8) hx hb hts inG5 tyX5 tyX5_ok nmX5 hown hK hP hD hS 0 rfl rfl 1 (by decide) (hts _ k36) (fun _ h9 => h9) rfl (by decide +kernel) rfl rfl (Nat.le_of_ble_eq_true rfl) dX5_feedNumber_42 (fun H locs hP hD hS => ?_)
  have hP : va_P (dC, dI) vwCl [(w1, .inr (5, [.ref w2, .int 4, .ref w3, .int 0, .ref w4, .int 0, .int (-1), .int 0])), (w2, .inl (d5, 400, .inl (f4)))] H := hP
  have hD : va_D A [(w1, .inr (5, [.ref w2, .int 4, .ref w3, .int 0, .ref w4, .int 0, .int (-1), .int 0])), (w2, .inl (d5, 400, .inl (f4)))] := hD
  refine lv_iinc (v := (-8)) (lv' := [(2, .int (-8)), (0, .ref w1), (1, .int p1)]) hx hb dX5_feedNumber_45 hl (k := 0) rfl (by decide +kernel) (by decide) rfl (fun ls hl => ?_)
  refine lv_goto (tgt := 3) hx hb dX5_feedNumber_48 (by decide) ?_
  refine lv_iload_n hx hb dX5_feedNumber_3 rfl (lv_at hl 0 rfl) ?_
  refine lv_if_lt (tgt := 51) hx hb dX5_feedNumber_4 (by decide) (fun _ => ?_) (fun c9 => absurd (by decide +kernel) c9)
  have hP9 := hP.sub (ws' := [(w1, .inr (5, [.ref w2, .int 4, .ref w3, .int 0, .ref w4, .int 0, .int (-1), .int 0])), (w2, .inl (d5, 400, .inl (f4)))]) [0, 1] rfl
  have hD9 := hD.sub (ws' := [(w1, .inr (5, [.ref w2, .int 4, .ref w3, .int 0, .ref w4, .int 0, .int (-1), .int 0])), (w2, .inl (d5, 400, .inl (f4)))]) [0, 1] (by decide) rfl
  have hK9 := hK.sub (tys' := [(d5, .int)]) [0] rfl
  refine W.widen (k := 0) (n := 0) (by omega) (by omega) ?_
  exact W.vret hx hb hr (fun t ht hW => ⟨⟨(), rfl, trivial, f4, by rw [ht]; exact hP9, va_K.moved hW.alike hK9, hD9⟩, hS.F ht⟩) hS.2.2 dX5_feedNumber_51
set_option maxHeartbeats 4000000 in
set_option maxRecDepth 100000 in
theorem c_feedNumber4 (l : Launch) (dC : Nat → ClassId) (dI : Nat → Nat → Nat) (sz : Nat) (w1 : Nat) (w2 : Nat) (w3 : Nat) (w4 : Nat) (d5 : ClassId) (f0 : Nat → Int32) (p1 : Int32)  : Met l yX5_feedNumber (Cond.code yX5_feedNumber cX5_feedNumber 3 none :: wsG) ({ frames := 1, cells := 0, slots := 0, locals := 14 } : Room) (va_Pc [.ref w1, .int p1] (fun U => U.heap.size = sz ∧ va_P (dC, dI) vwCl [(w1, .inr (5, [.ref w2, .int 4, .ref w3, .int 0, .ref w4, .int 0, .int (-1), .int 0])), (w2, .inl (d5, 400, .inl (f0)))] U.heap ∧ va_K (dC, dI) vwCl [(d5, .int)] U ∧ va_D (fun _ => True) [(w1, .inr (5, [.ref w2, .int 4, .ref w3, .int 0, .ref w4, .int 0, .int (-1), .int 0])), (w2, .inl (d5, 400, .inl (f0)))])) (va_Qv (fun (_ : Unit) => True) (fun (_ : Unit) (t : State) => ∃ (f4 : Nat → Int32), va_P (dC, dI) vwCl [(w1, .inr (5, [.ref w2, .int 8, .ref w3, .int 0, .ref w4, .int 0, .int (-1), .int 0])), (w2, .inl (d5, 400, .inl (f4)))] t.heap ∧ va_K (dC, dI) vwCl [(d5, .int)] t ∧ va_D (va_A [(w1, .inr (5, [.ref w2, .int 4, .ref w3, .int 0, .ref w4, .int 0, .int (-1), .int 0])), (w2, .inl (d5, 400, .inl (f0)))] sz) [(w1, .inr (5, [.ref w2, .int 8, .ref w3, .int 0, .ref w4, .int 0, .int (-1), .int 0])), (w2, .inl (d5, 400, .inl (f4)))]) (va_A [(w1, .inr (5, [.ref w2, .int 4, .ref w3, .int 0, .ref w4, .int 0, .int (-1), .int 0])), (w2, .inl (d5, 400, .inl (f0)))] sz)) 0 0 (va_A [(w1, .inr (5, [.ref w2, .int 4, .ref w3, .int 0, .ref w4, .int 0, .int (-1), .int 0])), (w2, .inl (d5, 400, .inl (f0)))] sz) := by
  refine Met.ofW (cc := cX5_feedNumber) (maxL := 3) (ret := none) (by decide) rfl ?_
  intro p e s m args below meth c s₁ B hml hv
  obtain ⟨rfl, hsz, hP, hK, hD0⟩ := hv
  have hx := B.exec
  have hb := B.bytes
  have hr := B.returns
  have hts : ∀ w ∈ wsG, w.before _ s = true := hG_of (atoms_spec (ws := (Cond.code yX5_feedNumber cX5_feedNumber 3 none :: wsG)) B.pre)
  have hown : s.vm.findClass RX5 = some m.cls := findClass_of_methodNamed B.named
  have hlocks := B.notSynchronized
  subst hsz
  have hD := hD0.self (sz := s.heap.size)
  generalize hAe : va_A [(w1, .inr (5, [.ref w2, .int 4, .ref w3, .int 0, .ref w4, .int 0, .int (-1), .int 0])), (w2, .inl (d5, 400, .inl (f0)))] s.heap.size = A at hD ⊢
  have hA : ∀ q : Nat, s.heap.size ≤ q → A q := fun q h => by rw [← hAe]; exact Or.inr h
  have hS : va_S A s.heap s.heap [] := va_S.rf
  have hl := lv_entry ([.ref w1, .int p1]) (n := 3) (Nat.le_of_ble_eq_true rfl)
  rw [lg_entry_eq]
  generalize (lg_sl ([.ref w1, .int p1]) ++ List.replicate (3 - (lg_sl ([.ref w1, .int p1])).length) Slot.unset).toArray = ls at hl ⊢
  have hl : lv_has ls 3 [(0, .ref w1), (1, .int p1)] := hl
  refine lv_bipush (v := 24) hx hb dX5_feedNumber_0 (by decide) ?_
  refine lv_istore_n (lv' := [(2, .int 24), (0, .ref w1), (1, .int p1)]) hx hb dX5_feedNumber_2 rfl hl (by decide) rfl (fun ls hl => ?_)
  refine lv_iload_n hx hb dX5_feedNumber_3 rfl (lv_at hl 0 rfl) ?_
  refine lv_if_lt (tgt := 51) hx hb dX5_feedNumber_4 (by decide) (fun c9 => absurd c9 (by decide +kernel)) (fun _ => ?_)
  refine lv_aload_n hx hb dX5_feedNumber_7 rfl (lv_at hl 1 rfl) ?_
  refine va_get (D := (dC, dI)) (ci := 5) (v := .int 4) (C := RX5) (T := TX5) (N := 8) hx hb hts inG5 hown hK hP 0 rfl rfl 1 (by decide) (hts _ k36) (fun _ h9 => h9) rfl dX5_feedNumber_8 ?_
  refine lv_aload_n hx hb dX5_feedNumber_11 rfl (lv_at hl 1 rfl) ?_
  refine va_get (D := (dC, dI)) (ci := 5) (v := .ref w2) (C := RX5) (T := TX5) (N := 8) hx hb hts inG5 hown hK hP 0 rfl rfl 0 (by decide) (hts _ k35) (fun _ h9 => h9) rfl dX5_feedNumber_12 ?_
  refine va_alen (v := 400) hx hb hK hP 1 0 rfl rfl rfl dX5_feedNumber_15 ?_
  refine lv_icmp_ge (tgt := 45) hx hb dX5_feedNumber_16 (by decide) (fun c9 => absurd c9 (by decide +kernel)) (fun _ => ?_)
  refine lv_aload_n hx hb dX5_feedNumber_19 rfl (lv_at hl 1 rfl) ?_
  refine va_get (D := (dC, dI)) (ci := 5) (v := .ref w2) (C := RX5) (T := TX5) (N := 8) hx hb hts inG5 hown hK hP 0 rfl rfl 0 (by decide) (hts _ k35) (fun _ h9 => h9) rfl dX5_feedNumber_20 ?_
  refine lv_aload_n hx hb dX5_feedNumber_23 rfl (lv_at hl 1 rfl) ?_
  refine va_get (D := (dC, dI)) (ci := 5) (v := .int 4) (C := RX5) (T := TX5) (N := 8) hx hb hts inG5 hown hK hP 0 rfl rfl 1 (by decide) (hts _ k36) (fun _ h9 => h9) rfl dX5_feedNumber_24 ?_
  refine lv_iload_n hx hb dX5_feedNumber_27 rfl (lv_at hl 2 rfl) ?_
  refine lv_iload_n hx hb dX5_feedNumber_28 rfl (lv_at hl 0 rfl) ?_
  refine lv_iushr hx hb dX5_feedNumber_29 rfl ?_
  refine lv_topi (fun x29_ _ => ?_)
  refine lv_sipush (v := 255) hx hb dX5_feedNumber_30 (by decide) ?_
  refine lv_iand hx hb dX5_feedNumber_33 ?_
  refine lv_topi (fun x33_ _ => ?_)
  refine va_iast hx hb hK hP hD hS 1 0 rfl rfl (by unfold vp_in; decide +kernel) dX5_feedNumber_34 (fun H locs hP hD hS => ?_)
  have hP : va_P (dC, dI) vwCl [(w1, .inr (5, [.ref w2, .int 4, .ref w3, .int 0, .ref w4, .int 0, .int (-1), .int 0])), (w2, .inl (d5, 400, .inl (upd (f0) (4 : Int32).toNatClampNeg (x33_))))] H := hP
  have hD : va_D A [(w1, .inr (5, [.ref w2, .int 4, .ref w3, .int 0, .ref w4, .int 0, .int (-1), .int 0])), (w2, .inl (d5, 400, .inl (upd (f0) (4 : Int32).toNatClampNeg (x33_))))] := hD
  generalize upd (f0) (4 : Int32).toNatClampNeg (x33_) = f1 at hP hD
  refine lv_aload_n hx hb dX5_feedNumber_35 rfl (lv_at hl 1 rfl) ?_
  refine lv_dup hx hb dX5_feedNumber_36 rfl ?_
  refine va_get (D := (dC, dI)) (ci := 5) (v := .int 4) (C := RX5) (T := TX5) (N := 8) hx hb hts inG5 hown hK hP 0 rfl rfl 1 (by decide) (hts _ k36) (fun _ h9 => h9) rfl dX5_feedNumber_37 ?_
  refine lv_iconst (v := 1) hx hb dX5_feedNumber_40 (by decide) ?_
  refine lv_iadd hx hb dX5_feedNumber_41 ?_
  refine lv_topi (fun x9 ex9 => ?_)
  obtain rfl : x9 = 5 := ex9.trans (by decide +kernel)
  refine va_put (D := (dC, dI)) (ci := 5) (v := .int 5) (ty := .int) (C := RX5) (T := TX5) (N := 8) hx hb hts inG5 tyX5 tyX5_ok nmX5 hown hK hP hD hS 0 rfl rfl 1 (by decide) (hts _ k36) (fun _ h9 => h9) rfl (by decide +kernel) rfl rfl (Nat.le_of_ble_eq_true rfl) dX5_feedNumber_42 (fun H locs hP hD hS => ?_)
  have hP : va_P (dC, dI) vwCl [(w1, .inr (5, [.ref w2, .int 5, .ref w3, .int 0, .ref w4, .int 0, .int (-1), .int 0])), (w2, .inl (d5, 400, .inl (f1)))] H := hP
  have hD : va_D A [(w1, .inr (5, [.ref w2, .int 5, .ref w3, .int 0, .ref w4, .int 0, .int (-1), .int 0])), (w2, .inl (d5, 400, .inl (f1)))] := hD
  refine lv_iinc (v := 16) (lv' := [(2, .int 16), (0, .ref w1), (1, .int p1)]) hx hb dX5_feedNumber_45 hl (k := 0) rfl (by decide +kernel) (by decide) rfl (fun ls hl => ?_)
  refine lv_goto (tgt := 3) hx hb dX5_feedNumber_48 (by decide) ?_
  refine lv_iload_n hx hb dX5_feedNumber_3 rfl (lv_at hl 0 rfl) ?_
  refine lv_if_lt (tgt := 51) hx hb dX5_feedNumber_4 (by decide) (fun c9 => absurd c9 (by decide +kernel)) (fun _ => ?_)
  refine lv_aload_n hx hb dX5_feedNumber_7 rfl (lv_at hl 1 rfl) ?_
  refine va_get (D := (dC, dI)) (ci := 5) (v := .int 5) (C := RX5) (T := TX5) (N := 8) hx hb hts inG5 hown hK hP 0 rfl rfl 1 (by decide) (hts _ k36) (fun _ h9 => h9) rfl dX5_feedNumber_8 ?_
  refine lv_aload_n hx hb dX5_feedNumber_11 rfl (lv_at hl 1 rfl) ?_
  refine va_get (D := (dC, dI)) (ci := 5) (v := .ref w2) (C := RX5) (T := TX5) (N := 8) hx hb hts inG5 hown hK hP 0 rfl rfl 0 (by decide) (hts _ k35) (fun _ h9 => h9) rfl dX5_feedNumber_12 ?_
  refine va_alen (v := 400) hx hb hK hP 1 0 rfl rfl rfl dX5_feedNumber_15 ?_
  refine lv_icmp_ge (tgt := 45) hx hb dX5_feedNumber_16 (by decide) (fun c9 => absurd c9 (by decide +kernel)) (fun _ => ?_)
  refine lv_aload_n hx hb dX5_feedNumber_19 rfl (lv_at hl 1 rfl) ?_
  refine va_get (D := (dC, dI)) (ci := 5) (v := .ref w2) (C := RX5) (T := TX5) (N := 8) hx hb hts inG5 hown hK hP 0 rfl rfl 0 (by decide) (hts _ k35) (fun _ h9 => h9) rfl dX5_feedNumber_20 ?_
  refine lv_aload_n hx hb dX5_feedNumber_23 rfl (lv_at hl 1 rfl) ?_
  refine va_get (D := (dC, dI)) (ci := 5) (v := .int 5) (C := RX5) (T := TX5) (N := 8) hx hb hts inG5 hown hK hP 0 rfl rfl 1 (by decide) (hts _ k36) (fun _ h9 => h9) rfl dX5_feedNumber_24 ?_
  refine lv_iload_n hx hb dX5_feedNumber_27 rfl (lv_at hl 2 rfl) ?_
  refine lv_iload_n hx hb dX5_feedNumber_28 rfl (lv_at hl 0 rfl) ?_
  refine lv_iushr hx hb dX5_feedNumber_29 rfl ?_
  refine lv_topi (fun x29_ _ => ?_)
  refine lv_sipush (v := 255) hx hb dX5_feedNumber_30 (by decide) ?_
  refine lv_iand hx hb dX5_feedNumber_33 ?_
  refine lv_topi (fun x33_ _ => ?_)
  refine va_iast hx hb hK hP hD hS 1 0 rfl rfl (by unfold vp_in; decide +kernel) dX5_feedNumber_34 (fun H locs hP hD hS => ?_)
  have hP : va_P (dC, dI) vwCl [(w1, .inr (5, [.ref w2, .int 5, .ref w3, .int 0, .ref w4, .int 0, .int (-1), .int 0])), (w2, .inl (d5, 400, .inl (upd (f1) (5 : Int32).toNatClampNeg (x33_))))] H := hP
  have hD : va_D A [(w1, .inr (5, [.ref w2, .int 5, .ref w3, .int 0, .ref w4, .int 0, .int (-1), .int 0])), (w2, .inl (d5, 400, .inl (upd (f1) (5 : Int32).toNatClampNeg (x33_))))] := hD
  generalize upd (f1) (5 : Int32).toNatClampNeg (x33_) = f2 at hP hD
  refine lv_aload_n hx hb dX5_feedNumber_35 rfl (lv_at hl 1 rfl) ?_
  refine lv_dup hx hb dX5_feedNumber_36 rfl ?_
  refine va_get (D := (dC, dI)) (ci := 5) (v := .int 5) (C := RX5) (T := TX5) (N := 8) hx hb hts inG5 hown hK hP 0 rfl rfl 1 (by decide) (hts _ k36) (fun _ h9 => h9) rfl dX5_feedNumber_37 ?_
  refine lv_iconst (v := 1) hx hb dX5_feedNumber_40 (by decide) ?_
  refine lv_iadd hx hb dX5_feedNumber_41 ?_
  refine lv_topi (fun x9 ex9 => ?_)
  obtain rfl : x9 = 6 := ex9.trans (by decide +kernel)
  refine va_put (D := (dC, dI)) (ci := 5) (v := .int 6) (ty := .int) (C := RX5) (T := TX5) (N := 8) hx hb hts inG5 tyX5 tyX5_ok nmX5 hown hK hP hD hS 0 rfl rfl 1 (by decide) (hts _ k36) (fun _ h9 => h9) rfl (by decide +kernel) rfl rfl (Nat.le_of_ble_eq_true rfl) dX5_feedNumber_42 (fun H locs hP hD hS => ?_)
  have hP : va_P (dC, dI) vwCl [(w1, .inr (5, [.ref w2, .int 6, .ref w3, .int 0, .ref w4, .int 0, .int (-1), .int 0])), (w2, .inl (d5, 400, .inl (f2)))] H := hP
  have hD : va_D A [(w1, .inr (5, [.ref w2, .int 6, .ref w3, .int 0, .ref w4, .int 0, .int (-1), .int 0])), (w2, .inl (d5, 400, .inl (f2)))] := hD
  refine lv_iinc (v := 8) (lv' := [(2, .int 8), (0, .ref w1), (1, .int p1)]) hx hb dX5_feedNumber_45 hl (k := 0) rfl (by decide +kernel) (by decide) rfl (fun ls hl => ?_)
  refine lv_goto (tgt := 3) hx hb dX5_feedNumber_48 (by decide) ?_
  refine lv_iload_n hx hb dX5_feedNumber_3 rfl (lv_at hl 0 rfl) ?_
  refine lv_if_lt (tgt := 51) hx hb dX5_feedNumber_4 (by decide) (fun c9 => absurd c9 (by decide +kernel)) (fun _ => ?_)
  refine lv_aload_n hx hb dX5_feedNumber_7 rfl (lv_at hl 1 rfl) ?_
  refine va_get (D := (dC, dI)) (ci := 5) (v := .int 6) (C := RX5) (T := TX5) (N := 8) hx hb hts inG5 hown hK hP 0 rfl rfl 1 (by decide) (hts _ k36) (fun _ h9 => h9) rfl dX5_feedNumber_8 ?_
  refine lv_aload_n hx hb dX5_feedNumber_11 rfl (lv_at hl 1 rfl) ?_
  refine va_get (D := (dC, dI)) (ci := 5) (v := .ref w2) (C := RX5) (T := TX5) (N := 8) hx hb hts inG5 hown hK hP 0 rfl rfl 0 (by decide) (hts _ k35) (fun _ h9 => h9) rfl dX5_feedNumber_12 ?_
  refine va_alen (v := 400) hx hb hK hP 1 0 rfl rfl rfl dX5_feedNumber_15 ?_
  refine lv_icmp_ge (tgt := 45) hx hb dX5_feedNumber_16 (by decide) (fun c9 => absurd c9 (by decide +kernel)) (fun _ => ?_)
  refine lv_aload_n hx hb dX5_feedNumber_19 rfl (lv_at hl 1 rfl) ?_
  refine va_get (D := (dC, dI)) (ci := 5) (v := .ref w2) (C := RX5) (T := TX5) (N := 8) hx hb hts inG5 hown hK hP 0 rfl rfl 0 (by decide) (hts _ k35) (fun _ h9 => h9) rfl dX5_feedNumber_20 ?_
  refine lv_aload_n hx hb dX5_feedNumber_23 rfl (lv_at hl 1 rfl) ?_
  refine va_get (D := (dC, dI)) (ci := 5) (v := .int 6) (C := RX5) (T := TX5) (N := 8) hx hb hts inG5 hown hK hP 0 rfl rfl 1 (by decide) (hts _ k36) (fun _ h9 => h9) rfl dX5_feedNumber_24 ?_
  refine lv_iload_n hx hb dX5_feedNumber_27 rfl (lv_at hl 2 rfl) ?_
  refine lv_iload_n hx hb dX5_feedNumber_28 rfl (lv_at hl 0 rfl) ?_
  refine lv_iushr hx hb dX5_feedNumber_29 rfl ?_
  refine lv_topi (fun x29_ _ => ?_)
  refine lv_sipush (v := 255) hx hb dX5_feedNumber_30 (by decide) ?_
  refine lv_iand hx hb dX5_feedNumber_33 ?_
  refine lv_topi (fun x33_ _ => ?_)
  refine va_iast hx hb hK hP hD hS 1 0 rfl rfl (by unfold vp_in; decide +kernel) dX5_feedNumber_34 (fun H locs hP hD hS => ?_)
  have hP : va_P (dC, dI) vwCl [(w1, .inr (5, [.ref w2, .int 6, .ref w3, .int 0, .ref w4, .int 0, .int (-1), .int 0])), (w2, .inl (d5, 400, .inl (upd (f2) (6 : Int32).toNatClampNeg (x33_))))] H := hP
  have hD : va_D A [(w1, .inr (5, [.ref w2, .int 6, .ref w3, .int 0, .ref w4, .int 0, .int (-1), .int 0])), (w2, .inl (d5, 400, .inl (upd (f2) (6 : Int32).toNatClampNeg (x33_))))] := hD
  generalize upd (f2) (6 : Int32).toNatClampNeg (x33_) = f3 at hP hD
  refine lv_aload_n hx hb dX5_feedNumber_35 rfl (lv_at hl 1 rfl) ?_
  refine lv_dup hx hb dX5_feedNumber_36 rfl ?_
  refine va_get (D := (dC, dI)) (ci := 5) (v := .int 6) (C := RX5) (T := TX5) (N := 8) hx hb hts inG5 hown hK hP 0 rfl rfl 1 (by decide) (hts _ k36) (fun _ h9 => h9) rfl dX5_feedNumber_37 ?_
  refine lv_iconst (v := 1) hx hb dX5_feedNumber_40 (by decide) ?_
  refine lv_iadd hx hb dX5_feedNumber_41 ?_
  refine lv_topi (fun x9 ex9 => ?_)
  obtain rfl : x9 = 7 := ex9.trans (by decide +kernel)
  refine va_put (D := (dC, dI)) (ci := 5) (v := .int 7) (ty := .int) (C := RX5) (T := TX5) (N := 8) hx hb hts inG5 tyX5 tyX5_ok nmX5 hown hK hP hD hS 0 rfl rfl 1 (by decide) (hts _ k36) (fun _ h9 => h9) rfl (by decide +kernel) rfl rfl (Nat.le_of_ble_eq_true rfl) dX5_feedNumber_42 (fun H locs hP hD hS => ?_)
  have hP : va_P (dC, dI) vwCl [(w1, .inr (5, [.ref w2, .int 7, .ref w3, .int 0, .ref w4, .int 0, .int (-1), .int 0])), (w2, .inl (d5, 400, .inl (f3)))] H := hP
  have hD : va_D A [(w1, .inr (5, [.ref w2, .int 7, .ref w3, .int 0, .ref w4, .int 0, .int (-1), .int 0])), (w2, .inl (d5, 400, .inl (f3)))] := hD
  refine lv_iinc (v := 0) (lv' := [(2, .int 0), (0, .ref w1), (1, .int p1)]) hx hb dX5_feedNumber_45 hl (k := 0) rfl (by decide +kernel) (by decide) rfl (fun ls hl => ?_)
  refine lv_goto (tgt := 3) hx hb dX5_feedNumber_48 (by decide) ?_
  refine lv_iload_n hx hb dX5_feedNumber_3 rfl (lv_at hl 0 rfl) ?_
  refine lv_if_lt (tgt := 51) hx hb dX5_feedNumber_4 (by decide) (fun c9 => absurd c9 (by decide +kernel)) (fun _ => ?_)
  refine lv_aload_n hx hb dX5_feedNumber_7 rfl (lv_at hl 1 rfl) ?_
  refine va_get (D := (dC, dI)) (ci := 5) (v := .int 7) (C := RX5) (T := TX5) (N := 8) hx hb hts inG5 hown hK hP 0 rfl rfl 1 (by decide) (hts _ k36) (fun _ h9 => h9) rfl dX5_feedNumber_8 ?_
  refine lv_aload_n hx hb dX5_feedNumber_11 rfl (lv_at hl 1 rfl) ?_
  refine va_get (D := (dC, dI)) (ci := 5) (v := .ref w2) (C := RX5) (T := TX5) (N := 8) hx hb hts inG5 hown hK hP 0 rfl rfl 0 (by decide) (hts _ k35) (fun _ h9 => h9) rfl dX5_feedNumber_12 ?_
  refine va_alen (v := 400) hx hb hK hP 1 0 rfl rfl rfl dX5_feedNumber_15 ?_
  refine lv_icmp_ge (tgt := 45) hx hb dX5_feedNumber_16 (by decide) (fun c9 => absurd c9 (by decide +kernel)) (fun _ => ?_)
  refine lv_aload_n hx hb dX5_feedNumber_19 rfl (lv_at hl 1 rfl) ?_
  refine va_get (D := (dC, dI)) (ci := 5) (v := .ref w2) (C := RX5) (T := TX5) (N := 8) hx hb hts inG5 hown hK hP 0 rfl rfl 0 (by decide) (hts _ k35) (fun _ h9 => h9) rfl dX5_feedNumber_20 ?_
  refine lv_aload_n hx hb dX5_feedNumber_23 rfl (lv_at hl 1 rfl) ?_
  refine va_get (D := (dC, dI)) (ci := 5) (v := .int 7) (C := RX5) (T := TX5) (N := 8) hx hb hts inG5 hown hK hP 0 rfl rfl 1 (by decide) (hts _ k36) (fun _ h9 => h9) rfl dX5_feedNumber_24 ?_
  refine lv_iload_n hx hb dX5_feedNumber_27 rfl (lv_at hl 2 rfl) ?_
  refine lv_iload_n hx hb dX5_feedNumber_28 rfl (lv_at hl 0 rfl) ?_
  refine lv_iushr hx hb dX5_feedNumber_29 rfl ?_
  refine lv_topi (fun x29_ _ => ?_)
  refine lv_sipush (v := 255) hx hb dX5_feedNumber_30 (by decide) ?_
  refine lv_iand hx hb dX5_feedNumber_33 ?_
  refine lv_topi (fun x33_ _ => ?_)
  refine va_iast hx hb hK hP hD hS 1 0 rfl rfl (by unfold vp_in; decide +kernel) dX5_feedNumber_34 (fun H locs hP hD hS => ?_)
  have hP : va_P (dC, dI) vwCl [(w1, .inr (5, [.ref w2, .int 7, .ref w3, .int 0, .ref w4, .int 0, .int (-1), .int 0])), (w2, .inl (d5, 400, .inl (upd (f3) (7 : Int32).toNatClampNeg (x33_))))] H := hP
  have hD : va_D A [(w1, .inr (5, [.ref w2, .int 7, .ref w3, .int 0, .ref w4, .int 0, .int (-1), .int 0])), (w2, .inl (d5, 400, .inl (upd (f3) (7 : Int32).toNatClampNeg (x33_))))] := hD
  generalize upd (f3) (7 : Int32).toNatClampNeg (x33_) = f4 at hP hD
  refine lv_aload_n hx hb dX5_feedNumber_35 rfl (lv_at hl 1 rfl) ?_
  refine lv_dup hx hb dX5_feedNumber_36 rfl ?_
  refine va_get (D := (dC, dI)) (ci := 5) (v := .int 7) (C := RX5) (T := TX5) (N := 8) hx hb hts inG5 hown hK hP 0 rfl rfl 1 (by decide) (hts _ k36) (fun _ h9 => h9) rfl dX5_feedNumber_37 ?_
  refine lv_iconst (v := 1) hx hb dX5_feedNumber_40 (by decide) ?_
  refine lv_iadd hx hb dX5_feedNumber_41 ?_
  refine lv_topi (fun x9 ex9 => ?_)
  obtain rfl : x9 = 8 := ex9.trans (by decide +kernel)
  refine va_put (D := (dC, dI)) (ci := 5) (v := .int 8) (ty := .int) (C := RX5) (T := TX5) (N := 8) hx hb hts inG5 tyX5 tyX5_ok nmX5 hown hK hP hD hS 0 rfl rfl 1 (by decide) (hts _ k36) (fun _ h9 => h9) rfl (by decide +kernel) rfl rfl (Nat.le_of_ble_eq_true rfl) dX5_feedNumber_42 (fun H locs hP hD hS => ?_)
  have hP : va_P (dC, dI) vwCl [(w1, .inr (5, [.ref w2, .int 8, .ref w3, .int 0, .ref w4, .int 0, .int (-1), .int 0])), (w2, .inl (d5, 400, .inl (f4)))] H := hP
  have hD : va_D A [(w1, .inr (5, [.ref w2, .int 8, .ref w3, .int 0, .ref w4, .int 0, .int (-1), .int 0])), (w2, .inl (d5, 400, .inl (f4)))] := hD
  refine lv_iinc (v := (-8)) (lv' := [(2, .int (-8)), (0, .ref w1), (1, .int p1)]) hx hb dX5_feedNumber_45 hl (k := 0) rfl (by decide +kernel) (by decide) rfl (fun ls hl => ?_)
  refine lv_goto (tgt := 3) hx hb dX5_feedNumber_48 (by decide) ?_
  refine lv_iload_n hx hb dX5_feedNumber_3 rfl (lv_at hl 0 rfl) ?_
  refine lv_if_lt (tgt := 51) hx hb dX5_feedNumber_4 (by decide) (fun _ => ?_) (fun c9 => absurd (by decide +kernel) c9)
  have hP9 := hP.sub (ws' := [(w1, .inr (5, [.ref w2, .int 8, .ref w3, .int 0, .ref w4, .int 0, .int (-1), .int 0])), (w2, .inl (d5, 400, .inl (f4)))]) [0, 1] rfl
  have hD9 := hD.sub (ws' := [(w1, .inr (5, [.ref w2, .int 8, .ref w3, .int 0, .ref w4, .int 0, .int (-1), .int 0])), (w2, .inl (d5, 400, .inl (f4)))]) [0, 1] (by decide) rfl
  have hK9 := hK.sub (tys' := [(d5, .int)]) [0] rfl
  refine W.widen (k := 0) (n := 0) (by omega) (by omega) ?_
  exact W.vret hx hb hr (fun t ht hW => ⟨⟨(), rfl, trivial, f4, by rw [ht]; exact hP9, va_K.moved hW.alike hK9, hD9⟩, hS.F ht⟩) hS.2.2 dX5_feedNumber_51
set_option maxHeartbeats 4000000 in
set_option maxRecDepth 100000 in
theorem c_feedNumber8 (l : Launch) (dC : Nat → ClassId) (dI : Nat → Nat → Nat) (sz : Nat) (w1 : Nat) (w2 : Nat) (w3 : Nat) (w4 : Nat) (d5 : ClassId) (f0 : Nat → Int32) (p1 : Int32)  : Met l yX5_feedNumber (Cond.code yX5_feedNumber cX5_feedNumber 3 none :: wsG) ({ frames := 1, cells := 0, slots := 0, locals := 14 } : Room) (va_Pc [.ref w1, .int p1] (fun U => U.heap.size = sz ∧ va_P (dC, dI) vwCl [(w1, .inr (5, [.ref w2, .int 8, .ref w3, .int 0, .ref w4, .int 0, .int (-1), .int 0])), (w2, .inl (d5, 400, .inl (f0)))] U.heap ∧ va_K (dC, dI) vwCl [(d5, .int)] U ∧ va_D (fun _ => True) [(w1, .inr (5, [.ref w2, .int 8, .ref w3, .int 0, .ref w4, .int 0, .int (-1), .int 0])), (w2, .inl (d5, 400, .inl (f0)))])) (va_Qv (fun (_ : Unit) => True) (fun (_ : Unit) (t : State) => ∃ (f4 : Nat → Int32), va_P (dC, dI) vwCl [(w1, .inr (5, [.ref w2, .int 12, .ref w3, .int 0, .ref w4, .int 0, .int (-1), .int 0])), (w2, .inl (d5, 400, .inl (f4)))] t.heap ∧ va_K (dC, dI) vwCl [(d5, .int)] t ∧ va_D (va_A [(w1, .inr (5, [.ref w2, .int 8, .ref w3, .int 0, .ref w4, .int 0, .int (-1), .int 0])), (w2, .inl (d5, 400, .inl (f0)))] sz) [(w1, .inr (5, [.ref w2, .int 12, .ref w3, .int 0, .ref w4, .int 0, .int (-1), .int 0])), (w2, .inl (d5, 400, .inl (f4)))]) (va_A [(w1, .inr (5, [.ref w2, .int 8, .ref w3, .int 0, .ref w4, .int 0, .int (-1), .int 0])), (w2, .inl (d5, 400, .inl (f0)))] sz)) 0 0 (va_A [(w1, .inr (5, [.ref w2, .int 8, .ref w3, .int 0, .ref w4, .int 0, .int (-1), .int 0])), (w2, .inl (d5, 400, .inl (f0)))] sz) := by
  refine Met.ofW (cc := cX5_feedNumber) (maxL := 3) (ret := none) (by decide) rfl ?_
  intro p e s m args below meth c s₁ B hml hv
  obtain ⟨rfl, hsz, hP, hK, hD0⟩ := hv
  have hx := B.exec
  have hb := B.bytes
  have hr := B.returns
  have hts : ∀ w ∈ wsG, w.before _ s = true := hG_of (atoms_spec (ws := (Cond.code yX5_feedNumber cX5_feedNumber 3 none :: wsG)) B.pre)
  have hown : s.vm.findClass RX5 = some m.cls := findClass_of_methodNamed B.named
  have hlocks := B.notSynchronized
  subst hsz
  have hD := hD0.self (sz := s.heap.size)
  generalize hAe : va_A [(w1, .inr (5, [.ref w2, .int 8, .ref w3, .int 0, .ref w4, .int 0, .int (-1), .int 0])), (w2, .inl (d5, 400, .inl (f0)))] s.heap.size = A at hD ⊢
  have hA : ∀ q : Nat, s.heap.size ≤ q → A q := fun q h => by rw [← hAe]; exact Or.inr h
  have hS : va_S A s.heap s.heap [] := va_S.rf
  have hl := lv_entry ([.ref w1, .int p1]) (n := 3) (Nat.le_of_ble_eq_true rfl)
  rw [lg_entry_eq]
  generalize (lg_sl ([.ref w1, .int p1]) ++ List.replicate (3 - (lg_sl ([.ref w1, .int p1])).length) Slot.unset).toArray = ls at hl ⊢
  have hl : lv_has ls 3 [(0, .ref w1), (1, .int p1)] := hl
  refine lv_bipush (v := 24) hx hb dX5_feedNumber_0 (by decide) ?_
  refine lv_istore_n (lv' := [(2, .int 24), (0, .ref w1), (1, .int p1)]) hx hb dX5_feedNumber_2 rfl hl (by decide) rfl (fun ls hl => ?_)
  refine lv_iload_n hx hb dX5_feedNumber_3 rfl (lv_at hl 0 rfl) ?_
  refine lv_if_lt (tgt := 51) hx hb dX5_feedNumber_4 (by decide) (fun c9 => absurd c9 (by decide +kernel)) (fun _ => ?_)
  refine lv_aload_n hx hb dX5_feedNumber_7 rfl (lv_at hl 1 rfl) ?_
  refine va_get (D := (dC, dI)) (ci := 5) (v := .int 8) (C := RX5) (T := TX5) (N := 8) hx hb hts inG5 hown hK hP 0 rfl rfl 1 (by decide) (hts _ k36) (fun _ h9 => h9) rfl dX5_feedNumber_8 ?_
  refine lv_aload_n hx hb dX5_feedNumber_11 rfl (lv_at hl 1 rfl) ?_
  refine va_get (D := (dC, dI)) (ci := 5) (v := .ref w2) (C := RX5) (T := TX5) (N := 8) hx hb hts inG5 hown hK hP 0 rfl rfl 0 (by decide) (hts _ k35) (fun _ h9 => h9) rfl dX5_feedNumber_12 ?_
  refine va_alen (v := 400) hx hb hK hP 1 0 rfl rfl rfl dX5_feedNumber_15 ?_
  refine lv_icmp_ge (tgt := 45) hx hb dX5_feedNumber_16 (by decide) (fun c9 => absurd c9 (by decide +kernel)) (fun _ => ?_)
  refine lv_aload_n hx hb dX5_feedNumber_19 rfl (lv_at hl 1 rfl) ?_
  refine va_get (D := (dC, dI)) (ci := 5) (v := .ref w2) (C := RX5) (T := TX5) (N := 8) hx hb hts inG5 hown hK hP 0 rfl rfl 0 (by decide) (hts _ k35) (fun _ h9 => h9) rfl dX5_feedNumber_20 ?_
  refine lv_aload_n hx hb dX5_feedNumber_23 rfl (lv_at hl 1 rfl) ?_
  refine va_get (D := (dC, dI)) (ci := 5) (v := .int 8) (C := RX5) (T := TX5) (N := 8) hx hb hts inG5 hown hK hP 0 rfl rfl 1 (by decide) (hts _ k36) (fun _ h9 => h9) rfl dX5_feedNumber_24 ?_
  refine lv_iload_n hx hb dX5_feedNumber_27 rfl (lv_at hl 2 rfl) ?_
  refine lv_iload_n hx hb dX5_feedNumber_28 rfl (lv_at hl 0 rfl) ?_
  refine lv_iushr hx hb dX5_feedNumber_29 rfl ?_
  refine lv_topi (fun x29_ _ => ?_)
  refine lv_sipush (v := 255) hx hb dX5_feedNumber_30 (by decide) ?_
  refine lv_iand hx hb dX5_feedNumber_33 ?_
  refine lv_topi (fun x33_ _ => ?_)
  refine va_iast hx hb hK hP hD hS 1 0 rfl rfl (by unfold vp_in; decide +kernel) dX5_feedNumber_34 (fun H locs hP hD hS => ?_)
  have hP : va_P (dC, dI) vwCl [(w1, .inr (5, [.ref w2, .int 8, .ref w3, .int 0, .ref w4, .int 0, .int (-1), .int 0])), (w2, .inl (d5, 400, .inl (upd (f0) (8 : Int32).toNatClampNeg (x33_))))] H := hP
  have hD : va_D A [(w1, .inr (5, [.ref w2, .int 8, .ref w3, .int 0, .ref w4, .int 0, .int (-1), .int 0])), (w2, .inl (d5, 400, .inl (upd (f0) (8 : Int32).toNatClampNeg (x33_))))] := hD
  generalize upd (f0) (8 : Int32).toNatClampNeg (x33_) = f1 at hP hD
  refine lv_aload_n hx hb dX5_feedNumber_35 rfl (lv_at hl 1 rfl) ?_
  refine lv_dup hx hb dX5_feedNumber_36 rfl ?_
  refine va_get (D := (dC, dI)) (ci := 5) (v := .int 8) (C := RX5) (T := TX5) (N := 8) hx hb hts inG5 hown hK hP 0 rfl rfl 1 (by decide) (hts _ k36) (fun _ h9 => h9) rfl dX5_feedNumber_37 ?_
  refine lv_iconst (v := 1) hx hb dX5_feedNumber_40 (by decide) ?_
  refine lv_iadd hx hb dX5_feedNumber_41 ?_
  refine lv_topi (fun x9 ex9 => ?_)
  obtain rfl : x9 = 9 := ex9.trans (by decide +kernel)
  refine va_put (D := (dC, dI)) (ci := 5) (v := .int 9) (ty := .int) (C := RX5) (T := TX5) (N := 8) hx hb hts inG5 tyX5 tyX5_ok nmX5 hown hK hP hD hS 0 rfl rfl 1 (by decide) (hts _ k36) (fun _ h9 => h9) rfl (by decide +kernel) rfl rfl (Nat.le_of_ble_eq_true rfl) dX5_feedNumber_42 (fun H locs hP hD hS => ?_)
  have hP : va_P (dC, dI) vwCl [(w1, .inr (5, [.ref w2, .int 9, .ref w3, .int 0, .ref w4, .int 0, .int (-1), .int 0])), (w2, .inl (d5, 400, .inl (f1)))] H := hP
  have hD : va_D A [(w1, .inr (5, [.ref w2, .int 9, .ref w3, .int 0, .ref w4, .int 0, .int (-1), .int 0])), (w2, .inl (d5, 400, .inl (f1)))] := hD
  refine lv_iinc (v := 16) (lv' := [(2, .int 16), (0, .ref w1), (1, .int p1)]) hx hb dX5_feedNumber_45 hl (k := 0) rfl (by decide +kernel) (by decide) rfl (fun ls hl => ?_)
  refine lv_goto (tgt := 3) hx hb dX5_feedNumber_48 (by decide) ?_
  refine lv_iload_n hx hb dX5_feedNumber_3 rfl (lv_at hl 0 rfl) ?_
  refine lv_if_lt (tgt := 51) hx hb dX5_feedNumber_4 (by decide) (fun c9 => absurd c9 (by decide +kernel)) (fun _ => ?_)
  refine lv_aload_n hx hb dX5_feedNumber_7 rfl (lv_at hl 1 rfl) ?_
  refine va_get (D := (dC, dI)) (ci := 5) (v := .int 9) (C := RX5) (T := TX5) (N := 8) hx hb hts inG5 hown hK hP 0 rfl rfl 1 (by decide) (hts _ k36) (fun _ h9 => h9) rfl dX5_feedNumber_8 ?_
  refine lv_aload_n hx hb dX5_feedNumber_11 rfl (lv_at hl 1 rfl) ?_
  refine va_get (D := (dC, dI)) (ci := 5) (v := .ref w2) (C := RX5) (T := TX5) (N := 8) hx hb hts inG5 hown hK hP 0 rfl rfl 0 (by decide) (hts _ k35) (fun _ h9 => h9) rfl dX5_feedNumber_12 ?_
  refine va_alen (v := 400) hx hb hK hP 1 0 rfl rfl rfl dX5_feedNumber_15 ?_
  refine lv_icmp_ge (tgt := 45) hx hb dX5_feedNumber_16 (by decide) (fun c9 => absurd c9 (by decide +kernel)) (fun _ => ?_)
  refine lv_aload_n hx hb dX5_feedNumber_19 rfl (lv_at hl 1 rfl) ?_
  refine va_get (D := (dC, dI)) (ci := 5) (v := .ref w2) (C := RX5) (T := TX5) (N := 8) hx hb hts inG5 hown hK hP 0 rfl rfl 0 (by decide) (hts _ k35) (fun _ h9 => h9) rfl dX5_feedNumber_20 ?_
  refine lv_aload_n hx hb dX5_feedNumber_23 rfl (lv_at hl 1 rfl) ?_
  refine va_get (D := (dC, dI)) (ci := 5) (v := .int 9) (C := RX5) (T := TX5) (N := 8) hx hb hts inG5 hown hK hP 0 rfl rfl 1 (by decide) (hts _ k36) (fun _ h9 => h9) rfl dX5_feedNumber_24 ?_
  refine lv_iload_n hx hb dX5_feedNumber_27 rfl (lv_at hl 2 rfl) ?_
  refine lv_iload_n hx hb dX5_feedNumber_28 rfl (lv_at hl 0 rfl) ?_
  refine lv_iushr hx hb dX5_feedNumber_29 rfl ?_
  refine lv_topi (fun x29_ _ => ?_)
  refine lv_sipush (v := 255) hx hb dX5_feedNumber_30 (by decide) ?_
  refine lv_iand hx hb dX5_feedNumber_33 ?_
  refine lv_topi (fun x33_ _ => ?_)
  refine va_iast hx hb hK hP hD hS 1 0 rfl rfl (by unfold vp_in; decide +kernel) dX5_feedNumber_34 (fun H locs hP hD hS => ?_)
  have hP : va_P (dC, dI) vwCl [(w1, .inr (5, [.ref w2, .int 9, .ref w3, .int 0, .ref w4, .int 0, .int (-1), .int 0])), (w2, .inl (d5, 400, .inl (upd (f1) (9 : Int32).toNatClampNeg (x33_))))] H := hP
  have hD : va_D A [(w1, .inr (5, [.ref w2, .int 9, .ref w3, .int 0, .ref w4, .int 0, .int (-1), .int 0])), (w2, .inl (d5, 400, .inl (upd (f1) (9 : Int32).toNatClampNeg (x33_))))] := hD
  generalize upd (f1) (9 : Int32).toNatClampNeg (x33_) = f2 at hP hD
  refine lv_aload_n hx hb dX5_feedNumber_35 rfl (lv_at hl 1 rfl) ?_
  refine lv_dup hx hb dX5_feedNumber_36 rfl ?_
  refine va_get (D := (dC, dI)) (ci := 5) (v := .int 9) (C := RX5) (T := TX5) (N := 8) hx hb hts inG5 hown hK hP 0 rfl rfl 1 (by decide) (hts _ k36) (fun _ h9 => h9) rfl dX5_feedNumber_37 ?_
  refine lv_iconst (v := 1) hx hb dX5_feedNumber_40 (by decide) ?_
  refine lv_iadd hx hb dX5_feedNumber_41 ?_
  refine lv_topi (fun x9 ex9 => ?_)
  obtain rfl : x9 = 10 := ex9.trans (by decide +kernel)
  refine va_put (D := (dC, dI)) (ci := 5) (v := .int 10) (ty := .int) (C := RX5) (T := TX5) (N := 8) hx hb hts inG5 tyX5 tyX5_ok nmX5 hown hK hP hD hS 0 rfl rfl 1 (by decide) (hts _ k36) (fun _ h9 => h9) rfl (by decide +kernel) rfl rfl (Nat.le_of_ble_eq_true rfl) dX5_feedNumber_42 (fun H locs hP hD hS => ?_)
  have hP : va_P (dC, dI) vwCl [(w1, .inr (5, [.ref w2, .int 10, .ref w3, .int 0, .ref w4, .int 0, .int (-1), .int 0])), (w2, .inl (d5, 400, .inl (f2)))] H := hP
  have hD : va_D A [(w1, .inr (5, [.ref w2, .int 10, .ref w3, .int 0, .ref w4, .int 0, .int (-1), .int 0])), (w2, .inl (d5, 400, .inl (f2)))] := hD
  refine lv_iinc (v := 8) (lv' := [(2, .int 8), (0, .ref w1), (1, .int p1)]) hx hb dX5_feedNumber_45 hl (k := 0) rfl (by decide +kernel) (by decide) rfl (fun ls hl => ?_)
  refine lv_goto (tgt := 3) hx hb dX5_feedNumber_48 (by decide) ?_
  refine lv_iload_n hx hb dX5_feedNumber_3 rfl (lv_at hl 0 rfl) ?_
  refine lv_if_lt (tgt := 51) hx hb dX5_feedNumber_4 (by decide) (fun c9 => absurd c9 (by decide +kernel)) (fun _ => ?_)
  refine lv_aload_n hx hb dX5_feedNumber_7 rfl (lv_at hl 1 rfl) ?_
  refine va_get (D := (dC, dI)) (ci := 5) (v := .int 10) (C := RX5) (T := TX5) (N := 8) hx hb hts inG5 hown hK hP 0 rfl rfl 1 (by decide) (hts _ k36) (fun _ h9 => h9) rfl dX5_feedNumber_8 ?_
  refine lv_aload_n hx hb dX5_feedNumber_11 rfl (lv_at hl 1 rfl) ?_
  refine va_get (D := (dC, dI)) (ci := 5) (v := .ref w2) (C := RX5) (T := TX5) (N := 8) hx hb hts inG5 hown hK hP 0 rfl rfl 0 (by decide) (hts _ k35) (fun _ h9 => h9) rfl dX5_feedNumber_12 ?_
  refine va_alen (v := 400) hx hb hK hP 1 0 rfl rfl rfl dX5_feedNumber_15 ?_
  refine lv_icmp_ge (tgt := 45) hx hb dX5_feedNumber_16 (by decide) (fun c9 => absurd c9 (by decide +kernel)) (fun _ => ?_)
  refine lv_aload_n hx hb dX5_feedNumber_19 rfl (lv_at hl 1 rfl) ?_
  refine va_get (D := (dC, dI)) (ci := 5) (v := .ref w2) (C := RX5) (T := TX5) (N := 8) hx hb hts inG5 hown hK hP 0 rfl rfl 0 (by decide) (hts _ k35) (fun _ h9 => h9) rfl dX5_feedNumber_20 ?_
  refine lv_aload_n hx hb dX5_feedNumber_23 rfl (lv_at hl 1 rfl) ?_
  refine va_get (D := (dC, dI)) (ci := 5) (v := .int 10) (C := RX5) (T := TX5) (N := 8) hx hb hts inG5 hown hK hP 0 rfl rfl 1 (by decide) (hts _ k36) (fun _ h9 => h9) rfl dX5_feedNumber_24 ?_
  refine lv_iload_n hx hb dX5_feedNumber_27 rfl (lv_at hl 2 rfl) ?_
  refine lv_iload_n hx hb dX5_feedNumber_28 rfl (lv_at hl 0 rfl) ?_
  refine lv_iushr hx hb dX5_feedNumber_29 rfl ?_
  refine lv_topi (fun x29_ _ => ?_)
  refine lv_sipush (v := 255) hx hb dX5_feedNumber_30 (by decide) ?_
  refine lv_iand hx hb dX5_feedNumber_33 ?_
  refine lv_topi (fun x33_ _ => ?_)
  refine va_iast hx hb hK hP hD hS 1 0 rfl rfl (by unfold vp_in; decide +kernel) dX5_feedNumber_34 (fun H locs hP hD hS => ?_)
  have hP : va_P (dC, dI) vwCl [(w1, .inr (5, [.ref w2, .int 10, .ref w3, .int 0, .ref w4, .int 0, .int (-1), .int 0])), (w2, .inl (d5, 400, .inl (upd (f2) (10 : Int32).toNatClampNeg (x33_))))] H := hP
  have hD : va_D A [(w1, .inr (5, [.ref w2, .int 10, .ref w3, .int 0, .ref w4, .int 0, .int (-1), .int 0])), (w2, .inl (d5, 400, .inl (upd (f2) (10 : Int32).toNatClampNeg (x33_))))] := hD
  generalize upd (f2) (10 : Int32).toNatClampNeg (x33_) = f3 at hP hD
  refine lv_aload_n hx hb dX5_feedNumber_35 rfl (lv_at hl 1 rfl) ?_
  refine lv_dup hx hb dX5_feedNumber_36 rfl ?_
  refine va_get (D := (dC, dI)) (ci := 5) (v := .int 10) (C := RX5) (T := TX5) (N := 8) hx hb hts inG5 hown hK hP 0 rfl rfl 1 (by decide) (hts _ k36) (fun _ h9 => h9) rfl dX5_feedNumber_37 ?_
  refine lv_iconst (v := 1) hx hb dX5_feedNumber_40 (by decide) ?_
  refine lv_iadd hx hb dX5_feedNumber_41 ?_
  refine lv_topi (fun x9 ex9 => ?_)
  obtain rfl : x9 = 11 := ex9.trans (by decide +kernel)
  refine va_put (D := (dC, dI)) (ci := 5) (v := .int 11) (ty := .int) (C := RX5) (T := TX5) (N := 8) hx hb hts inG5 tyX5 tyX5_ok nmX5 hown hK hP hD hS 0 rfl rfl 1 (by decide) (hts _ k36) (fun _ h9 => h9) rfl (by decide +kernel) rfl rfl (Nat.le_of_ble_eq_true rfl) dX5_feedNumber_42 (fun H locs hP hD hS => ?_)
  have hP : va_P (dC, dI) vwCl [(w1, .inr (5, [.ref w2, .int 11, .ref w3, .int 0, .ref w4, .int 0, .int (-1), .int 0])), (w2, .inl (d5, 400, .inl (f3)))] H := hP
  have hD : va_D A [(w1, .inr (5, [.ref w2, .int 11, .ref w3, .int 0, .ref w4, .int 0, .int (-1), .int 0])), (w2, .inl (d5, 400, .inl (f3)))] := hD
  refine lv_iinc (v := 0) (lv' := [(2, .int 0), (0, .ref w1), (1, .int p1)]) hx hb dX5_feedNumber_45 hl (k := 0) rfl (by decide +kernel) (by decide) rfl (fun ls hl => ?_)
  refine lv_goto (tgt := 3) hx hb dX5_feedNumber_48 (by decide) ?_
  refine lv_iload_n hx hb dX5_feedNumber_3 rfl (lv_at hl 0 rfl) ?_
  refine lv_if_lt (tgt := 51) hx hb dX5_feedNumber_4 (by decide) (fun c9 => absurd c9 (by decide +kernel)) (fun _ => ?_)
  refine lv_aload_n hx hb dX5_feedNumber_7 rfl (lv_at hl 1 rfl) ?_
  refine va_get (D := (dC, dI)) (ci := 5) (v := .int 11) (C := RX5) (T := TX5) (N := 8) hx hb hts inG5 hown hK hP 0 rfl rfl 1 (by decide) (hts _ k36) (fun _ h9 => h9) rfl dX5_feedNumber_8 ?_
  refine lv_aload_n hx hb dX5_feedNumber_11 rfl (lv_at hl 1 rfl) ?_
  refine va_get (D := (dC, dI)) (ci := 5) (v := .ref w2) (C := RX5) (T := TX5) (N := 8) hx hb hts inG5 hown hK hP 0 rfl rfl 0 (by decide) (hts _ k35) (fun _ h9 => h9) rfl dX5_feedNumber_12 ?_
  refine va_alen (v := 400) hx hb hK hP 1 0 rfl rfl rfl dX5_feedNumber_15 ?_
  refine lv_icmp_ge (tgt := 45) hx hb dX5_feedNumber_16 (by decide) (fun c9 => absurd c9 (by decide +kernel)) (fun _ => ?_)
  refine lv_aload_n hx hb dX5_feedNumber_19 rfl (lv_at hl 1 rfl) ?_
  refine va_get (D := (dC, dI)) (ci := 5) (v := .ref w2) (C := RX5) (T := TX5) (N := 8) hx hb hts inG5 hown hK hP 0 rfl rfl 0 (by decide) (hts _ k35) (fun _ h9 => h9) rfl dX5_feedNumber_20 ?_
  refine lv_aload_n hx hb dX5_feedNumber_23 rfl (lv_at hl 1 rfl) ?_
  refine va_get (D := (dC, dI)) (ci := 5) (v := .int 11) (C := RX5) (T := TX5) (N := 8) hx hb hts inG5 hown hK hP 0 rfl rfl 1 (by decide) (hts _ k36) (fun _ h9 => h9) rfl dX5_feedNumber_24 ?_
  refine lv_iload_n hx hb dX5_feedNumber_27 rfl (lv_at hl 2 rfl) ?_
  refine lv_iload_n hx hb dX5_feedNumber_28 rfl (lv_at hl 0 rfl) ?_
  refine lv_iushr hx hb dX5_feedNumber_29 rfl ?_
  refine lv_topi (fun x29_ _ => ?_)
  refine lv_sipush (v := 255) hx hb dX5_feedNumber_30 (by decide) ?_
  refine lv_iand hx hb dX5_feedNumber_33 ?_
  refine lv_topi (fun x33_ _ => ?_)
  refine va_iast hx hb hK hP hD hS 1 0 rfl rfl (by unfold vp_in; decide +kernel) dX5_feedNumber_34 (fun H locs hP hD hS => ?_)
  have hP : va_P (dC, dI) vwCl [(w1, .inr (5, [.ref w2, .int 11, .ref w3, .int 0, .ref w4, .int 0, .int (-1), .int 0])), (w2, .inl (d5, 400, .inl (upd (f3) (11 : Int32).toNatClampNeg (x33_))))] H := hP
  have hD : va_D A [(w1, .inr (5, [.ref w2, .int 11, .ref w3, .int 0, .ref w4, .int 0, .int (-1), .int 0])), (w2, .inl (d5, 400, .inl (upd (f3) (11 : Int32).toNatClampNeg (x33_))))] := hD
  generalize upd (f3) (11 : Int32).toNatClampNeg (x33_) = f4 at hP hD
  refine lv_aload_n hx hb dX5_feedNumber_35 rfl (lv_at hl 1 rfl) ?_
  refine lv_dup hx hb dX5_feedNumber_36 rfl ?_
  refine va_get (D := (dC, dI)) (ci := 5) (v := .int 11) (C := RX5) (T := TX5) (N := 8) hx hb hts inG5 hown hK hP 0 rfl rfl 1 (by decide) (hts _ k36) (fun _ h9 => h9) rfl dX5_feedNumber_37 ?_
  refine lv_iconst (v := 1) hx hb dX5_feedNumber_40 (by decide) ?_
  refine lv_iadd hx hb dX5_feedNumber_41 ?_
  refine lv_topi (fun x9 ex9 => ?_)
  obtain rfl : x9 = 12 := ex9.trans (by decide +kernel)
  refine va_put (D := (dC, dI)) (ci := 5) (v := .int 12) (ty := .int) (C := RX5) (T := TX5) (N := 8) hx hb hts inG5 tyX5 tyX5_ok nmX5 hown hK hP hD hS 0 rfl rfl 1 (by decide) (hts _ k36) (fun _ h9 => h9) rfl (by decide +kernel) rfl rfl (Nat.le_of_ble_eq_true rfl) dX5_feedNumber_42 (fun H locs hP hD hS => ?_)
  have hP : va_P (dC, dI) vwCl [(w1, .inr (5, [.ref w2, .int 12, .ref w3, .int 0, .ref w4, .int 0, .int (-1), .int 0])), (w2, .inl (d5, 400, .inl (f4)))] H := hP
  have hD : va_D A [(w1, .inr (5, [.ref w2, .int 12, .ref w3, .int 0, .ref w4, .int 0, .int (-1), .int 0])), (w2, .inl (d5, 400, .inl (f4)))] := hD
  refine lv_iinc (v := (-8)) (lv' := [(2, .int (-8)), (0, .ref w1), (1, .int p1)]) hx hb dX5_feedNumber_45 hl (k := 0) rfl (by decide +kernel) (by decide) rfl (fun ls hl => ?_)
  refine lv_goto (tgt := 3) hx hb dX5_feedNumber_48 (by decide) ?_
  refine lv_iload_n hx hb dX5_feedNumber_3 rfl (lv_at hl 0 rfl) ?_
  refine lv_if_lt (tgt := 51) hx hb dX5_feedNumber_4 (by decide) (fun _ => ?_) (fun c9 => absurd (by decide +kernel) c9)
  have hP9 := hP.sub (ws' := [(w1, .inr (5, [.ref w2, .int 12, .ref w3, .int 0, .ref w4, .int 0, .int (-1), .int 0])), (w2, .inl (d5, 400, .inl (f4)))]) [0, 1] rfl
  have hD9 := hD.sub (ws' := [(w1, .inr (5, [.ref w2, .int 12, .ref w3, .int 0, .ref w4, .int 0, .int (-1), .int 0])), (w2, .inl (d5, 400, .inl (f4)))]) [0, 1] (by decide) rfl
  have hK9 := hK.sub (tys' := [(d5, .int)]) [0] rfl
  refine W.widen (k := 0) (n := 0) (by omega) (by omega) ?_
  exact W.vret hx hb hr (fun t ht hW => ⟨⟨(), rfl, trivial, f4, by rw [ht]; exact hP9, va_K.moved hW.alike hK9, hD9⟩, hS.F ht⟩) hS.2.2 dX5_feedNumber_51
set_option maxHeartbeats 4000000 in
set_option maxRecDepth 100000 in
theorem c_feedNumber12 (l : Launch) (dC : Nat → ClassId) (dI : Nat → Nat → Nat) (sz : Nat) (w1 : Nat) (w2 : Nat) (w3 : Nat) (w4 : Nat) (d5 : ClassId) (f0 : Nat → Int32) (p1 : Int32)  : Met l yX5_feedNumber (Cond.code yX5_feedNumber cX5_feedNumber 3 none :: wsG) ({ frames := 1, cells := 0, slots := 0, locals := 14 } : Room) (va_Pc [.ref w1, .int p1] (fun U => U.heap.size = sz ∧ va_P (dC, dI) vwCl [(w1, .inr (5, [.ref w2, .int 12, .ref w3, .int 0, .ref w4, .int 0, .int (-1), .int 0])), (w2, .inl (d5, 400, .inl (f0)))] U.heap ∧ va_K (dC, dI) vwCl [(d5, .int)] U ∧ va_D (fun _ => True) [(w1, .inr (5, [.ref w2, .int 12, .ref w3, .int 0, .ref w4, .int 0, .int (-1), .int 0])), (w2, .inl (d5, 400, .inl (f0)))])) (va_Qv (fun (_ : Unit) => True) (fun (_ : Unit) (t : State) => ∃ (f4 : Nat → Int32), va_P (dC, dI) vwCl [(w1, .inr (5, [.ref w2, .int 16, .ref w3, .int 0, .ref w4, .int 0, .int (-1), .int 0])), (w2, .inl (d5, 400, .inl (f4)))] t.heap ∧ va_K (dC, dI) vwCl [(d5, .int)] t ∧ va_D (va_A [(w1, .inr (5, [.ref w2, .int 12, .ref w3, .int 0, .ref w4, .int 0, .int (-1), .int 0])), (w2, .inl (d5, 400, .inl (f0)))] sz) [(w1, .inr (5, [.ref w2, .int 16, .ref w3, .int 0, .ref w4, .int 0, .int (-1), .int 0])), (w2, .inl (d5, 400, .inl (f4)))]) (va_A [(w1, .inr (5, [.ref w2, .int 12, .ref w3, .int 0, .ref w4, .int 0, .int (-1), .int 0])), (w2, .inl (d5, 400, .inl (f0)))] sz)) 0 0 (va_A [(w1, .inr (5, [.ref w2, .int 12, .ref w3, .int 0, .ref w4, .int 0, .int (-1), .int 0])), (w2, .inl (d5, 400, .inl (f0)))] sz) := by
  refine Met.ofW (cc := cX5_feedNumber) (maxL := 3) (ret := none) (by decide) rfl ?_
  intro p e s m args below meth c s₁ B hml hv
  obtain ⟨rfl, hsz, hP, hK, hD0⟩ := hv
  have hx := B.exec
  have hb := B.bytes
  have hr := B.returns
  have hts : ∀ w ∈ wsG, w.before _ s = true := hG_of (atoms_spec (ws := (Cond.code yX5_feedNumber cX5_feedNumber 3 none :: wsG)) B.pre)
  have hown : s.vm.findClass RX5 = some m.cls := findClass_of_methodNamed B.named
  have hlocks := B.notSynchronized
  subst hsz
  have hD := hD0.self (sz := s.heap.size)
  generalize hAe : va_A [(w1, .inr (5, [.ref w2, .int 12, .ref w3, .int 0, .ref w4, .int 0, .int (-1), .int 0])), (w2, .inl (d5, 400, .inl (f0)))] s.heap.size = A at hD ⊢
  have hA : ∀ q : Nat, s.heap.size ≤ q → A q := fun q h => by rw [← hAe]; exact Or.inr h
  have hS : va_S A s.heap s.heap [] := va_S.rf
  have hl := lv_entry ([.ref w1, .int p1]) (n := 3) (Nat.le_of_ble_eq_true rfl)
  rw [lg_entry_eq]
  generalize (lg_sl ([.ref w1, .int p1]) ++ List.replicate (3 - (lg_sl ([.ref w1, .int p1])).length) Slot.unset).toArray = ls at hl ⊢
  have hl : lv_has ls 3 [(0, .ref w1), (1, .int p1)] := hl
  refine lv_bipush (v := 24) hx hb dX5_feedNumber_0 (by decide) ?_
  refine lv_istore_n (lv' := [(2, .int 24), (0, .ref w1), (1, .int p1)]) hx hb dX5_feedNumber_2 rfl hl (by decide) rfl (fun ls hl => ?_)
  refine lv_iload_n hx hb dX5_feedNumber_3 rfl (lv_at hl 0 rfl) ?_
  refine lv_if_lt (tgt := 51) hx hb dX5_feedNumber_4 (by decide) (fun c9 => absurd c9 (by decide +kernel)) (fun _ => ?_)
  refine lv_aload_n hx hb dX5_feedNumber_7 rfl (lv_at hl 1 rfl) ?_
  refine va_get (D := (dC, dI)) (ci := 5) (v := .int 12) (C := RX5) (T := TX5) (N := 8) hx hb hts inG5 hown hK hP 0 rfl rfl 1 (by decide) (hts _ k36) (fun _ h9 => h9) rfl dX5_feedNumber_8 ?_
  refine lv_aload_n hx hb dX5_feedNumber_11 rfl (lv_at hl 1 rfl) ?_
  refine va_get (D := (dC, dI)) (ci := 5) (v := .ref w2) (C := RX5) (T := TX5) (N := 8) hx hb hts inG5 hown hK hP 0 rfl rfl 0 (by decide) (hts _ k35) (fun _ h9 => h9) rfl dX5_feedNumber_12 ?_
  refine va_alen (v := 400) hx hb hK hP 1 0 rfl rfl rfl dX5_feedNumber_15 ?_
  refine lv_icmp_ge (tgt := 45) hx hb dX5_feedNumber_16 (by decide) (fun c9 => absurd c9 (by decide +kernel)) (fun _ => ?_)
  refine lv_aload_n hx hb dX5_feedNumber_19 rfl (lv_at hl 1 rfl) ?_
  refine va_get (D := (dC, dI)) (ci := 5) (v := .ref w2) (C := RX5) (T := TX5) (N := 8) hx hb hts inG5 hown hK hP 0 rfl rfl 0 (by decide) (hts _ k35) (fun _ h9 => h9) rfl dX5_feedNumber_20 ?_
  refine lv_aload_n hx hb dX5_feedNumber_23 rfl (lv_at hl 1 rfl) ?_
  refine va_get (D := (dC, dI)) (ci := 5) (v := .int 12) (C := RX5) (T := TX5) (N := 8) hx hb hts inG5 hown hK hP 0 rfl rfl 1 (by decide) (hts _ k36) (fun _ h9 => h9) rfl dX5_feedNumber_24 ?_
  refine lv_iload_n hx hb dX5_feedNumber_27 rfl (lv_at hl 2 rfl) ?_
  refine lv_iload_n hx hb dX5_feedNumber_28 rfl (lv_at hl 0 rfl) ?_
  refine lv_iushr hx hb dX5_feedNumber_29 rfl ?_
  refine lv_topi (fun x29_ _ => ?_)
  refine lv_sipush (v := 255) hx hb dX5_feedNumber_30 (by decide) ?_
  refine lv_iand hx hb dX5_feedNumber_33 ?_
  refine lv_topi (fun x33_ _ => ?_)
  refine va_iast hx hb hK hP hD hS 1 0 rfl rfl (by unfold vp_in; decide +kernel) dX5_feedNumber_34 (fun H locs hP hD hS => ?_)
  have hP : va_P (dC, dI) vwCl [(w1, .inr (5, [.ref w2, .int 12, .ref w3, .int 0, .ref w4, .int 0, .int (-1), .int 0])), (w2, .inl (d5, 400, .inl (upd (f0) (12 : Int32).toNatClampNeg (x33_))))] H := hP
  have hD : va_D A [(w1, .inr (5, [.ref w2, .int 12, .ref w3, .int 0, .ref w4, .int 0, .int (-1), .int 0])), (w2, .inl (d5, 400, .inl (upd (f0) (12 : Int32).toNatClampNeg (x33_))))] := hD
  generalize upd (f0) (12 : Int32).toNatClampNeg (x33_) = f1 at hP hD
  refine lv_aload_n hx hb dX5_feedNumber_35 rfl (lv_at hl 1 rfl) ?_
  refine lv_dup hx hb dX5_feedNumber_36 rfl ?_
  refine va_get (D := (dC, dI)) (ci := 5) (v := .int 12) (C := RX5) (T := TX5) (N := 8) hx hb hts inG5 hown hK hP 0 rfl rfl 1 (by decide) (hts _ k36) (fun _ h9 => h9) rfl dX5_feedNumber_37 ?_
  refine lv_iconst (v := 1) hx hb dX5_feedNumber_40 (by decide) ?_
  refine lv_iadd hx hb dX5_feedNumber_41 ?_
  refine lv_topi (fun x9 ex9 => ?_)
  obtain rfl : x9 = 13 := ex9.trans (by decide +kernel)
  refine va_put (D := (dC, dI)) (ci := 5) (v := .int 13) (ty := .int) (C := RX5) (T := TX5) (N := 8) hx hb hts inG5 tyX5 tyX5_ok nmX5 hown hK hP hD hS 0 rfl rfl 1 (by decide) (hts _ k36) (fun _ h9 => h9) rfl (by decide +kernel) rfl rfl (Nat.le_of_ble_eq_true rfl) dX5_feedNumber_42 (fun H locs hP hD hS => ?_)
  have hP : va_P (dC, dI) vwCl [(w1, .inr (5, [.ref w2, .int 13, .ref w3, .int 0, .ref w4, .int 0, .int (-1), .int 0])), (w2, .inl (d5, 400, .inl (f1)))] H := hP
  have hD : va_D A [(w1, .inr (5, [.ref w2, .int 13, .ref w3, .int 0, .ref w4, .int 0, .int (-1), .int 0])), (w2, .inl (d5, 400, .inl (f1)))] := hD
  refine lv_iinc (v := 16) (lv' := [(2, .int 16), (0, .ref w1), (1, .int p1)]) hx hb dX5_feedNumber_45 hl (k := 0) rfl (by decide +kernel) (by decide) rfl (fun ls hl => ?_)
  refine lv_goto (tgt := 3) hx hb dX5_feedNumber_48 (by decide) ?_
  refine lv_iload_n hx hb dX5_feedNumber_3 rfl (lv_at hl 0 rfl) ?_
  refine lv_if_lt (tgt := 51) hx hb dX5_feedNumber_4 (by decide) (fun c9 => absurd c9 (by decide +kernel)) (fun _ => ?_)
  refine lv_aload_n hx hb dX5_feedNumber_7 rfl (lv_at hl 1 rfl) ?_
  refine va_get (D := (dC, dI)) (ci := 5) (v := .int 13) (C := RX5) (T := TX5) (N := 8) hx hb hts inG5 hown hK hP 0 rfl rfl 1 (by decide) (hts _ k36) (fun _ h9 => h9) rfl dX5_feedNumber_8 ?_
  refine lv_aload_n hx hb dX5_feedNumber_11 rfl (lv_at hl 1 rfl) ?_
  refine va_get (D := (dC, dI)) (ci := 5) (v := .ref w2) (C := RX5) (T := TX5) (N := 8) hx hb hts inG5 hown hK hP 0 rfl rfl 0 (by decide) (hts _ k35) (fun _ h9 => h9) rfl dX5_feedNumber_12 ?_
  refine va_alen (v := 400) hx hb hK hP 1 0 rfl rfl rfl dX5_feedNumber_15 ?_
  refine lv_icmp_ge (tgt := 45) hx hb dX5_feedNumber_16 (by decide) (fun c9 => absurd c9 (by decide +kernel)) (fun _ => ?_)
  refine lv_aload_n hx hb dX5_feedNumber_19 rfl (lv_at hl 1 rfl) ?_
  refine va_get (D := (dC, dI)) (ci := 5) (v := .ref w2) (C := RX5) (T := TX5) (N := 8) hx hb hts inG5 hown hK hP 0 rfl rfl 0 (by decide) (hts _ k35) (fun _ h9 => h9) rfl dX5_feedNumber_20 ?_
  refine lv_aload_n hx hb dX5_feedNumber_23 rfl (lv_at hl 1 rfl) ?_
  refine va_get (D := (dC, dI)) (ci := 5) (v := .int 13) (C := RX5) (T := TX5) (N := 8) hx hb hts inG5 hown hK hP 0 rfl rfl 1 (by decide) (hts _ k36) (fun _ h9 => h9) rfl dX5_feedNumber_24 ?_
  refine lv_iload_n hx hb dX5_feedNumber_27 rfl (lv_at hl 2 rfl) ?_
  refine lv_iload_n hx hb dX5_feedNumber_28 rfl (lv_at hl 0 rfl) ?_
  refine lv_iushr hx hb dX5_feedNumber_29 rfl ?_
  refine lv_topi (fun x29_ _ => ?_)
  refine lv_sipush (v := 255) hx hb dX5_feedNumber_30 (by decide) ?_
  refine lv_iand hx hb dX5_feedNumber_33 ?_
  refine lv_topi (fun x33_ _ => ?_)
  refine va_iast hx hb hK hP hD hS 1 0 rfl rfl (by unfold vp_in; decide +kernel) dX5_feedNumber_34 (fun H locs hP hD hS => ?_)
  have hP : va_P (dC, dI) vwCl [(w1, .inr (5, [.ref w2, .int 13, .ref w3, .int 0, .ref w4, .int 0, .int (-1), .int 0])), (w2, .inl (d5, 400, .inl (upd (f1) (13 : Int32).toNatClampNeg (x33_))))] H := hP
  have hD : va_D A [(w1, .inr (5, [.ref w2, .int 13, .ref w3, .int 0, .ref w4, .int 0, .int (-1), .int 0])), (w2, .inl (d5, 400, .inl (upd (f1) (13 : Int32).toNatClampNeg (x33_))))] := hD
  generalize upd (f1) (13 : Int32).toNatClampNeg (x33_) = f2 at hP hD
  refine lv_aload_n hx hb dX5_feedNumber_35 rfl (lv_at hl 1 rfl) ?_
  refine lv_dup hx hb dX5_feedNumber_36 rfl ?_
  refine va_get (D := (dC, dI)) (ci := 5) (v := .int 13) (C := RX5) (T := TX5) (N := 8) hx hb hts inG5 hown hK hP 0 rfl rfl 1 (by decide) (hts _ k36) (fun _ h9 => h9) rfl dX5_feedNumber_37 ?_
  refine lv_iconst (v := 1) hx hb dX5_feedNumber_40 (by decide) ?_
  refine lv_iadd hx hb dX5_feedNumber_41 ?_
  refine lv_topi (fun x9 ex9 => ?_)
  obtain rfl : x9 = 14 := ex9.trans (by decide +kernel)
  refine va_put (D := (dC, dI)) (ci := 5) (v := .int 14) (ty := .int) (C := RX5) (T := TX5) (N := 8) hx hb hts inG5 tyX5 tyX5_ok nmX5 hown hK hP hD hS 0 rfl rfl 1 (by decide) (hts _ k36) (fun _ h9 => h9) rfl (by decide +kernel) rfl rfl (Nat.le_of_ble_eq_true rfl) dX5_feedNumber_42 (fun H locs hP hD hS => ?_)
  have hP : va_P (dC, dI) vwCl [(w1, .inr (5, [.ref w2, .int 14, .ref w3, .int 0, .ref w4, .int 0, .int (-1), .int 0])), (w2, .inl (d5, 400, .inl (f2)))] H := hP
  have hD : va_D A [(w1, .inr (5, [.ref w2, .int 14, .ref w3, .int 0, .ref w4, .int 0, .int (-1), .int 0])), (w2, .inl (d5, 400, .inl (f2)))] := hD
  refine lv_iinc (v := 8) (lv' := [(2, .int 8), (0, .ref w1), (1, .int p1)]) hx hb dX5_feedNumber_45 hl (k := 0) rfl (by decide +kernel) (by decide) rfl (fun ls hl => ?_)
  refine lv_goto (tgt := 3) hx hb dX5_feedNumber_48 (by decide) ?_
  refine lv_iload_n hx hb dX5_feedNumber_3 rfl (lv_at hl 0 rfl) ?_
  refine lv_if_lt (tgt := 51) hx hb dX5_feedNumber_4 (by decide) (fun c9 => absurd c9 (by decide +kernel)) (fun _ => ?_)
  refine lv_aload_n hx hb dX5_feedNumber_7 rfl (lv_at hl 1 rfl) ?_
  refine va_get (D := (dC, dI)) (ci := 5) (v := .int 14) (C := RX5) (T := TX5) (N := 8) hx hb hts inG5 hown hK hP 0 rfl rfl 1 (by decide) (hts _ k36) (fun _ h9 => h9) rfl dX5_feedNumber_8 ?_
  refine lv_aload_n hx hb dX5_feedNumber_11 rfl (lv_at hl 1 rfl) ?_
  refine va_get (D := (dC, dI)) (ci := 5) (v := .ref w2) (C := RX5) (T := TX5) (N := 8) hx hb hts inG5 hown hK hP 0 rfl rfl 0 (by decide) (hts _ k35) (fun _ h9 => h9) rfl dX5_feedNumber_12 ?_
  refine va_alen (v := 400) hx hb hK hP 1 0 rfl rfl rfl dX5_feedNumber_15 ?_
  refine lv_icmp_ge (tgt := 45) hx hb dX5_feedNumber_16 (by decide) (fun c9 => absurd c9 (by decide +kernel)) (fun _ => ?_)
  refine lv_aload_n hx hb dX5_feedNumber_19 rfl (lv_at hl 1 rfl) ?_
  refine va_get (D := (dC, dI)) (ci := 5) (v := .ref w2) (C := RX5) (T := TX5) (N := 8) hx hb hts inG5 hown hK hP 0 rfl rfl 0 (by decide) (hts _ k35) (fun _ h9 => h9) rfl dX5_feedNumber_20 ?_
  refine lv_aload_n hx hb dX5_feedNumber_23 rfl (lv_at hl 1 rfl) ?_
  refine va_get (D := (dC, dI)) (ci := 5) (v := .int 14) (C := RX5) (T := TX5) (N := 8) hx hb hts inG5 hown hK hP 0 rfl rfl 1 (by decide) (hts _ k36) (fun _ h9 => h9) rfl dX5_feedNumber_24 ?_
  refine lv_iload_n hx hb dX5_feedNumber_27 rfl (lv_at hl 2 rfl) ?_
  refine lv_iload_n hx hb dX5_feedNumber_28 rfl (lv_at hl 0 rfl) ?_
  refine lv_iushr hx hb dX5_feedNumber_29 rfl ?_
  refine lv_topi (fun x29_ _ => ?_)
  refine lv_sipush (v := 255) hx hb dX5_feedNumber_30 (by decide) ?_
  refine lv_iand hx hb dX5_feedNumber_33 ?_
  refine lv_topi (fun x33_ _ => ?_)
  refine va_iast hx hb hK hP hD hS 1 0 rfl rfl (by unfold vp_in; decide +kernel) dX5_feedNumber_34 (fun H locs hP hD hS => ?_)
  have hP : va_P (dC, dI) vwCl [(w1, .inr (5, [.ref w2, .int 14, .ref w3, .int 0, .ref w4, .int 0, .int (-1), .int 0])), (w2, .inl (d5, 400, .inl (upd (f2) (14 : Int32).toNatClampNeg (x33_))))] H := hP
  have hD : va_D A [(w1, .inr (5, [.ref w2, .int 14, .ref w3, .int 0, .ref w4, .int 0, .int (-1), .int 0])), (w2, .inl (d5, 400, .inl (upd (f2) (14 : Int32).toNatClampNeg (x33_))))] := hD
  generalize upd (f2) (14 : Int32).toNatClampNeg (x33_) = f3 at hP hD
  refine lv_aload_n hx hb dX5_feedNumber_35 rfl (lv_at hl 1 rfl) ?_
  refine lv_dup hx hb dX5_feedNumber_36 rfl ?_
  refine va_get (D := (dC, dI)) (ci := 5) (v := .int 14) (C := RX5) (T := TX5) (N := 8) hx hb hts inG5 hown hK hP 0 rfl rfl 1 (by decide) (hts _ k36) (fun _ h9 => h9) rfl dX5_feedNumber_37 ?_
  refine lv_iconst (v := 1) hx hb dX5_feedNumber_40 (by decide) ?_
  refine lv_iadd hx hb dX5_feedNumber_41 ?_
  refine lv_topi (fun x9 ex9 => ?_)
  obtain rfl : x9 = 15 := ex9.trans (by decide +kernel)
  refine va_put (D := (dC, dI)) (ci := 5) (v := .int 15) (ty := .int) (C := RX5) (T := TX5) (N := 8) hx hb hts inG5 tyX5 tyX5_ok nmX5 hown hK hP hD hS 0 rfl rfl 1 (by decide) (hts _ k36) (fun _ h9 => h9) rfl (by decide +kernel) rfl rfl (Nat.le_of_ble_eq_true rfl) dX5_feedNumber_42 (fun H locs hP hD hS => ?_)
  have hP : va_P (dC, dI) vwCl [(w1, .inr (5, [.ref w2, .int 15, .ref w3, .int 0, .ref w4, .int 0, .int (-1), .int 0])), (w2, .inl (d5, 400, .inl (f3)))] H := hP
  have hD : va_D A [(w1, .inr (5, [.ref w2, .int 15, .ref w3, .int 0, .ref w4, .int 0, .int (-1), .int 0])), (w2, .inl (d5, 400, .inl (f3)))] := hD
  refine lv_iinc (v := 0) (lv' := [(2, .int 0), (0, .ref w1), (1, .int p1)]) hx hb dX5_feedNumber_45 hl (k := 0) rfl (by decide +kernel) (by decide) rfl (fun ls hl => ?_)
  refine lv_goto (tgt := 3) hx hb dX5_feedNumber_48 (by decide) ?_
  refine lv_iload_n hx hb dX5_feedNumber_3 rfl (lv_at hl 0 rfl) ?_
  refine lv_if_lt (tgt := 51) hx hb dX5_feedNumber_4 (by decide) (fun c9 => absurd c9 (by decide +kernel)) (fun _ => ?_)
  refine lv_aload_n hx hb dX5_feedNumber_7 rfl (lv_at hl 1 rfl) ?_
  refine va_get (D := (dC, dI)) (ci := 5) (v := .int 15) (C := RX5) (T := TX5) (N := 8) hx hb hts inG5 hown hK hP 0 rfl rfl 1 (by decide) (hts _ k36) (fun _ h9 => h9) rfl dX5_feedNumber_8 ?_
  refine lv_aload_n hx hb dX5_feedNumber_11 rfl (lv_at hl 1 rfl) ?_
  refine va_get (D := (dC, dI)) (ci := 5) (v := .ref w2) (C := RX5) (T := TX5) (N := 8) hx hb hts inG5 hown hK hP 0 rfl rfl 0 (by decide) (hts _ k35) (fun _ h9 => h9) rfl dX5_feedNumber_12 ?_
  refine va_alen (v := 400) hx hb hK hP 1 0 rfl rfl rfl dX5_feedNumber_15 ?_
  refine lv_icmp_ge (tgt := 45) hx hb dX5_feedNumber_16 (by decide) (fun c9 => absurd c9 (by decide +kernel)) (fun _ => ?_)
  refine lv_aload_n hx hb dX5_feedNumber_19 rfl (lv_at hl 1 rfl) ?_
  refine va_get (D := (dC, dI)) (ci := 5) (v := .ref w2) (C := RX5) (T := TX5) (N := 8) hx hb hts inG5 hown hK hP 0 rfl rfl 0 (by decide) (hts _ k35) (fun _ h9 => h9) rfl dX5_feedNumber_20 ?_
  refine lv_aload_n hx hb dX5_feedNumber_23 rfl (lv_at hl 1 rfl) ?_
  refine va_get (D := (dC, dI)) (ci := 5) (v := .int 15) (C := RX5) (T := TX5) (N := 8) hx hb hts inG5 hown hK hP 0 rfl rfl 1 (by decide) (hts _ k36) (fun _ h9 => h9) rfl dX5_feedNumber_24 ?_
  refine lv_iload_n hx hb dX5_feedNumber_27 rfl (lv_at hl 2 rfl) ?_
  refine lv_iload_n hx hb dX5_feedNumber_28 rfl (lv_at hl 0 rfl) ?_
  refine lv_iushr hx hb dX5_feedNumber_29 rfl ?_
  refine lv_topi (fun x29_ _ => ?_)
  refine lv_sipush (v := 255) hx hb dX5_feedNumber_30 (by decide) ?_
  refine lv_iand hx hb dX5_feedNumber_33 ?_
  refine lv_topi (fun x33_ _ => ?_)
  refine va_iast hx hb hK hP hD hS 1 0 rfl rfl (by unfold vp_in; decide +kernel) dX5_feedNumber_34 (fun H locs hP hD hS => ?_)
  have hP : va_P (dC, dI) vwCl [(w1, .inr (5, [.ref w2, .int 15, .ref w3, .int 0, .ref w4, .int 0, .int (-1), .int 0])), (w2, .inl (d5, 400, .inl (upd (f3) (15 : Int32).toNatClampNeg (x33_))))] H := hP
  have hD : va_D A [(w1, .inr (5, [.ref w2, .int 15, .ref w3, .int 0, .ref w4, .int 0, .int (-1), .int 0])), (w2, .inl (d5, 400, .inl (upd (f3) (15 : Int32).toNatClampNeg (x33_))))] := hD
  generalize upd (f3) (15 : Int32).toNatClampNeg (x33_) = f4 at hP hD
  refine lv_aload_n hx hb dX5_feedNumber_35 rfl (lv_at hl 1 rfl) ?_
  refine lv_dup hx hb dX5_feedNumber_36 rfl ?_
  refine va_get (D := (dC, dI)) (ci := 5) (v := .int 15) (C := RX5) (T := TX5) (N := 8) hx hb hts inG5 hown hK hP 0 rfl rfl 1 (by decide) (hts _ k36) (fun _ h9 => h9) rfl dX5_feedNumber_37 ?_
  refine lv_iconst (v := 1) hx hb dX5_feedNumber_40 (by decide) ?_
  refine lv_iadd hx hb dX5_feedNumber_41 ?_
  refine lv_topi (fun x9 ex9 => ?_)
  obtain rfl : x9 = 16 := ex9.trans (by decide +kernel)
  refine va_put (D := (dC, dI)) (ci := 5) (v := .int 16) (ty := .int) (C := RX5) (T := TX5) (N := 8) hx hb hts inG5 tyX5 tyX5_ok nmX5 hown hK hP hD hS 0 rfl rfl 1 (by decide) (hts _ k36) (fun _ h9 => h9) rfl (by decide +kernel) rfl rfl (Nat.le_of_ble_eq_true rfl) dX5_feedNumber_42 (fun H locs hP hD hS => ?_)
  have hP : va_P (dC, dI) vwCl [(w1, .inr (5, [.ref w2, .int 16, .ref w3, .int 0, .ref w4, .int 0, .int (-1), .int 0])), (w2, .inl (d5, 400, .inl (f4)))] H := hP
  have hD : va_D A [(w1, .inr (5, [.ref w2, .int 16, .ref w3, .int 0, .ref w4, .int 0, .int (-1), .int 0])), (w2, .inl (d5, 400, .inl (f4)))] := hD
  refine lv_iinc (v := (-8)) (lv' := [(2, .int (-8)), (0, .ref w1), (1, .int p1)]) hx hb dX5_feedNumber_45 hl (k := 0) rfl (by decide +kernel) (by decide) rfl (fun ls hl => ?_)
  refine lv_goto (tgt := 3) hx hb dX5_feedNumber_48 (by decide) ?_
  refine lv_iload_n hx hb dX5_feedNumber_3 rfl (lv_at hl 0 rfl) ?_
  refine lv_if_lt (tgt := 51) hx hb dX5_feedNumber_4 (by decide) (fun _ => ?_) (fun c9 => absurd (by decide +kernel) c9)
  have hP9 := hP.sub (ws' := [(w1, .inr (5, [.ref w2, .int 16, .ref w3, .int 0, .ref w4, .int 0, .int (-1), .int 0])), (w2, .inl (d5, 400, .inl (f4)))]) [0, 1] rfl
  have hD9 := hD.sub (ws' := [(w1, .inr (5, [.ref w2, .int 16, .ref w3, .int 0, .ref w4, .int 0, .int (-1), .int 0])), (w2, .inl (d5, 400, .inl (f4)))]) [0, 1] (by decide) rfl
  have hK9 := hK.sub (tys' := [(d5, .int)]) [0] rfl
  refine W.widen (k := 0) (n := 0) (by omega) (by omega) ?_
  exact W.vret hx hb hr (fun t ht hW => ⟨⟨(), rfl, trivial, f4, by rw [ht]; exact hP9, va_K.moved hW.alike hK9, hD9⟩, hS.F ht⟩) hS.2.2 dX5_feedNumber_51
set_option maxHeartbeats 4000000 in
set_option maxRecDepth 100000 in
theorem c_feedNumber16 (l : Launch) (dC : Nat → ClassId) (dI : Nat → Nat → Nat) (sz : Nat) (w1 : Nat) (w2 : Nat) (w3 : Nat) (w4 : Nat) (d5 : ClassId) (f0 : Nat → Int32) (p1 : Int32)  : Met l yX5_feedNumber (Cond.code yX5_feedNumber cX5_feedNumber 3 none :: wsG) ({ frames := 1, cells := 0, slots := 0, locals := 14 } : Room) (va_Pc [.ref w1, .int p1] (fun U => U.heap.size = sz ∧ va_P (dC, dI) vwCl [(w1, .inr (5, [.ref w2, .int 16, .ref w3, .int 0, .ref w4, .int 0, .int (-1), .int 0])), (w2, .inl (d5, 400, .inl (f0)))] U.heap ∧ va_K (dC, dI) vwCl [(d5, .int)] U ∧ va_D (fun _ => True) [(w1, .inr (5, [.ref w2, .int 16, .ref w3, .int 0, .ref w4, .int 0, .int (-1), .int 0])), (w2, .inl (d5, 400, .inl (f0)))])) (va_Qv (fun (_ : Unit) => True) (fun (_ : Unit) (t : State) => ∃ (f4 : Nat → Int32), va_P (dC, dI) vwCl [(w1, .inr (5, [.ref w2, .int 20, .ref w3, .int 0, .ref w4, .int 0, .int (-1), .int 0])), (w2, .inl (d5, 400, .inl (f4)))] t.heap ∧ va_K (dC, dI) vwCl [(d5, .int)] t ∧ va_D (va_A [(w1, .inr (5, [.ref w2, .int 16, .ref w3, .int 0, .ref w4, .int 0, .int (-1), .int 0])), (w2, .inl (d5, 400, .inl (f0)))] sz) [(w1, .inr (5, [.ref w2, .int 20, .ref w3, .int 0, .ref w4, .int 0, .int (-1), .int 0])), (w2, .inl (d5, 400, .inl (f4)))]) (va_A [(w1, .inr (5, [.ref w2, .int 16, .ref w3, .int 0, .ref w4, .int 0, .int (-1), .int 0])), (w2, .inl (d5, 400, .inl (f0)))] sz)) 0 0 (va_A [(w1, .inr (5, [.ref w2, .int 16, .ref w3, .int 0, .ref w4, .int 0, .int (-1), .int 0])), (w2, .inl (d5, 400, .inl (f0)))] sz) := by
  refine Met.ofW (cc := cX5_feedNumber) (maxL := 3) (ret := none) (by decide) rfl ?_
  intro p e s m args below meth c s₁ B hml hv
  obtain ⟨rfl, hsz, hP, hK, hD0⟩ := hv
  have hx := B.exec
  have hb := B.bytes
  have hr := B.returns
  have hts : ∀ w ∈ wsG, w.before _ s = true := hG_of (atoms_spec (ws := (Cond.code yX5_feedNumber cX5_feedNumber 3 none :: wsG)) B.pre)
  have hown : s.vm.findClass RX5 = some m.cls := findClass_of_methodNamed B.named
  have hlocks := B.notSynchronized
  subst hsz
  have hD := hD0.self (sz := s.heap.size)
  generalize hAe : va_A [(w1, .inr (5, [.ref w2, .int 16, .ref w3, .int 0, .ref w4, .int 0, .int (-1), .int 0])), (w2, .inl (d5, 400, .inl (f0)))] s.heap.size = A at hD ⊢
  have hA : ∀ q : Nat, s.heap.size ≤ q → A q := fun q h => by rw [← hAe]; exact Or.inr h
  have hS : va_S A s.heap s.heap [] := va_S.rf
  have hl := lv_entry ([.ref w1, .int p1]) (n := 3) (Nat.le_of_ble_eq_true rfl)
  rw [lg_entry_eq]
  generalize (lg_sl ([.ref w1, .int p1]) ++ List.replicate (3 - (lg_sl ([.ref w1, .int p1])).length) Slot.unset).toArray = ls at hl ⊢
  have hl : lv_has ls 3 [(0, .ref w1), (1, .int p1)] := hl
  refine lv_bipush (v := 24) hx hb dX5_feedNumber_0 (by decide) ?_
  refine lv_istore_n (lv' := [(2, .int 24), (0, .ref w1), (1, .int p1)]) hx hb dX5_feedNumber_2 rfl hl (by decide) rfl (fun ls hl => ?_)
  refine lv_iload_n hx hb dX5_feedNumber_3 rfl (lv_at hl 0 rfl) ?_
  refine lv_if_lt (tgt := 51) hx hb dX5_feedNumber_4 (by decide) (fun c9 => absurd c9 (by decide +kernel)) (fun _ => ?_)
  refine lv_aload_n hx hb dX5_feedNumber_7 rfl (lv_at hl 1 rfl) ?_
  refine va_get (D := (dC, dI)) (ci := 5) (v := .int 16) (C := RX5) (T := TX5) (N := 8) hx hb hts inG5 hown hK hP 0 rfl rfl 1 (by decide) (hts _ k36) (fun _ h9 => h9) rfl dX5_feedNumber_8 ?_
  refine lv_aload_n hx hb dX5_feedNumber_11 rfl (lv_at hl 1 rfl) ?_
  refine va_get (D := (dC, dI)) (ci := 5) (v := .ref w2) (C := RX5) (T := TX5) (N := 8) hx hb hts inG5 hown hK hP 0 rfl rfl 0 (by decide) (hts _ k35) (fun _ h9 => h9) rfl dX5_feedNumber_12 ?_
  refine va_alen (v := 400) hx hb hK hP 1 0 rfl rfl rfl dX5_feedNumber_15 ?_
  refine lv_icmp_ge (tgt := 45) hx hb dX5_feedNumber_16 (by decide) (fun c9 => absurd c9 (by decide +kernel)) (fun _ => ?_)
  refine lv_aload_n hx hb dX5_feedNumber_19 rfl (lv_at hl 1 rfl) ?_
  refine va_get (D := (dC, dI)) (ci := 5) (v := .ref w2) (C := RX5) (T := TX5) (N := 8) hx hb hts inG5 hown hK hP 0 rfl rfl 0 (by decide) (hts _ k35) (fun _ h9 => h9) rfl dX5_feedNumber_20 ?_
  refine lv_aload_n hx hb dX5_feedNumber_23 rfl (lv_at hl 1 rfl) ?_
  refine va_get (D := (dC, dI)) (ci := 5) (v := .int 16) (C := RX5) (T := TX5) (N := 8) hx hb hts inG5 hown hK hP 0 rfl rfl 1 (by decide) (hts _ k36) (fun _ h9 => h9) rfl dX5_feedNumber_24 ?_
  refine lv_iload_n hx hb dX5_feedNumber_27 rfl (lv_at hl 2 rfl) ?_
  refine lv_iload_n hx hb dX5_feedNumber_28 rfl (lv_at hl 0 rfl) ?_
  refine lv_iushr hx hb dX5_feedNumber_29 rfl ?_
  refine lv_topi (fun x29_ _ => ?_)
  refine lv_sipush (v := 255) hx hb dX5_feedNumber_30 (by decide) ?_
  refine lv_iand hx hb dX5_feedNumber_33 ?_
  refine lv_topi (fun x33_ _ => ?_)
  refine va_iast hx hb hK hP hD hS 1 0 rfl rfl (by unfold vp_in; decide +kernel) dX5_feedNumber_34 (fun H locs hP hD hS => ?_)
  have hP : va_P (dC, dI) vwCl [(w1, .inr (5, [.ref w2, .int 16, .ref w3, .int 0, .ref w4, .int 0, .int (-1), .int 0])), (w2, .inl (d5, 400, .inl (upd (f0) (16 : Int32).toNatClampNeg (x33_))))] H := hP
  have hD : va_D A [(w1, .inr (5, [.ref w2, .int 16, .ref w3, .int 0, .ref w4, .int 0, .int (-1), .int 0])), (w2, .inl (d5, 400, .inl (upd (f0) (16 : Int32).toNatClampNeg (x33_))))] := hD
  generalize upd (f0) (16 : Int32).toNatClampNeg (x33_) = f1 at hP hD
  refine lv_aload_n hx hb dX5_feedNumber_35 rfl (lv_at hl 1 rfl) ?_
  refine lv_dup hx hb dX5_feedNumber_36 rfl ?_
  refine va_get (D := (dC, dI)) (ci := 5) (v := .int 16) (C := RX5) (T := TX5) (N := 8) hx hb hts inG5 hown hK hP 0 rfl rfl 1 (by decide) (hts _ k36) (fun _ h9 => h9) rfl dX5_feedNumber_37 ?_
  refine lv_iconst (v := 1) hx hb dX5_feedNumber_40 (by decide) ?_
  refine lv_iadd hx hb dX5_feedNumber_41 ?_
  refine lv_topi (fun x9 ex9 => ?_)
  obtain rfl : x9 = 17 := ex9.trans (by decide +kernel)
  refine va_put (D := (dC, dI)) (ci := 5) (v := .int 17) (ty := .int) (C := RX5) (T := TX5) (N := 8) hx hb hts inG5 tyX5 tyX5_ok nmX5 hown hK hP hD hS 0 rfl rfl 1 (by decide) (hts _ k36) (fun _ h9 => h9) rfl (by decide +kernel) rfl rfl (Nat.le_of_ble_eq_true rfl) dX5_feedNumber_42 (fun H locs hP hD hS => ?_)
  have hP : va_P (dC, dI) vwCl [(w1, .inr (5, [.ref w2, .int 17, .ref w3, .int 0, .ref w4, .int 0, .int (-1), .int 0])), (w2, .inl (d5, 400, .inl (f1)))] H := hP
  have hD : va_D A [(w1, .inr (5, [.ref w2, .int 17, .ref w3, .int 0, .ref w4, .int 0, .int (-1), .int 0])), (w2, .inl (d5, 400, .inl (f1)))] := hD
  refine lv_iinc (v := 16) (lv' := [(2, .int 16), (0, .ref w1), (1, .int p1)]) hx hb dX5_feedNumber_45 hl (k := 0) rfl (by decide +kernel) (by decide) rfl (fun ls hl => ?_)
  refine lv_goto (tgt := 3) hx hb dX5_feedNumber_48 (by decide) ?_
  refine lv_iload_n hx hb dX5_feedNumber_3 rfl (lv_at hl 0 rfl) ?_
  refine lv_if_lt (tgt := 51) hx hb dX5_feedNumber_4 (by decide) (fun c9 => absurd c9 (by decide +kernel)) (fun _ => ?_)
  refine lv_aload_n hx hb dX5_feedNumber_7 rfl (lv_at hl 1 rfl) ?_
  refine va_get (D := (dC, dI)) (ci := 5) (v := .int 17) (C := RX5) (T := TX5) (N := 8) hx hb hts inG5 hown hK hP 0 rfl rfl 1 (by decide) (hts _ k36) (fun _ h9 => h9) rfl dX5_feedNumber_8 ?_
  refine lv_aload_n hx hb dX5_feedNumber_11 rfl (lv_at hl 1 rfl) ?_
  refine va_get (D := (dC, dI)) (ci := 5) (v := .ref w2) (C := RX5) (T := TX5) (N := 8) hx hb hts inG5 hown hK hP 0 rfl rfl 0 (by decide) (hts _ k35) (fun _ h9 => h9) rfl dX5_feedNumber_12 ?_
  refine va_alen (v := 400) hx hb hK hP 1 0 rfl rfl rfl dX5_feedNumber_15 ?_
  refine lv_icmp_ge (tgt := 45) hx hb dX5_feedNumber_16 (by decide) (fun c9 => absurd c9 (by decide +kernel)) (fun _ => ?_)
  refine lv_aload_n hx hb dX5_feedNumber_19 rfl (lv_at hl 1 rfl) ?_
  refine va_get (D := (dC, dI)) (ci := 5) (v := .ref w2) (C := RX5) (T := TX5) (N := 8) hx hb hts inG5 hown hK hP 0 rfl rfl 0 (by decide) (hts _ k35) (fun _ h9 => h9) rfl dX5_feedNumber_20 ?_
  refine lv_aload_n hx hb dX5_feedNumber_23 rfl (lv_at hl 1 rfl) ?_
  refine va_get (D := (dC, dI)) (ci := 5) (v := .int 17) (C := RX5) (T := TX5) (N := 8) hx hb hts inG5 hown hK hP 0 rfl rfl 1 (by decide) (hts _ k36) (fun _ h9 => h9) rfl dX5_feedNumber_24 ?_
  refine lv_iload_n hx hb dX5_feedNumber_27 rfl (lv_at hl 2 rfl) ?_
  refine lv_iload_n hx hb dX5_feedNumber_28 rfl (lv_at hl 0 rfl) ?_
  refine lv_iushr hx hb dX5_feedNumber_29 rfl ?_
  refine lv_topi (fun x29_ _ => ?_)
  refine lv_sipush (v := 255) hx hb dX5_feedNumber_30 (by decide) ?_
  refine lv_iand hx hb dX5_feedNumber_33 ?_
  refine lv_topi (fun x33_ _ => ?_)
  refine va_iast hx hb hK hP hD hS 1 0 rfl rfl (by unfold vp_in; decide +kernel) dX5_feedNumber_34 (fun H locs hP hD hS => ?_)
  have hP : va_P (dC, dI) vwCl [(w1, .inr (5, [.ref w2, .int 17, .ref w3, .int 0, .ref w4, .int 0, .int (-1), .int 0])), (w2, .inl (d5, 400, .inl (upd (f1) (17 : Int32).toNatClampNeg (x33_))))] H := hP
  have hD : va_D A [(w1, .inr (5, [.ref w2, .int 17, .ref w3, .int 0, .ref w4, .int 0, .int (-1), .int 0])), (w2, .inl (d5, 400, .inl (upd (f1) (17 : Int32).toNatClampNeg (x33_))))] := hD
  generalize upd (f1) (17 : Int32).toNatClampNeg (x33_) = f2 at hP hD
  refine lv_aload_n hx hb dX5_feedNumber_35 rfl (lv_at hl 1 rfl) ?_
  refine lv_dup hx hb dX5_feedNumber_36 rfl ?_
  refine va_get (D := (dC, dI)) (ci := 5) (v := .int 17) (C := RX5) (T := TX5) (N := 8) hx hb hts inG5 hown hK hP 0 rfl rfl 1 (by decide) (hts _ k36) (fun _ h9 => h9) rfl dX5_feedNumber_37 ?_
  refine lv_iconst (v := 1) hx hb dX5_feedNumber_40 (by decide) ?_
  refine lv_iadd hx hb dX5_feedNumber_41 ?_
  refine lv_topi (fun x9 ex9 => ?_)
  obtain rfl : x9 = 18 := ex9.trans (by decide +kernel)
  refine va_put (D := (dC, dI)) (ci := 5) (v := .int 18) (ty := .int) (C := RX5) (T := TX5) (N := 8) hx hb hts inG5 tyX5 tyX5_ok nmX5 hown hK hP hD hS 0 rfl rfl 1 (by decide) (hts _ k36) (fun _ h9 => h9) rfl (by decide +kernel) rfl rfl (Nat.le_of_ble_eq_true rfl) dX5_feedNumber_42 (fun H locs hP hD hS => ?_)
  have hP : va_P (dC, dI) vwCl [(w1, .inr (5, [.ref w2, .int 18, .ref w3, .int 0, .ref w4, .int 0, .int (-1), .int 0])), (w2, .inl (d5, 400, .inl (f2)))] H := hP
  have hD : va_D A [(w1, .inr (5, [.ref w2, .int 18, .ref w3, .int 0, .ref w4, .int 0, .int (-1), .int 0])), (w2, .inl (d5, 400, .inl (f2)))] := hD
  refine lv_iinc (v := 8) (lv' := [(2, .int 8), (0, .ref w1), (1, .int p1)]) hx hb dX5_feedNumber_45 hl (k := 0) rfl (by decide +kernel) (by decide) rfl (fun ls hl => ?_)
  refine lv_goto (tgt := 3) hx hb dX5_feedNumber_48 (by decide) ?_
  refine lv_iload_n hx hb dX5_feedNumber_3 rfl (lv_at hl 0 rfl) ?_
  refine lv_if_lt (tgt := 51) hx hb dX5_feedNumber_4 (by decide) (fun c9 => absurd c9 (by decide +kernel)) (fun _ => ?_)
  refine lv_aload_n hx hb dX5_feedNumber_7 rfl (lv_at hl 1 rfl) ?_
  refine va_get (D := (dC, dI)) (ci := 5) (v := .int 18) (C := RX5) (T := TX5) (N := 8) hx hb hts inG5 hown hK hP 0 rfl rfl 1 (by decide) (hts _ k36) (fun _ h9 => h9) rfl dX5_feedNumber_8 ?_
  refine lv_aload_n hx hb dX5_feedNumber_11 rfl (lv_at hl 1 rfl) ?_
  refine va_get (D := (dC, dI)) (ci := 5) (v := .ref w2) (C := RX5) (T := TX5) (N := 8) hx hb hts inG5 hown hK hP 0 rfl rfl 0 (by decide) (hts _ k35) (fun _ h9 => h9) rfl dX5_feedNumber_12 ?_
  refine va_alen (v := 400) hx hb hK hP 1 0 rfl rfl rfl dX5_feedNumber_15 ?_
  refine lv_icmp_ge (tgt := 45) hx hb dX5_feedNumber_16 (by decide) (fun c9 => absurd c9 (by decide +kernel)) (fun _ => ?_)
  refine lv_aload_n hx hb dX5_feedNumber_19 rfl (lv_at hl 1 rfl) ?_
  refine va_get (D := (dC, dI)) (ci := 5) (v := .ref w2) (C := RX5) (T := TX5) (N := 8) hx hb hts inG5 hown hK hP 0 rfl rfl 0 (by decide) (hts _ k35) (fun _ h9 => h9) rfl dX5_feedNumber_20 ?_
  refine lv_aload_n hx hb dX5_feedNumber_23 rfl (lv_at hl 1 rfl) ?_
  refine va_get (D := (dC, dI)) (ci := 5) (v := .int 18) (C := RX5) (T := TX5) (N := 8) hx hb hts inG5 hown hK hP 0 rfl rfl 1 (by decide) (hts _ k36) (fun _ h9 => h9) rfl dX5_feedNumber_24 ?_
  refine lv_iload_n hx hb dX5_feedNumber_27 rfl (lv_at hl 2 rfl) ?_
  refine lv_iload_n hx hb dX5_feedNumber_28 rfl (lv_at hl 0 rfl) ?_
  refine lv_iushr hx hb dX5_feedNumber_29 rfl ?_
  refine lv_topi (fun x29_ _ => ?_)
  refine lv_sipush (v := 255) hx hb dX5_feedNumber_30 (by decide) ?_
  refine lv_iand hx hb dX5_feedNumber_33 ?_
  refine lv_topi (fun x33_ _ => ?_)
  refine va_iast hx hb hK hP hD hS 1 0 rfl rfl (by unfold vp_in; decide +kernel) dX5_feedNumber_34 (fun H locs hP hD hS => ?_)
  have hP : va_P (dC, dI) vwCl [(w1, .inr (5, [.ref w2, .int 18, .ref w3, .int 0, .ref w4, .int 0, .int (-1), .int 0])), (w2, .inl (d5, 400, .inl (upd (f2) (18 : Int32).toNatClampNeg (x33_))))] H := hP
  have hD : va_D A [(w1, .inr (5, [.ref w2, .int 18, .ref w3, .int 0, .ref w4, .int 0, .int (-1), .int 0])), (w2, .inl (d5, 400, .inl (upd (f2) (18 : Int32).toNatClampNeg (x33_))))] := hD
  generalize upd (f2) (18 : Int32).toNatClampNeg (x33_) = f3 at hP hD
  refine lv_aload_n hx hb dX5_feedNumber_35 rfl (lv_at hl 1 rfl) ?_
  refine lv_dup hx hb dX5_feedNumber_36 rfl ?_
  refine va_get (D := (dC, dI)) (ci := 5) (v := .int 18) (C := RX5) (T := TX5) (N := 8) hx hb hts inG5 hown hK hP 0 rfl rfl 1 (by decide) (hts _ k36) (fun _ h9 => h9) rfl dX5_feedNumber_37 ?_
  refine lv_iconst (v := 1) hx hb dX5_feedNumber_40 (by decide) ?_
  refine lv_iadd hx hb dX5_feedNumber_41 ?_
  refine lv_topi (fun x9 ex9 => ?_)
  obtain rfl : x9 = 19 := ex9.trans (by decide +kernel)
  refine va_put (D := (dC, dI)) (ci := 5) (v := .int 19) (ty := .int) (C := RX5) (T := TX5) (N := 8) hx hb hts inG5 tyX5 tyX5_ok nmX5 hown hK hP hD hS 0 rfl rfl 1 (by decide) (hts _ k36) (fun _ h9 => h9) rfl (by decide +kernel) rfl rfl (Nat.le_of_ble_eq_true rfl) dX5_feedNumber_42 (fun H locs hP hD hS => ?_)
  have hP : va_P (dC, dI) vwCl [(w1, .inr (5, [.ref w2, .int 19, .ref w3, .int 0, .ref w4, .int 0, .int (-1), .int 0])), (w2, .inl (d5, 400, .inl (f3)))] H := hP
  have hD : va_D A [(w1, .inr (5, [.ref w2, .int 19, .ref w3, .int 0, .ref w4, .int 0, .int (-1), .int 0])), (w2, .inl (d5, 400, .inl (f3)))] := hD
  refine lv_iinc (v := 0) (lv' := [(2, .int 0), (0, .ref w1), (1, .int p1)]) hx hb dX5_feedNumber_45 hl (k := 0) rfl (by decide +kernel) (by decide) rfl (fun ls hl => ?_)
  refine lv_goto (tgt := 3) hx hb dX5_feedNumber_48 (by decide) ?_
  refine lv_iload_n hx hb dX5_feedNumber_3 rfl (lv_at hl 0 rfl) ?_
  refine lv_if_lt (tgt := 51) hx hb dX5_feedNumber_4 (by decide) (fun c9 => absurd c9 (by decide +kernel)) (fun _ => ?_)
  refine lv_aload_n hx hb dX5_feedNumber_7 rfl (lv_at hl 1 rfl) ?_
  refine va_get (D := (dC, dI)) (ci := 5) (v := .int 19) (C := RX5) (T := TX5) (N := 8) hx hb hts inG5 hown hK hP 0 rfl rfl 1 (by decide) (hts _ k36) (fun _ h9 => h9) rfl dX5_feedNumber_8 ?_
  refine lv_aload_n hx hb dX5_feedNumber_11 rfl (lv_at hl 1 rfl) ?_
  refine va_get (D := (dC, dI)) (ci := 5) (v := .ref w2) (C := RX5) (T := TX5) (N := 8) hx hb hts inG5 hown hK hP 0 rfl rfl 0 (by decide) (hts _ k35) (fun _ h9 => h9) rfl dX5_feedNumber_12 ?_
  refine va_alen (v := 400) hx hb hK hP 1 0 rfl rfl rfl dX5_feedNumber_15 ?_
  refine lv_icmp_ge (tgt := 45) hx hb dX5_feedNumber_16 (by decide) (fun c9 => absurd c9 (by decide +kernel)) (fun _ => ?_)
  refine lv_aload_n hx hb dX5_feedNumber_19 rfl (lv_at hl 1 rfl) ?_
  refine va_get (D := (dC, dI)) (ci := 5) (v := .ref w2) (C := RX5) (T := TX5) (N := 8) hx hb hts inG5 hown hK hP 0 rfl rfl 0 (by decide) (hts _ k35) (fun _ h9 => h9) rfl dX5_feedNumber_20 ?_
  refine lv_aload_n hx hb dX5_feedNumber_23 rfl (lv_at hl 1 rfl) ?_
  refine va_get (D := (dC, dI)) (ci := 5) (v := .int 19) (C := RX5) (T := TX5) (N := 8) hx hb hts inG5 hown hK hP 0 rfl rfl 1 (by decide) (hts _ k36) (fun _ h9 => h9) rfl dX5_feedNumber_24 ?_
  refine lv_iload_n hx hb dX5_feedNumber_27 rfl (lv_at hl 2 rfl) ?_
  refine lv_iload_n hx hb dX5_feedNumber_28 rfl (lv_at hl 0 rfl) ?_
  refine lv_iushr hx hb dX5_feedNumber_29 rfl ?_
  refine lv_topi (fun x29_ _ => ?_)
  refine lv_sipush (v := 255) hx hb dX5_feedNumber_30 (by decide) ?_
  refine lv_iand hx hb dX5_feedNumber_33 ?_
  refine lv_topi (fun x33_ _ => ?_)
  refine va_iast hx hb hK hP hD hS 1 0 rfl rfl (by unfold vp_in; decide +kernel) dX5_feedNumber_34 (fun H locs hP hD hS => ?_)
  have hP : va_P (dC, dI) vwCl [(w1, .inr (5, [.ref w2, .int 19, .ref w3, .int 0, .ref w4, .int 0, .int (-1), .int 0])), (w2, .inl (d5, 400, .inl (upd (f3) (19 : Int32).toNatClampNeg (x33_))))] H := hP
  have hD : va_D A [(w1, .inr (5, [.ref w2, .int 19, .ref w3, .int 0, .ref w4, .int 0, .int (-1), .int 0])), (w2, .inl (d5, 400, .inl (upd (f3) (19 : Int32).toNatClampNeg (x33_))))] := hD
  generalize upd (f3) (19 : Int32).toNatClampNeg (x33_) = f4 at hP hD
  refine lv_aload_n hx hb dX5_feedNumber_35 rfl (lv_at hl 1 rfl) ?_
  refine lv_dup hx hb dX5_feedNumber_36 rfl ?_
  refine va_get (D := (dC, dI)) (ci := 5) (v := .int 19) (C := RX5) (T := TX5) (N := 8) hx hb hts inG5 hown hK hP 0 rfl rfl 1 (by decide) (hts _ k36) (fun _ h9 => h9) rfl dX5_feedNumber_37 ?_
  refine lv_iconst (v := 1) hx hb dX5_feedNumber_40 (by decide) ?_
  refine lv_iadd hx hb dX5_feedNumber_41 ?_
  refine lv_topi (fun x9 ex9 => ?_)
  obtain rfl : x9 = 20 := ex9.trans (by decide +kernel)
  refine va_put (D := (dC, dI)) (ci := 5) (v := .int 20) (ty := .int) (C := RX5) (T := TX5) (N := 8) hx hb hts inG5 tyX5 tyX5_ok nmX5 hown hK hP hD hS 0 rfl rfl 1 (by decide) (hts _ k36) (fun _ h9 => h9) rfl (by decide +kernel) rfl rfl (Nat.le_of_ble_eq_true rfl) dX5_feedNumber_42 (fun H locs hP hD hS => ?_)
  have hP : va_P (dC, dI) vwCl [(w1, .inr (5, [.ref w2, .int 20, .ref w3, .int 0, .ref w4, .int 0, .int (-1), .int 0])), (w2, .inl (d5, 400, .inl (f4)))] H := hP
  have hD : va_D A [(w1, .inr (5, [.ref w2, .int 20, .ref w3, .int 0, .ref w4, .int 0, .int (-1), .int 0])), (w2, .inl (d5, 400, .inl (f4)))] := hD
  refine lv_iinc (v := (-8)) (lv' := [(2, .int (-8)), (0, .ref w1), (1, .int p1)]) hx hb dX5_feedNumber_45 hl (k := 0) rfl (by decide +kernel) (by decide) rfl (fun ls hl => ?_)
  refine lv_goto (tgt := 3) hx hb dX5_feedNumber_48 (by decide) ?_
  refine lv_iload_n hx hb dX5_feedNumber_3 rfl (lv_at hl 0 rfl) ?_
  refine lv_if_lt (tgt := 51) hx hb dX5_feedNumber_4 (by decide) (fun _ => ?_) (fun c9 => absurd (by decide +kernel) c9)
  have hP9 := hP.sub (ws' := [(w1, .inr (5, [.ref w2, .int 20, .ref w3, .int 0, .ref w4, .int 0, .int (-1), .int 0])), (w2, .inl (d5, 400, .inl (f4)))]) [0, 1] rfl
  have hD9 := hD.sub (ws' := [(w1, .inr (5, [.ref w2, .int 20, .ref w3, .int 0, .ref w4, .int 0, .int (-1), .int 0])), (w2, .inl (d5, 400, .inl (f4)))]) [0, 1] (by decide) rfl
  have hK9 := hK.sub (tys' := [(d5, .int)]) [0] rfl
  refine W.widen (k := 0) (n := 0) (by omega) (by omega) ?_
  exact W.vret hx hb hr (fun t ht hW => ⟨⟨(), rfl, trivial, f4, by rw [ht]; exact hP9, va_K.moved hW.alike hK9, hD9⟩, hS.F ht⟩) hS.2.2 dX5_feedNumber_51
set_option maxHeartbeats 4000000 in
set_option maxRecDepth 100000 in
theorem c_feed (l : Launch) (dC : Nat → ClassId) (dI : Nat → Nat → Nat) (sz : Nat) (h0 : Nat) (w1 : Nat) (w6 : Nat) (w8 : Nat) (w15 : Nat) (w22 : Nat) (w26 : Nat) (w31 : Nat) (w35 : Nat) (w40 : Nat) (w48 : Nat) (w50 : Nat) (w52 : Nat) (w2 : Nat) (w3 : Nat) (w4 : Nat) (d5 : ClassId) (p1 : Int32) (p2 : Int32) (p3 : Int32) (p4 : Int32) (p5 : Int32)  : Met l yX9_feed (Cond.code yX9_feed cX9_feed 6 (some .int) :: wsG) ({ frames := 2, cells := 0, slots := 0, locals := 36 } : Room) (va_Pc [.ref h0, .int p1, .int p2, .int p3, .int p4, .int p5] (fun U => U.heap.size = sz ∧ va_P (dC, dI) vwCl [(h0, .inr (9, [.ref w1, .ref w6, .int 0, .ref w8, .ref w15, .int 0, .int 0, .ref w22, .ref w26, .ref w31, .ref w35, .ref w40, .ref w48, .ref w50, .ref w52])), (w1, .inr (5, [.ref w2, .int 0, .ref w3, .int 0, .ref w4, .int 0, .int (-1), .int 0])), (w2, .inl (d5, 400, .inl (fun _ => 0)))] U.heap ∧ va_K (dC, dI) vwCl [(d5, .int)] U ∧ va_D (fun _ => True) [(h0, .inr (9, [.ref w1, .ref w6, .int 0, .ref w8, .ref w15, .int 0, .int 0, .ref w22, .ref w26, .ref w31, .ref w35, .ref w40, .ref w48, .ref w50, .ref w52])), (w1, .inr (5, [.ref w2, .int 0, .ref w3, .int 0, .ref w4, .int 0, .int (-1), .int 0])), (w2, .inl (d5, 400, .inl (fun _ => 0)))])) (va_Qi (fun (r : Int32) (_ : Unit) => r = 20) (fun (_ : Unit) (t : State) => va_P (dC, dI) vwCl [] t.heap ∧ va_K (dC, dI) vwCl [] t ∧ va_D (va_A [(h0, .inr (9, [.ref w1, .ref w6, .int 0, .ref w8, .ref w15, .int 0, .int 0, .ref w22, .ref w26, .ref w31, .ref w35, .ref w40, .ref w48, .ref w50, .ref w52])), (w1, .inr (5, [.ref w2, .int 0, .ref w3, .int 0, .ref w4, .int 0, .int (-1), .int 0])), (w2, .inl (d5, 400, .inl (fun _ => 0)))] sz) []) (va_A [(h0, .inr (9, [.ref w1, .ref w6, .int 0, .ref w8, .ref w15, .int 0, .int 0, .ref w22, .ref w26, .ref w31, .ref w35, .ref w40, .ref w48, .ref w50, .ref w52])), (w1, .inr (5, [.ref w2, .int 0, .ref w3, .int 0, .ref w4, .int 0, .int (-1), .int 0])), (w2, .inl (d5, 400, .inl (fun _ => 0)))] sz)) 0 0 (va_A [(h0, .inr (9, [.ref w1, .ref w6, .int 0, .ref w8, .ref w15, .int 0, .int 0, .ref w22, .ref w26, .ref w31, .ref w35, .ref w40, .ref w48, .ref w50, .ref w52])), (w1, .inr (5, [.ref w2, .int 0, .ref w3, .int 0, .ref w4, .int 0, .int (-1), .int 0])), (w2, .inl (d5, 400, .inl (fun _ => 0)))] sz) := by
  refine Met.ofW (cc := cX9_feed) (maxL := 6) (ret := (some .int)) (by decide) rfl ?_
  intro p e s m args below meth c s₁ B hml hv
  obtain ⟨rfl, hsz, hP, hK, hD0⟩ := hv
  have hx := B.exec
  have hb := B.bytes
  have hr := B.returns
  have hts : ∀ w ∈ wsG, w.before _ s = true := hG_of (atoms_spec (ws := (Cond.code yX9_feed cX9_feed 6 (some .int) :: wsG)) B.pre)
  have hown : s.vm.findClass RX9 = some m.cls := findClass_of_methodNamed B.named
  have hlocks := B.notSynchronized
  subst hsz
  have hD := hD0.self (sz := s.heap.size)
  generalize hAe : va_A [(h0, .inr (9, [.ref w1, .ref w6, .int 0, .ref w8, .ref w15, .int 0, .int 0, .ref w22, .ref w26, .ref w31, .ref w35, .ref w40, .ref w48, .ref w50, .ref w52])), (w1, .inr (5, [.ref w2, .int 0, .ref w3, .int 0, .ref w4, .int 0, .int (-1), .int 0])), (w2, .inl (d5, 400, .inl (fun _ => 0)))] s.heap.size = A at hD ⊢
  have hA : ∀ q : Nat, s.heap.size ≤ q → A q := fun q h => by rw [← hAe]; exact Or.inr h
  have hS : va_S A s.heap s.heap [] := va_S.rf
  have hl := lv_entry ([.ref h0, .int p1, .int p2, .int p3, .int p4, .int p5]) (n := 6) (Nat.le_of_ble_eq_true rfl)
  rw [lg_entry_eq]
  generalize (lg_sl ([.ref h0, .int p1, .int p2, .int p3, .int p4, .int p5]) ++ List.replicate (6 - (lg_sl ([.ref h0, .int p1, .int p2, .int p3, .int p4, .int p5])).length) Slot.unset).toArray = ls at hl ⊢
  have hl : lv_has ls 6 [(0, .ref h0), (1, .int p1), (2, .int p2), (3, .int p3), (4, .int p4), (5, .int p5)] := hl
  refine lv_aload_n hx hb dX9_feed_0 rfl (lv_at hl 0 rfl) ?_
  refine va_get (D := (dC, dI)) (ci := 9) (v := .ref w1) (C := RX9) (T := TX9) (N := 15) hx hb hts inG9 hown hK hP 0 rfl rfl 0 (by decide) (hts _ k332) (fun _ h9 => h9) rfl dX9_feed_1 ?_
  refine va_get (D := (dC, dI)) (ci := 5) (v := .int 0) (C := RX5) (T := TX5) (N := 8) hx hb hts inG5 hown hK hP 1 rfl rfl 1 (by decide) (hts _ k37) (fun _ h9 => h9) rfl dX9_feed_4 ?_
  refine lv_bipush (v := 20) hx hb dX9_feed_7 (by decide) ?_
  refine lv_iadd hx hb dX9_feed_9 ?_
  refine lv_topi (fun x9 ex9 => ?_)
  obtain rfl : x9 = 20 := ex9.trans (by decide +kernel)
  refine lv_sipush (v := 400) hx hb dX9_feed_10 (by decide) ?_
  refine lv_icmp_le (tgt := 18) hx hb dX9_feed_13 (by decide) (fun _ => ?_) (fun c9 => absurd (by decide +kernel) c9)
  refine lv_aload_n hx hb dX9_feed_18 rfl (lv_at hl 0 rfl) ?_
  refine va_get (D := (dC, dI)) (ci := 9) (v := .ref w1) (C := RX9) (T := TX9) (N := 15) hx hb hts inG9 hown hK hP 0 rfl rfl 0 (by decide) (hts _ k332) (fun _ h9 => h9) rfl dX9_feed_19 ?_
  refine lv_iload_n hx hb dX9_feed_22 rfl (lv_at hl 1 rfl) ?_
  have hPc := hP.sub (ws' := [(w1, .inr (5, [.ref w2, .int 0, .ref w3, .int 0, .ref w4, .int 0, .int (-1), .int 0])), (w2, .inl (d5, 400, .inl (fun _ => 0)))]) [1, 2] rfl
  have hDc := hD.sub (ws' := [(w1, .inr (5, [.ref w2, .int 0, .ref w3, .int 0, .ref w4, .int 0, .int (-1), .int 0])), (w2, .inl (d5, 400, .inl (fun _ => 0)))]) [1, 2] (by decide) rfl
  have hKc := hK.sub (tys' := [(d5, .int)]) [0] rfl
  have hFc := va_free (wc := [(w1, .inr (5, [.ref w2, .int 0, .ref w3, .int 0, .ref w4, .int 0, .int (-1), .int 0])), (w2, .inl (d5, 400, .inl (fun _ => 0)))]) hD hS hA [1, 2] rfl
  refine va_callv (va_runV (As := [.int p1]) (rest := []) ⟨hx, hb, hml, hown, hts⟩ (c_feedNumber0 l dC dI s.heap.size (w1) (w2) (w3) (w4) (d5) (fun _ => 0) (p1)) (cwV 1 hts (gV_G k382 k383 k384 k2 k385) rfl rfl rfl (by decide +kernel) ⟨Nat.le_of_ble_eq_true rfl, Nat.le_of_ble_eq_true rfl⟩) ⟨fun a U g mk q => by obtain ⟨q0, q1, qP, qK, qD⟩ := q; exact ⟨q0, q1, qP, va_K.moved (u := U) (U := U.calling g mk a) (Vm.Alike.refl U.vm) qK, qD⟩, va_recv hKc hPc (ci := 5) (q0 := 0) rfl rfl, fun U hU hW => ⟨rfl, by rw [hU], by rw [hU]; exact hPc, va_K.moved hW.alike hKc, hDc.weaken (fun _ _ _ _ => trivial)⟩⟩ rfl rfl hl.1 rfl (lv_room (Nat.le_of_ble_eq_true rfl)) dX9_feed_23 ⟨Nat.le_of_ble_eq_true rfl, Nat.le_of_ble_eq_true rfl⟩) hS (fun q _ h => hFc q h) hFc (fun u t H1 locs ht hvm hw hB hz1 hk1 hS => ?_)
  obtain ⟨z1, hP1, hK1, hD1⟩ := hB
  rw [ht] at hP1
  have hK1 := va_K.moved hvm.symm hK1
  try dsimp only at hw
  obtain ⟨hP, hD⟩ := va_join (wr := [(h0, .inr (9, [.ref w1, .ref w6, .int 0, .ref w8, .ref w15, .int 0, .int 0, .ref w22, .ref w26, .ref w31, .ref w35, .ref w40, .ref w48, .ref w50, .ref w52]))]) (w1 := [(w1, .inr (5, [.ref w2, .int 4, .ref w3, .int 0, .ref w4, .int 0, .int (-1), .int 0])), (w2, .inl (d5, 400, .inl (z1)))]) hP hD [1, 2] [0] rfl rfl (by decide) (by decide) hk1 hFc hP1 hD1
  have hK := hK.app hK1
  generalize H1 = H at hP hS ⊢
  have hP : va_P (dC, dI) vwCl [(h0, .inr (9, [.ref w1, .ref w6, .int 0, .ref w8, .ref w15, .int 0, .int 0, .ref w22, .ref w26, .ref w31, .ref w35, .ref w40, .ref w48, .ref w50, .ref w52])), (w1, .inr (5, [.ref w2, .int 4, .ref w3, .int 0, .ref w4, .int 0, .int (-1), .int 0])), (w2, .inl (d5, 400, .inl (z1)))] H := hP
  have hD : va_D A [(h0, .inr (9, [.ref w1, .ref w6, .int 0, .ref w8, .ref w15, .int 0, .int 0, .ref w22, .ref w26, .ref w31, .ref w35, .ref w40, .ref w48, .ref w50, .ref w52])), (w1, .inr (5, [.ref w2, .int 4, .ref w3, .int 0, .ref w4, .int 0, .int (-1), .int 0])), (w2, .inl (d5, 400, .inl (z1)))] := hD
  have hK : va_K (dC, dI) vwCl [(d5, .int), (d5, .int)] s := hK
  refine W.widen (k := 0) (n := 0) (by omega) (by omega) ?_
  refine lv_aload_n hx hb dX9_feed_26 rfl (lv_at hl 0 rfl) ?_
  refine va_get (D := (dC, dI)) (ci := 9) (v := .ref w1) (C := RX9) (T := TX9) (N := 15) hx hb hts inG9 hown hK hP 0 rfl rfl 0 (by decide) (hts _ k332) (fun _ h9 => h9) rfl dX9_feed_27 ?_
  refine lv_iload_n hx hb dX9_feed_30 rfl (lv_at hl 2 rfl) ?_
  have hPc := hP.sub (ws' := [(w1, .inr (5, [.ref w2, .int 4, .ref w3, .int 0, .ref w4, .int 0, .int (-1), .int 0])), (w2, .inl (d5, 400, .inl (z1)))]) [1, 2] rfl
  have hDc := hD.sub (ws' := [(w1, .inr (5, [.ref w2, .int 4, .ref w3, .int 0, .ref w4, .int 0, .int (-1), .int 0])), (w2, .inl (d5, 400, .inl (z1)))]) [1, 2] (by decide) rfl
  have hKc := hK.sub (tys' := [(d5, .int)]) [0] rfl
  have hFc := va_free (wc := [(w1, .inr (5, [.ref w2, .int 4, .ref w3, .int 0, .ref w4, .int 0, .int (-1), .int 0])), (w2, .inl (d5, 400, .inl (z1)))]) hD hS hA [1, 2] rfl
  refine va_callv (va_runV (As := [.int p2]) (rest := []) ⟨hx, hb, hml, hown, hts⟩ (c_feedNumber4 l dC dI H.size (w1) (w2) (w3) (w4) (d5) (z1) (p2)) (cwV 1 hts (gV_G k382 k383 k384 k2 k385) rfl rfl rfl (by decide +kernel) ⟨Nat.le_of_ble_eq_true rfl, Nat.le_of_ble_eq_true rfl⟩) ⟨fun a U g mk q => by obtain ⟨q0, q1, qP, qK, qD⟩ := q; exact ⟨q0, q1, qP, va_K.moved (u := U) (U := U.calling g mk a) (Vm.Alike.refl U.vm) qK, qD⟩, va_recv hKc hPc (ci := 5) (q0 := 0) rfl rfl, fun U hU hW => ⟨rfl, by rw [hU], by rw [hU]; exact hPc, va_K.moved hW.alike hKc, hDc.weaken (fun _ _ _ _ => trivial)⟩⟩ rfl rfl hl.1 rfl (lv_room (Nat.le_of_ble_eq_true rfl)) dX9_feed_31 ⟨Nat.le_of_ble_eq_true rfl, Nat.le_of_ble_eq_true rfl⟩) hS (fun q _ h => hFc q h) hFc (fun u t H1 locs ht hvm hw hB hz1 hk1 hS => ?_)
  obtain ⟨z2, hP1, hK1, hD1⟩ := hB
  rw [ht] at hP1
  have hK1 := va_K.moved hvm.symm hK1
  try dsimp only at hw
  obtain ⟨hP, hD⟩ := va_join (wr := [(h0, .inr (9, [.ref w1, .ref w6, .int 0, .ref w8, .ref w15, .int 0, .int 0, .ref w22, .ref w26, .ref w31, .ref w35, .ref w40, .ref w48, .ref w50, .ref w52]))]) (w1 := [(w1, .inr (5, [.ref w2, .int 8, .ref w3, .int 0, .ref w4, .int 0, .int (-1), .int 0])), (w2, .inl (d5, 400, .inl (z2)))]) hP hD [1, 2] [0] rfl rfl (by decide) (by decide) hk1 hFc hP1 hD1
  have hK := hK.app hK1
  generalize H1 = H at hP hS ⊢
  have hP : va_P (dC, dI) vwCl [(h0, .inr (9, [.ref w1, .ref w6, .int 0, .ref w8, .ref w15, .int 0, .int 0, .ref w22, .ref w26, .ref w31, .ref w35, .ref w40, .ref w48, .ref w50, .ref w52])), (w1, .inr (5, [.ref w2, .int 8, .ref w3, .int 0, .ref w4, .int 0, .int (-1), .int 0])), (w2, .inl (d5, 400, .inl (z2)))] H := hP
  have hD : va_D A [(h0, .inr (9, [.ref w1, .ref w6, .int 0, .ref w8, .ref w15, .int 0, .int 0, .ref w22, .ref w26, .ref w31, .ref w35, .ref w40, .ref w48, .ref w50, .ref w52])), (w1, .inr (5, [.ref w2, .int 8, .ref w3, .int 0, .ref w4, .int 0, .int (-1), .int 0])), (w2, .inl (d5, 400, .inl (z2)))] := hD
  have hK : va_K (dC, dI) vwCl [(d5, .int), (d5, .int), (d5, .int)] s := hK
  refine W.widen (k := 0) (n := 0) (by omega) (by omega) ?_
  refine lv_aload_n hx hb dX9_feed_34 rfl (lv_at hl 0 rfl) ?_
  refine va_get (D := (dC, dI)) (ci := 9) (v := .ref w1) (C := RX9) (T := TX9) (N := 15) hx hb hts inG9 hown hK hP 0 rfl rfl 0 (by decide) (hts _ k332) (fun _ h9 => h9) rfl dX9_feed_35 ?_
  refine lv_iload_n hx hb dX9_feed_38 rfl (lv_at hl 3 rfl) ?_
  have hPc := hP.sub (ws' := [(w1, .inr (5, [.ref w2, .int 8, .ref w3, .int 0, .ref w4, .int 0, .int (-1), .int 0])), (w2, .inl (d5, 400, .inl (z2)))]) [1, 2] rfl
  have hDc := hD.sub (ws' := [(w1, .inr (5, [.ref w2, .int 8, .ref w3, .int 0, .ref w4, .int 0, .int (-1), .int 0])), (w2, .inl (d5, 400, .inl (z2)))]) [1, 2] (by decide) rfl
  have hKc := hK.sub (tys' := [(d5, .int)]) [0] rfl
  have hFc := va_free (wc := [(w1, .inr (5, [.ref w2, .int 8, .ref w3, .int 0, .ref w4, .int 0, .int (-1), .int 0])), (w2, .inl (d5, 400, .inl (z2)))]) hD hS hA [1, 2] rfl
  refine va_callv (va_runV (As := [.int p3]) (rest := []) ⟨hx, hb, hml, hown, hts⟩ (c_feedNumber8 l dC dI H.size (w1) (w2) (w3) (w4) (d5) (z2) (p3)) (cwV 1 hts (gV_G k382 k383 k384 k2 k385) rfl rfl rfl (by decide +kernel) ⟨Nat.le_of_ble_eq_true rfl, Nat.le_of_ble_eq_true rfl⟩) ⟨fun a U g mk q => by obtain ⟨q0, q1, qP, qK, qD⟩ := q; exact ⟨q0, q1, qP, va_K.moved (u := U) (U := U.calling g mk a) (Vm.Alike.refl U.vm) qK, qD⟩, va_recv hKc hPc (ci := 5) (q0 := 0) rfl rfl, fun U hU hW => ⟨rfl, by rw [hU], by rw [hU]; exact hPc, va_K.moved hW.alike hKc, hDc.weaken (fun _ _ _ _ => trivial)⟩⟩ rfl rfl hl.1 rfl (lv_room (Nat.le_of_ble_eq_true rfl)) dX9_feed_39 ⟨Nat.le_of_ble_eq_true rfl, Nat.le_of_ble_eq_true rfl⟩) hS (fun q _ h => hFc q h) hFc (fun u t H1 locs ht hvm hw hB hz1 hk1 hS => ?_)
  obtain ⟨z3, hP1, hK1, hD1⟩ := hB
  rw [ht] at hP1
  have hK1 := va_K.moved hvm.symm hK1
  try dsimp only at hw
  obtain ⟨hP, hD⟩ := va_join (wr := [(h0, .inr (9, [.ref w1, .ref w6, .int 0, .ref w8, .ref w15, .int 0, .int 0, .ref w22, .ref w26, .ref w31, .ref w35, .ref w40, .ref w48, .ref w50, .ref w52]))]) (w1 := [(w1, .inr (5, [.ref w2, .int 12, .ref w3, .int 0, .ref w4, .int 0, .int (-1), .int 0])), (w2, .inl (d5, 400, .inl (z3)))]) hP hD [1, 2] [0] rfl rfl (by decide) (by decide) hk1 hFc hP1 hD1
  have hK := hK.app hK1
  generalize H1 = H at hP hS ⊢
  have hP : va_P (dC, dI) vwCl [(h0, .inr (9, [.ref w1, .ref w6, .int 0, .ref w8, .ref w15, .int 0, .int 0, .ref w22, .ref w26, .ref w31, .ref w35, .ref w40, .ref w48, .ref w50, .ref w52])), (w1, .inr (5, [.ref w2, .int 12, .ref w3, .int 0, .ref w4, .int 0, .int (-1), .int 0])), (w2, .inl (d5, 400, .inl (z3)))] H := hP
  have hD : va_D A [(h0, .inr (9, [.ref w1, .ref w6, .int 0, .ref w8, .ref w15, .int 0, .int 0, .ref w22, .ref w26, .ref w31, .ref w35, .ref w40, .ref w48, .ref w50, .ref w52])), (w1, .inr (5, [.ref w2, .int 12, .ref w3, .int 0, .ref w4, .int 0, .int (-1), .int 0])), (w2, .inl (d5, 400, .inl (z3)))] := hD
  have hK : va_K (dC, dI) vwCl [(d5, .int), (d5, .int), (d5, .int), (d5, .int)] s := hK
  refine W.widen (k := 0) (n := 0) (by omega) (by omega) ?_
  refine lv_aload_n hx hb dX9_feed_42 rfl (lv_at hl 0 rfl) ?_
  refine va_get (D := (dC, dI)) (ci := 9) (v := .ref w1) (C := RX9) (T := TX9) (N := 15) hx hb hts inG9 hown hK hP 0 rfl rfl 0 (by decide) (hts _ k332) (fun _ h9 => h9) rfl dX9_feed_43 ?_
  refine lv_iload hx hb dX9_feed_46 (lv_at hl 4 rfl) ?_
  have hPc := hP.sub (ws' := [(w1, .inr (5, [.ref w2, .int 12, .ref w3, .int 0, .ref w4, .int 0, .int (-1), .int 0])), (w2, .inl (d5, 400, .inl (z3)))]) [1, 2] rfl
  have hDc := hD.sub (ws' := [(w1, .inr (5, [.ref w2, .int 12, .ref w3, .int 0, .ref w4, .int 0, .int (-1), .int 0])), (w2, .inl (d5, 400, .inl (z3)))]) [1, 2] (by decide) rfl
  have hKc := hK.sub (tys' := [(d5, .int)]) [0] rfl
  have hFc := va_free (wc := [(w1, .inr (5, [.ref w2, .int 12, .ref w3, .int 0, .ref w4, .int 0, .int (-1), .int 0])), (w2, .inl (d5, 400, .inl (z3)))]) hD hS hA [1, 2] rfl
  refine va_callv (va_runV (As := [.int p4]) (rest := []) ⟨hx, hb, hml, hown, hts⟩ (c_feedNumber12 l dC dI H.size (w1) (w2) (w3) (w4) (d5) (z3) (p4)) (cwV 1 hts (gV_G k382 k383 k384 k2 k385) rfl rfl rfl (by decide +kernel) ⟨Nat.le_of_ble_eq_true rfl, Nat.le_of_ble_eq_true rfl⟩) ⟨fun a U g mk q => by obtain ⟨q0, q1, qP, qK, qD⟩ := q; exact ⟨q0, q1, qP, va_K.moved (u := U) (U := U.calling g mk a) (Vm.Alike.refl U.vm) qK, qD⟩, va_recv hKc hPc (ci := 5) (q0 := 0) rfl rfl, fun U hU hW => ⟨rfl, by rw [hU], by rw [hU]; exact hPc, va_K.moved hW.alike hKc, hDc.weaken (fun _ _ _ _ => trivial)⟩⟩ rfl rfl hl.1 rfl (lv_room (Nat.le_of_ble_eq_true rfl)) dX9_feed_48 ⟨Nat.le_of_ble_eq_true rfl, Nat.le_of_ble_eq_true rfl⟩) hS (fun q _ h => hFc q h) hFc (fun u t H1 locs ht hvm hw hB hz1 hk1 hS => ?_)
  obtain ⟨z4, hP1, hK1, hD1⟩ := hB
  rw [ht] at hP1
  have hK1 := va_K.moved hvm.symm hK1
  try dsimp only at hw
  obtain ⟨hP, hD⟩ := va_join (wr := [(h0, .inr (9, [.ref w1, .ref w6, .int 0, .ref w8, .ref w15, .int 0, .int 0, .ref w22, .ref w26, .ref w31, .ref w35, .ref w40, .ref w48, .ref w50, .ref w52]))]) (w1 := [(w1, .inr (5, [.ref w2, .int 16, .ref w3, .int 0, .ref w4, .int 0, .int (-1), .int 0])), (w2, .inl (d5, 400, .inl (z4)))]) hP hD [1, 2] [0] rfl rfl (by decide) (by decide) hk1 hFc hP1 hD1
  have hK := hK.app hK1
  generalize H1 = H at hP hS ⊢
  have hP : va_P (dC, dI) vwCl [(h0, .inr (9, [.ref w1, .ref w6, .int 0, .ref w8, .ref w15, .int 0, .int 0, .ref w22, .ref w26, .ref w31, .ref w35, .ref w40, .ref w48, .ref w50, .ref w52])), (w1, .inr (5, [.ref w2, .int 16, .ref w3, .int 0, .ref w4, .int 0, .int (-1), .int 0])), (w2, .inl (d5, 400, .inl (z4)))] H := hP
  have hD : va_D A [(h0, .inr (9, [.ref w1, .ref w6, .int 0, .ref w8, .ref w15, .int 0, .int 0, .ref w22, .ref w26, .ref w31, .ref w35, .ref w40, .ref w48, .ref w50, .ref w52])), (w1, .inr (5, [.ref w2, .int 16, .ref w3, .int 0, .ref w4, .int 0, .int (-1), .int 0])), (w2, .inl (d5, 400, .inl (z4)))] := hD
  have hK : va_K (dC, dI) vwCl [(d5, .int), (d5, .int), (d5, .int), (d5, .int), (d5, .int)] s := hK
  refine W.widen (k := 0) (n := 0) (by omega) (by omega) ?_
  refine lv_aload_n hx hb dX9_feed_51 rfl (lv_at hl 0 rfl) ?_
  refine va_get (D := (dC, dI)) (ci := 9) (v := .ref w1) (C := RX9) (T := TX9) (N := 15) hx hb hts inG9 hown hK hP 0 rfl rfl 0 (by decide) (hts _ k332) (fun _ h9 => h9) rfl dX9_feed_52 ?_
  refine lv_iload hx hb dX9_feed_55 (lv_at hl 5 rfl) ?_
  have hPc := hP.sub (ws' := [(w1, .inr (5, [.ref w2, .int 16, .ref w3, .int 0, .ref w4, .int 0, .int (-1), .int 0])), (w2, .inl (d5, 400, .inl (z4)))]) [1, 2] rfl
  have hDc := hD.sub (ws' := [(w1, .inr (5, [.ref w2, .int 16, .ref w3, .int 0, .ref w4, .int 0, .int (-1), .int 0])), (w2, .inl (d5, 400, .inl (z4)))]) [1, 2] (by decide) rfl
  have hKc := hK.sub (tys' := [(d5, .int)]) [0] rfl
  have hFc := va_free (wc := [(w1, .inr (5, [.ref w2, .int 16, .ref w3, .int 0, .ref w4, .int 0, .int (-1), .int 0])), (w2, .inl (d5, 400, .inl (z4)))]) hD hS hA [1, 2] rfl
  refine va_callv (va_runV (As := [.int p5]) (rest := []) ⟨hx, hb, hml, hown, hts⟩ (c_feedNumber16 l dC dI H.size (w1) (w2) (w3) (w4) (d5) (z4) (p5)) (cwV 1 hts (gV_G k382 k383 k384 k2 k385) rfl rfl rfl (by decide +kernel) ⟨Nat.le_of_ble_eq_true rfl, Nat.le_of_ble_eq_true rfl⟩) ⟨fun a U g mk q => by obtain ⟨q0, q1, qP, qK, qD⟩ := q; exact ⟨q0, q1, qP, va_K.moved (u := U) (U := U.calling g mk a) (Vm.Alike.refl U.vm) qK, qD⟩, va_recv hKc hPc (ci := 5) (q0 := 0) rfl rfl, fun U hU hW => ⟨rfl, by rw [hU], by rw [hU]; exact hPc, va_K.moved hW.alike hKc, hDc.weaken (fun _ _ _ _ => trivial)⟩⟩ rfl rfl hl.1 rfl (lv_room (Nat.le_of_ble_eq_true rfl)) dX9_feed_57 ⟨Nat.le_of_ble_eq_true rfl, Nat.le_of_ble_eq_true rfl⟩) hS (fun q _ h => hFc q h) hFc (fun u t H1 locs ht hvm hw hB hz1 hk1 hS => ?_)
  obtain ⟨z5, hP1, hK1, hD1⟩ := hB
  rw [ht] at hP1
  have hK1 := va_K.moved hvm.symm hK1
  try dsimp only at hw
  obtain ⟨hP, hD⟩ := va_join (wr := [(h0, .inr (9, [.ref w1, .ref w6, .int 0, .ref w8, .ref w15, .int 0, .int 0, .ref w22, .ref w26, .ref w31, .ref w35, .ref w40, .ref w48, .ref w50, .ref w52]))]) (w1 := [(w1, .inr (5, [.ref w2, .int 20, .ref w3, .int 0, .ref w4, .int 0, .int (-1), .int 0])), (w2, .inl (d5, 400, .inl (z5)))]) hP hD [1, 2] [0] rfl rfl (by decide) (by decide) hk1 hFc hP1 hD1
  have hK := hK.app hK1
  generalize H1 = H at hP hS ⊢
  have hP : va_P (dC, dI) vwCl [(h0, .inr (9, [.ref w1, .ref w6, .int 0, .ref w8, .ref w15, .int 0, .int 0, .ref w22, .ref w26, .ref w31, .ref w35, .ref w40, .ref w48, .ref w50, .ref w52])), (w1, .inr (5, [.ref w2, .int 20, .ref w3, .int 0, .ref w4, .int 0, .int (-1), .int 0])), (w2, .inl (d5, 400, .inl (z5)))] H := hP
  have hD : va_D A [(h0, .inr (9, [.ref w1, .ref w6, .int 0, .ref w8, .ref w15, .int 0, .int 0, .ref w22, .ref w26, .ref w31, .ref w35, .ref w40, .ref w48, .ref w50, .ref w52])), (w1, .inr (5, [.ref w2, .int 20, .ref w3, .int 0, .ref w4, .int 0, .int (-1), .int 0])), (w2, .inl (d5, 400, .inl (z5)))] := hD
  have hK : va_K (dC, dI) vwCl [(d5, .int), (d5, .int), (d5, .int), (d5, .int), (d5, .int), (d5, .int)] s := hK
  refine W.widen (k := 0) (n := 0) (by omega) (by omega) ?_
  refine lv_aload_n hx hb dX9_feed_60 rfl (lv_at hl 0 rfl) ?_
  refine va_get (D := (dC, dI)) (ci := 9) (v := .ref w1) (C := RX9) (T := TX9) (N := 15) hx hb hts inG9 hown hK hP 0 rfl rfl 0 (by decide) (hts _ k332) (fun _ h9 => h9) rfl dX9_feed_61 ?_
  refine va_get (D := (dC, dI)) (ci := 5) (v := .int 20) (C := RX5) (T := TX5) (N := 8) hx hb hts inG5 hown hK hP 1 rfl rfl 1 (by decide) (hts _ k37) (fun _ h9 => h9) rfl dX9_feed_64 ?_
  have hP9 := hP.sub (ws' := []) [] rfl
  have hD9 := hD.sub (ws' := []) [] (by decide) rfl
  have hK9 := hK.sub (tys' := []) [] rfl
  refine W.widen (k := 0) (n := 0) (by omega) (by omega) ?_
  exact W.iret (v := 20) hx hb hr (fun t ht hW => ⟨⟨20, (), rfl, rfl, by rw [ht]; exact hP9, va_K.moved hW.alike hK9, hD9⟩, hS.F ht⟩) hS.2.2 dX9_feed_67

set_option maxRecDepth 100000 in
theorem k99 : (Cond.fieldLink "PageSkeleton" (282 : Nat) "PageSkeleton$Row" "length" "I") ∈ wsG := wsG_a1 99 rfl rfl
set_option maxRecDepth 100000 in
theorem k272 : (Cond.fieldLink "PageSkeleton" (320 : Nat) "PageSkeleton$Walk" "stamp" "I") ∈ wsG := wsG_a2 32 rfl rfl
set_option maxRecDepth 100000 in
theorem k299 : (Cond.fieldLink "PageSkeleton" (225 : Nat) "PageSkeleton$Leaf" "codes" "[I") ∈ wsG := wsG_a2 59 rfl rfl
set_option maxRecDepth 100000 in
theorem k304 : (Cond.fieldLink "PageSkeleton" (181 : Nat) "PageSkeleton$Leaf" "folded" "LPageSkeleton$Row;") ∈ wsG := wsG_a2 64 rfl rfl
set_option maxRecDepth 100000 in
theorem k310 : (Cond.fieldLink "PageSkeleton" (316 : Nat) "PageSkeleton$Leaf" "walk" "LPageSkeleton$Walk;") ∈ wsG := wsG_a2 70 rfl rfl
set_option maxRecDepth 100000 in
theorem k398 : (Cond.methodLink "PageSkeleton" (148 : Nat) ({ cls := "PageSkeleton$Row", name := "take", desc := "(LPageSkeleton$Row;)V" } : MethodName)) ∈ wsG := wsG_a2 158 rfl rfl
set_option maxRecDepth 100000 in
theorem k424 : (Cond.methodLink "PageSkeleton" (313 : Nat) ({ cls := "PageSkeleton$Tidier", name := "tidyAll", desc := "(LPageSkeleton$Row;)I" } : MethodName)) ∈ wsG := wsG_a2 184 rfl rfl
set_option maxRecDepth 100000 in
theorem k425 : (Cond.instanceMethod ({ cls := "PageSkeleton$Tidier", name := "tidyAll", desc := "(LPageSkeleton$Row;)I" } : MethodName)) ∈ wsG := wsG_a2 185 rfl rfl
set_option maxRecDepth 100000 in
theorem k426 : (Cond.selects "PageSkeleton$Tidier" ({ cls := "PageSkeleton$Tidier", name := "tidyAll", desc := "(LPageSkeleton$Row;)I" } : MethodName) ({ cls := "PageSkeleton$Tidier", name := "tidyAll", desc := "(LPageSkeleton$Row;)I" } : MethodName)) ∈ wsG := wsG_a2 186 rfl rfl
set_option maxRecDepth 100000 in
theorem k427 : (Cond.code ({ cls := "PageSkeleton$Tidier", name := "tidyAll", desc := "(LPageSkeleton$Row;)I" } : MethodName) prog_8_method_2_code (6 : Nat) (Option.some FieldType.int)) ∈ wsG := wsG_a2 187 rfl rfl
set_option maxRecDepth 100000 in
theorem k539 : (Cond.methodLink "PageSkeleton" (321 : Nat) ({ cls := "PageSkeleton$Walker", name := "walk", desc := "(LPageSkeleton$Row;[IILPageSkeleton$Walk;)V" } : MethodName)) ∈ wsG := wsG_a3 59 rfl rfl
set_option maxRecDepth 100000 in
theorem k540 : (Cond.instanceMethod ({ cls := "PageSkeleton$Walker", name := "walk", desc := "(LPageSkeleton$Row;[IILPageSkeleton$Walk;)V" } : MethodName)) ∈ wsG := wsG_a3 60 rfl rfl
set_option maxRecDepth 100000 in
theorem k541 : (Cond.selects "PageSkeleton$Walker" ({ cls := "PageSkeleton$Walker", name := "walk", desc := "(LPageSkeleton$Row;[IILPageSkeleton$Walk;)V" } : MethodName) ({ cls := "PageSkeleton$Walker", name := "walk", desc := "(LPageSkeleton$Row;[IILPageSkeleton$Walk;)V" } : MethodName)) ∈ wsG := wsG_a3 61 rfl rfl
set_option maxRecDepth 100000 in
theorem k542 : (Cond.code ({ cls := "PageSkeleton$Walker", name := "walk", desc := "(LPageSkeleton$Row;[IILPageSkeleton$Walk;)V" } : MethodName) prog_10_method_9_code (9 : Nat) (Option.none : Option Jvm.ClassFile.FieldType)) ∈ wsG := wsG_a3 62 rfl rfl
set_option maxRecDepth 100000 in
theorem k762 : (Cond.methodLink "PageSkeleton" (305 : Nat) ({ cls := "PageSkeleton$Layer", name := "leastCost", desc := "(LPageSkeleton$Row;LPageSkeleton$Row;)I" } : MethodName)) ∈ wsG := wsG_a4 42 rfl rfl
set_option maxRecDepth 100000 in
theorem k813 : (Cond.methodLink "PageSkeleton" (309 : Nat) ({ cls := "PageSkeleton$Layer", name := "build", desc := "(LPageSkeleton$Row;LPageSkeleton$Row;LPageSkeleton$Row;)V" } : MethodName)) ∈ wsG := wsG_a4 93 rfl rfl
set_option maxRecDepth 100000 in
theorem k848 : (Cond.methodLink "PageSkeleton" (228 : Nat) ({ cls := "PageSkeleton$Walker", name := "goThrough", desc := "(LPageSkeleton$Row;[III)I" } : MethodName)) ∈ wsG := wsG_a4 128 rfl rfl
set_option maxRecDepth 100000 in
theorem k898 : (Cond.methodLink "PageSkeleton" (324 : Nat) ({ cls := "PageSkeleton$Leaf", name := "has", desc := "(I)Z" } : MethodName)) ∈ wsG := wsG_a4 178 rfl rfl
set_option maxRecDepth 100000 in
theorem k899 : (Cond.instanceMethod ({ cls := "PageSkeleton$Leaf", name := "has", desc := "(I)Z" } : MethodName)) ∈ wsG := wsG_a4 179 rfl rfl
set_option maxRecDepth 100000 in
theorem k900 : (Cond.selects "PageSkeleton$Leaf" ({ cls := "PageSkeleton$Leaf", name := "has", desc := "(I)Z" } : MethodName) ({ cls := "PageSkeleton$Leaf", name := "has", desc := "(I)Z" } : MethodName)) ∈ wsG := wsG_a4 180 rfl rfl
set_option maxRecDepth 100000 in
theorem k901 : (Cond.code ({ cls := "PageSkeleton$Leaf", name := "has", desc := "(I)Z" } : MethodName) prog_3_method_4_code (3 : Nat) (Option.some FieldType.boolean)) ∈ wsG := wsG_a4 181 rfl rfl
theorem dX9_costBetween_0 : decode cX9_costBetween 0 = .ok (.aload_n 0, 1) := by decide +kernel
theorem dX9_costBetween_1 : decode cX9_costBetween 1 = .ok (.getfield 61, 3) := by decide +kernel
theorem dX9_costBetween_4 : decode cX9_costBetween 4 = .ok (.aload_n 0, 1) := by decide +kernel
theorem dX9_costBetween_5 : decode cX9_costBetween 5 = .ok (.getfield 18, 3) := by decide +kernel
theorem dX9_costBetween_8 : decode cX9_costBetween 8 = .ok (.iload_n 2, 1) := by decide +kernel
theorem dX9_costBetween_9 : decode cX9_costBetween 9 = .ok (.aaload, 1) := by decide +kernel
theorem dX9_costBetween_10 : decode cX9_costBetween 10 = .ok (.getfield 181, 3) := by decide +kernel
theorem dX9_costBetween_13 : decode cX9_costBetween 13 = .ok (.aload_n 0, 1) := by decide +kernel
theorem dX9_costBetween_14 : decode cX9_costBetween 14 = .ok (.getfield 18, 3) := by decide +kernel
theorem dX9_costBetween_17 : decode cX9_costBetween 17 = .ok (.iload_n 1, 1) := by decide +kernel
theorem dX9_costBetween_18 : decode cX9_costBetween 18 = .ok (.aaload, 1) := by decide +kernel
theorem dX9_costBetween_19 : decode cX9_costBetween 19 = .ok (.getfield 181, 3) := by decide +kernel
theorem dX9_costBetween_22 : decode cX9_costBetween 22 = .ok (.invokevirtual 305, 3) := by decide +kernel
theorem dX9_costBetween_25 : decode cX9_costBetween 25 = .ok (.ireturn, 1) := by decide +kernel
theorem dX9_countFitting_0 : decode cX9_countFitting 0 = .ok (.iconst 0, 1) := by decide +kernel
theorem dX9_countFitting_1 : decode cX9_countFitting 1 = .ok (.istore_n 2, 1) := by decide +kernel
theorem dX9_countFitting_2 : decode cX9_countFitting 2 = .ok (.iconst 0, 1) := by decide +kernel
theorem dX9_countFitting_3 : decode cX9_countFitting 3 = .ok (.istore_n 3, 1) := by decide +kernel
theorem dX9_countFitting_4 : decode cX9_countFitting 4 = .ok (.iload_n 3, 1) := by decide +kernel
theorem dX9_countFitting_5 : decode cX9_countFitting 5 = .ok (.aload_n 0, 1) := by decide +kernel
theorem dX9_countFitting_6 : decode cX9_countFitting 6 = .ok (.getfield 22, 3) := by decide +kernel
theorem dX9_countFitting_9 : decode cX9_countFitting 9 = .ok (.if_icmp .ge 42, 3) := by decide +kernel
theorem dX9_countFitting_12 : decode cX9_countFitting 12 = .ok (.aload_n 0, 1) := by decide +kernel
theorem dX9_countFitting_13 : decode cX9_countFitting 13 = .ok (.getfield 68, 3) := by decide +kernel
theorem dX9_countFitting_16 : decode cX9_countFitting 16 = .ok (.aload_n 1, 1) := by decide +kernel
theorem dX9_countFitting_17 : decode cX9_countFitting 17 = .ok (.aload_n 0, 1) := by decide +kernel
theorem dX9_countFitting_18 : decode cX9_countFitting 18 = .ok (.getfield 18, 3) := by decide +kernel
theorem dX9_countFitting_21 : decode cX9_countFitting 21 = .ok (.iload_n 3, 1) := by decide +kernel
theorem dX9_countFitting_22 : decode cX9_countFitting 22 = .ok (.aaload, 1) := by decide +kernel
theorem dX9_countFitting_23 : decode cX9_countFitting 23 = .ok (.getfield 225, 3) := by decide +kernel
theorem dX9_countFitting_26 : decode cX9_countFitting 26 = .ok (.aload_n 0, 1) := by decide +kernel
theorem dX9_countFitting_27 : decode cX9_countFitting 27 = .ok (.getfield 18, 3) := by decide +kernel
theorem dX9_countFitting_30 : decode cX9_countFitting 30 = .ok (.iload_n 3, 1) := by decide +kernel
theorem dX9_countFitting_31 : decode cX9_countFitting 31 = .ok (.aaload, 1) := by decide +kernel
theorem dX9_countFitting_32 : decode cX9_countFitting 32 = .ok (.getfield 180, 3) := by decide +kernel
theorem dX9_countFitting_35 : decode cX9_countFitting 35 = .ok (.iconst 0, 1) := by decide +kernel
theorem dX9_countFitting_36 : decode cX9_countFitting 36 = .ok (.invokevirtual 228, 3) := by decide +kernel
theorem dX9_countFitting_39 : decode cX9_countFitting 39 = .ok (.ifCond .le 6, 3) := by decide +kernel
theorem dX9_countFitting_42 : decode cX9_countFitting 42 = .ok (.iinc 2 1, 3) := by decide +kernel
theorem dX9_countFitting_45 : decode cX9_countFitting 45 = .ok (.iinc 3 1, 3) := by decide +kernel
theorem dX9_countFitting_48 : decode cX9_countFitting 48 = .ok (.goto (-44), 3) := by decide +kernel
theorem dX9_countFitting_51 : decode cX9_countFitting 51 = .ok (.iload_n 2, 1) := by decide +kernel
theorem dX9_countFitting_52 : decode cX9_countFitting 52 = .ok (.ireturn, 1) := by decide +kernel
theorem dX9_pagesWith_0 : decode cX9_pagesWith 0 = .ok (.iconst 0, 1) := by decide +kernel
theorem dX9_pagesWith_1 : decode cX9_pagesWith 1 = .ok (.istore_n 2, 1) := by decide +kernel
theorem dX9_pagesWith_2 : decode cX9_pagesWith 2 = .ok (.iconst 0, 1) := by decide +kernel
theorem dX9_pagesWith_3 : decode cX9_pagesWith 3 = .ok (.istore_n 3, 1) := by decide +kernel
theorem dX9_pagesWith_4 : decode cX9_pagesWith 4 = .ok (.iload_n 3, 1) := by decide +kernel
theorem dX9_pagesWith_5 : decode cX9_pagesWith 5 = .ok (.aload_n 0, 1) := by decide +kernel
theorem dX9_pagesWith_6 : decode cX9_pagesWith 6 = .ok (.getfield 22, 3) := by decide +kernel
theorem dX9_pagesWith_9 : decode cX9_pagesWith 9 = .ok (.if_icmp .ge 25, 3) := by decide +kernel
theorem dX9_pagesWith_12 : decode cX9_pagesWith 12 = .ok (.aload_n 0, 1) := by decide +kernel
theorem dX9_pagesWith_13 : decode cX9_pagesWith 13 = .ok (.getfield 18, 3) := by decide +kernel
theorem dX9_pagesWith_16 : decode cX9_pagesWith 16 = .ok (.iload_n 3, 1) := by decide +kernel
theorem dX9_pagesWith_17 : decode cX9_pagesWith 17 = .ok (.aaload, 1) := by decide +kernel
theorem dX9_pagesWith_18 : decode cX9_pagesWith 18 = .ok (.iload_n 1, 1) := by decide +kernel
theorem dX9_pagesWith_19 : decode cX9_pagesWith 19 = .ok (.invokevirtual 324, 3) := by decide +kernel
theorem dX9_pagesWith_22 : decode cX9_pagesWith 22 = .ok (.ifCond .eq 6, 3) := by decide +kernel
theorem dX9_pagesWith_25 : decode cX9_pagesWith 25 = .ok (.iinc 2 1, 3) := by decide +kernel
theorem dX9_pagesWith_28 : decode cX9_pagesWith 28 = .ok (.iinc 3 1, 3) := by decide +kernel
theorem dX9_pagesWith_31 : decode cX9_pagesWith 31 = .ok (.goto (-27), 3) := by decide +kernel
theorem dX9_pagesWith_34 : decode cX9_pagesWith 34 = .ok (.iload_n 2, 1) := by decide +kernel
theorem dX9_pagesWith_35 : decode cX9_pagesWith 35 = .ok (.ireturn, 1) := by decide +kernel
theorem dX9_tryToLay_0 : decode cX9_tryToLay 0 = .ok (.aload_n 0, 1) := by decide +kernel
theorem dX9_tryToLay_1 : decode cX9_tryToLay 1 = .ok (.getfield 18, 3) := by decide +kernel
theorem dX9_tryToLay_4 : decode cX9_tryToLay 4 = .ok (.iload_n 1, 1) := by decide +kernel
theorem dX9_tryToLay_5 : decode cX9_tryToLay 5 = .ok (.aaload, 1) := by decide +kernel
theorem dX9_tryToLay_6 : decode cX9_tryToLay 6 = .ok (.getfield 181, 3) := by decide +kernel
theorem dX9_tryToLay_9 : decode cX9_tryToLay 9 = .ok (.astore_n 2, 1) := by decide +kernel
theorem dX9_tryToLay_10 : decode cX9_tryToLay 10 = .ok (.aload_n 0, 1) := by decide +kernel
theorem dX9_tryToLay_11 : decode cX9_tryToLay 11 = .ok (.getfield 31, 3) := by decide +kernel
theorem dX9_tryToLay_14 : decode cX9_tryToLay 14 = .ok (.getfield 282, 3) := by decide +kernel
theorem dX9_tryToLay_17 : decode cX9_tryToLay 17 = .ok (.ifCond .ne 13, 3) := by decide +kernel
theorem dX9_tryToLay_20 : decode cX9_tryToLay 20 = .ok (.aload_n 0, 1) := by decide +kernel
theorem dX9_tryToLay_21 : decode cX9_tryToLay 21 = .ok (.getfield 35, 3) := by decide +kernel
theorem dX9_tryToLay_24 : decode cX9_tryToLay 24 = .ok (.aload_n 2, 1) := by decide +kernel
theorem dX9_tryToLay_25 : decode cX9_tryToLay 25 = .ok (.invokevirtual 148, 3) := by decide +kernel
theorem dX9_tryToLay_28 : decode cX9_tryToLay 28 = .ok (.iconst 0, 1) := by decide +kernel
theorem dX9_tryToLay_29 : decode cX9_tryToLay 29 = .ok (.ireturn, 1) := by decide +kernel
theorem dX9_tryToLay_30 : decode cX9_tryToLay 30 = .ok (.aload_n 0, 1) := by decide +kernel
theorem dX9_tryToLay_31 : decode cX9_tryToLay 31 = .ok (.getfield 61, 3) := by decide +kernel
theorem dX9_tryToLay_34 : decode cX9_tryToLay 34 = .ok (.aload_n 0, 1) := by decide +kernel
theorem dX9_tryToLay_35 : decode cX9_tryToLay 35 = .ok (.getfield 31, 3) := by decide +kernel
theorem dX9_tryToLay_38 : decode cX9_tryToLay 38 = .ok (.aload_n 2, 1) := by decide +kernel
theorem dX9_tryToLay_39 : decode cX9_tryToLay 39 = .ok (.invokevirtual 305, 3) := by decide +kernel
theorem dX9_tryToLay_42 : decode cX9_tryToLay 42 = .ok (.istore_n 3, 1) := by decide +kernel
theorem dX9_tryToLay_43 : decode cX9_tryToLay 43 = .ok (.aload_n 0, 1) := by decide +kernel
theorem dX9_tryToLay_44 : decode cX9_tryToLay 44 = .ok (.getfield 61, 3) := by decide +kernel
theorem dX9_tryToLay_47 : decode cX9_tryToLay 47 = .ok (.aload_n 0, 1) := by decide +kernel
theorem dX9_tryToLay_48 : decode cX9_tryToLay 48 = .ok (.getfield 31, 3) := by decide +kernel
theorem dX9_tryToLay_51 : decode cX9_tryToLay 51 = .ok (.aload_n 2, 1) := by decide +kernel
theorem dX9_tryToLay_52 : decode cX9_tryToLay 52 = .ok (.aload_n 0, 1) := by decide +kernel
theorem dX9_tryToLay_53 : decode cX9_tryToLay 53 = .ok (.getfield 35, 3) := by decide +kernel
theorem dX9_tryToLay_56 : decode cX9_tryToLay 56 = .ok (.invokevirtual 309, 3) := by decide +kernel
theorem dX9_tryToLay_59 : decode cX9_tryToLay 59 = .ok (.iload_n 3, 1) := by decide +kernel
theorem dX9_tryToLay_60 : decode cX9_tryToLay 60 = .ok (.ireturn, 1) := by decide +kernel
theorem dX9_tryToTidy_0 : decode cX9_tryToTidy 0 = .ok (.aload_n 0, 1) := by decide +kernel
theorem dX9_tryToTidy_1 : decode cX9_tryToTidy 1 = .ok (.getfield 35, 3) := by decide +kernel
theorem dX9_tryToTidy_4 : decode cX9_tryToTidy 4 = .ok (.aload_n 0, 1) := by decide +kernel
theorem dX9_tryToTidy_5 : decode cX9_tryToTidy 5 = .ok (.getfield 31, 3) := by decide +kernel
theorem dX9_tryToTidy_8 : decode cX9_tryToTidy 8 = .ok (.invokevirtual 148, 3) := by decide +kernel
theorem dX9_tryToTidy_11 : decode cX9_tryToTidy 11 = .ok (.aload_n 0, 1) := by decide +kernel
theorem dX9_tryToTidy_12 : decode cX9_tryToTidy 12 = .ok (.getfield 54, 3) := by decide +kernel
theorem dX9_tryToTidy_15 : decode cX9_tryToTidy 15 = .ok (.aload_n 0, 1) := by decide +kernel
theorem dX9_tryToTidy_16 : decode cX9_tryToTidy 16 = .ok (.getfield 35, 3) := by decide +kernel
theorem dX9_tryToTidy_19 : decode cX9_tryToTidy 19 = .ok (.invokevirtual 313, 3) := by decide +kernel
theorem dX9_tryToTidy_22 : decode cX9_tryToTidy 22 = .ok (.ireturn, 1) := by decide +kernel
theorem dX9_walkOf_0 : decode cX9_walkOf 0 = .ok (.aload_n 0, 1) := by decide +kernel
theorem dX9_walkOf_1 : decode cX9_walkOf 1 = .ok (.getfield 18, 3) := by decide +kernel
theorem dX9_walkOf_4 : decode cX9_walkOf 4 = .ok (.iload_n 1, 1) := by decide +kernel
theorem dX9_walkOf_5 : decode cX9_walkOf 5 = .ok (.aaload, 1) := by decide +kernel
theorem dX9_walkOf_6 : decode cX9_walkOf 6 = .ok (.getfield 316, 3) := by decide +kernel
theorem dX9_walkOf_9 : decode cX9_walkOf 9 = .ok (.astore_n 2, 1) := by decide +kernel
theorem dX9_walkOf_10 : decode cX9_walkOf 10 = .ok (.aload_n 2, 1) := by decide +kernel
theorem dX9_walkOf_11 : decode cX9_walkOf 11 = .ok (.getfield 320, 3) := by decide +kernel
theorem dX9_walkOf_14 : decode cX9_walkOf 14 = .ok (.aload_n 0, 1) := by decide +kernel
theorem dX9_walkOf_15 : decode cX9_walkOf 15 = .ok (.getfield 41, 3) := by decide +kernel
theorem dX9_walkOf_18 : decode cX9_walkOf 18 = .ok (.if_icmp .eq 41, 3) := by decide +kernel
theorem dX9_walkOf_21 : decode cX9_walkOf 21 = .ok (.aload_n 2, 1) := by decide +kernel
theorem dX9_walkOf_22 : decode cX9_walkOf 22 = .ok (.aload_n 0, 1) := by decide +kernel
theorem dX9_walkOf_23 : decode cX9_walkOf 23 = .ok (.getfield 41, 3) := by decide +kernel
theorem dX9_walkOf_26 : decode cX9_walkOf 26 = .ok (.putfield 320, 3) := by decide +kernel
theorem dX9_walkOf_29 : decode cX9_walkOf 29 = .ok (.aload_n 0, 1) := by decide +kernel
theorem dX9_walkOf_30 : decode cX9_walkOf 30 = .ok (.getfield 68, 3) := by decide +kernel
theorem dX9_walkOf_33 : decode cX9_walkOf 33 = .ok (.aload_n 0, 1) := by decide +kernel
theorem dX9_walkOf_34 : decode cX9_walkOf 34 = .ok (.getfield 31, 3) := by decide +kernel
theorem dX9_walkOf_37 : decode cX9_walkOf 37 = .ok (.aload_n 0, 1) := by decide +kernel
theorem dX9_walkOf_38 : decode cX9_walkOf 38 = .ok (.getfield 18, 3) := by decide +kernel
theorem dX9_walkOf_41 : decode cX9_walkOf 41 = .ok (.iload_n 1, 1) := by decide +kernel
theorem dX9_walkOf_42 : decode cX9_walkOf 42 = .ok (.aaload, 1) := by decide +kernel
theorem dX9_walkOf_43 : decode cX9_walkOf 43 = .ok (.getfield 225, 3) := by decide +kernel
theorem dX9_walkOf_46 : decode cX9_walkOf 46 = .ok (.aload_n 0, 1) := by decide +kernel
theorem dX9_walkOf_47 : decode cX9_walkOf 47 = .ok (.getfield 18, 3) := by decide +kernel
theorem dX9_walkOf_50 : decode cX9_walkOf 50 = .ok (.iload_n 1, 1) := by decide +kernel
theorem dX9_walkOf_51 : decode cX9_walkOf 51 = .ok (.aaload, 1) := by decide +kernel
theorem dX9_walkOf_52 : decode cX9_walkOf 52 = .ok (.getfield 180, 3) := by decide +kernel
theorem dX9_walkOf_55 : decode cX9_walkOf 55 = .ok (.aload_n 2, 1) := by decide +kernel
theorem dX9_walkOf_56 : decode cX9_walkOf 56 = .ok (.invokevirtual 321, 3) := by decide +kernel
theorem dX9_walkOf_59 : decode cX9_walkOf 59 = .ok (.aload_n 2, 1) := by decide +kernel
theorem dX9_walkOf_60 : decode cX9_walkOf 60 = .ok (.areturn, 1) := by decide +kernel
/-! what holds of the class between calls; what its public methods share -/
/-- cells of which nothing is asked but that they hold numbers -/
def Zc (x y : Nat) : Prop := (x = 0 ∧ (y = 5 ∨ y = 6)) ∨ x = 37 ∨ x = 110 ∨ x = 111 ∨ x = 112 ∨ (113 ≤ x ∧ ((x - 113) % 15 = 9 ∨ ((x - 113) % 15 = 10 ∧ y = 0) ∨ 11 ≤ (x - 113) % 15))
def nz (μ : va_M) : va_M := fun x y => if (x = 0 ∧ (y = 5 ∨ y = 6)) ∨ x = 37 ∨ x = 110 ∨ x = 111 ∨ x = 112 ∨ (113 ≤ x ∧ ((x - 113) % 15 = 9 ∨ ((x - 113) % 15 = 10 ∧ y = 0) ∨ 11 ≤ (x - 113) % 15)) then (iZ (μ x y)).toInt else μ x y
theorem nz_n {μ : va_M} {x y : Nat} (h : ¬ Zc x y) : nz μ x y = μ x y := if_neg h
theorem nz_z {μ : va_M} {x y : Nat} (h : Zc x y) : inR (nz μ x y) := by
  have e : nz μ x y = (iZ (μ x y)).toInt := if_pos h
  rw [e]
  exact inR_self _
theorem nz_i (μ : va_M) (x y : Nat) : iZ (nz μ x y) = iZ (μ x y) := by
  unfold nz
  split
  · exact iZ_self _
  · rfl
theorem fw_nz {EE : va_EE} {h0 K : Nat} {μ : va_M} : fw EE h0 K μ = fw EE h0 K (nz μ) := by
  unfold fw
  congr 1
  funext a
  congr 1
  funext b
  exact (nz_i μ a b).symm
def lvOK (μ : va_M) : Prop := ∀ i : Nat, i < 8 → lfOK μ (113 + i * 15) ∧ 0 ≤ μ (113 + i * 15 + 10) 1 ∧ μ (113 + i * 15 + 10) 1 ≤ 1000000000
def CI0 (T : List Tk) (μ : va_M) : Prop := (tabC μ T ∧ tpB μ ∧ (0 ≤ μ 1 1 ∧ μ 1 1 ≤ 400) ∧ 0 ≤ μ 0 2 ∧ μ 0 2 ≤ 8) ∧ lvOK μ ∧ rG μ 6 1100 ∧ rG μ 12 1100 ∧ pstOK μ ∧ aB μ ∧ ordOK μ
def ZR (μ : va_M) : Prop := ∀ x y, Zc x y → x ≠ 112 → inR (μ x y)
def CI (T : List Tk) (μ : va_M) : Prop := CI0 T μ ∧ ZR μ
/-- the tape, the pages and the tokens stay -/
def SY (μ u : va_M) : Prop := ∀ x y, ((x = 0 ∧ y = 2) ∨ x = 1 ∨ x = 2 ∨ x = 3) → u x y = μ x y
theorem pst_fr2 {μ u : va_M} (h : pstOK μ) (hf : ∀ x y, 18 ≤ x → x < 37 → u x y = μ x y) : pstOK u := by
  refine ⟨by rw [hf 18 3 (by decide) (by decide), hf 18 4 (by decide) (by decide)]; exact h.1, fun k hk => ?_⟩
  obtain ⟨h1, w, h2, h3, h4, h5⟩ := h.2 k hk
  exact ⟨fun i => by rw [hf _ _ (by (first | ((try clear i); (try clear h5); (try clear h4); (try clear h3); (try clear h2); (try clear h1); (try clear hf); omega) | omega)) (by (first | ((try clear i); (try clear h5); (try clear h4); (try clear h3); (try clear h2); (try clear h1); (try clear hf); omega) | omega))]; exact h1 i, w, h2, SA_fr (fun y => hf _ _ (by (first | ((try clear y); (try clear i); (try clear h5); (try clear h4); (try clear h3); (try clear h2); (try clear h1); (try clear hf); omega) | omega)) (by (first | ((try clear y); (try clear i); (try clear h5); (try clear h4); (try clear h3); (try clear h2); (try clear h1); (try clear hf); omega) | omega))) w 0 h3, by rw [hf _ _ (by decide) (by decide)]; exact h4, h5⟩
theorem lf_fr {μ u : va_M} {b : Nat} (h : lfOK μ b) (hf : ∀ x y, ((x = b ∧ (y = 2 ∨ y = 5)) ∨ (b + 1 ≤ x ∧ x ≤ b + 8)) → u x y = μ x y) : lfOK u b := by
  obtain ⟨h1, h2, h3, h4⟩ := h
  refine ⟨by rw [hf _ _ (by (first | ((try clear h4); (try clear h3); (try clear h2); (try clear h1); (try clear hf); omega) | omega)), hf _ _ (by (first | ((try clear h4); (try clear h3); (try clear h2); (try clear h1); (try clear hf); omega) | omega))]; exact h1, fun j => by rw [hf _ _ (by (first | ((try clear h4); (try clear h3); (try clear h2); (try clear h1); (try clear hf); omega) | omega))]; exact h2 j, fun j => by rw [hf _ _ (by (first | ((try clear h4); (try clear h3); (try clear h2); (try clear h1); (try clear hf); omega) | omega))]; exact h3 j, rG_fr h4 (fun x y q1 q2 => hf _ _ (by (first | ((try clear j); (try clear h4); (try clear h3); (try clear h2); (try clear h1); (try clear hf); omega) | omega)))⟩
theorem lv_fr {μ u : va_M} (h : lvOK μ) (hf : ∀ x y, 113 ≤ x → ¬ Zc x y → u x y = μ x y) : lvOK u := fun i hi => by
  obtain ⟨h1, h2⟩ := h i hi
  refine ⟨lf_fr h1 (fun x y q => hf _ _ (by (first | ((try clear hf); omega) | omega)) (by unfold Zc; (first | ((try clear hf); omega) | omega))), ?_⟩
  rw [hf _ _ (by (first | ((try clear hf); omega) | omega)) (by unfold Zc; (first | ((try clear hf); omega) | omega))]
  exact h2
theorem CI_ch {T : List Tk} {μ u : va_M} (h : CI0 T μ) (f1 : SY μ u) (f2 : lvOK u ∨ ∀ x y, 113 ≤ x → ¬ Zc x y → u x y = μ x y) (f3 : rG u 6 1100 ∨ ∀ x y, 6 ≤ x → x < 12 → u x y = μ x y) (f4 : rG u 12 1100 ∨ ∀ x y, 12 ≤ x → x < 18 → u x y = μ x y) (f5 : pstOK u ∨ ∀ x y, 18 ≤ x → x < 37 → u x y = μ x y) (f6 : aB u ∨ ∀ x y, x = 46 ∨ x = 47 → u x y = μ x y) (f7 : ordOK u ∨ ∀ x y, 48 ≤ x → x < 110 → u x y = μ x y) : CI0 T u := by
  obtain ⟨⟨a1, a2, a3, a4⟩, a5, a6, a7, a8, a9, a10⟩ := h
  refine ⟨⟨tabC_fr a1 (f1 _ _ (by decide)) (fun y => f1 _ _ (by (first | ((try clear a10); (try clear a9); (try clear a8); (try clear a7); (try clear a6); (try clear a5); (try clear a4); (try clear a3); (try clear a2); (try clear a1); (try clear f7); (try clear f6); (try clear f5); (try clear f4); (try clear f3); (try clear f2); omega) | omega))), fun j => by rw [f1 _ _ (by (first | ((try clear a10); (try clear a9); (try clear a8); (try clear a7); (try clear a6); (try clear a5); (try clear a4); (try clear a3); (try clear a2); (try clear a1); (try clear f7); (try clear f6); (try clear f5); (try clear f4); (try clear f3); (try clear f2); omega) | omega))]; exact a2 j, by rw [f1 _ _ (by decide)]; exact a3, by rw [f1 _ _ (by decide)]; exact a4⟩, f2.elim id (lv_fr a5), f3.elim id (rG_fr a6), f4.elim id (fun f => rG_fr a7 (fun x y q1 q2 => f x y (by (first | ((try clear q2); (try clear y); (try clear x); (try clear f); (try clear a10); (try clear a9); (try clear a8); (try clear a7); (try clear a6); (try clear a5); (try clear a4); (try clear a3); (try clear a2); (try clear a1); (try clear f7); (try clear f6); (try clear f5); (try clear f4); (try clear f3); (try clear f2); omega) | omega)) (by (first | ((try clear y); (try clear x); (try clear f); (try clear a10); (try clear a9); (try clear a8); (try clear a7); (try clear a6); (try clear a5); (try clear a4); (try clear a3); (try clear a2); (try clear a1); (try clear f7); (try clear f6); (try clear f5); (try clear f4); (try clear f3); (try clear f2); omega) | omega)))), f5.elim id (pst_fr2 a8), f6.elim id (aB_fr a9), f7.elim id (ord_fr a10)⟩
theorem CI_nz {T : List Tk} {μ : va_M} (h : CI0 T μ) : CI T (nz μ) := by
  refine ⟨CI_ch h (fun x y q => nz_n (by unfold Zc; omega)) (Or.inr (fun x y _ q => nz_n q)) (Or.inr (fun x y q1 q2 => nz_n (by unfold Zc; omega))) (Or.inr (fun x y q1 q2 => nz_n (by unfold Zc; omega))) (Or.inr (fun x y q1 q2 => nz_n (by unfold Zc; omega))) (Or.inr (fun x y q => nz_n (by unfold Zc; omega))) (Or.inr (fun x y q1 q2 => nz_n (by unfold Zc; omega))), fun x y q _ => nz_z q⟩
/-- a change of free cells alone -/
theorem CI_z {T : List Tk} {μ u : va_M} (h : CI0 T μ) (hf : fr Zc μ u) : CI0 T u := CI_ch h (fun x y q => hf _ _ (by unfold Zc; omega)) (Or.inr (fun x y _ q => hf _ _ q)) (Or.inr (fun x y q1 q2 => hf _ _ (by unfold Zc; omega))) (Or.inr (fun x y q1 q2 => hf _ _ (by unfold Zc; omega))) (Or.inr (fun x y q1 q2 => hf _ _ (by unfold Zc; omega))) (Or.inr (fun x y q => hf _ _ (by unfold Zc; omega))) (Or.inr (fun x y q1 q2 => hf _ _ (by unfold Zc; omega)))
theorem nz_fr {P : Nat → Nat → Prop} {μ u : va_M} (h : fr P μ u) : fr (fun x y => P x y ∨ Zc x y) μ (nz u) := fun x y q => (nz_n (fun h9 => q (Or.inr h9))).trans (h x y (fun h9 => q (Or.inl h9)))
theorem CI_th {T : List Tk} {μ u : va_M} (h : CI0 T μ) (hf : fr (fun x _ => x = 112) μ u) : CI0 T u := CI_z h (fr_mono hf (fun x y q => by unfold Zc; (first | ((try clear hf); omega) | omega)))
theorem CI_lc {T : List Tk} {μ : va_M} (h : CI T μ) : 0 ≤ μ 0 2 ∧ μ 0 2 ≤ 8 := h.1.1.2.2.2
theorem CI_lf {T : List Tk} {μ : va_M} (h : CI T μ) (i : Int) (h0 : 0 ≤ i) (h8 : i < 8) : lfOK μ (113 + i.toNat * 15) ∧ 0 ≤ μ (113 + i.toNat * 15 + 10) 1 ∧ μ (113 + i.toNat * 15 + 10) 1 ≤ 1000000000 := h.1.2.1 i.toNat (by omega)
theorem CI_up {T : List Tk} {μ u : va_M} (h : CI0 T u) (hI : CI T μ) (hf : ∀ x y, Zc x y → x ≠ 112 → u x y = μ x y) : CI T u := ⟨h, fun x y q n => by rw [hf x y q n]; exact hI.2 x y q n⟩
theorem CI_thr {T : List Tk} {μ u : va_M} (h : CI T μ) (hf : fr (fun x _ => x = 112) μ u) : CI T u ∧ SY μ u := ⟨CI_up (CI_th h.1 hf) h (fun x y q n => hf _ _ n), fun x y q => hf _ _ (by (first | ((try clear hf); omega) | omega))⟩
theorem CI_wk {T : List Tk} {μ u : va_M} (h : CI T μ) (hf : fr (fun x _ => x = 46 ∨ x = 47) μ u) (ha : aB u) : CI T u ∧ SY μ u := ⟨CI_up (CI_ch h.1 (fun x y q => hf _ _ (by (first | ((try clear hf); omega) | omega))) (Or.inr (fun x y q1 q2 => hf _ _ (by (first | ((try clear hf); omega) | omega)))) (Or.inr (fun x y q1 q2 => hf _ _ (by (first | ((try clear hf); omega) | omega)))) (Or.inr (fun x y q1 q2 => hf _ _ (by (first | ((try clear hf); omega) | omega)))) (Or.inr (fun x y q1 q2 => hf _ _ (by (first | ((try clear hf); omega) | omega)))) (Or.inl ha) (Or.inr (fun x y q1 q2 => hf _ _ (by (first | ((try clear hf); omega) | omega))))) h (fun x y q n => hf _ _ (by unfold Zc at q; (first | ((try clear hf); omega) | omega))), fun x y q => hf _ _ (by (first | ((try clear hf); omega) | omega))⟩
theorem CI_cn {T : List Tk} {μ : va_M} (h : CI T μ) : ∀ i : Nat, i < 8 → inR (μ (113 + i * 15) 2) := fun i hi => by
  have := (h.1.2.1 i hi).1.1.1
  constructor <;> omega
theorem CI_n6 {T : List Tk} {μ : va_M} (h : CI T μ) : (0 ≤ μ 6 6 ∧ μ 6 6 ≤ 1100) ∧ μ 6 6 ≤ μ 6 5 ∧ 0 ≤ μ 6 5 ∧ μ 6 5 ≤ 1100 := by
  have h1 := rG_nod h.1.2.2.1
  have h2 := rG_len h.1.2.2.1
  omega
def WQ (x y : Nat) : Prop := x = 46 ∨ x = 47 ∨ Zc x y ∨ (113 ≤ x ∧ (x - 113) % 15 = 10)
set_option maxHeartbeats 4000000 in
set_option maxRecDepth 100000 in
theorem s_walkOf (l : Launch) (dC : Nat → ClassId) (dI : Nat → Nat → Nat) (cI cZ cII cIII : ClassId) (h0 sz : Nat) (μ : va_M) (pg : Int) (T : List Tk) (hI : CI T μ) (hpg : 0 ≤ pg ∧ pg < μ 0 2) : Met l yX9_walkOf (Cond.code yX9_walkOf cX9_walkOf 3 (some (.object "PageSkeleton$Walk")) :: wsG) ({ frames := 6, cells := 0, slots := 0, locals := 141 } : Room) (va_Pc [.ref h0, .int (iZ (pg))] (fun U => U.heap.size = sz ∧ va_P (dC, dI) vwCl (fw (sE cI cZ cII cIII h0) h0 233 μ) U.heap ∧ va_K (dC, dI) vwCl (sT cI cZ cII cIII) U ∧ xM U)) (va_Qr (fun (u : va_M) => CI T u ∧ fr WQ μ u) (fun (u : va_M) ra t => ra = h0 + ((113 + (pg).toNat * 15) + 10) ∧ va_P (dC, dI) vwCl (fw (sE cI cZ cII cIII h0) h0 233 u) t.heap ∧ va_K (dC, dI) vwCl (sT cI cZ cII cIII) t) (fA h0 233 sz)) 0 0 (fA h0 233 sz) := by
  refine Met.ofW (cc := cX9_walkOf) (maxL := 3) (ret := (some (.object "PageSkeleton$Walk"))) (by decide) rfl ?_
  intro p e s m args below meth c s₁ B hml hv
  obtain ⟨rfl, hsz, hP, hK, hM⟩ := hv
  have hx := B.exec
  have hb := B.bytes
  have hr := B.returns
  have hts : ∀ w ∈ wsG, w.before _ s = true := hG_of (atoms_spec (ws := (Cond.code yX9_walkOf cX9_walkOf 3 (some (.object "PageSkeleton$Walk")) :: wsG)) B.pre)
  have hown : s.vm.findClass RX9 = some m.cls := findClass_of_methodNamed B.named
  have hlocks := B.notSynchronized
  subst hsz
  have hS : va_S (fA h0 233 s.heap.size) s.heap s.heap [] := va_S.rf
  have hl := lv_entry ([.ref h0, .int (iZ (pg))]) (n := 3) (Nat.le_of_ble_eq_true rfl)
  rw [lg_entry_eq]
  generalize (lg_sl ([.ref h0, .int (iZ (pg))]) ++ List.replicate (3 - (lg_sl ([.ref h0, .int (iZ (pg))])).length) Slot.unset).toArray = ls at hl ⊢
  have hl : lv_has ls 3 [(0, .ref h0), (1, .int (iZ (pg)))] := hl
  have hlc := CI_lc hI
  obtain ⟨hl1, hl2⟩ := CI_lf hI pg hpg.1 (by (first | ((try clear hl2); (try clear hl1); (try clear hsz); (try clear s₁); omega) | omega))
  have hz1 : inR (μ ((113 + (pg).toNat * 15) + 10) 0) := hI.2 _ _ (by unfold Zc; (first | ((try clear hl2); (try clear hl1); (try clear hlc); (try clear hsz); (try clear s₁); (try clear hpg); omega) | omega)) (by (first | ((try clear hl2); (try clear hl1); (try clear hlc); (try clear hsz); (try clear s₁); (try clear hpg); omega) | omega))
  have hz2 : inR (μ 0 6) := hI.2 _ _ (by unfold Zc; (first | ((try clear hl2); (try clear hl1); (try clear hlc); (try clear hsz); (try clear s₁); (try clear hpg); omega) | omega)) (by (first | ((try clear hl2); (try clear hl1); (try clear hlc); (try clear hsz); (try clear s₁); (try clear hpg); omega) | omega))
  refine lv_aload_n hx hb dX9_walkOf_0 rfl (lv_at hl 0 rfl) ?_
  refine fz_get (D := (dC, dI)) (ci := 9) (v := .ref (h0 + 5)) (C := RX9) (T := TX9) (N := 15) hx hb hts inG9 hown hK hP (k := 0) (by decide) (F := (sF0 h0)) sE_0 rfl 1 (by decide) (hts _ k333) (fun _ h9 => h9) rfl dX9_walkOf_1 ?_
  refine lv_iload_n hx hb dX9_walkOf_4 rfl (lv_at hl 1 rfl) ?_
  refine fz_ald (k := 5) (n := 8) (k2 := (113 + (pg).toNat * 15)) hx hb hK hP 1 rfl (by decide) sE_5 rfl ⟨by (first | ((try clear hl2); (try clear hl1); (try clear hlc); (try clear hsz); (try clear s₁); omega) | omega), by (first | ((try clear hl2); (try clear hl1); (try clear hsz); (try clear s₁); omega) | omega)⟩ (by decide) (if_pos (by (first | ((try clear hl2); (try clear hl1); (try clear hsz); (try clear s₁); omega) | omega))) dX9_walkOf_5 ?_
  refine fz_get (D := (dC, dI)) (ci := 1) (v := .ref (h0 + ((113 + (pg).toNat * 15) + 10))) (C := RX1) (T := TX1) (N := 8) hx hb hts inG1 hown hK hP (k := (113 + (pg).toNat * 15)) (by (first | ((try clear hl2); (try clear hl1); (try clear hsz); (try clear s₁); omega) | omega)) (F := (sLF h0 (113 + (pg).toNat * 15))) (sE_leafO (show (pg).toNat < 8 by (first | ((try clear hl2); (try clear hl1); (try clear hsz); (try clear s₁); omega) | omega)) rfl) rfl 6 (by decide) (hts _ k310) (fun _ h9 => h9) rfl dX9_walkOf_6 ?_
  refine lv_astore_n (lv' := [(2, .ref (h0 + ((113 + (pg).toNat * 15) + 10))), (0, .ref h0), (1, .int (iZ (pg)))]) hx hb dX9_walkOf_9 rfl hl (by decide) rfl (fun ls hl => ?_)
  refine lv_aload_n hx hb dX9_walkOf_10 rfl (lv_at hl 0 rfl) ?_
  refine fz_get (D := (dC, dI)) (ci := 7) (v := .int (iZ (μ ((113 + (pg).toNat * 15) + 10) 0))) (C := RX7) (T := TX7) (N := 5) hx hb hts inG7 hown hK hP (k := ((113 + (pg).toNat * 15) + 10)) (by (first | ((try clear hl2); (try clear hl1); (try clear hsz); (try clear s₁); omega) | omega)) (F := (sWF h0 (113 + (pg).toNat * 15))) (sE_walk (show (pg).toNat < 8 by (first | ((try clear hl2); (try clear hl1); (try clear hsz); (try clear s₁); omega) | omega)) rfl) rfl 0 (by decide) (hts _ k272) (fun _ h9 => h9) rfl dX9_walkOf_11 ?_
  refine lv_aload_n hx hb dX9_walkOf_14 rfl (lv_at hl 1 rfl) ?_
  refine fz_get (D := (dC, dI)) (ci := 9) (v := .int (iZ (μ 0 6))) (C := RX9) (T := TX9) (N := 15) hx hb hts inG9 hown hK hP (k := 0) (by decide) (F := (sF0 h0)) sE_0 rfl 6 (by decide) (hts _ k338) (fun _ h9 => h9) rfl dX9_walkOf_15 ?_
  refine fz_icmp_eq (tgt := 59) (by first | assumption | (constructor <;> omega)) (by first | assumption | (constructor <;> omega)) hx hb dX9_walkOf_18 (by decide) (fun c18_ => ?_) (fun c18_ => ?_)
  · refine lv_aload_n hx hb dX9_walkOf_59 rfl (lv_at hl 0 rfl) ?_
    have C9 : CI0 T μ ∧ fr WQ μ μ := ⟨hI.1, fr_rfl⟩
    rw [fw_nz] at hP
    obtain ⟨μ1, eμ1⟩ : ∃ x : va_M, x = nz μ := ⟨_, rfl⟩
    rw [← eμ1] at hP
    exact W_aret hx hb hr (fun t9 ht9 hW9 => ⟨⟨μ1, h0 + ((113 + (pg).toNat * 15) + 10), rfl, (by
                try dsimp only
                rw [eμ1]
                exact ⟨CI_nz C9.1, fr_mono (nz_fr C9.2) (fun x y h => h.elim id (fun h => Or.inr (Or.inr (Or.inl h))))⟩), rfl, by rw [ht9]; exact hP, va_K.moved hW9.alike hK⟩, hS.F ht9⟩) hS.2.2 dX9_walkOf_60
  · refine lv_aload_n hx hb dX9_walkOf_21 rfl (lv_at hl 0 rfl) ?_
    refine lv_aload_n hx hb dX9_walkOf_22 rfl (lv_at hl 1 rfl) ?_
    refine fz_get (D := (dC, dI)) (ci := 9) (v := .int (iZ (μ 0 6))) (C := RX9) (T := TX9) (N := 15) hx hb hts inG9 hown hK hP (k := 0) (by decide) (F := (sF0 h0)) sE_0 rfl 6 (by decide) (hts _ k338) (fun _ h9 => h9) rfl dX9_walkOf_23 ?_
    refine fz_put (D := (dC, dI)) (ci := 7) (ty := .int) (z := (μ 0 6)) (C := RX7) (T := TX7) (N := 5) hx hb hts inG7 tyX7 tyX7_ok nmX7 hown hK hP fA_in hS (k := ((113 + (pg).toNat * 15) + 10)) (by (first | ((try clear c18_); (try clear hl2); (try clear hl1); (try clear hsz); (try clear s₁); omega) | omega)) (F := (sWF h0 (113 + (pg).toNat * 15))) (sE_walk (show (pg).toNat < 8 by (first | ((try clear c18_); (try clear hl2); (try clear hl1); (try clear hsz); (try clear s₁); omega) | omega)) rfl) rfl 0 (by decide) (hts _ k272) (fun _ h9 => h9) rfl (by decide +kernel) rfl rfl (fun _ => Nat.le_of_ble_eq_true rfl) (fun _ _ => rfl) dX9_walkOf_26 (fun H locs hP hS => ?_)
    obtain ⟨μ2, eμ2⟩ : ∃ x : va_M, x = uz μ ((113 + (pg).toNat * 15) + 10) 0 (μ 0 6) := ⟨_, rfl⟩
    rw [← eμ2] at hP
    refine lv_aload_n hx hb dX9_walkOf_29 rfl (lv_at hl 1 rfl) ?_
    refine fz_get (D := (dC, dI)) (ci := 9) (v := .ref (h0 + 45)) (C := RX9) (T := TX9) (N := 15) hx hb hts inG9 hown hK hP (k := 0) (by decide) (F := (sF0 h0)) sE_0 rfl 10 (by decide) (hts _ k342) (fun _ h9 => h9) rfl dX9_walkOf_30 ?_
    refine lv_aload_n hx hb dX9_walkOf_33 rfl (lv_at hl 1 rfl) ?_
    refine fz_get (D := (dC, dI)) (ci := 9) (v := .ref (h0 + 6)) (C := RX9) (T := TX9) (N := 15) hx hb hts inG9 hown hK hP (k := 0) (by decide) (F := (sF0 h0)) sE_0 rfl 3 (by decide) (hts _ k335) (fun _ h9 => h9) rfl dX9_walkOf_34 ?_
    refine lv_aload_n hx hb dX9_walkOf_37 rfl (lv_at hl 1 rfl) ?_
    refine fz_get (D := (dC, dI)) (ci := 9) (v := .ref (h0 + 5)) (C := RX9) (T := TX9) (N := 15) hx hb hts inG9 hown hK hP (k := 0) (by decide) (F := (sF0 h0)) sE_0 rfl 1 (by decide) (hts _ k333) (fun _ h9 => h9) rfl dX9_walkOf_38 ?_
    refine lv_iload_n hx hb dX9_walkOf_41 rfl (lv_at hl 2 rfl) ?_
    refine fz_ald (k := 5) (n := 8) (k2 := (113 + (pg).toNat * 15)) hx hb hK hP 1 rfl (by decide) sE_5 rfl ⟨by (first | ((try clear x); (try clear eμ2); (try clear μ2); (try clear c18_); (try clear hl2); (try clear hl1); (try clear hlc); (try clear hsz); (try clear s₁); omega) | omega), by (first | ((try clear x); (try clear eμ2); (try clear μ2); (try clear c18_); (try clear hl2); (try clear hl1); (try clear hsz); (try clear s₁); omega) | omega)⟩ (by decide) (if_pos (by (first | ((try clear x); (try clear eμ2); (try clear μ2); (try clear c18_); (try clear hl2); (try clear hl1); (try clear hsz); (try clear s₁); omega) | omega))) dX9_walkOf_42 ?_
    refine fz_get (D := (dC, dI)) (ci := 1) (v := .ref (h0 + ((113 + (pg).toNat * 15) + 2))) (C := RX1) (T := TX1) (N := 8) hx hb hts inG1 hown hK hP (k := (113 + (pg).toNat * 15)) (by (first | ((try clear x); (try clear eμ2); (try clear μ2); (try clear c18_); (try clear hl2); (try clear hl1); (try clear hsz); (try clear s₁); omega) | omega)) (F := (sLF h0 (113 + (pg).toNat * 15))) (sE_leafO (show (pg).toNat < 8 by (first | ((try clear x); (try clear eμ2); (try clear μ2); (try clear c18_); (try clear hl2); (try clear hl1); (try clear hsz); (try clear s₁); omega) | omega)) rfl) rfl 1 (by decide) (hts _ k299) (fun _ h9 => h9) rfl dX9_walkOf_43 ?_
    refine lv_aload_n hx hb dX9_walkOf_46 rfl (lv_at hl 1 rfl) ?_
    refine fz_get (D := (dC, dI)) (ci := 9) (v := .ref (h0 + 5)) (C := RX9) (T := TX9) (N := 15) hx hb hts inG9 hown hK hP (k := 0) (by decide) (F := (sF0 h0)) sE_0 rfl 1 (by decide) (hts _ k333) (fun _ h9 => h9) rfl dX9_walkOf_47 ?_
    refine lv_iload_n hx hb dX9_walkOf_50 rfl (lv_at hl 2 rfl) ?_
    refine fz_ald (k := 5) (n := 8) (k2 := (113 + (pg).toNat * 15)) hx hb hK hP 1 rfl (by decide) sE_5 rfl ⟨by (first | ((try clear x); (try clear eμ2); (try clear μ2); (try clear c18_); (try clear hl2); (try clear hl1); (try clear hlc); (try clear hsz); (try clear s₁); omega) | omega), by (first | ((try clear x); (try clear eμ2); (try clear μ2); (try clear c18_); (try clear hl2); (try clear hl1); (try clear hsz); (try clear s₁); omega) | omega)⟩ (by decide) (if_pos (by (first | ((try clear x); (try clear eμ2); (try clear μ2); (try clear c18_); (try clear hl2); (try clear hl1); (try clear hsz); (try clear s₁); omega) | omega))) dX9_walkOf_51 ?_
    refine fz_get (D := (dC, dI)) (ci := 1) (v := .int (iZ (μ2 (113 + (pg).toNat * 15) 2))) (C := RX1) (T := TX1) (N := 8) hx hb hts inG1 hown hK hP (k := (113 + (pg).toNat * 15)) (by (first | ((try clear x); (try clear eμ2); (try clear μ2); (try clear c18_); (try clear hl2); (try clear hl1); (try clear hsz); (try clear s₁); omega) | omega)) (F := (sLF h0 (113 + (pg).toNat * 15))) (sE_leafO (show (pg).toNat < 8 by (first | ((try clear x); (try clear eμ2); (try clear μ2); (try clear c18_); (try clear hl2); (try clear hl1); (try clear hsz); (try clear s₁); omega) | omega)) rfl) rfl 2 (by decide) (hts _ k301) (fun _ h9 => h9) rfl dX9_walkOf_52 ?_
    rw [show μ2 (113 + (pg).toNat * 15) 2 = μ (113 + (pg).toNat * 15) 2 from by rw [eμ2, uz_n (by (first | ((try clear x); (try clear eμ2); (try clear μ2); (try clear c18_); (try clear hl2); (try clear hl1); (try clear hlc); (try clear hsz); (try clear s₁); (try clear hpg); omega) | omega))]]
    refine lv_aload_n hx hb dX9_walkOf_55 rfl (lv_at hl 0 rfl) ?_
    refine va_callv (va_runV (As := [.ref (h0 + 6), .ref (h0 + ((113 + (pg).toNat * 15) + 2)), .int (iZ (μ (113 + (pg).toNat * 15) 2)), .ref (h0 + ((113 + (pg).toNat * 15) + 10))]) (rest := []) ⟨hx, hb, hml, hown, hts⟩ (s_Wwalk l dC dI cI cZ cII cIII h0 H.size μ2 (6) (1100) ((113 + (pg).toNat * 15)) ((pg).toNat) (((113 + (pg).toNat * 15) + 2)) (60) (μ (113 + (pg).toNat * 15) 2) (rowB_6) (rfl) ((show (pg).toNat < 8 by (first | ((try clear x); (try clear eμ2); (try clear μ2); (try clear c18_); (try clear hl2); (try clear hl1); (try clear hsz); (try clear s₁); omega) | omega))) (by decide) (by exact rG_fr hI.1.2.2.1 (fun x y q1 q2 => by rw [eμ2, uz_n (by (first | ((try clear eμ2); (try clear μ2); (try clear c18_); (try clear hl2); (try clear hl1); (try clear hlc); (try clear hsz); (try clear s₁); (try clear hpg); omega) | omega))])) (by exact aB_fr hI.1.2.2.2.2.2.1 (fun x y q => by rw [eμ2, uz_n (by (first | ((try clear eμ2); (try clear μ2); (try clear c18_); (try clear hl2); (try clear hl1); (try clear hlc); (try clear hsz); (try clear s₁); (try clear hpg); omega) | omega))])) (by (first | ((try clear x); (try clear eμ2); (try clear μ2); (try clear c18_); (try clear hl2); (try clear hl1); (try clear hsz); (try clear s₁); omega) | omega)) ((sE_leafA 2 60 (show (pg).toNat < 8 by (first | ((try clear x); (try clear eμ2); (try clear μ2); (try clear c18_); (try clear hl2); (try clear hl1); (try clear hsz); (try clear s₁); omega) | omega)) rfl (by decide))) (by
                intro j
                have := hl1.2.2.1 j
                rw [eμ2, uz_n (by (first | ((try clear x); (try clear eμ2); (try clear μ2); (try clear c18_); (try clear hl2); (try clear hl1); (try clear hlc); (try clear hsz); (try clear s₁); (try clear hpg); omega) | omega))]
                constructor <;> (first | ((try clear x); (try clear eμ2); (try clear μ2); (try clear c18_); (try clear hl2); (try clear hl1); (try clear hlc); (try clear hsz); (try clear s₁); (try clear hpg); omega) | omega)) (by
                have := hl1.1.1
                (first | ((try clear j); (try clear x); (try clear eμ2); (try clear μ2); (try clear c18_); (try clear hl2); (try clear hl1); (try clear hlc); (try clear hsz); (try clear s₁); (try clear hpg); omega) | omega))) (cwV 4 hts (gV_G k539 k540 k541 k8 k542) rfl rfl rfl (by decide +kernel) ⟨Nat.le_of_ble_eq_true rfl, Nat.le_of_ble_eq_true rfl⟩) ⟨fun a U g mk q => by obtain ⟨q0, q1, qP, qK, qM⟩ := q; exact ⟨q0, q1, qP, va_K.moved (u := U) (U := U.calling g mk a) (Vm.Alike.refl U.vm) qK, qM⟩, va_recv hK hP (ci := 8) (q0 := 45) rfl ((fw_get (by decide)).trans (by rw [sE_45])), fun U hU hW => ⟨rfl, by rw [hU], by rw [hU]; exact hP, va_K.moved hW.alike hK, xM_warm hW hM⟩⟩ rfl rfl hl.1 rfl (lv_room (Nat.le_of_ble_eq_true rfl)) dX9_walkOf_56 ⟨Nat.le_of_ble_eq_true rfl, Nat.le_of_ble_eq_true rfl⟩) hS (fun q _ h => fA_le hS.1 q h) (fA_le hS.1) (fun u9 t9 H1 locs ht9 hvm9 hw9 hB9 hz9 hk9 hS => ?_)
    obtain ⟨hP, -⟩ := hB9
    rw [ht9] at hP
    generalize H1 = H at hP hS ⊢
    obtain ⟨μw, eμw⟩ : ∃ x : va_M, x = u9 := ⟨_, rfl⟩
    rw [← eμw] at hP hw9
    have hμw := hw9; clear hw9
    obtain ⟨f1_, a1_, b1_, c1_⟩ := hμw
    refine lv_aload_n hx hb dX9_walkOf_59 rfl (lv_at hl 0 rfl) ?_
    have F9 : fr WQ μ μw := fr_trans (by rw [eμ2]; exact fr_uz fr_rfl (by unfold WQ Zc; (first | ((try clear c1_); (try clear b1_); (try clear a1_); (try clear f1_); (try clear hμw); (try clear x); (try clear eμw); (try clear eμ2); (try clear μ2); (try clear c18_); (try clear hl2); (try clear hl1); (try clear hlc); (try clear hsz); (try clear s₁); (try clear hpg); omega) | omega))) (fr_mono f1_ (fun x y h => by unfold WQ Zc; (first | ((try clear c1_); (try clear b1_); (try clear a1_); (try clear f1_); (try clear hμw); (try clear eμw); (try clear eμ2); (try clear μ2); (try clear c18_); (try clear hl2); (try clear hl1); (try clear hlc); (try clear hsz); (try clear s₁); (try clear hpg); omega) | omega)))
    have C9 : CI0 T μw ∧ fr WQ μ μw := by
      refine ⟨CI_ch hI.1 (fun x y q => F9 _ _ (by unfold WQ Zc; (first | ((try clear C9); (try clear c1_); (try clear b1_); (try clear a1_); (try clear f1_); (try clear hμw); (try clear eμw); (try clear eμ2); (try clear μ2); (try clear c18_); (try clear hl2); (try clear hl1); (try clear hlc); (try clear hsz); (try clear s₁); (try clear hpg); omega) | omega))) (Or.inl (fun i hi => ?_)) (Or.inr (fun x y q1 q2 => F9 _ _ (by unfold WQ Zc; (first | ((try clear hi); (try clear i); (try clear C9); (try clear c1_); (try clear b1_); (try clear a1_); (try clear f1_); (try clear hμw); (try clear eμw); (try clear eμ2); (try clear μ2); (try clear c18_); (try clear hl2); (try clear hl1); (try clear hlc); (try clear hsz); (try clear s₁); (try clear hpg); omega) | omega)))) (Or.inr (fun x y q1 q2 => F9 _ _ (by unfold WQ Zc; (first | ((try clear hi); (try clear i); (try clear C9); (try clear c1_); (try clear b1_); (try clear a1_); (try clear f1_); (try clear hμw); (try clear eμw); (try clear eμ2); (try clear μ2); (try clear c18_); (try clear hl2); (try clear hl1); (try clear hlc); (try clear hsz); (try clear s₁); (try clear hpg); omega) | omega)))) (Or.inr (fun x y q1 q2 => F9 _ _ (by unfold WQ Zc; (first | ((try clear hi); (try clear i); (try clear C9); (try clear c1_); (try clear b1_); (try clear a1_); (try clear f1_); (try clear hμw); (try clear eμw); (try clear eμ2); (try clear μ2); (try clear c18_); (try clear hl2); (try clear hl1); (try clear hlc); (try clear hsz); (try clear s₁); (try clear hpg); omega) | omega)))) (Or.inl a1_) (Or.inr (fun x y q1 q2 => F9 _ _ (by unfold WQ Zc; (first | ((try clear hi); (try clear i); (try clear C9); (try clear c1_); (try clear b1_); (try clear a1_); (try clear f1_); (try clear hμw); (try clear eμw); (try clear eμ2); (try clear μ2); (try clear c18_); (try clear hl2); (try clear hl1); (try clear hlc); (try clear hsz); (try clear s₁); (try clear hpg); omega) | omega)))), F9⟩
      obtain ⟨k1, k2⟩ := hI.1.2.1 i hi
      refine ⟨lf_fr k1 (fun x y q => F9 _ _ (by unfold WQ Zc; (first | ((try clear k2); (try clear k1); (try clear C9); (try clear c1_); (try clear b1_); (try clear a1_); (try clear f1_); (try clear hμw); (try clear eμw); (try clear eμ2); (try clear μ2); (try clear c18_); (try clear hl2); (try clear hl1); (try clear hlc); (try clear hsz); (try clear s₁); (try clear hpg); omega) | omega))), ?_⟩
      by_cases e : i = pg.toNat
      · rw [e]; exact ⟨b1_, c1_⟩
      · rw [f1_ _ _ (by (first | ((try clear k2); (try clear k1); (try clear C9); (try clear c1_); (try clear b1_); (try clear a1_); (try clear f1_); (try clear hμw); (try clear x); (try clear eμw); (try clear eμ2); (try clear μ2); (try clear c18_); (try clear hl2); (try clear hl1); (try clear hlc); (try clear hsz); (try clear s₁); (try clear hpg); omega) | omega)), eμ2, uz_n (by (first | ((try clear k2); (try clear k1); (try clear hi); (try clear C9); (try clear c1_); (try clear b1_); (try clear a1_); (try clear f1_); (try clear hμw); (try clear x); (try clear eμw); (try clear eμ2); (try clear μ2); (try clear c18_); (try clear hl2); (try clear hl1); (try clear hlc); (try clear hsz); (try clear s₁); (try clear hpg); omega) | omega))]; exact k2
    rw [fw_nz] at hP
    obtain ⟨μ3, eμ3⟩ : ∃ x : va_M, x = nz μw := ⟨_, rfl⟩
    rw [← eμ3] at hP
    exact W_aret hx hb hr (fun t9 ht9 hW9 => ⟨⟨μ3, h0 + ((113 + (pg).toNat * 15) + 10), rfl, (by
                try dsimp only
                rw [eμ3]
                exact ⟨CI_nz C9.1, fr_mono (nz_fr C9.2) (fun x y h => h.elim id (fun h => Or.inr (Or.inr (Or.inl h))))⟩), rfl, by rw [ht9]; exact hP, va_K.moved hW9.alike hK⟩, hS.F ht9⟩) hS.2.2 dX9_walkOf_60
set_option maxHeartbeats 4000000 in
set_option maxRecDepth 100000 in
theorem s_tryToLay (l : Launch) (dC : Nat → ClassId) (dI : Nat → Nat → Nat) (cI cZ cII cIII : ClassId) (h0 sz : Nat) (μ : va_M) (pg : Int) (T : List Tk) (hI : CI T μ) (hpg : 0 ≤ pg ∧ pg < μ 0 2) : Met l yX9_tryToLay (Cond.code yX9_tryToLay cX9_tryToLay 4 (some .int) :: wsG) ({ frames := 6, cells := 0, slots := 0, locals := 139 } : Room) (va_Pc [.ref h0, .int (iZ (pg))] (fun U => U.heap.size = sz ∧ va_P (dC, dI) vwCl (fw (sE cI cZ cII cIII h0) h0 233 μ) U.heap ∧ va_K (dC, dI) vwCl (sT cI cZ cII cIII) U ∧ xM U)) (va_Qi (fun (r9 : Int32) (u : va_M × Int) => r9 = iZ u.2 ∧ (fun (u : va_M) (r : Int) => CI0 T u ∧ fr (fun x y => (12 ≤ x ∧ x < 18) ∨ (41 ≤ x ∧ x ≤ 44)) μ u ∧ 0 ≤ r ∧ r ≤ 2000) u.1 u.2) (fun u t => va_P (dC, dI) vwCl (fw (sE cI cZ cII cIII h0) h0 233 u.1) t.heap ∧ va_K (dC, dI) vwCl (sT cI cZ cII cIII) t) (fA h0 233 sz)) 0 0 (fA h0 233 sz) := by
  refine Met.ofW (cc := cX9_tryToLay) (maxL := 4) (ret := (some .int)) (by decide) rfl ?_
  intro p e s m args below meth c s₁ B hml hv
  obtain ⟨rfl, hsz, hP, hK, hM⟩ := hv
  have hx := B.exec
  have hb := B.bytes
  have hr := B.returns
  have hts : ∀ w ∈ wsG, w.before _ s = true := hG_of (atoms_spec (ws := (Cond.code yX9_tryToLay cX9_tryToLay 4 (some .int) :: wsG)) B.pre)
  have hown : s.vm.findClass RX9 = some m.cls := findClass_of_methodNamed B.named
  have hlocks := B.notSynchronized
  subst hsz
  have hS : va_S (fA h0 233 s.heap.size) s.heap s.heap [] := va_S.rf
  have hl := lv_entry ([.ref h0, .int (iZ (pg))]) (n := 4) (Nat.le_of_ble_eq_true rfl)
  rw [lg_entry_eq]
  generalize (lg_sl ([.ref h0, .int (iZ (pg))]) ++ List.replicate (4 - (lg_sl ([.ref h0, .int (iZ (pg))])).length) Slot.unset).toArray = ls at hl ⊢
  have hl : lv_has ls 4 [(0, .ref h0), (1, .int (iZ (pg)))] := hl
  have hlc := CI_lc hI
  obtain ⟨hl1, hl2⟩ := CI_lf hI pg hpg.1 (by (first | ((try clear hl2); (try clear hl1); (try clear hsz); (try clear s₁); omega) | omega))
  have hg2 := hl1.2.2.2
  have hr6 := hI.1.2.2.1
  have hr12 := hI.1.2.2.2.1
  have hln := rG_len hr6
  refine lv_aload_n hx hb dX9_tryToLay_0 rfl (lv_at hl 0 rfl) ?_
  refine fz_get (D := (dC, dI)) (ci := 9) (v := .ref (h0 + 5)) (C := RX9) (T := TX9) (N := 15) hx hb hts inG9 hown hK hP (k := 0) (by decide) (F := (sF0 h0)) sE_0 rfl 1 (by decide) (hts _ k333) (fun _ h9 => h9) rfl dX9_tryToLay_1 ?_
  refine lv_iload_n hx hb dX9_tryToLay_4 rfl (lv_at hl 1 rfl) ?_
  refine fz_ald (k := 5) (n := 8) (k2 := (113 + (pg).toNat * 15)) hx hb hK hP 1 rfl (by decide) sE_5 rfl ⟨by (first | ((try clear hln); (try clear hr12); (try clear hr6); (try clear hg2); (try clear hl2); (try clear hl1); (try clear hlc); (try clear hsz); (try clear s₁); omega) | omega), by (first | ((try clear hln); (try clear hr12); (try clear hr6); (try clear hg2); (try clear hl2); (try clear hl1); (try clear hsz); (try clear s₁); omega) | omega)⟩ (by decide) (if_pos (by (first | ((try clear hln); (try clear hr12); (try clear hr6); (try clear hg2); (try clear hl2); (try clear hl1); (try clear hsz); (try clear s₁); omega) | omega))) dX9_tryToLay_5 ?_
  refine fz_get (D := (dC, dI)) (ci := 1) (v := .ref (h0 + ((113 + (pg).toNat * 15) + 3))) (C := RX1) (T := TX1) (N := 8) hx hb hts inG1 hown hK hP (k := (113 + (pg).toNat * 15)) (by (first | ((try clear hln); (try clear hr12); (try clear hr6); (try clear hg2); (try clear hl2); (try clear hl1); (try clear hsz); (try clear s₁); omega) | omega)) (F := (sLF h0 (113 + (pg).toNat * 15))) (sE_leafO (show (pg).toNat < 8 by (first | ((try clear hln); (try clear hr12); (try clear hr6); (try clear hg2); (try clear hl2); (try clear hl1); (try clear hsz); (try clear s₁); omega) | omega)) rfl) rfl 3 (by decide) (hts _ k304) (fun _ h9 => h9) rfl dX9_tryToLay_6 ?_
  refine lv_astore_n (lv' := [(2, .ref (h0 + ((113 + (pg).toNat * 15) + 3))), (0, .ref h0), (1, .int (iZ (pg)))]) hx hb dX9_tryToLay_9 rfl hl (by decide) rfl (fun ls hl => ?_)
  refine lv_aload_n hx hb dX9_tryToLay_10 rfl (lv_at hl 1 rfl) ?_
  refine fz_get (D := (dC, dI)) (ci := 9) (v := .ref (h0 + 6)) (C := RX9) (T := TX9) (N := 15) hx hb hts inG9 hown hK hP (k := 0) (by decide) (F := (sF0 h0)) sE_0 rfl 3 (by decide) (hts _ k335) (fun _ h9 => h9) rfl dX9_tryToLay_11 ?_
  refine fz_get (D := (dC, dI)) (ci := 4) (v := .int (iZ (μ 6 5))) (C := RX4) (T := TX4) (N := 8) hx hb hts inG4 hown hK hP (k := 6) (by decide) (F := (sRF h0 6)) (sE_rowO rowB_6) rfl 5 (by decide) (hts _ k99) (fun _ h9 => h9) rfl dX9_tryToLay_14 ?_
  refine fz_if_ne (tgt := 30) (by constructor <;> (first | ((try clear hr12); (try clear hr6); (try clear hg2); (try clear hl2); (try clear hl1); (try clear hlc); (try clear hsz); (try clear s₁); (try clear hpg); omega) | omega)) hx hb dX9_tryToLay_17 (by decide) (fun c17_ => ?_) (fun c17_ => ?_)
  · refine lv_aload_n hx hb dX9_tryToLay_30 rfl (lv_at hl 1 rfl) ?_
    refine fz_get (D := (dC, dI)) (ci := 9) (v := .ref (h0 + 41)) (C := RX9) (T := TX9) (N := 15) hx hb hts inG9 hown hK hP (k := 0) (by decide) (F := (sF0 h0)) sE_0 rfl 9 (by decide) (hts _ k341) (fun _ h9 => h9) rfl dX9_tryToLay_31 ?_
    refine lv_aload_n hx hb dX9_tryToLay_34 rfl (lv_at hl 1 rfl) ?_
    refine fz_get (D := (dC, dI)) (ci := 9) (v := .ref (h0 + 6)) (C := RX9) (T := TX9) (N := 15) hx hb hts inG9 hown hK hP (k := 0) (by decide) (F := (sF0 h0)) sE_0 rfl 3 (by decide) (hts _ k335) (fun _ h9 => h9) rfl dX9_tryToLay_35 ?_
    refine lv_aload_n hx hb dX9_tryToLay_38 rfl (lv_at hl 0 rfl) ?_
    refine va_calli (va_runV (As := [.ref (h0 + 6), .ref (h0 + ((113 + (pg).toNat * 15) + 3))]) (rest := []) ⟨hx, hb, hml, hown, hts⟩ (s_YleastCost l dC dI cI cZ cII cIII h0 s.heap.size μ (6) (1100) (((113 + (pg).toNat * 15) + 3)) (96) (rowB_6) ((rowB_L (show (pg).toNat < 8 by (first | ((try clear c17_); (try clear hln); (try clear hr12); (try clear hr6); (try clear hg2); (try clear hl2); (try clear hl1); (try clear hsz); (try clear s₁); omega) | omega)) rfl)) (by exact hr6) (by exact hg2) (by rfl)) (cwV 2 hts (gV_G k762 k763 k764 k7 k765) rfl rfl rfl (by decide +kernel) ⟨Nat.le_of_ble_eq_true rfl, Nat.le_of_ble_eq_true rfl⟩) ⟨fun a U g mk q => by obtain ⟨q0, q1, qP, qK, qM⟩ := q; exact ⟨q0, q1, qP, va_K.moved (u := U) (U := U.calling g mk a) (Vm.Alike.refl U.vm) qK, qM⟩, va_recv hK hP (ci := 0) (q0 := 41) rfl ((fw_get (by decide)).trans (by rw [sE_41])), fun U hU hW => ⟨rfl, by rw [hU], by rw [hU]; exact hP, va_K.moved hW.alike hK, xM_warm hW hM⟩⟩ rfl rfl hl.1 rfl (lv_room (Nat.le_of_ble_eq_true rfl)) dX9_tryToLay_39 ⟨Nat.le_of_ble_eq_true rfl, Nat.le_of_ble_eq_true rfl⟩) hS (fun q _ h => fA_le hS.1 q h) (fA_le hS.1) (fun r9 u9 t9 H1 locs ht9 hvm9 hw9 hB9 hz9 hk9 hS => ?_)
    obtain ⟨μl, rl⟩ := u9
    obtain ⟨hP, -⟩ := hB9
    rw [ht9] at hP
    generalize H1 = H at hP hS ⊢
    obtain ⟨e9, hw9⟩ := hw9
    have e9 : r9 = iZ rl := e9
    subst e9
    simp only at hP hw9
    have hμl := hw9; clear hw9
    obtain ⟨f1_, k1_, r1_⟩ := hμl
    refine lv_istore_n (lv' := [(3, .int (iZ (rl))), (2, .ref (h0 + ((113 + (pg).toNat * 15) + 3))), (0, .ref h0), (1, .int (iZ (pg)))]) hx hb dX9_tryToLay_42 rfl hl (by decide) rfl (fun ls hl => ?_)
    refine lv_aload_n hx hb dX9_tryToLay_43 rfl (lv_at hl 2 rfl) ?_
    refine fz_get (D := (dC, dI)) (ci := 9) (v := .ref (h0 + 41)) (C := RX9) (T := TX9) (N := 15) hx hb hts inG9 hown hK hP (k := 0) (by decide) (F := (sF0 h0)) sE_0 rfl 9 (by decide) (hts _ k341) (fun _ h9 => h9) rfl dX9_tryToLay_44 ?_
    refine lv_aload_n hx hb dX9_tryToLay_47 rfl (lv_at hl 2 rfl) ?_
    refine fz_get (D := (dC, dI)) (ci := 9) (v := .ref (h0 + 6)) (C := RX9) (T := TX9) (N := 15) hx hb hts inG9 hown hK hP (k := 0) (by decide) (F := (sF0 h0)) sE_0 rfl 3 (by decide) (hts _ k335) (fun _ h9 => h9) rfl dX9_tryToLay_48 ?_
    refine lv_aload_n hx hb dX9_tryToLay_51 rfl (lv_at hl 1 rfl) ?_
    refine lv_aload_n hx hb dX9_tryToLay_52 rfl (lv_at hl 2 rfl) ?_
    refine fz_get (D := (dC, dI)) (ci := 9) (v := .ref (h0 + 12)) (C := RX9) (T := TX9) (N := 15) hx hb hts inG9 hown hK hP (k := 0) (by decide) (F := (sF0 h0)) sE_0 rfl 4 (by decide) (hts _ k336) (fun _ h9 => h9) rfl dX9_tryToLay_53 ?_
    refine va_callv (va_runV (As := [.ref (h0 + 6), .ref (h0 + ((113 + (pg).toNat * 15) + 3)), .ref (h0 + 12)]) (rest := []) ⟨hx, hb, hml, hown, hts⟩ (s_Ybuild l dC dI cI cZ cII cIII h0 H.size μl (6) (1100) (((113 + (pg).toNat * 15) + 3)) (96) (12) (1100) (rowB_6) ((rowB_L (show (pg).toNat < 8 by (first | ((try clear r1_); (try clear k1_); (try clear f1_); (try clear hμl); (try clear μl); (try clear hz9); (try clear c17_); (try clear hln); (try clear hr12); (try clear hr6); (try clear hg2); (try clear hl2); (try clear hl1); (try clear hsz); (try clear s₁); omega) | omega)) rfl)) (rowB_12) (by unfold apart; (first | ((try clear r1_); (try clear k1_); (try clear f1_); (try clear hμl); (try clear μl); (try clear hz9); (try clear c17_); (try clear hln); (try clear hr12); (try clear hr6); (try clear hg2); (try clear hl2); (try clear hl1); (try clear hlc); (try clear hsz); (try clear s₁); (try clear hpg); omega) | omega)) (by unfold apart; (first | ((try clear r1_); (try clear k1_); (try clear f1_); (try clear hμl); (try clear μl); (try clear hz9); (try clear c17_); (try clear hln); (try clear hr12); (try clear hr6); (try clear hg2); (try clear hl2); (try clear hl1); (try clear hlc); (try clear hsz); (try clear s₁); (try clear hpg); omega) | omega)) (by exact rG_fr hr6 (fun x y q1 q2 => f1_ _ _ (by (first | ((try clear r1_); (try clear k1_); (try clear f1_); (try clear hμl); (try clear μl); (try clear hz9); (try clear c17_); (try clear hln); (try clear hr12); (try clear hr6); (try clear hg2); (try clear hl2); (try clear hl1); (try clear hlc); (try clear hsz); (try clear s₁); (try clear hpg); omega) | omega)))) (by exact rG_fr hg2 (fun x y q1 q2 => f1_ _ _ (by (first | ((try clear r1_); (try clear k1_); (try clear f1_); (try clear hμl); (try clear μl); (try clear hz9); (try clear c17_); (try clear hln); (try clear hr12); (try clear hr6); (try clear hg2); (try clear hl2); (try clear hl1); (try clear hlc); (try clear hsz); (try clear s₁); (try clear hpg); omega) | omega)))) (by rfl) (by exact k1_) (by exact rG_fr hr12 (fun x y q1 q2 => f1_ _ _ (by (first | ((try clear r1_); (try clear k1_); (try clear f1_); (try clear hμl); (try clear μl); (try clear hz9); (try clear c17_); (try clear hln); (try clear hr12); (try clear hr6); (try clear hg2); (try clear hl2); (try clear hl1); (try clear hlc); (try clear hsz); (try clear s₁); (try clear hpg); omega) | omega))))) (cwV 3 hts (gV_G k813 k814 k815 k7 k816) rfl rfl rfl (by decide +kernel) ⟨Nat.le_of_ble_eq_true rfl, Nat.le_of_ble_eq_true rfl⟩) ⟨fun a U g mk q => by obtain ⟨q0, q1, qP, qK, qM⟩ := q; exact ⟨q0, q1, qP, va_K.moved (u := U) (U := U.calling g mk a) (Vm.Alike.refl U.vm) qK, qM⟩, va_recv hK hP (ci := 0) (q0 := 41) rfl ((fw_get (by decide)).trans (by rw [sE_41])), fun U hU hW => ⟨rfl, by rw [hU], by rw [hU]; exact hP, va_K.moved hW.alike hK, xM_warm hW hM⟩⟩ rfl rfl hl.1 rfl (lv_room (Nat.le_of_ble_eq_true rfl)) dX9_tryToLay_56 ⟨Nat.le_of_ble_eq_true rfl, Nat.le_of_ble_eq_true rfl⟩) hS (fun q _ h => fA_le hS.1 q h) (fA_le hS.1) (fun u9 t9 H1 locs ht9 hvm9 hw9 hB9 hz9 hk9 hS => ?_)
    obtain ⟨hP, -⟩ := hB9
    rw [ht9] at hP
    generalize H1 = H at hP hS ⊢
    obtain ⟨μb, eμb⟩ : ∃ x : va_M, x = u9 := ⟨_, rfl⟩
    rw [← eμb] at hP hw9
    have hμb := hw9; clear hw9
    obtain ⟨G9, g2_⟩ := hμb
    have F9 : fr (fun x y => (12 ≤ x ∧ x < 18) ∨ (41 ≤ x ∧ x ≤ 44)) μ μb := fr_trans (fr_mono f1_ (fun x y h => by (first | ((try clear F9); (try clear g2_); (try clear G9); (try clear hμb); (try clear eμb); (try clear μb); (try clear hz9); (try clear r1_); (try clear k1_); (try clear f1_); (try clear hμl); (try clear μl); (try clear c17_); (try clear hln); (try clear hr12); (try clear hr6); (try clear hg2); (try clear hl2); (try clear hl1); (try clear hlc); (try clear hsz); (try clear s₁); (try clear hpg); omega) | omega))) (fr_mono g2_ (fun x y h => by unfold LEq at h; (first | ((try clear F9); (try clear g2_); (try clear G9); (try clear hμb); (try clear eμb); (try clear μb); (try clear hz9); (try clear r1_); (try clear k1_); (try clear f1_); (try clear hμl); (try clear μl); (try clear c17_); (try clear hln); (try clear hr12); (try clear hr6); (try clear hg2); (try clear hl2); (try clear hl1); (try clear hlc); (try clear hsz); (try clear s₁); (try clear hpg); omega) | omega)))
    refine lv_iload_n hx hb dX9_tryToLay_59 rfl (lv_at hl 0 rfl) ?_
    exact W.iret (v := iZ (rl)) hx hb hr (fun t9 ht9 hW9 => ⟨⟨iZ (rl), (μb, rl), rfl, ⟨rfl, (by
                dsimp only
                refine ⟨CI_ch hI.1 (fun x y q => F9 _ _ (by (first | ((try clear F9); (try clear g2_); (try clear G9); (try clear hμb); (try clear eμb); (try clear μb); (try clear hz9); (try clear r1_); (try clear k1_); (try clear f1_); (try clear hμl); (try clear μl); (try clear c17_); (try clear hln); (try clear hr12); (try clear hr6); (try clear hg2); (try clear hl2); (try clear hl1); (try clear hlc); (try clear hsz); (try clear s₁); (try clear hpg); omega) | omega))) (Or.inr (fun x y q1 q2 => F9 _ _ (by (first | ((try clear q2); (try clear y); (try clear F9); (try clear g2_); (try clear G9); (try clear hμb); (try clear eμb); (try clear μb); (try clear hz9); (try clear r1_); (try clear k1_); (try clear f1_); (try clear hμl); (try clear μl); (try clear c17_); (try clear hln); (try clear hr12); (try clear hr6); (try clear hg2); (try clear hl2); (try clear hl1); (try clear hlc); (try clear hsz); (try clear s₁); (try clear hpg); omega) | omega)))) (Or.inr (fun x y q1 q2 => F9 _ _ (by (first | ((try clear y); (try clear F9); (try clear g2_); (try clear G9); (try clear hμb); (try clear eμb); (try clear μb); (try clear hz9); (try clear r1_); (try clear k1_); (try clear f1_); (try clear hμl); (try clear μl); (try clear c17_); (try clear hln); (try clear hr12); (try clear hr6); (try clear hg2); (try clear hl2); (try clear hl1); (try clear hlc); (try clear hsz); (try clear s₁); (try clear hpg); omega) | omega)))) (Or.inl G9) (Or.inr (fun x y q1 q2 => F9 _ _ (by (first | ((try clear y); (try clear F9); (try clear g2_); (try clear G9); (try clear hμb); (try clear eμb); (try clear μb); (try clear hz9); (try clear r1_); (try clear k1_); (try clear f1_); (try clear hμl); (try clear μl); (try clear c17_); (try clear hln); (try clear hr12); (try clear hr6); (try clear hg2); (try clear hl2); (try clear hl1); (try clear hlc); (try clear hsz); (try clear s₁); (try clear hpg); omega) | omega)))) (Or.inr (fun x y q => F9 _ _ (by (first | ((try clear y); (try clear F9); (try clear g2_); (try clear G9); (try clear hμb); (try clear eμb); (try clear μb); (try clear hz9); (try clear r1_); (try clear k1_); (try clear f1_); (try clear hμl); (try clear μl); (try clear c17_); (try clear hln); (try clear hr12); (try clear hr6); (try clear hg2); (try clear hl2); (try clear hl1); (try clear hlc); (try clear hsz); (try clear s₁); (try clear hpg); omega) | omega)))) (Or.inr (fun x y q1 q2 => F9 _ _ (by (first | ((try clear y); (try clear F9); (try clear g2_); (try clear G9); (try clear hμb); (try clear eμb); (try clear μb); (try clear hz9); (try clear r1_); (try clear k1_); (try clear f1_); (try clear hμl); (try clear μl); (try clear c17_); (try clear hln); (try clear hr12); (try clear hr6); (try clear hg2); (try clear hl2); (try clear hl1); (try clear hlc); (try clear hsz); (try clear s₁); (try clear hpg); omega) | omega)))), F9, by (first | ((try clear F9); (try clear g2_); (try clear G9); (try clear hμb); (try clear x); (try clear eμb); (try clear μb); (try clear hz9); (try clear k1_); (try clear f1_); (try clear hμl); (try clear μl); (try clear c17_); (try clear hln); (try clear hr12); (try clear hr6); (try clear hg2); (try clear hl2); (try clear hl1); (try clear hlc); (try clear hsz); (try clear s₁); (try clear hpg); omega) | omega), by (first | ((try clear F9); (try clear g2_); (try clear G9); (try clear hμb); (try clear x); (try clear eμb); (try clear μb); (try clear hz9); (try clear k1_); (try clear f1_); (try clear hμl); (try clear μl); (try clear c17_); (try clear hln); (try clear hr12); (try clear hr6); (try clear hg2); (try clear hl2); (try clear hl1); (try clear hlc); (try clear hsz); (try clear s₁); (try clear hpg); omega) | omega)⟩)⟩, by rw [ht9]; exact hP, va_K.moved hW9.alike hK⟩, hS.F ht9⟩) hS.2.2 dX9_tryToLay_60
  · obtain ⟨w, w1_, w2_⟩ := rG_w hg2
    refine lv_aload_n hx hb dX9_tryToLay_20 rfl (lv_at hl 1 rfl) ?_
    refine fz_get (D := (dC, dI)) (ci := 9) (v := .ref (h0 + 12)) (C := RX9) (T := TX9) (N := 15) hx hb hts inG9 hown hK hP (k := 0) (by decide) (F := (sF0 h0)) sE_0 rfl 4 (by decide) (hts _ k336) (fun _ h9 => h9) rfl dX9_tryToLay_21 ?_
    refine lv_aload_n hx hb dX9_tryToLay_24 rfl (lv_at hl 0 rfl) ?_
    refine va_callv (va_runV (As := [.ref (h0 + ((113 + (pg).toNat * 15) + 3))]) (rest := []) ⟨hx, hb, hml, hown, hts⟩ (s_Rtake2 l dC dI cI cZ cII cIII h0 s.heap.size μ (12) (1100) (((113 + (pg).toNat * 15) + 3)) (96) (w) (rowB_12) ((rowB_L (show (pg).toNat < 8 by (first | ((try clear w2_); (try clear w1_); (try clear w); (try clear c17_); (try clear hln); (try clear hr12); (try clear hr6); (try clear hg2); (try clear hl2); (try clear hl1); (try clear hsz); (try clear s₁); omega) | omega)) rfl)) (by (first | ((try clear w2_); (try clear w1_); (try clear w); (try clear c17_); (try clear hln); (try clear hr12); (try clear hr6); (try clear hg2); (try clear hl2); (try clear hl1); (try clear hlc); (try clear hsz); (try clear s₁); (try clear hpg); omega) | omega)) (by exact w1_) (by exact w2_) (by exact (rG_len hg2).2)) (cwV 1 hts (gV_G k398 k399 k400 k3 k401) rfl rfl rfl (by decide +kernel) ⟨Nat.le_of_ble_eq_true rfl, Nat.le_of_ble_eq_true rfl⟩) ⟨fun a U g mk q => by obtain ⟨q0, q1, qP, qK, qM⟩ := q; exact ⟨q0, q1, qP, va_K.moved (u := U) (U := U.calling g mk a) (Vm.Alike.refl U.vm) qK, qM⟩, va_recv hK hP (ci := 4) (q0 := 12) rfl ((fw_get (by decide)).trans (by rw [(sE_rowO rowB_12)])), fun U hU hW => ⟨rfl, by rw [hU], by rw [hU]; exact hP, va_K.moved hW.alike hK, xM_warm hW hM⟩⟩ rfl rfl hl.1 rfl (lv_room (Nat.le_of_ble_eq_true rfl)) dX9_tryToLay_25 ⟨Nat.le_of_ble_eq_true rfl, Nat.le_of_ble_eq_true rfl⟩) hS (fun q _ h => fA_le hS.1 q h) (fA_le hS.1) (fun u9 t9 H1 locs ht9 hvm9 hw9 hB9 hz9 hk9 hS => ?_)
    obtain ⟨hP, -⟩ := hB9
    rw [ht9] at hP
    generalize H1 = H at hP hS ⊢
    obtain ⟨μt, eμt⟩ : ∃ x : va_M, x = u9 := ⟨_, rfl⟩
    rw [← eμt] at hP hw9
    have hμt := hw9; clear hw9
    obtain ⟨⟨a1_, a2_, a3_⟩, a4_⟩ := hμt
    have G9 := rG_load hr12 w1_ hg2.1 a4_ a1_ a2_ a3_
    have F9 : fr (fun x y => (12 ≤ x ∧ x < 18) ∨ (41 ≤ x ∧ x ≤ 44)) μ μt := fr_mono a2_ (fun x y h => by have := h.1; unfold LEq at this; (first | ((try clear h); (try clear y); (try clear F9); (try clear G9); (try clear a4_); (try clear a3_); (try clear a2_); (try clear a1_); (try clear hμt); (try clear eμt); (try clear μt); (try clear hz9); (try clear w2_); (try clear w1_); (try clear w); (try clear c17_); (try clear hln); (try clear hr12); (try clear hr6); (try clear hg2); (try clear hl2); (try clear hl1); (try clear hlc); (try clear hsz); (try clear s₁); (try clear hpg); omega) | omega))
    refine lv_iconst (v := iZ 0) hx hb dX9_tryToLay_28 rfl ?_
    exact W.iret (v := iZ (0)) hx hb hr (fun t9 ht9 hW9 => ⟨⟨iZ (0), (μt, 0), rfl, ⟨rfl, (by
                dsimp only
                refine ⟨CI_ch hI.1 (fun x y q => F9 _ _ (by (first | ((try clear F9); (try clear G9); (try clear a4_); (try clear a3_); (try clear a2_); (try clear a1_); (try clear hμt); (try clear eμt); (try clear μt); (try clear hz9); (try clear w2_); (try clear w1_); (try clear w); (try clear c17_); (try clear hln); (try clear hr12); (try clear hr6); (try clear hg2); (try clear hl2); (try clear hl1); (try clear hlc); (try clear hsz); (try clear s₁); (try clear hpg); omega) | omega))) (Or.inr (fun x y q1 q2 => F9 _ _ (by (first | ((try clear q2); (try clear y); (try clear F9); (try clear G9); (try clear a4_); (try clear a3_); (try clear a2_); (try clear a1_); (try clear hμt); (try clear eμt); (try clear μt); (try clear hz9); (try clear w2_); (try clear w1_); (try clear w); (try clear c17_); (try clear hln); (try clear hr12); (try clear hr6); (try clear hg2); (try clear hl2); (try clear hl1); (try clear hlc); (try clear hsz); (try clear s₁); (try clear hpg); omega) | omega)))) (Or.inr (fun x y q1 q2 => F9 _ _ (by (first | ((try clear y); (try clear F9); (try clear G9); (try clear a4_); (try clear a3_); (try clear a2_); (try clear a1_); (try clear hμt); (try clear eμt); (try clear μt); (try clear hz9); (try clear w2_); (try clear w1_); (try clear w); (try clear c17_); (try clear hln); (try clear hr12); (try clear hr6); (try clear hg2); (try clear hl2); (try clear hl1); (try clear hlc); (try clear hsz); (try clear s₁); (try clear hpg); omega) | omega)))) (Or.inl G9) (Or.inr (fun x y q1 q2 => F9 _ _ (by (first | ((try clear y); (try clear F9); (try clear G9); (try clear a4_); (try clear a3_); (try clear a2_); (try clear a1_); (try clear hμt); (try clear eμt); (try clear μt); (try clear hz9); (try clear w2_); (try clear w1_); (try clear w); (try clear c17_); (try clear hln); (try clear hr12); (try clear hr6); (try clear hg2); (try clear hl2); (try clear hl1); (try clear hlc); (try clear hsz); (try clear s₁); (try clear hpg); omega) | omega)))) (Or.inr (fun x y q => F9 _ _ (by (first | ((try clear y); (try clear F9); (try clear G9); (try clear a4_); (try clear a3_); (try clear a2_); (try clear a1_); (try clear hμt); (try clear eμt); (try clear μt); (try clear hz9); (try clear w2_); (try clear w1_); (try clear w); (try clear c17_); (try clear hln); (try clear hr12); (try clear hr6); (try clear hg2); (try clear hl2); (try clear hl1); (try clear hlc); (try clear hsz); (try clear s₁); (try clear hpg); omega) | omega)))) (Or.inr (fun x y q1 q2 => F9 _ _ (by (first | ((try clear y); (try clear F9); (try clear G9); (try clear a4_); (try clear a3_); (try clear a2_); (try clear a1_); (try clear hμt); (try clear eμt); (try clear μt); (try clear hz9); (try clear w2_); (try clear w1_); (try clear w); (try clear c17_); (try clear hln); (try clear hr12); (try clear hr6); (try clear hg2); (try clear hl2); (try clear hl1); (try clear hlc); (try clear hsz); (try clear s₁); (try clear hpg); omega) | omega)))), F9, by (first | ((try clear F9); (try clear G9); (try clear a4_); (try clear a3_); (try clear a2_); (try clear a1_); (try clear hμt); (try clear x); (try clear eμt); (try clear μt); (try clear hz9); (try clear w2_); (try clear w1_); (try clear w); (try clear c17_); (try clear hln); (try clear hr12); (try clear hr6); (try clear hg2); (try clear hl2); (try clear hl1); (try clear hlc); (try clear hsz); (try clear s₁); (try clear hpg); omega) | omega), by (first | ((try clear F9); (try clear G9); (try clear a4_); (try clear a3_); (try clear a2_); (try clear a1_); (try clear hμt); (try clear x); (try clear eμt); (try clear μt); (try clear hz9); (try clear w2_); (try clear w1_); (try clear w); (try clear c17_); (try clear hln); (try clear hr12); (try clear hr6); (try clear hg2); (try clear hl2); (try clear hl1); (try clear hlc); (try clear hsz); (try clear s₁); (try clear hpg); omega) | omega)⟩)⟩, by rw [ht9]; exact hP, va_K.moved hW9.alike hK⟩, hS.F ht9⟩) hS.2.2 dX9_tryToLay_29
set_option maxHeartbeats 4000000 in
set_option maxRecDepth 100000 in
theorem s_costBetween (l : Launch) (dC : Nat → ClassId) (dI : Nat → Nat → Nat) (cI cZ cII cIII : ClassId) (h0 sz : Nat) (μ : va_M) (pg : Int) (ot : Int) (T : List Tk) (hI : CI T μ) (hpg : 0 ≤ pg ∧ pg < μ 0 2) (hot : 0 ≤ ot ∧ ot < μ 0 2) : Met l yX9_costBetween (Cond.code yX9_costBetween cX9_costBetween 3 (some .int) :: wsG) ({ frames := 6, cells := 0, slots := 0, locals := 139 } : Room) (va_Pc [.ref h0, .int (iZ (pg)), .int (iZ (ot))] (fun U => U.heap.size = sz ∧ va_P (dC, dI) vwCl (fw (sE cI cZ cII cIII h0) h0 233 μ) U.heap ∧ va_K (dC, dI) vwCl (sT cI cZ cII cIII) U ∧ xM U)) (va_Qi (fun (r9 : Int32) (u : va_M × Int) => r9 = iZ u.2 ∧ (fun (u : va_M) (r : Int) => CI0 T u ∧ fr (fun x y => 41 ≤ x ∧ x ≤ 44) μ u ∧ 0 ≤ r ∧ r ≤ 2000) u.1 u.2) (fun u t => va_P (dC, dI) vwCl (fw (sE cI cZ cII cIII h0) h0 233 u.1) t.heap ∧ va_K (dC, dI) vwCl (sT cI cZ cII cIII) t) (fA h0 233 sz)) 0 0 (fA h0 233 sz) := by
  refine Met.ofW (cc := cX9_costBetween) (maxL := 3) (ret := (some .int)) (by decide) rfl ?_
  intro p e s m args below meth c s₁ B hml hv
  obtain ⟨rfl, hsz, hP, hK, hM⟩ := hv
  have hx := B.exec
  have hb := B.bytes
  have hr := B.returns
  have hts : ∀ w ∈ wsG, w.before _ s = true := hG_of (atoms_spec (ws := (Cond.code yX9_costBetween cX9_costBetween 3 (some .int) :: wsG)) B.pre)
  have hown : s.vm.findClass RX9 = some m.cls := findClass_of_methodNamed B.named
  have hlocks := B.notSynchronized
  subst hsz
  have hS : va_S (fA h0 233 s.heap.size) s.heap s.heap [] := va_S.rf
  have hl := lv_entry ([.ref h0, .int (iZ (pg)), .int (iZ (ot))]) (n := 3) (Nat.le_of_ble_eq_true rfl)
  rw [lg_entry_eq]
  generalize (lg_sl ([.ref h0, .int (iZ (pg)), .int (iZ (ot))]) ++ List.replicate (3 - (lg_sl ([.ref h0, .int (iZ (pg)), .int (iZ (ot))])).length) Slot.unset).toArray = ls at hl ⊢
  have hl : lv_has ls 3 [(0, .ref h0), (1, .int (iZ (pg))), (2, .int (iZ (ot)))] := hl
  have hlc := CI_lc hI
  obtain ⟨hl1, hl2⟩ := CI_lf hI pg hpg.1 (by (first | ((try clear hl2); (try clear hl1); (try clear hsz); (try clear s₁); (try clear hot); omega) | omega))
  obtain ⟨hm1, hm2⟩ := CI_lf hI ot hot.1 (by (first | ((try clear hm2); (try clear hm1); (try clear hl2); (try clear hl1); (try clear hsz); (try clear s₁); omega) | omega))
  refine lv_aload_n hx hb dX9_costBetween_0 rfl (lv_at hl 0 rfl) ?_
  refine fz_get (D := (dC, dI)) (ci := 9) (v := .ref (h0 + 41)) (C := RX9) (T := TX9) (N := 15) hx hb hts inG9 hown hK hP (k := 0) (by decide) (F := (sF0 h0)) sE_0 rfl 9 (by decide) (hts _ k341) (fun _ h9 => h9) rfl dX9_costBetween_1 ?_
  refine lv_aload_n hx hb dX9_costBetween_4 rfl (lv_at hl 0 rfl) ?_
  refine fz_get (D := (dC, dI)) (ci := 9) (v := .ref (h0 + 5)) (C := RX9) (T := TX9) (N := 15) hx hb hts inG9 hown hK hP (k := 0) (by decide) (F := (sF0 h0)) sE_0 rfl 1 (by decide) (hts _ k333) (fun _ h9 => h9) rfl dX9_costBetween_5 ?_
  refine lv_iload_n hx hb dX9_costBetween_8 rfl (lv_at hl 2 rfl) ?_
  refine fz_ald (k := 5) (n := 8) (k2 := (113 + (ot).toNat * 15)) hx hb hK hP 1 rfl (by decide) sE_5 rfl ⟨by (first | ((try clear hm2); (try clear hm1); (try clear hl2); (try clear hl1); (try clear hlc); (try clear hsz); (try clear s₁); (try clear hpg); omega) | omega), by (first | ((try clear hm2); (try clear hm1); (try clear hl2); (try clear hl1); (try clear hsz); (try clear s₁); omega) | omega)⟩ (by decide) (if_pos (by (first | ((try clear hm2); (try clear hm1); (try clear hl2); (try clear hl1); (try clear hsz); (try clear s₁); omega) | omega))) dX9_costBetween_9 ?_
  refine fz_get (D := (dC, dI)) (ci := 1) (v := .ref (h0 + ((113 + (ot).toNat * 15) + 3))) (C := RX1) (T := TX1) (N := 8) hx hb hts inG1 hown hK hP (k := (113 + (ot).toNat * 15)) (by (first | ((try clear hm2); (try clear hm1); (try clear hl2); (try clear hl1); (try clear hsz); (try clear s₁); omega) | omega)) (F := (sLF h0 (113 + (ot).toNat * 15))) (sE_leafO (show (ot).toNat < 8 by (first | ((try clear hm2); (try clear hm1); (try clear hl2); (try clear hl1); (try clear hsz); (try clear s₁); omega) | omega)) rfl) rfl 3 (by decide) (hts _ k304) (fun _ h9 => h9) rfl dX9_costBetween_10 ?_
  refine lv_aload_n hx hb dX9_costBetween_13 rfl (lv_at hl 0 rfl) ?_
  refine fz_get (D := (dC, dI)) (ci := 9) (v := .ref (h0 + 5)) (C := RX9) (T := TX9) (N := 15) hx hb hts inG9 hown hK hP (k := 0) (by decide) (F := (sF0 h0)) sE_0 rfl 1 (by decide) (hts _ k333) (fun _ h9 => h9) rfl dX9_costBetween_14 ?_
  refine lv_iload_n hx hb dX9_costBetween_17 rfl (lv_at hl 1 rfl) ?_
  refine fz_ald (k := 5) (n := 8) (k2 := (113 + (pg).toNat * 15)) hx hb hK hP 1 rfl (by decide) sE_5 rfl ⟨by (first | ((try clear hm2); (try clear hm1); (try clear hl2); (try clear hl1); (try clear hlc); (try clear hsz); (try clear s₁); (try clear hot); omega) | omega), by (first | ((try clear hm2); (try clear hm1); (try clear hl2); (try clear hl1); (try clear hsz); (try clear s₁); (try clear hot); omega) | omega)⟩ (by decide) (if_pos (by (first | ((try clear hm2); (try clear hm1); (try clear hl2); (try clear hl1); (try clear hsz); (try clear s₁); (try clear hot); omega) | omega))) dX9_costBetween_18 ?_
  refine fz_get (D := (dC, dI)) (ci := 1) (v := .ref (h0 + ((113 + (pg).toNat * 15) + 3))) (C := RX1) (T := TX1) (N := 8) hx hb hts inG1 hown hK hP (k := (113 + (pg).toNat * 15)) (by (first | ((try clear hm2); (try clear hm1); (try clear hl2); (try clear hl1); (try clear hsz); (try clear s₁); (try clear hot); omega) | omega)) (F := (sLF h0 (113 + (pg).toNat * 15))) (sE_leafO (show (pg).toNat < 8 by (first | ((try clear hm2); (try clear hm1); (try clear hl2); (try clear hl1); (try clear hsz); (try clear s₁); (try clear hot); omega) | omega)) rfl) rfl 3 (by decide) (hts _ k304) (fun _ h9 => h9) rfl dX9_costBetween_19 ?_
  refine va_calli (va_runV (As := [.ref (h0 + ((113 + (ot).toNat * 15) + 3)), .ref (h0 + ((113 + (pg).toNat * 15) + 3))]) (rest := []) ⟨hx, hb, hml, hown, hts⟩ (s_YleastCost l dC dI cI cZ cII cIII h0 s.heap.size μ (((113 + (ot).toNat * 15) + 3)) (96) (((113 + (pg).toNat * 15) + 3)) (96) ((rowB_L (show (ot).toNat < 8 by (first | ((try clear hm2); (try clear hm1); (try clear hl2); (try clear hl1); (try clear hsz); (try clear s₁); omega) | omega)) rfl)) ((rowB_L (show (pg).toNat < 8 by (first | ((try clear hm2); (try clear hm1); (try clear hl2); (try clear hl1); (try clear hsz); (try clear s₁); (try clear hot); omega) | omega)) rfl)) (by exact hm1.2.2.2) (by exact hl1.2.2.2) (by rfl)) (cwV 2 hts (gV_G k762 k763 k764 k7 k765) rfl rfl rfl (by decide +kernel) ⟨Nat.le_of_ble_eq_true rfl, Nat.le_of_ble_eq_true rfl⟩) ⟨fun a U g mk q => by obtain ⟨q0, q1, qP, qK, qM⟩ := q; exact ⟨q0, q1, qP, va_K.moved (u := U) (U := U.calling g mk a) (Vm.Alike.refl U.vm) qK, qM⟩, va_recv hK hP (ci := 0) (q0 := 41) rfl ((fw_get (by decide)).trans (by rw [sE_41])), fun U hU hW => ⟨rfl, by rw [hU], by rw [hU]; exact hP, va_K.moved hW.alike hK, xM_warm hW hM⟩⟩ rfl rfl hl.1 rfl (lv_room (Nat.le_of_ble_eq_true rfl)) dX9_costBetween_22 ⟨Nat.le_of_ble_eq_true rfl, Nat.le_of_ble_eq_true rfl⟩) hS (fun q _ h => fA_le hS.1 q h) (fA_le hS.1) (fun r9 u9 t9 H1 locs ht9 hvm9 hw9 hB9 hz9 hk9 hS => ?_)
  obtain ⟨μl, rl⟩ := u9
  obtain ⟨hP, -⟩ := hB9
  rw [ht9] at hP
  generalize H1 = H at hP hS ⊢
  obtain ⟨e9, hw9⟩ := hw9
  have e9 : r9 = iZ rl := e9
  subst e9
  simp only at hP hw9
  have hμl := hw9; clear hw9
  obtain ⟨f1_, k1_, r1_⟩ := hμl
  have F9 : fr (fun x y => 41 ≤ x ∧ x ≤ 44) μ μl := fr_mono f1_ (fun x y h => by (first | ((try clear F9); (try clear r1_); (try clear k1_); (try clear f1_); (try clear hμl); (try clear μl); (try clear hz9); (try clear hm2); (try clear hm1); (try clear hl2); (try clear hl1); (try clear hlc); (try clear hsz); (try clear s₁); (try clear hot); (try clear hpg); omega) | omega))
  exact W.iret (v := iZ (rl)) hx hb hr (fun t9 ht9 hW9 => ⟨⟨iZ (rl), (μl, rl), rfl, ⟨rfl, (by
            dsimp only
            refine ⟨CI_ch hI.1 (fun x y q => F9 _ _ (by (first | ((try clear F9); (try clear r1_); (try clear k1_); (try clear f1_); (try clear hμl); (try clear μl); (try clear hz9); (try clear hm2); (try clear hm1); (try clear hl2); (try clear hl1); (try clear hlc); (try clear hsz); (try clear s₁); (try clear hot); (try clear hpg); omega) | omega))) (Or.inr (fun x y q1 q2 => F9 _ _ (by (first | ((try clear q2); (try clear y); (try clear F9); (try clear r1_); (try clear k1_); (try clear f1_); (try clear hμl); (try clear μl); (try clear hz9); (try clear hm2); (try clear hm1); (try clear hl2); (try clear hl1); (try clear hlc); (try clear hsz); (try clear s₁); (try clear hot); (try clear hpg); omega) | omega)))) (Or.inr (fun x y q1 q2 => F9 _ _ (by (first | ((try clear y); (try clear F9); (try clear r1_); (try clear k1_); (try clear f1_); (try clear hμl); (try clear μl); (try clear hz9); (try clear hm2); (try clear hm1); (try clear hl2); (try clear hl1); (try clear hlc); (try clear hsz); (try clear s₁); (try clear hot); (try clear hpg); omega) | omega)))) (Or.inr (fun x y q1 q2 => F9 _ _ (by (first | ((try clear y); (try clear F9); (try clear r1_); (try clear k1_); (try clear f1_); (try clear hμl); (try clear μl); (try clear hz9); (try clear hm2); (try clear hm1); (try clear hl2); (try clear hl1); (try clear hlc); (try clear hsz); (try clear s₁); (try clear hot); (try clear hpg); omega) | omega)))) (Or.inr (fun x y q1 q2 => F9 _ _ (by (first | ((try clear y); (try clear F9); (try clear r1_); (try clear k1_); (try clear f1_); (try clear hμl); (try clear μl); (try clear hz9); (try clear hm2); (try clear hm1); (try clear hl2); (try clear hl1); (try clear hlc); (try clear hsz); (try clear s₁); (try clear hot); (try clear hpg); omega) | omega)))) (Or.inr (fun x y q => F9 _ _ (by (first | ((try clear y); (try clear F9); (try clear r1_); (try clear k1_); (try clear f1_); (try clear hμl); (try clear μl); (try clear hz9); (try clear hm2); (try clear hm1); (try clear hl2); (try clear hl1); (try clear hlc); (try clear hsz); (try clear s₁); (try clear hot); (try clear hpg); omega) | omega)))) (Or.inr (fun x y q1 q2 => F9 _ _ (by (first | ((try clear y); (try clear F9); (try clear r1_); (try clear k1_); (try clear f1_); (try clear hμl); (try clear μl); (try clear hz9); (try clear hm2); (try clear hm1); (try clear hl2); (try clear hl1); (try clear hlc); (try clear hsz); (try clear s₁); (try clear hot); (try clear hpg); omega) | omega)))), F9, r1_.1, r1_.2⟩)⟩, by rw [ht9]; exact hP, va_K.moved hW9.alike hK⟩, hS.F ht9⟩) hS.2.2 dX9_costBetween_25
set_option maxHeartbeats 4000000 in
set_option maxRecDepth 100000 in
theorem LX9_countFitting_4 {p : Program} {l : Launch} {e : Env} {R : Room} {s : State} {m : MethodId} {args : Array Value} {below : List Frame} {meth : Method} {c : Code} {cells slots : Nat} {Q : State → Prop} {dC : Nat → ClassId} {dI : Nat → Nat → Nat} {h0 : Nat} {cI cZ cII cIII : ClassId} (hx : p.tables.exec = Jvm.exec) (hb : c.code = cX9_countFitting) (hml : c.maxLocals = 4) (hown : s.vm.findClass RX9 = some m.cls) (hts : ∀ w ∈ wsG, w.before args s = true) (hK : va_K (dC, dI) vwCl (sT cI cZ cII cIII) s) (hM : xM s) (hRf : 5 ≤ R.frames) (hRl : 113 ≤ R.locals) (hRc : cells ≤ R.cells) (hRs : slots ≤ R.slots) (μ0 : va_M) (T : List Tk) (hI : CI T μ0) (hexit51 : ∀ (i : Int) (fi : Int) (μ : va_M) (H : Heap) (locs : List Loc) (ls : Array Slot), (fr (fun x y => x = 46 ∨ x = 47) μ0 μ) → (aB μ) → va_P (dC, dI) vwCl (fw (sE cI cZ cII cIII h0) h0 233 μ) H → va_S (fA h0 233 s.heap.size) s.heap H locs → lv_has ls 4 [(2, .int (iZ (fi)))] → W p l e R s m args below meth c H locs cells slots Q (F0 m 51 ls [])) :
    ∀ (n9 : Nat) (i : Int) (fi : Int) (μ : va_M) (H : Heap) (locs : List Loc) (ls : Array Slot), (0 ≤ i ∧ i ≤ μ0 0 2) → (fr (fun x y => x = 46 ∨ x = 47) μ0 μ) → (aB μ) → (9 - i).toNat < n9 → va_P (dC, dI) vwCl (fw (sE cI cZ cII cIII h0) h0 233 μ) H → va_S (fA h0 233 s.heap.size) s.heap H locs → lv_has ls 4 [(3, .int (iZ (i))), (2, .int (iZ (fi))), (1, .ref (h0 + 12)), (0, .ref h0)] → W p l e R s m args below meth c H locs cells slots Q (F0 m 4 ls []) := by
  intro n9
  induction n9 with
  | zero => intro i fi μ H locs ls hi hf hA hm9 hP hS hl; exact absurd hm9 (Nat.not_lt_zero _)
  | succ n9 ih =>
    intro i fi μ H locs ls hi hf hA hm9 hP hS hl
    have hlc := CI_lc hI
    have x2 : μ 0 2 = μ0 0 2 := hf _ _ (by (first | ((try clear x2); (try clear hlc); (try clear hm9); (try clear hA); (try clear hf); (try clear hi); (try clear hexit51); (try clear hRs); (try clear hRc); (try clear hRl); (try clear hRf); omega) | omega))
    refine lv_iload_n hx hb dX9_countFitting_4 rfl (lv_at hl 0 rfl) ?_
    refine lv_aload_n hx hb dX9_countFitting_5 rfl (lv_at hl 3 rfl) ?_
    refine fz_get (D := (dC, dI)) (ci := 9) (v := .int (iZ (μ 0 2))) (C := RX9) (T := TX9) (N := 15) hx hb hts inG9 hown hK hP (k := 0) (by decide) (F := (sF0 h0)) sE_0 rfl 2 (by decide) (hts _ k334) (fun _ h9 => h9) rfl dX9_countFitting_6 ?_
    refine fz_icmp_ge (tgt := 51) (by constructor <;> (first | ((try clear hm9); (try clear hA); (try clear hf); (try clear hexit51); (try clear hRs); (try clear hRc); (try clear hRl); (try clear hRf); omega) | omega)) (by constructor <;> (first | ((try clear hm9); (try clear hA); (try clear hf); (try clear hi); (try clear hexit51); (try clear hRs); (try clear hRc); (try clear hRl); (try clear hRf); omega) | omega)) hx hb dX9_countFitting_9 (by decide) (fun c9_ => ?_) (fun c9_ => ?_)
    · exact hexit51 (i) (fi) μ H locs ls (by exact hf) (by exact hA) hP hS (lv_sub hl [1] rfl)
    · obtain ⟨hl1, hl2⟩ := CI_lf hI i hi.1 (by (first | ((try clear hl2); (try clear hl1); (try clear hm9); (try clear hA); (try clear hf); (try clear hi); (try clear hexit51); (try clear hRs); (try clear hRc); (try clear hRl); (try clear hRf); omega) | omega))
      have xb : ∀ y, μ (113 + i.toNat * 15) y = μ0 (113 + i.toNat * 15) y := fun y => hf _ _ (by (first | ((try clear y); (try clear xb); (try clear hl2); (try clear hl1); (try clear c9_); (try clear x2); (try clear hlc); (try clear hm9); (try clear hA); (try clear hf); (try clear hi); (try clear hexit51); (try clear hRs); (try clear hRc); (try clear hRl); (try clear hRf); omega) | omega))
      have xc := xb 2
      have hn9 := hl1.1.1
      refine lv_aload_n hx hb dX9_countFitting_12 rfl (lv_at hl 3 rfl) ?_
      refine fz_get (D := (dC, dI)) (ci := 9) (v := .ref (h0 + 45)) (C := RX9) (T := TX9) (N := 15) hx hb hts inG9 hown hK hP (k := 0) (by decide) (F := (sF0 h0)) sE_0 rfl 10 (by decide) (hts _ k342) (fun _ h9 => h9) rfl dX9_countFitting_13 ?_
      refine lv_aload_n hx hb dX9_countFitting_16 rfl (lv_at hl 2 rfl) ?_
      refine lv_aload_n hx hb dX9_countFitting_17 rfl (lv_at hl 3 rfl) ?_
      refine fz_get (D := (dC, dI)) (ci := 9) (v := .ref (h0 + 5)) (C := RX9) (T := TX9) (N := 15) hx hb hts inG9 hown hK hP (k := 0) (by decide) (F := (sF0 h0)) sE_0 rfl 1 (by decide) (hts _ k333) (fun _ h9 => h9) rfl dX9_countFitting_18 ?_
      refine lv_iload_n hx hb dX9_countFitting_21 rfl (lv_at hl 0 rfl) ?_
      refine fz_ald (k := 5) (n := 8) (k2 := (113 + (i).toNat * 15)) hx hb hK hP 1 rfl (by decide) sE_5 rfl ⟨by (first | ((try clear hn9); (try clear xc); (try clear xb); (try clear hl2); (try clear hl1); (try clear c9_); (try clear x2); (try clear hlc); (try clear hm9); (try clear hA); (try clear hf); (try clear hexit51); (try clear hRs); (try clear hRc); (try clear hRl); (try clear hRf); omega) | omega), by (first | ((try clear hn9); (try clear xc); (try clear xb); (try clear hl2); (try clear hl1); (try clear hm9); (try clear hA); (try clear hf); (try clear hi); (try clear hexit51); (try clear hRs); (try clear hRc); (try clear hRl); (try clear hRf); omega) | omega)⟩ (by decide) (if_pos (by (first | ((try clear hn9); (try clear xc); (try clear xb); (try clear hl2); (try clear hl1); (try clear hm9); (try clear hA); (try clear hf); (try clear hi); (try clear hexit51); (try clear hRs); (try clear hRc); (try clear hRl); (try clear hRf); omega) | omega))) dX9_countFitting_22 ?_
      refine fz_get (D := (dC, dI)) (ci := 1) (v := .ref (h0 + ((113 + (i).toNat * 15) + 2))) (C := RX1) (T := TX1) (N := 8) hx hb hts inG1 hown hK hP (k := (113 + (i).toNat * 15)) (by (first | ((try clear hn9); (try clear xc); (try clear xb); (try clear hl2); (try clear hl1); (try clear hm9); (try clear hA); (try clear hf); (try clear hi); (try clear hexit51); (try clear hRs); (try clear hRc); (try clear hRl); (try clear hRf); omega) | omega)) (F := (sLF h0 (113 + (i).toNat * 15))) (sE_leafO (show (i).toNat < 8 by (first | ((try clear hn9); (try clear xc); (try clear xb); (try clear hl2); (try clear hl1); (try clear hm9); (try clear hA); (try clear hf); (try clear hi); (try clear hexit51); (try clear hRs); (try clear hRc); (try clear hRl); (try clear hRf); omega) | omega)) rfl) rfl 1 (by decide) (hts _ k299) (fun _ h9 => h9) rfl dX9_countFitting_23 ?_
      refine lv_aload_n hx hb dX9_countFitting_26 rfl (lv_at hl 3 rfl) ?_
      refine fz_get (D := (dC, dI)) (ci := 9) (v := .ref (h0 + 5)) (C := RX9) (T := TX9) (N := 15) hx hb hts inG9 hown hK hP (k := 0) (by decide) (F := (sF0 h0)) sE_0 rfl 1 (by decide) (hts _ k333) (fun _ h9 => h9) rfl dX9_countFitting_27 ?_
      refine lv_iload_n hx hb dX9_countFitting_30 rfl (lv_at hl 0 rfl) ?_
      refine fz_ald (k := 5) (n := 8) (k2 := (113 + (i).toNat * 15)) hx hb hK hP 1 rfl (by decide) sE_5 rfl ⟨by (first | ((try clear hn9); (try clear xc); (try clear xb); (try clear hl2); (try clear hl1); (try clear c9_); (try clear x2); (try clear hlc); (try clear hm9); (try clear hA); (try clear hf); (try clear hexit51); (try clear hRs); (try clear hRc); (try clear hRl); (try clear hRf); omega) | omega), by (first | ((try clear hn9); (try clear xc); (try clear xb); (try clear hl2); (try clear hl1); (try clear hm9); (try clear hA); (try clear hf); (try clear hi); (try clear hexit51); (try clear hRs); (try clear hRc); (try clear hRl); (try clear hRf); omega) | omega)⟩ (by decide) (if_pos (by (first | ((try clear hn9); (try clear xc); (try clear xb); (try clear hl2); (try clear hl1); (try clear hm9); (try clear hA); (try clear hf); (try clear hi); (try clear hexit51); (try clear hRs); (try clear hRc); (try clear hRl); (try clear hRf); omega) | omega))) dX9_countFitting_31 ?_
      refine fz_get (D := (dC, dI)) (ci := 1) (v := .int (iZ (μ (113 + (i).toNat * 15) 2))) (C := RX1) (T := TX1) (N := 8) hx hb hts inG1 hown hK hP (k := (113 + (i).toNat * 15)) (by (first | ((try clear hn9); (try clear xc); (try clear xb); (try clear hl2); (try clear hl1); (try clear hm9); (try clear hA); (try clear hf); (try clear hi); (try clear hexit51); (try clear hRs); (try clear hRc); (try clear hRl); (try clear hRf); omega) | omega)) (F := (sLF h0 (113 + (i).toNat * 15))) (sE_leafO (show (i).toNat < 8 by (first | ((try clear hn9); (try clear xc); (try clear xb); (try clear hl2); (try clear hl1); (try clear hm9); (try clear hA); (try clear hf); (try clear hi); (try clear hexit51); (try clear hRs); (try clear hRc); (try clear hRl); (try clear hRf); omega) | omega)) rfl) rfl 2 (by decide) (hts _ k301) (fun _ h9 => h9) rfl dX9_countFitting_32 ?_
      refine lv_iconst (v := iZ 0) hx hb dX9_countFitting_35 rfl ?_
      refine va_calli (va_runV (As := [.ref (h0 + 12), .ref (h0 + ((113 + (i).toNat * 15) + 2)), .int (iZ (μ (113 + (i).toNat * 15) 2)), .int (iZ (0))]) (rest := []) ⟨hx, hb, hml, hown, hts⟩ (s_WgoThrough l dC dI cI cZ cII cIII h0 H.size μ (12) (1100) (((113 + (i).toNat * 15) + 2)) (60) (μ (113 + (i).toNat * 15) 2) (0) (rowB_12) (by exact rG_fr hI.1.2.2.2.1 (fun x y q1 q2 => hf _ _ (by (first | ((try clear y); (try clear hn9); (try clear xc); (try clear xb); (try clear hl2); (try clear hl1); (try clear c9_); (try clear x2); (try clear hlc); (try clear hm9); (try clear hA); (try clear hf); (try clear hi); (try clear hexit51); (try clear hRs); (try clear hRc); (try clear hRl); (try clear hRf); omega) | omega)))) (by exact hA) (by (first | ((try clear hn9); (try clear xc); (try clear xb); (try clear hl2); (try clear hl1); (try clear hm9); (try clear hA); (try clear hf); (try clear hi); (try clear hexit51); (try clear hRs); (try clear hRc); (try clear hRl); (try clear hRf); omega) | omega)) ((sE_leafA 2 60 (show (i).toNat < 8 by (first | ((try clear hn9); (try clear xc); (try clear xb); (try clear hl2); (try clear hl1); (try clear hm9); (try clear hA); (try clear hf); (try clear hi); (try clear hexit51); (try clear hRs); (try clear hRc); (try clear hRl); (try clear hRf); omega) | omega)) rfl (by decide))) (by
                    intro j
                    have := hl1.2.2.1 j
                    rw [hf _ _ (by (first | ((try clear hn9); (try clear xc); (try clear xb); (try clear hl2); (try clear hl1); (try clear c9_); (try clear x2); (try clear hlc); (try clear hm9); (try clear hA); (try clear hf); (try clear hi); (try clear hexit51); (try clear hRs); (try clear hRc); (try clear hRl); (try clear hRf); omega) | omega))]
                    constructor <;> (first | ((try clear hn9); (try clear xc); (try clear xb); (try clear hl2); (try clear hl1); (try clear c9_); (try clear x2); (try clear hlc); (try clear hm9); (try clear hA); (try clear hf); (try clear hi); (try clear hexit51); (try clear hRs); (try clear hRc); (try clear hRl); (try clear hRf); omega) | omega)) (by (first | ((try clear j); (try clear xb); (try clear hl2); (try clear hl1); (try clear c9_); (try clear x2); (try clear hlc); (try clear hm9); (try clear hA); (try clear hf); (try clear hi); (try clear hexit51); (try clear hRs); (try clear hRc); (try clear hRl); (try clear hRf); omega) | omega)) (by decide)) (cwV 4 hts (gV_G k848 k544 k545 k8 k546) rfl rfl rfl (by decide +kernel) ⟨by show 4 + 1 ≤ _; (first | ((try clear j); (try clear hn9); (try clear xc); (try clear xb); (try clear hl2); (try clear hl1); (try clear c9_); (try clear x2); (try clear hlc); (try clear hm9); (try clear hA); (try clear hf); (try clear hi); (try clear hexit51); (try clear hRs); (try clear hRc); (try clear hRl); omega) | omega), by show 8 + (9 + 11) + (85) ≤ _; (first | ((try clear j); (try clear hn9); (try clear xc); (try clear xb); (try clear hl2); (try clear hl1); (try clear c9_); (try clear x2); (try clear hlc); (try clear hm9); (try clear hA); (try clear hf); (try clear hi); (try clear hexit51); (try clear hRs); (try clear hRc); (try clear hRf); omega) | omega)⟩) ⟨fun a U g mk q => by obtain ⟨q0, q1, qP, qK, qM⟩ := q; exact ⟨q0, q1, qP, va_K.moved (u := U) (U := U.calling g mk a) (Vm.Alike.refl U.vm) qK, qM⟩, va_recv hK hP (ci := 8) (q0 := 45) rfl ((fw_get (by decide)).trans (by rw [sE_45])), fun U hU hW => ⟨rfl, by rw [hU], by rw [hU]; exact hP, va_K.moved hW.alike hK, xM_warm hW hM⟩⟩ rfl rfl hl.1 rfl (lv_room (Nat.le_of_ble_eq_true rfl)) dX9_countFitting_36 ⟨hRc, hRs⟩) hS (fun q _ h => fA_le hS.1 q h) (fA_le hS.1) (fun r9 u9 t9 H1 locs ht9 hvm9 hw9 hB9 hz9 hk9 hS => ?_)
      obtain ⟨μg, rg⟩ := u9
      obtain ⟨hP, -⟩ := hB9
      rw [ht9] at hP
      generalize H1 = H at hP hS ⊢
      obtain ⟨e9, hw9⟩ := hw9
      have e9 : r9 = iZ rg := e9
      subst e9
      simp only at hP hw9
      have hμg := hw9; clear hw9
      obtain ⟨f1_, a1_, r1_, r2_⟩ := hμg
      refine fz_if_le (tgt := 45) (by constructor <;> (first | ((try clear a1_); (try clear f1_); (try clear hμg); (try clear μg); (try clear hn9); (try clear xc); (try clear xb); (try clear hl2); (try clear hl1); (try clear c9_); (try clear x2); (try clear hlc); (try clear hm9); (try clear hA); (try clear hf); (try clear hi); (try clear hexit51); (try clear hRs); (try clear hRc); (try clear hRl); (try clear hRf); omega) | omega)) hx hb dX9_countFitting_39 (by decide) (fun c39_ => ?_) (fun c39_ => ?_)
      · refine lv_iinc (v := iZ (i + 1)) (lv' := [(3, .int (iZ (i + 1))), (2, .int (iZ (fi))), (1, .ref (h0 + 12)), (0, .ref h0)]) hx hb dX9_countFitting_45 hl (k := 0) rfl (iZ_add _ _) (by decide) rfl (fun ls hl => ?_)
        refine lv_goto (tgt := 4) hx hb dX9_countFitting_48 (by decide) ?_
        exact ih (i + 1) (fi) μg H locs ls (by (first | ((try clear c39_); (try clear r2_); (try clear r1_); (try clear a1_); (try clear f1_); (try clear hμg); (try clear μg); (try clear hn9); (try clear xc); (try clear xb); (try clear hl2); (try clear hl1); (try clear hlc); (try clear hm9); (try clear hA); (try clear hf); (try clear hexit51); (try clear hRs); (try clear hRc); (try clear hRl); (try clear hRf); omega) | omega)) (by exact fr_trans hf f1_) (by exact a1_) (by (first | ((try clear c39_); (try clear r2_); (try clear r1_); (try clear a1_); (try clear f1_); (try clear hμg); (try clear μg); (try clear hn9); (try clear xc); (try clear xb); (try clear hl2); (try clear hl1); (try clear hA); (try clear hf); (try clear hexit51); (try clear hRs); (try clear hRc); (try clear hRl); (try clear hRf); omega) | omega)) hP hS (lv_sub hl [0, 1, 2, 3] rfl)
      · refine lv_iinc (v := iZ (fi + 1)) (lv' := [(2, .int (iZ (fi + 1))), (3, .int (iZ (i))), (1, .ref (h0 + 12)), (0, .ref h0)]) hx hb dX9_countFitting_42 hl (k := 1) rfl (iZ_add _ _) (by decide) rfl (fun ls hl => ?_)
        refine lv_iinc (v := iZ (i + 1)) (lv' := [(3, .int (iZ (i + 1))), (2, .int (iZ (fi + 1))), (1, .ref (h0 + 12)), (0, .ref h0)]) hx hb dX9_countFitting_45 hl (k := 1) rfl (iZ_add _ _) (by decide) rfl (fun ls hl => ?_)
        refine lv_goto (tgt := 4) hx hb dX9_countFitting_48 (by decide) ?_
        exact ih (i + 1) (fi + 1) μg H locs ls (by (first | ((try clear c39_); (try clear r2_); (try clear r1_); (try clear a1_); (try clear f1_); (try clear hμg); (try clear μg); (try clear hn9); (try clear xc); (try clear xb); (try clear hl2); (try clear hl1); (try clear hlc); (try clear hm9); (try clear hA); (try clear hf); (try clear hexit51); (try clear hRs); (try clear hRc); (try clear hRl); (try clear hRf); omega) | omega)) (by exact fr_trans hf f1_) (by exact a1_) (by (first | ((try clear c39_); (try clear r2_); (try clear r1_); (try clear a1_); (try clear f1_); (try clear hμg); (try clear μg); (try clear hn9); (try clear xc); (try clear xb); (try clear hl2); (try clear hl1); (try clear hA); (try clear hf); (try clear hexit51); (try clear hRs); (try clear hRc); (try clear hRl); (try clear hRf); omega) | omega)) hP hS (lv_sub hl [0, 1, 2, 3] rfl)
set_option maxHeartbeats 4000000 in
set_option maxRecDepth 100000 in
theorem s_countFitting (l : Launch) (dC : Nat → ClassId) (dI : Nat → Nat → Nat) (cI cZ cII cIII : ClassId) (h0 sz : Nat) (μ : va_M) (T : List Tk) (hI : CI T μ) : Met l yX9_countFitting (Cond.code yX9_countFitting cX9_countFitting 4 (some .int) :: wsG) ({ frames := 5, cells := 0, slots := 0, locals := 113 } : Room) (va_Pc [.ref h0, .ref (h0 + 12)] (fun U => U.heap.size = sz ∧ va_P (dC, dI) vwCl (fw (sE cI cZ cII cIII h0) h0 233 μ) U.heap ∧ va_K (dC, dI) vwCl (sT cI cZ cII cIII) U ∧ xM U)) (va_Qi (fun (r9 : Int32) (u : va_M × Int) => r9 = iZ u.2 ∧ (fun (u : va_M) (r : Int) => fr (fun x y => x = 46 ∨ x = 47) μ u ∧ aB u) u.1 u.2) (fun u t => va_P (dC, dI) vwCl (fw (sE cI cZ cII cIII h0) h0 233 u.1) t.heap ∧ va_K (dC, dI) vwCl (sT cI cZ cII cIII) t) (fA h0 233 sz)) 0 0 (fA h0 233 sz) := by
  refine Met.ofW (cc := cX9_countFitting) (maxL := 4) (ret := (some .int)) (by decide) rfl ?_
  intro p e s m args below meth c s₁ B hml hv
  obtain ⟨rfl, hsz, hP, hK, hM⟩ := hv
  have hx := B.exec
  have hb := B.bytes
  have hr := B.returns
  have hts : ∀ w ∈ wsG, w.before _ s = true := hG_of (atoms_spec (ws := (Cond.code yX9_countFitting cX9_countFitting 4 (some .int) :: wsG)) B.pre)
  have hown : s.vm.findClass RX9 = some m.cls := findClass_of_methodNamed B.named
  have hlocks := B.notSynchronized
  subst hsz
  have hS : va_S (fA h0 233 s.heap.size) s.heap s.heap [] := va_S.rf
  have hl := lv_entry ([.ref h0, .ref (h0 + 12)]) (n := 4) (Nat.le_of_ble_eq_true rfl)
  rw [lg_entry_eq]
  generalize (lg_sl ([.ref h0, .ref (h0 + 12)]) ++ List.replicate (4 - (lg_sl ([.ref h0, .ref (h0 + 12)])).length) Slot.unset).toArray = ls at hl ⊢
  have hl : lv_has ls 4 [(0, .ref h0), (1, .ref (h0 + 12))] := hl
  refine lv_iconst (v := iZ 0) hx hb dX9_countFitting_0 rfl ?_
  refine lv_istore_n (lv' := [(2, .int (iZ (0))), (0, .ref h0), (1, .ref (h0 + 12))]) hx hb dX9_countFitting_1 rfl hl (by decide) rfl (fun ls hl => ?_)
  refine lv_iconst (v := iZ 0) hx hb dX9_countFitting_2 rfl ?_
  refine lv_istore_n (lv' := [(3, .int (iZ (0))), (2, .int (iZ (0))), (0, .ref h0), (1, .ref (h0 + 12))]) hx hb dX9_countFitting_3 rfl hl (by decide) rfl (fun ls hl => ?_)
  refine LX9_countFitting_4 hx hb hml hown hts hK hM (Nat.le_of_ble_eq_true rfl) (Nat.le_of_ble_eq_true rfl) (Nat.le_of_ble_eq_true rfl) (Nat.le_of_ble_eq_true rfl) (μ) (T) (by exact hI) ?_ _ (0) (0) μ s.heap [] ls (by have := CI_lc hI; (first | ((try clear hsz); (try clear s₁); omega) | omega)) (by exact fr_rfl) (by exact hI.1.2.2.2.2.2.1) (Nat.lt_succ_self _) hP hS (lv_sub hl [0, 1, 3, 2] rfl)
  · intro i_1 fi_1 μ1_ H locs ls q1_1 q2_1 hP hS hl
    have hl : lv_has ls 4 [(2, .int (iZ (fi_1)))] := hl
    refine lv_iload_n hx hb dX9_countFitting_51 rfl (lv_at hl 0 rfl) ?_
    exact W.iret (v := iZ (fi_1)) hx hb hr (fun t9 ht9 hW9 => ⟨⟨iZ (fi_1), (μ1_, fi_1), rfl, ⟨rfl, (by
                dsimp only
                exact ⟨q1_1, q2_1⟩)⟩, by rw [ht9]; exact hP, va_K.moved hW9.alike hK⟩, hS.F ht9⟩) hS.2.2 dX9_countFitting_52
set_option maxHeartbeats 4000000 in
set_option maxRecDepth 100000 in
theorem LX9_pagesWith_4 {p : Program} {l : Launch} {e : Env} {R : Room} {s : State} {m : MethodId} {args : Array Value} {below : List Frame} {meth : Method} {c : Code} {cells slots : Nat} {Q : State → Prop} {dC : Nat → ClassId} {dI : Nat → Nat → Nat} {h0 : Nat} {cI cZ cII cIII : ClassId} (hx : p.tables.exec = Jvm.exec) (hb : c.code = cX9_pagesWith) (hml : c.maxLocals = 4) (hown : s.vm.findClass RX9 = some m.cls) (hts : ∀ w ∈ wsG, w.before args s = true) (hK : va_K (dC, dI) vwCl (sT cI cZ cII cIII) s) (hM : xM s) (hRf : 2 ≤ R.frames) (hRl : 36 ≤ R.locals) (hRc : cells ≤ R.cells) (hRs : slots ≤ R.slots) (μ0 : va_M) (T : List Tk) (tk : Int) (hI : CI T μ0) (htk : inR tk) (hexit34 : ∀ (i : Int) (wi : Int) (μ : va_M) (H : Heap) (locs : List Loc) (ls : Array Slot), (μ = μ0) → va_P (dC, dI) vwCl (fw (sE cI cZ cII cIII h0) h0 233 μ) H → va_S (fA h0 233 s.heap.size) s.heap H locs → lv_has ls 4 [(2, .int (iZ (wi)))] → W p l e R s m args below meth c H locs cells slots Q (F0 m 34 ls [])) :
    ∀ (n9 : Nat) (i : Int) (wi : Int) (μ : va_M) (H : Heap) (locs : List Loc) (ls : Array Slot), (μ = μ0) → (0 ≤ i ∧ i ≤ μ0 0 2) → (9 - i).toNat < n9 → va_P (dC, dI) vwCl (fw (sE cI cZ cII cIII h0) h0 233 μ) H → va_S (fA h0 233 s.heap.size) s.heap H locs → lv_has ls 4 [(3, .int (iZ (i))), (2, .int (iZ (wi))), (1, .int (iZ (tk))), (0, .ref h0)] → W p l e R s m args below meth c H locs cells slots Q (F0 m 4 ls []) := by
  intro n9
  induction n9 with
  | zero => intro i wi μ H locs ls hm9_ hi hm9 hP hS hl; exact absurd hm9 (Nat.not_lt_zero _)
  | succ n9 ih =>
    intro i wi μ H locs ls hm9_ hi hm9 hP hS hl
    subst hm9_
    have hlc := CI_lc hI
    refine lv_iload_n hx hb dX9_pagesWith_4 rfl (lv_at hl 0 rfl) ?_
    refine lv_aload_n hx hb dX9_pagesWith_5 rfl (lv_at hl 3 rfl) ?_
    refine fz_get (D := (dC, dI)) (ci := 9) (v := .int (iZ (μ 0 2))) (C := RX9) (T := TX9) (N := 15) hx hb hts inG9 hown hK hP (k := 0) (by decide) (F := (sF0 h0)) sE_0 rfl 2 (by decide) (hts _ k334) (fun _ h9 => h9) rfl dX9_pagesWith_6 ?_
    refine fz_icmp_ge (tgt := 34) (by constructor <;> (first | ((try clear hm9); (try clear hm9_); (try clear hexit34); (try clear hRs); (try clear hRc); (try clear hRl); (try clear hRf); omega) | omega)) (by constructor <;> (first | ((try clear hm9); (try clear hi); (try clear hm9_); (try clear hexit34); (try clear hRs); (try clear hRc); (try clear hRl); (try clear hRf); omega) | omega)) hx hb dX9_pagesWith_9 (by decide) (fun c9_ => ?_) (fun c9_ => ?_)
    · exact hexit34 (i) (wi) μ H locs ls (by rfl) hP hS (lv_sub hl [1] rfl)
    · obtain ⟨hl1, hl2⟩ := CI_lf hI i hi.1 (by (first | ((try clear hl2); (try clear hl1); (try clear hm9); (try clear hi); (try clear hm9_); (try clear hexit34); (try clear hRs); (try clear hRc); (try clear hRl); (try clear hRf); omega) | omega))
      refine lv_aload_n hx hb dX9_pagesWith_12 rfl (lv_at hl 3 rfl) ?_
      refine fz_get (D := (dC, dI)) (ci := 9) (v := .ref (h0 + 5)) (C := RX9) (T := TX9) (N := 15) hx hb hts inG9 hown hK hP (k := 0) (by decide) (F := (sF0 h0)) sE_0 rfl 1 (by decide) (hts _ k333) (fun _ h9 => h9) rfl dX9_pagesWith_13 ?_
      refine lv_iload_n hx hb dX9_pagesWith_16 rfl (lv_at hl 0 rfl) ?_
      refine fz_ald (k := 5) (n := 8) (k2 := (113 + (i).toNat * 15)) hx hb hK hP 1 rfl (by decide) sE_5 rfl ⟨by (first | ((try clear hl2); (try clear hl1); (try clear c9_); (try clear hlc); (try clear hm9); (try clear hm9_); (try clear hexit34); (try clear hRs); (try clear hRc); (try clear hRl); (try clear hRf); omega) | omega), by (first | ((try clear hl2); (try clear hl1); (try clear hm9); (try clear hi); (try clear hm9_); (try clear hexit34); (try clear hRs); (try clear hRc); (try clear hRl); (try clear hRf); omega) | omega)⟩ (by decide) (if_pos (by (first | ((try clear hl2); (try clear hl1); (try clear hm9); (try clear hi); (try clear hm9_); (try clear hexit34); (try clear hRs); (try clear hRc); (try clear hRl); (try clear hRf); omega) | omega))) dX9_pagesWith_17 ?_
      refine lv_iload_n hx hb dX9_pagesWith_18 rfl (lv_at hl 2 rfl) ?_
      refine va_calli (va_runV (As := [.int (iZ (tk))]) (rest := []) ⟨hx, hb, hml, hown, hts⟩ (s_Fhas l dC dI cI cZ cII cIII h0 H.size μ ((113 + (i).toNat * 15)) ((i).toNat) (tk) (rfl) ((show (i).toNat < 8 by (first | ((try clear hl2); (try clear hl1); (try clear hm9); (try clear hi); (try clear hm9_); (try clear hexit34); (try clear hRs); (try clear hRc); (try clear hRl); (try clear hRf); omega) | omega))) (by exact hl1) (by exact htk)) (cwV 1 hts (gV_G k898 k899 k900 k10 k901) rfl rfl rfl (by decide +kernel) ⟨by show 1 + 1 ≤ _; (first | ((try clear hl2); (try clear hl1); (try clear c9_); (try clear hlc); (try clear hm9); (try clear hi); (try clear hm9_); (try clear hexit34); (try clear hRs); (try clear hRc); (try clear hRl); omega) | omega), by show 8 + (3 + 11) + (14) ≤ _; (first | ((try clear hl2); (try clear hl1); (try clear c9_); (try clear hlc); (try clear hm9); (try clear hi); (try clear hm9_); (try clear hexit34); (try clear hRs); (try clear hRc); (try clear hRf); omega) | omega)⟩) ⟨fun a U g mk q => by obtain ⟨q0, q1, qP, qK, qM⟩ := q; exact ⟨q0, q1, qP, va_K.moved (u := U) (U := U.calling g mk a) (Vm.Alike.refl U.vm) qK, qM⟩, va_recv hK hP (ci := 1) (q0 := (113 + (i).toNat * 15)) rfl ((fw_get (by (first | ((try clear q); (try clear mk); (try clear g); (try clear U); (try clear hl2); (try clear hl1); (try clear hm9); (try clear hi); (try clear hm9_); (try clear hexit34); (try clear hRs); (try clear hRc); (try clear hRl); (try clear hRf); omega) | omega))).trans (by rw [(sE_leafO (show (i).toNat < 8 by (first | ((try clear q); (try clear mk); (try clear g); (try clear U); (try clear hl2); (try clear hl1); (try clear hm9); (try clear hi); (try clear hm9_); (try clear hexit34); (try clear hRs); (try clear hRc); (try clear hRl); (try clear hRf); omega) | omega)) rfl)])), fun U hU hW => ⟨rfl, by rw [hU], by rw [hU]; exact hP, va_K.moved hW.alike hK, xM_warm hW hM⟩⟩ rfl rfl hl.1 rfl (lv_room (Nat.le_of_ble_eq_true rfl)) dX9_pagesWith_19 ⟨hRc, hRs⟩) hS (fun q _ h => fA_le hS.1 q h) (fA_le hS.1) (fun r9 u9 t9 H1 locs ht9 hvm9 hw9 hB9 hz9 hk9 hS => ?_)
      obtain ⟨μh, rh⟩ := u9
      obtain ⟨hP, -⟩ := hB9
      rw [ht9] at hP
      generalize H1 = H at hP hS ⊢
      obtain ⟨e9, hw9⟩ := hw9
      have e9 : r9 = iZ rh := e9
      subst e9
      simp only at hP hw9
      have hμh := hw9; clear hw9
      rw [hμh.1] at hP; have hμh := hμh.2
      have hrh := hμh
      refine fz_if_eq (tgt := 28) (by constructor <;> (first | ((try clear hμh); (try clear μh); (try clear hz9); (try clear hl2); (try clear hl1); (try clear c9_); (try clear hlc); (try clear hm9); (try clear hi); (try clear hm9_); (try clear hexit34); (try clear hRs); (try clear hRc); (try clear hRl); (try clear hRf); omega) | omega)) hx hb dX9_pagesWith_22 (by decide) (fun c22_ => ?_) (fun c22_ => ?_)
      · refine lv_iinc (v := iZ (i + 1)) (lv' := [(3, .int (iZ (i + 1))), (2, .int (iZ (wi))), (1, .int (iZ (tk))), (0, .ref h0)]) hx hb dX9_pagesWith_28 hl (k := 0) rfl (iZ_add _ _) (by decide) rfl (fun ls hl => ?_)
        refine lv_goto (tgt := 4) hx hb dX9_pagesWith_31 (by decide) ?_
        exact ih (i + 1) (wi) μ H locs ls (by rfl) (by (first | ((try clear c22_); (try clear hrh); (try clear hμh); (try clear μh); (try clear hz9); (try clear hl2); (try clear hl1); (try clear hlc); (try clear hm9); (try clear hm9_); (try clear hexit34); (try clear hRs); (try clear hRc); (try clear hRl); (try clear hRf); omega) | omega)) (by (first | ((try clear hz9); (try clear hl2); (try clear hl1); (try clear hm9_); (try clear hexit34); (try clear hRs); (try clear hRc); (try clear hRl); (try clear hRf); omega) | omega)) hP hS (lv_sub hl [0, 1, 2, 3] rfl)
      · refine lv_iinc (v := iZ (wi + 1)) (lv' := [(2, .int (iZ (wi + 1))), (3, .int (iZ (i))), (1, .int (iZ (tk))), (0, .ref h0)]) hx hb dX9_pagesWith_25 hl (k := 1) rfl (iZ_add _ _) (by decide) rfl (fun ls hl => ?_)
        refine lv_iinc (v := iZ (i + 1)) (lv' := [(3, .int (iZ (i + 1))), (2, .int (iZ (wi + 1))), (1, .int (iZ (tk))), (0, .ref h0)]) hx hb dX9_pagesWith_28 hl (k := 1) rfl (iZ_add _ _) (by decide) rfl (fun ls hl => ?_)
        refine lv_goto (tgt := 4) hx hb dX9_pagesWith_31 (by decide) ?_
        exact ih (i + 1) (wi + 1) μ H locs ls (by rfl) (by (first | ((try clear c22_); (try clear hrh); (try clear hμh); (try clear rh); (try clear μh); (try clear hz9); (try clear hl2); (try clear hl1); (try clear hlc); (try clear hm9); (try clear hm9_); (try clear hexit34); (try clear hRs); (try clear hRc); (try clear hRl); (try clear hRf); omega) | omega)) (by (first | ((try clear hz9); (try clear hl2); (try clear hl1); (try clear hm9_); (try clear hexit34); (try clear hRs); (try clear hRc); (try clear hRl); (try clear hRf); omega) | omega)) hP hS (lv_sub hl [0, 1, 2, 3] rfl)
set_option maxHeartbeats 4000000 in
set_option maxRecDepth 100000 in
theorem s_pagesWith (l : Launch) (dC : Nat → ClassId) (dI : Nat → Nat → Nat) (cI cZ cII cIII : ClassId) (h0 sz : Nat) (μ : va_M) (T : List Tk) (tk : Int) (hI : CI T μ) (htk : inR tk) : Met l yX9_pagesWith (Cond.code yX9_pagesWith cX9_pagesWith 4 (some .int) :: wsG) ({ frames := 2, cells := 0, slots := 0, locals := 36 } : Room) (va_Pc [.ref h0, .int (iZ (tk))] (fun U => U.heap.size = sz ∧ va_P (dC, dI) vwCl (fw (sE cI cZ cII cIII h0) h0 233 μ) U.heap ∧ va_K (dC, dI) vwCl (sT cI cZ cII cIII) U ∧ xM U)) (va_Qi (fun (r9 : Int32) (u : va_M × Int) => r9 = iZ u.2 ∧ (fun (u : va_M) (r : Int) => u = μ) u.1 u.2) (fun u t => va_P (dC, dI) vwCl (fw (sE cI cZ cII cIII h0) h0 233 u.1) t.heap ∧ va_K (dC, dI) vwCl (sT cI cZ cII cIII) t) (fA h0 233 sz)) 0 0 (fA h0 233 sz) := by
  refine Met.ofW (cc := cX9_pagesWith) (maxL := 4) (ret := (some .int)) (by decide) rfl ?_
  intro p e s m args below meth c s₁ B hml hv
  obtain ⟨rfl, hsz, hP, hK, hM⟩ := hv
  have hx := B.exec
  have hb := B.bytes
  have hr := B.returns
  have hts : ∀ w ∈ wsG, w.before _ s = true := hG_of (atoms_spec (ws := (Cond.code yX9_pagesWith cX9_pagesWith 4 (some .int) :: wsG)) B.pre)
  have hown : s.vm.findClass RX9 = some m.cls := findClass_of_methodNamed B.named
  have hlocks := B.notSynchronized
  subst hsz
  have hS : va_S (fA h0 233 s.heap.size) s.heap s.heap [] := va_S.rf
  have hl := lv_entry ([.ref h0, .int (iZ (tk))]) (n := 4) (Nat.le_of_ble_eq_true rfl)
  rw [lg_entry_eq]
  generalize (lg_sl ([.ref h0, .int (iZ (tk))]) ++ List.replicate (4 - (lg_sl ([.ref h0, .int (iZ (tk))])).length) Slot.unset).toArray = ls at hl ⊢
  have hl : lv_has ls 4 [(0, .ref h0), (1, .int (iZ (tk)))] := hl
  refine lv_iconst (v := iZ 0) hx hb dX9_pagesWith_0 rfl ?_
  refine lv_istore_n (lv' := [(2, .int (iZ (0))), (0, .ref h0), (1, .int (iZ (tk)))]) hx hb dX9_pagesWith_1 rfl hl (by decide) rfl (fun ls hl => ?_)
  refine lv_iconst (v := iZ 0) hx hb dX9_pagesWith_2 rfl ?_
  refine lv_istore_n (lv' := [(3, .int (iZ (0))), (2, .int (iZ (0))), (0, .ref h0), (1, .int (iZ (tk)))]) hx hb dX9_pagesWith_3 rfl hl (by decide) rfl (fun ls hl => ?_)
  refine LX9_pagesWith_4 hx hb hml hown hts hK hM (Nat.le_of_ble_eq_true rfl) (Nat.le_of_ble_eq_true rfl) (Nat.le_of_ble_eq_true rfl) (Nat.le_of_ble_eq_true rfl) (μ) (T) (tk) (by exact hI) (by assumption) ?_ _ (0) (0) μ s.heap [] ls (by rfl) (by have := CI_lc hI; (first | ((try clear hsz); (try clear s₁); omega) | omega)) (Nat.lt_succ_self _) hP hS (lv_sub hl [0, 1, 3, 2] rfl)
  · intro i_1 wi_1 μ1_ H locs ls q1_1 hP hS hl
    have hl : lv_has ls 4 [(2, .int (iZ (wi_1)))] := hl
    have hPn34 := hP
    have hln34 := hl
    obtain rfl := q1_1
    have hP := hPn34
    have hl := hln34
    refine lv_iload_n hx hb dX9_pagesWith_34 rfl (lv_at hl 0 rfl) ?_
    exact W.iret (v := iZ (wi_1)) hx hb hr (fun t9 ht9 hW9 => ⟨⟨iZ (wi_1), (μ1_, wi_1), rfl, ⟨rfl, (by
                dsimp only
                all_goals exact rfl)⟩, by rw [ht9]; exact hP, va_K.moved hW9.alike hK⟩, hS.F ht9⟩) hS.2.2 dX9_pagesWith_35

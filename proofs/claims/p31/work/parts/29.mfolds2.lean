set_option maxRecDepth 100000 in
theorem k1389 : (Cond.methodLink "PageSkeletonModel" (225 : Nat) ({ cls := "PageSkeletonModel", name := "lists", desc := "(III[I)I" } : MethodName)) ∈ wsG := wsG_a6 189 rfl rfl
set_option maxRecDepth 100000 in
theorem k1391 : (Cond.instanceMethod ({ cls := "PageSkeletonModel", name := "lists", desc := "(III[I)I" } : MethodName)) ∈ wsG := wsG_a6 191 rfl rfl
set_option maxRecDepth 100000 in
theorem k1392 : (Cond.code ({ cls := "PageSkeletonModel", name := "lists", desc := "(III[I)I" } : MethodName) prog_12_method_28_code (7 : Nat) (Option.some FieldType.int)) ∈ wsG := wsG_a6 192 rfl rfl
set_option maxRecDepth 100000 in
theorem ks_yX10_lists : Cond.selects RX10 yX10_lists yX10_lists ∈ wsG := wsG_p 59 rfl rfl
theorem dX10_foldsOne_0 : decode cX10_foldsOne 0 = .ok (.aload_n 0, 1) := by decide +kernel
theorem dX10_foldsOne_1 : decode cX10_foldsOne 1 = .ok (.iload_n 1, 1) := by decide +kernel
theorem dX10_foldsOne_2 : decode cX10_foldsOne 2 = .ok (.iconst 0, 1) := by decide +kernel
theorem dX10_foldsOne_3 : decode cX10_foldsOne 3 = .ok (.aload_n 0, 1) := by decide +kernel
theorem dX10_foldsOne_4 : decode cX10_foldsOne 4 = .ok (.getfield 54, 3) := by decide +kernel
theorem dX10_foldsOne_7 : decode cX10_foldsOne 7 = .ok (.iload_n 1, 1) := by decide +kernel
theorem dX10_foldsOne_8 : decode cX10_foldsOne 8 = .ok (.iaload, 1) := by decide +kernel
theorem dX10_foldsOne_9 : decode cX10_foldsOne 9 = .ok (.aload_n 0, 1) := by decide +kernel
theorem dX10_foldsOne_10 : decode cX10_foldsOne 10 = .ok (.getfield 64, 3) := by decide +kernel
theorem dX10_foldsOne_13 : decode cX10_foldsOne 13 = .ok (.iconst 0, 1) := by decide +kernel
theorem dX10_foldsOne_14 : decode cX10_foldsOne 14 = .ok (.aaload, 1) := by decide +kernel
theorem dX10_foldsOne_15 : decode cX10_foldsOne 15 = .ok (.invokevirtual 225, 3) := by decide +kernel
theorem dX10_foldsOne_18 : decode cX10_foldsOne 18 = .ok (.istore_n 2, 1) := by decide +kernel
theorem dX10_foldsOne_19 : decode cX10_foldsOne 19 = .ok (.aload_n 0, 1) := by decide +kernel
theorem dX10_foldsOne_20 : decode cX10_foldsOne 20 = .ok (.getfield 64, 3) := by decide +kernel
theorem dX10_foldsOne_23 : decode cX10_foldsOne 23 = .ok (.iconst 0, 1) := by decide +kernel
theorem dX10_foldsOne_24 : decode cX10_foldsOne 24 = .ok (.aaload, 1) := by decide +kernel
theorem dX10_foldsOne_25 : decode cX10_foldsOne 25 = .ok (.astore_n 3, 1) := by decide +kernel
theorem dX10_foldsOne_26 : decode cX10_foldsOne 26 = .ok (.iconst 1, 1) := by decide +kernel
theorem dX10_foldsOne_27 : decode cX10_foldsOne 27 = .ok (.istore 4, 2) := by decide +kernel
theorem dX10_foldsOne_29 : decode cX10_foldsOne 29 = .ok (.iconst 2, 1) := by decide +kernel
theorem dX10_foldsOne_30 : decode cX10_foldsOne 30 = .ok (.iload 4, 2) := by decide +kernel
theorem dX10_foldsOne_32 : decode cX10_foldsOne 32 = .ok (.imul, 1) := by decide +kernel
theorem dX10_foldsOne_33 : decode cX10_foldsOne 33 = .ok (.iload_n 2, 1) := by decide +kernel
theorem dX10_foldsOne_34 : decode cX10_foldsOne 34 = .ok (.if_icmp .gt 134, 3) := by decide +kernel
theorem dX10_foldsOne_37 : decode cX10_foldsOne 37 = .ok (.iconst 0, 1) := by decide +kernel
theorem dX10_foldsOne_38 : decode cX10_foldsOne 38 = .ok (.istore 5, 2) := by decide +kernel
theorem dX10_foldsOne_154 : decode cX10_foldsOne 154 = .ok (.iconst 1, 1) := by decide +kernel
theorem dX10_foldsOne_155 : decode cX10_foldsOne 155 = .ok (.ireturn, 1) := by decide +kernel
theorem dX10_foldsOne_162 : decode cX10_foldsOne 162 = .ok (.iinc 4 1, 3) := by decide +kernel
theorem dX10_foldsOne_165 : decode cX10_foldsOne 165 = .ok (.goto (-136), 3) := by decide +kernel
theorem dX10_foldsOne_168 : decode cX10_foldsOne 168 = .ok (.iconst 0, 1) := by decide +kernel
theorem dX10_foldsOne_169 : decode cX10_foldsOne 169 = .ok (.ireturn, 1) := by decide +kernel
/-- what a fold may change -/
def FQ (t x y : Nat) : Prop := x = 723 ∨ FP t x y

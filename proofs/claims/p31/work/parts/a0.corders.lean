set_option maxRecDepth 100000 in
theorem k98 : (Cond.fieldLink "PageSkeleton$Orders" (85 : Nat) "PageSkeleton$Row" "length" "I") ∈ wsG := wsG_a1 98 rfl rfl
set_option maxRecDepth 100000 in
theorem k399 : (Cond.instanceMethod ({ cls := "PageSkeleton$Row", name := "take", desc := "(LPageSkeleton$Row;)V" } : MethodName)) ∈ wsG := wsG_a2 159 rfl rfl
set_option maxRecDepth 100000 in
theorem k400 : (Cond.selects "PageSkeleton$Row" ({ cls := "PageSkeleton$Row", name := "take", desc := "(LPageSkeleton$Row;)V" } : MethodName) ({ cls := "PageSkeleton$Row", name := "take", desc := "(LPageSkeleton$Row;)V" } : MethodName)) ∈ wsG := wsG_a2 160 rfl rfl
set_option maxRecDepth 100000 in
theorem k401 : (Cond.code ({ cls := "PageSkeleton$Row", name := "take", desc := "(LPageSkeleton$Row;)V" } : MethodName) prog_6_method_5_code (2 : Nat) (Option.none : Option Jvm.ClassFile.FieldType)) ∈ wsG := wsG_a2 161 rfl rfl
set_option maxRecDepth 100000 in
theorem k763 : (Cond.instanceMethod ({ cls := "PageSkeleton$Layer", name := "leastCost", desc := "(LPageSkeleton$Row;LPageSkeleton$Row;)I" } : MethodName)) ∈ wsG := wsG_a4 43 rfl rfl
set_option maxRecDepth 100000 in
theorem k764 : (Cond.selects "PageSkeleton$Layer" ({ cls := "PageSkeleton$Layer", name := "leastCost", desc := "(LPageSkeleton$Row;LPageSkeleton$Row;)I" } : MethodName) ({ cls := "PageSkeleton$Layer", name := "leastCost", desc := "(LPageSkeleton$Row;LPageSkeleton$Row;)I" } : MethodName)) ∈ wsG := wsG_a4 44 rfl rfl
set_option maxRecDepth 100000 in
theorem k765 : (Cond.code ({ cls := "PageSkeleton$Layer", name := "leastCost", desc := "(LPageSkeleton$Row;LPageSkeleton$Row;)I" } : MethodName) prog_2_method_2_code (5 : Nat) (Option.some FieldType.int)) ∈ wsG := wsG_a4 45 rfl rfl
set_option maxRecDepth 100000 in
theorem k814 : (Cond.instanceMethod ({ cls := "PageSkeleton$Layer", name := "build", desc := "(LPageSkeleton$Row;LPageSkeleton$Row;LPageSkeleton$Row;)V" } : MethodName)) ∈ wsG := wsG_a4 94 rfl rfl
set_option maxRecDepth 100000 in
theorem k815 : (Cond.selects "PageSkeleton$Layer" ({ cls := "PageSkeleton$Layer", name := "build", desc := "(LPageSkeleton$Row;LPageSkeleton$Row;LPageSkeleton$Row;)V" } : MethodName) ({ cls := "PageSkeleton$Layer", name := "build", desc := "(LPageSkeleton$Row;LPageSkeleton$Row;LPageSkeleton$Row;)V" } : MethodName)) ∈ wsG := wsG_a4 95 rfl rfl
set_option maxRecDepth 100000 in
theorem k816 : (Cond.code ({ cls := "PageSkeleton$Layer", name := "build", desc := "(LPageSkeleton$Row;LPageSkeleton$Row;LPageSkeleton$Row;)V" } : MethodName) prog_2_method_9_code (6 : Nat) (Option.none : Option Jvm.ClassFile.FieldType)) ∈ wsG := wsG_a4 96 rfl rfl
set_option maxRecDepth 100000 in
theorem k1053 : (Cond.methodLink "PageSkeleton$Orders" (88 : Nat) ({ cls := "PageSkeleton$Row", name := "take", desc := "(LPageSkeleton$Row;)V" } : MethodName)) ∈ wsG := wsG_a5 93 rfl rfl
set_option maxRecDepth 100000 in
theorem k1054 : (Cond.methodLink "PageSkeleton$Orders" (92 : Nat) ({ cls := "PageSkeleton$Layer", name := "leastCost", desc := "(LPageSkeleton$Row;LPageSkeleton$Row;)I" } : MethodName)) ∈ wsG := wsG_a5 94 rfl rfl
set_option maxRecDepth 100000 in
theorem k1055 : (Cond.methodLink "PageSkeleton$Orders" (98 : Nat) ({ cls := "PageSkeleton$Layer", name := "build", desc := "(LPageSkeleton$Row;LPageSkeleton$Row;LPageSkeleton$Row;)V" } : MethodName)) ∈ wsG := wsG_a5 95 rfl rfl
set_option maxRecDepth 100000 in
theorem k1065 : (Cond.methodLink "PageSkeleton$Orders" (75 : Nat) ({ cls := "PageSkeleton$Orders", name := "swap", desc := "(II)V" } : MethodName)) ∈ wsG := wsG_a5 105 rfl rfl
set_option maxRecDepth 100000 in
theorem k1067 : (Cond.instanceMethod ({ cls := "PageSkeleton$Orders", name := "swap", desc := "(II)V" } : MethodName)) ∈ wsG := wsG_a5 107 rfl rfl
set_option maxRecDepth 100000 in
theorem k1068 : (Cond.code ({ cls := "PageSkeleton$Orders", name := "swap", desc := "(II)V" } : MethodName) prog_4_method_4_code (4 : Nat) (Option.none : Option Jvm.ClassFile.FieldType)) ∈ wsG := wsG_a5 108 rfl rfl
set_option maxRecDepth 100000 in
theorem k1073 : (Cond.methodLink "PageSkeleton$Orders" (79 : Nat) ({ cls := "PageSkeleton$Orders", name := "countUnlike", desc := "()I" } : MethodName)) ∈ wsG := wsG_a5 113 rfl rfl
set_option maxRecDepth 100000 in
theorem k1075 : (Cond.instanceMethod ({ cls := "PageSkeleton$Orders", name := "countUnlike", desc := "()I" } : MethodName)) ∈ wsG := wsG_a5 115 rfl rfl
set_option maxRecDepth 100000 in
theorem k1076 : (Cond.code ({ cls := "PageSkeleton$Orders", name := "countUnlike", desc := "()I" } : MethodName) prog_4_method_8_code (3 : Nat) (Option.some FieldType.int)) ∈ wsG := wsG_a5 116 rfl rfl
set_option maxRecDepth 100000 in
theorem k1077 : (Cond.methodLink "PageSkeleton$Orders" (82 : Nat) ({ cls := "PageSkeleton$Orders", name := "countLike", desc := "(II)I" } : MethodName)) ∈ wsG := wsG_a5 117 rfl rfl
set_option maxRecDepth 100000 in
theorem k1079 : (Cond.instanceMethod ({ cls := "PageSkeleton$Orders", name := "countLike", desc := "(II)I" } : MethodName)) ∈ wsG := wsG_a5 119 rfl rfl
set_option maxRecDepth 100000 in
theorem k1080 : (Cond.code ({ cls := "PageSkeleton$Orders", name := "countLike", desc := "(II)I" } : MethodName) prog_4_method_9_code (5 : Nat) (Option.some FieldType.int)) ∈ wsG := wsG_a5 120 rfl rfl
set_option maxRecDepth 100000 in
theorem k1081 : (Cond.methodLink "PageSkeleton$Orders" (111 : Nat) ({ cls := "PageSkeleton$Orders", name := "sameEnds", desc := "(II)Z" } : MethodName)) ∈ wsG := wsG_a5 121 rfl rfl
set_option maxRecDepth 100000 in
theorem k1083 : (Cond.instanceMethod ({ cls := "PageSkeleton$Orders", name := "sameEnds", desc := "(II)Z" } : MethodName)) ∈ wsG := wsG_a5 123 rfl rfl
set_option maxRecDepth 100000 in
theorem k1084 : (Cond.code ({ cls := "PageSkeleton$Orders", name := "sameEnds", desc := "(II)Z" } : MethodName) prog_4_method_10_code (4 : Nat) (Option.some FieldType.boolean)) ∈ wsG := wsG_a5 124 rfl rfl
set_option maxRecDepth 100000 in
theorem ks_yX2_swap : Cond.selects RX2 yX2_swap yX2_swap ∈ wsG := wsG_p 43 rfl rfl
set_option maxRecDepth 100000 in
theorem ks_yX2_sameEnds : Cond.selects RX2 yX2_sameEnds yX2_sameEnds ∈ wsG := wsG_p 47 rfl rfl
set_option maxRecDepth 100000 in
theorem ks_yX2_countLike : Cond.selects RX2 yX2_countLike yX2_countLike ∈ wsG := wsG_p 46 rfl rfl
set_option maxRecDepth 100000 in
theorem ks_yX2_countUnlike : Cond.selects RX2 yX2_countUnlike yX2_countUnlike ∈ wsG := wsG_p 45 rfl rfl
theorem dX2_countLike_0 : decode cX2_countLike 0 = .ok (.iconst 0, 1) := by decide +kernel
theorem dX2_countLike_1 : decode cX2_countLike 1 = .ok (.istore_n 3, 1) := by decide +kernel
theorem dX2_countLike_2 : decode cX2_countLike 2 = .ok (.iconst 0, 1) := by decide +kernel
theorem dX2_countLike_3 : decode cX2_countLike 3 = .ok (.istore 4, 2) := by decide +kernel
theorem dX2_countLike_5 : decode cX2_countLike 5 = .ok (.iload 4, 2) := by decide +kernel
theorem dX2_countLike_7 : decode cX2_countLike 7 = .ok (.iload_n 2, 1) := by decide +kernel
theorem dX2_countLike_8 : decode cX2_countLike 8 = .ok (.if_icmp .ge 22, 3) := by decide +kernel
theorem dX2_countLike_11 : decode cX2_countLike 11 = .ok (.aload_n 0, 1) := by decide +kernel
theorem dX2_countLike_12 : decode cX2_countLike 12 = .ok (.iload 4, 2) := by decide +kernel
theorem dX2_countLike_14 : decode cX2_countLike 14 = .ok (.iload_n 1, 1) := by decide +kernel
theorem dX2_countLike_15 : decode cX2_countLike 15 = .ok (.invokevirtual 111, 3) := by decide +kernel
theorem dX2_countLike_18 : decode cX2_countLike 18 = .ok (.ifCond .eq 6, 3) := by decide +kernel
theorem dX2_countLike_21 : decode cX2_countLike 21 = .ok (.iinc 3 1, 3) := by decide +kernel
theorem dX2_countLike_24 : decode cX2_countLike 24 = .ok (.iinc 4 1, 3) := by decide +kernel
theorem dX2_countLike_27 : decode cX2_countLike 27 = .ok (.goto (-22), 3) := by decide +kernel
theorem dX2_countLike_30 : decode cX2_countLike 30 = .ok (.iload_n 3, 1) := by decide +kernel
theorem dX2_countLike_31 : decode cX2_countLike 31 = .ok (.ireturn, 1) := by decide +kernel
theorem dX2_countUnlike_0 : decode cX2_countUnlike 0 = .ok (.iconst 0, 1) := by decide +kernel
theorem dX2_countUnlike_1 : decode cX2_countUnlike 1 = .ok (.istore_n 1, 1) := by decide +kernel
theorem dX2_countUnlike_2 : decode cX2_countUnlike 2 = .ok (.iconst 0, 1) := by decide +kernel
theorem dX2_countUnlike_3 : decode cX2_countUnlike 3 = .ok (.istore_n 2, 1) := by decide +kernel
theorem dX2_countUnlike_4 : decode cX2_countUnlike 4 = .ok (.iload_n 2, 1) := by decide +kernel
theorem dX2_countUnlike_5 : decode cX2_countUnlike 5 = .ok (.aload_n 0, 1) := by decide +kernel
theorem dX2_countUnlike_6 : decode cX2_countUnlike 6 = .ok (.getfield 35, 3) := by decide +kernel
theorem dX2_countUnlike_9 : decode cX2_countUnlike 9 = .ok (.if_icmp .ge 21, 3) := by decide +kernel
theorem dX2_countUnlike_12 : decode cX2_countUnlike 12 = .ok (.aload_n 0, 1) := by decide +kernel
theorem dX2_countUnlike_13 : decode cX2_countUnlike 13 = .ok (.iload_n 2, 1) := by decide +kernel
theorem dX2_countUnlike_14 : decode cX2_countUnlike 14 = .ok (.iload_n 2, 1) := by decide +kernel
theorem dX2_countUnlike_15 : decode cX2_countUnlike 15 = .ok (.invokevirtual 82, 3) := by decide +kernel
theorem dX2_countUnlike_18 : decode cX2_countUnlike 18 = .ok (.ifCond .ne 6, 3) := by decide +kernel
theorem dX2_countUnlike_21 : decode cX2_countUnlike 21 = .ok (.iinc 1 1, 3) := by decide +kernel
theorem dX2_countUnlike_24 : decode cX2_countUnlike 24 = .ok (.iinc 2 1, 3) := by decide +kernel
theorem dX2_countUnlike_27 : decode cX2_countUnlike 27 = .ok (.goto (-23), 3) := by decide +kernel
theorem dX2_countUnlike_30 : decode cX2_countUnlike 30 = .ok (.iload_n 1, 1) := by decide +kernel
theorem dX2_countUnlike_31 : decode cX2_countUnlike 31 = .ok (.ireturn, 1) := by decide +kernel
theorem dX2_findAnswers_0 : decode cX2_findAnswers 0 = .ok (.iconst 0, 1) := by decide +kernel
theorem dX2_findAnswers_1 : decode cX2_findAnswers 1 = .ok (.istore_n 1, 1) := by decide +kernel
theorem dX2_findAnswers_2 : decode cX2_findAnswers 2 = .ok (.iconst 1, 1) := by decide +kernel
theorem dX2_findAnswers_3 : decode cX2_findAnswers 3 = .ok (.istore_n 2, 1) := by decide +kernel
theorem dX2_findAnswers_4 : decode cX2_findAnswers 4 = .ok (.iload_n 2, 1) := by decide +kernel
theorem dX2_findAnswers_5 : decode cX2_findAnswers 5 = .ok (.aload_n 0, 1) := by decide +kernel
theorem dX2_findAnswers_6 : decode cX2_findAnswers 6 = .ok (.getfield 35, 3) := by decide +kernel
theorem dX2_findAnswers_9 : decode cX2_findAnswers 9 = .ok (.if_icmp .ge 30, 3) := by decide +kernel
theorem dX2_findAnswers_12 : decode cX2_findAnswers 12 = .ok (.aload_n 0, 1) := by decide +kernel
theorem dX2_findAnswers_13 : decode cX2_findAnswers 13 = .ok (.getfield 32, 3) := by decide +kernel
theorem dX2_findAnswers_16 : decode cX2_findAnswers 16 = .ok (.iload_n 2, 1) := by decide +kernel
theorem dX2_findAnswers_17 : decode cX2_findAnswers 17 = .ok (.iaload, 1) := by decide +kernel
theorem dX2_findAnswers_18 : decode cX2_findAnswers 18 = .ok (.aload_n 0, 1) := by decide +kernel
theorem dX2_findAnswers_19 : decode cX2_findAnswers 19 = .ok (.getfield 32, 3) := by decide +kernel
theorem dX2_findAnswers_22 : decode cX2_findAnswers 22 = .ok (.iload_n 1, 1) := by decide +kernel
theorem dX2_findAnswers_23 : decode cX2_findAnswers 23 = .ok (.iaload, 1) := by decide +kernel
theorem dX2_findAnswers_24 : decode cX2_findAnswers 24 = .ok (.if_icmp .ge 7, 3) := by decide +kernel
theorem dX2_findAnswers_27 : decode cX2_findAnswers 27 = .ok (.iload_n 2, 1) := by decide +kernel
theorem dX2_findAnswers_28 : decode cX2_findAnswers 28 = .ok (.goto 4, 3) := by decide +kernel
theorem dX2_findAnswers_31 : decode cX2_findAnswers 31 = .ok (.iload_n 1, 1) := by decide +kernel
theorem dX2_findAnswers_32 : decode cX2_findAnswers 32 = .ok (.istore_n 1, 1) := by decide +kernel
theorem dX2_findAnswers_33 : decode cX2_findAnswers 33 = .ok (.iinc 2 1, 3) := by decide +kernel
theorem dX2_findAnswers_36 : decode cX2_findAnswers 36 = .ok (.goto (-32), 3) := by decide +kernel
theorem dX2_findAnswers_39 : decode cX2_findAnswers 39 = .ok (.aload_n 0, 1) := by decide +kernel
theorem dX2_findAnswers_40 : decode cX2_findAnswers 40 = .ok (.getfield 42, 3) := by decide +kernel
theorem dX2_findAnswers_43 : decode cX2_findAnswers 43 = .ok (.iconst 0, 1) := by decide +kernel
theorem dX2_findAnswers_44 : decode cX2_findAnswers 44 = .ok (.aload_n 0, 1) := by decide +kernel
theorem dX2_findAnswers_45 : decode cX2_findAnswers 45 = .ok (.invokevirtual 79, 3) := by decide +kernel
theorem dX2_findAnswers_48 : decode cX2_findAnswers 48 = .ok (.iastore, 1) := by decide +kernel
theorem dX2_findAnswers_49 : decode cX2_findAnswers 49 = .ok (.aload_n 0, 1) := by decide +kernel
theorem dX2_findAnswers_50 : decode cX2_findAnswers 50 = .ok (.getfield 42, 3) := by decide +kernel
theorem dX2_findAnswers_53 : decode cX2_findAnswers 53 = .ok (.iconst 1, 1) := by decide +kernel
theorem dX2_findAnswers_54 : decode cX2_findAnswers 54 = .ok (.aload_n 0, 1) := by decide +kernel
theorem dX2_findAnswers_55 : decode cX2_findAnswers 55 = .ok (.getfield 32, 3) := by decide +kernel
theorem dX2_findAnswers_58 : decode cX2_findAnswers 58 = .ok (.iload_n 1, 1) := by decide +kernel
theorem dX2_findAnswers_59 : decode cX2_findAnswers 59 = .ok (.iaload, 1) := by decide +kernel
theorem dX2_findAnswers_60 : decode cX2_findAnswers 60 = .ok (.iastore, 1) := by decide +kernel
theorem dX2_findAnswers_61 : decode cX2_findAnswers 61 = .ok (.aload_n 0, 1) := by decide +kernel
theorem dX2_findAnswers_62 : decode cX2_findAnswers 62 = .ok (.getfield 42, 3) := by decide +kernel
theorem dX2_findAnswers_65 : decode cX2_findAnswers 65 = .ok (.iconst 2, 1) := by decide +kernel
theorem dX2_findAnswers_66 : decode cX2_findAnswers 66 = .ok (.iload_n 1, 1) := by decide +kernel
theorem dX2_findAnswers_67 : decode cX2_findAnswers 67 = .ok (.iastore, 1) := by decide +kernel
theorem dX2_findAnswers_68 : decode cX2_findAnswers 68 = .ok (.aload_n 0, 1) := by decide +kernel
theorem dX2_findAnswers_69 : decode cX2_findAnswers 69 = .ok (.getfield 42, 3) := by decide +kernel
theorem dX2_findAnswers_72 : decode cX2_findAnswers 72 = .ok (.iconst 3, 1) := by decide +kernel
theorem dX2_findAnswers_73 : decode cX2_findAnswers 73 = .ok (.aload_n 0, 1) := by decide +kernel
theorem dX2_findAnswers_74 : decode cX2_findAnswers 74 = .ok (.iload_n 1, 1) := by decide +kernel
theorem dX2_findAnswers_75 : decode cX2_findAnswers 75 = .ok (.aload_n 0, 1) := by decide +kernel
theorem dX2_findAnswers_76 : decode cX2_findAnswers 76 = .ok (.getfield 35, 3) := by decide +kernel
theorem dX2_findAnswers_79 : decode cX2_findAnswers 79 = .ok (.invokevirtual 82, 3) := by decide +kernel
theorem dX2_findAnswers_82 : decode cX2_findAnswers 82 = .ok (.iastore, 1) := by decide +kernel
theorem dX2_findAnswers_83 : decode cX2_findAnswers 83 = .ok (.return_, 1) := by decide +kernel
theorem dX2_goToNextOrder_0 : decode cX2_goToNextOrder 0 = .ok (.aload_n 0, 1) := by decide +kernel
theorem dX2_goToNextOrder_1 : decode cX2_goToNextOrder 1 = .ok (.getfield 39, 3) := by decide +kernel
theorem dX2_goToNextOrder_4 : decode cX2_goToNextOrder 4 = .ok (.iconst 2, 1) := by decide +kernel
theorem dX2_goToNextOrder_5 : decode cX2_goToNextOrder 5 = .ok (.isub, 1) := by decide +kernel
theorem dX2_goToNextOrder_6 : decode cX2_goToNextOrder 6 = .ok (.istore_n 1, 1) := by decide +kernel
theorem dX2_goToNextOrder_7 : decode cX2_goToNextOrder 7 = .ok (.iload_n 1, 1) := by decide +kernel
theorem dX2_goToNextOrder_8 : decode cX2_goToNextOrder 8 = .ok (.ifCond .lt 26, 3) := by decide +kernel
theorem dX2_goToNextOrder_11 : decode cX2_goToNextOrder 11 = .ok (.aload_n 0, 1) := by decide +kernel
theorem dX2_goToNextOrder_12 : decode cX2_goToNextOrder 12 = .ok (.getfield 9, 3) := by decide +kernel
theorem dX2_goToNextOrder_15 : decode cX2_goToNextOrder 15 = .ok (.iload_n 1, 1) := by decide +kernel
theorem dX2_goToNextOrder_16 : decode cX2_goToNextOrder 16 = .ok (.iaload, 1) := by decide +kernel
theorem dX2_goToNextOrder_17 : decode cX2_goToNextOrder 17 = .ok (.aload_n 0, 1) := by decide +kernel
theorem dX2_goToNextOrder_18 : decode cX2_goToNextOrder 18 = .ok (.getfield 9, 3) := by decide +kernel
theorem dX2_goToNextOrder_21 : decode cX2_goToNextOrder 21 = .ok (.iload_n 1, 1) := by decide +kernel
theorem dX2_goToNextOrder_22 : decode cX2_goToNextOrder 22 = .ok (.iconst 1, 1) := by decide +kernel
theorem dX2_goToNextOrder_23 : decode cX2_goToNextOrder 23 = .ok (.iadd, 1) := by decide +kernel
theorem dX2_goToNextOrder_24 : decode cX2_goToNextOrder 24 = .ok (.iaload, 1) := by decide +kernel
theorem dX2_goToNextOrder_25 : decode cX2_goToNextOrder 25 = .ok (.if_icmp .le 9, 3) := by decide +kernel
theorem dX2_goToNextOrder_28 : decode cX2_goToNextOrder 28 = .ok (.iinc 1 (-1), 3) := by decide +kernel
theorem dX2_goToNextOrder_31 : decode cX2_goToNextOrder 31 = .ok (.goto (-24), 3) := by decide +kernel
theorem dX2_goToNextOrder_34 : decode cX2_goToNextOrder 34 = .ok (.iload_n 1, 1) := by decide +kernel
theorem dX2_goToNextOrder_35 : decode cX2_goToNextOrder 35 = .ok (.ifCond .ge 5, 3) := by decide +kernel
theorem dX2_goToNextOrder_38 : decode cX2_goToNextOrder 38 = .ok (.iconst (-1), 1) := by decide +kernel
theorem dX2_goToNextOrder_39 : decode cX2_goToNextOrder 39 = .ok (.ireturn, 1) := by decide +kernel
theorem dX2_goToNextOrder_40 : decode cX2_goToNextOrder 40 = .ok (.aload_n 0, 1) := by decide +kernel
theorem dX2_goToNextOrder_41 : decode cX2_goToNextOrder 41 = .ok (.getfield 39, 3) := by decide +kernel
theorem dX2_goToNextOrder_44 : decode cX2_goToNextOrder 44 = .ok (.iconst 1, 1) := by decide +kernel
theorem dX2_goToNextOrder_45 : decode cX2_goToNextOrder 45 = .ok (.isub, 1) := by decide +kernel
theorem dX2_goToNextOrder_46 : decode cX2_goToNextOrder 46 = .ok (.istore_n 2, 1) := by decide +kernel
theorem dX2_goToNextOrder_47 : decode cX2_goToNextOrder 47 = .ok (.iload_n 2, 1) := by decide +kernel
theorem dX2_goToNextOrder_48 : decode cX2_goToNextOrder 48 = .ok (.iload_n 1, 1) := by decide +kernel
theorem dX2_goToNextOrder_49 : decode cX2_goToNextOrder 49 = .ok (.iconst 1, 1) := by decide +kernel
theorem dX2_goToNextOrder_50 : decode cX2_goToNextOrder 50 = .ok (.iadd, 1) := by decide +kernel
theorem dX2_goToNextOrder_51 : decode cX2_goToNextOrder 51 = .ok (.if_icmp .le 24, 3) := by decide +kernel
theorem dX2_goToNextOrder_54 : decode cX2_goToNextOrder 54 = .ok (.aload_n 0, 1) := by decide +kernel
theorem dX2_goToNextOrder_55 : decode cX2_goToNextOrder 55 = .ok (.getfield 9, 3) := by decide +kernel
theorem dX2_goToNextOrder_58 : decode cX2_goToNextOrder 58 = .ok (.iload_n 2, 1) := by decide +kernel
theorem dX2_goToNextOrder_59 : decode cX2_goToNextOrder 59 = .ok (.iaload, 1) := by decide +kernel
theorem dX2_goToNextOrder_60 : decode cX2_goToNextOrder 60 = .ok (.aload_n 0, 1) := by decide +kernel
theorem dX2_goToNextOrder_61 : decode cX2_goToNextOrder 61 = .ok (.getfield 9, 3) := by decide +kernel
theorem dX2_goToNextOrder_64 : decode cX2_goToNextOrder 64 = .ok (.iload_n 1, 1) := by decide +kernel
theorem dX2_goToNextOrder_65 : decode cX2_goToNextOrder 65 = .ok (.iaload, 1) := by decide +kernel
theorem dX2_goToNextOrder_66 : decode cX2_goToNextOrder 66 = .ok (.if_icmp .ge 9, 3) := by decide +kernel
theorem dX2_goToNextOrder_69 : decode cX2_goToNextOrder 69 = .ok (.iinc 2 (-1), 3) := by decide +kernel
theorem dX2_goToNextOrder_72 : decode cX2_goToNextOrder 72 = .ok (.goto (-25), 3) := by decide +kernel
theorem dX2_goToNextOrder_75 : decode cX2_goToNextOrder 75 = .ok (.aload_n 0, 1) := by decide +kernel
theorem dX2_goToNextOrder_76 : decode cX2_goToNextOrder 76 = .ok (.iload_n 1, 1) := by decide +kernel
theorem dX2_goToNextOrder_77 : decode cX2_goToNextOrder 77 = .ok (.iload_n 2, 1) := by decide +kernel
theorem dX2_goToNextOrder_78 : decode cX2_goToNextOrder 78 = .ok (.invokevirtual 75, 3) := by decide +kernel
theorem dX2_goToNextOrder_81 : decode cX2_goToNextOrder 81 = .ok (.iload_n 1, 1) := by decide +kernel
theorem dX2_goToNextOrder_82 : decode cX2_goToNextOrder 82 = .ok (.iconst 1, 1) := by decide +kernel
theorem dX2_goToNextOrder_83 : decode cX2_goToNextOrder 83 = .ok (.iadd, 1) := by decide +kernel
theorem dX2_goToNextOrder_84 : decode cX2_goToNextOrder 84 = .ok (.istore_n 3, 1) := by decide +kernel
theorem dX2_goToNextOrder_85 : decode cX2_goToNextOrder 85 = .ok (.aload_n 0, 1) := by decide +kernel
theorem dX2_goToNextOrder_86 : decode cX2_goToNextOrder 86 = .ok (.getfield 39, 3) := by decide +kernel
theorem dX2_goToNextOrder_89 : decode cX2_goToNextOrder 89 = .ok (.iconst 1, 1) := by decide +kernel
theorem dX2_goToNextOrder_90 : decode cX2_goToNextOrder 90 = .ok (.isub, 1) := by decide +kernel
theorem dX2_goToNextOrder_91 : decode cX2_goToNextOrder 91 = .ok (.istore 4, 2) := by decide +kernel
theorem dX2_goToNextOrder_93 : decode cX2_goToNextOrder 93 = .ok (.iload_n 3, 1) := by decide +kernel
theorem dX2_goToNextOrder_94 : decode cX2_goToNextOrder 94 = .ok (.iload 4, 2) := by decide +kernel
theorem dX2_goToNextOrder_96 : decode cX2_goToNextOrder 96 = .ok (.if_icmp .ge 19, 3) := by decide +kernel
theorem dX2_goToNextOrder_99 : decode cX2_goToNextOrder 99 = .ok (.aload_n 0, 1) := by decide +kernel
theorem dX2_goToNextOrder_100 : decode cX2_goToNextOrder 100 = .ok (.iload_n 3, 1) := by decide +kernel
theorem dX2_goToNextOrder_101 : decode cX2_goToNextOrder 101 = .ok (.iload 4, 2) := by decide +kernel
theorem dX2_goToNextOrder_103 : decode cX2_goToNextOrder 103 = .ok (.invokevirtual 75, 3) := by decide +kernel
theorem dX2_goToNextOrder_106 : decode cX2_goToNextOrder 106 = .ok (.iinc 3 1, 3) := by decide +kernel
theorem dX2_goToNextOrder_109 : decode cX2_goToNextOrder 109 = .ok (.iinc 4 (-1), 3) := by decide +kernel
theorem dX2_goToNextOrder_112 : decode cX2_goToNextOrder 112 = .ok (.goto (-19), 3) := by decide +kernel
theorem dX2_goToNextOrder_115 : decode cX2_goToNextOrder 115 = .ok (.iload_n 1, 1) := by decide +kernel
theorem dX2_goToNextOrder_116 : decode cX2_goToNextOrder 116 = .ok (.ireturn, 1) := by decide +kernel
theorem dX2_layNext_0 : decode cX2_layNext 0 = .ok (.aload_n 0, 1) := by decide +kernel
theorem dX2_layNext_1 : decode cX2_layNext 1 = .ok (.getfield 85, 3) := by decide +kernel
theorem dX2_layNext_4 : decode cX2_layNext 4 = .ok (.ifCond .ne 10, 3) := by decide +kernel
theorem dX2_layNext_7 : decode cX2_layNext 7 = .ok (.aload_n 2, 1) := by decide +kernel
theorem dX2_layNext_8 : decode cX2_layNext 8 = .ok (.aload_n 1, 1) := by decide +kernel
theorem dX2_layNext_9 : decode cX2_layNext 9 = .ok (.invokevirtual 88, 3) := by decide +kernel
theorem dX2_layNext_12 : decode cX2_layNext 12 = .ok (.iconst 0, 1) := by decide +kernel
theorem dX2_layNext_13 : decode cX2_layNext 13 = .ok (.ireturn, 1) := by decide +kernel
theorem dX2_layNext_14 : decode cX2_layNext 14 = .ok (.aload_n 3, 1) := by decide +kernel
theorem dX2_layNext_15 : decode cX2_layNext 15 = .ok (.aload_n 0, 1) := by decide +kernel
theorem dX2_layNext_16 : decode cX2_layNext 16 = .ok (.aload_n 1, 1) := by decide +kernel
theorem dX2_layNext_17 : decode cX2_layNext 17 = .ok (.invokevirtual 92, 3) := by decide +kernel
theorem dX2_layNext_20 : decode cX2_layNext 20 = .ok (.istore 4, 2) := by decide +kernel
theorem dX2_layNext_22 : decode cX2_layNext 22 = .ok (.aload_n 3, 1) := by decide +kernel
theorem dX2_layNext_23 : decode cX2_layNext 23 = .ok (.aload_n 0, 1) := by decide +kernel
theorem dX2_layNext_24 : decode cX2_layNext 24 = .ok (.aload_n 1, 1) := by decide +kernel
theorem dX2_layNext_25 : decode cX2_layNext 25 = .ok (.aload_n 2, 1) := by decide +kernel
theorem dX2_layNext_26 : decode cX2_layNext 26 = .ok (.invokevirtual 98, 3) := by decide +kernel
theorem dX2_layNext_29 : decode cX2_layNext 29 = .ok (.iload 4, 2) := by decide +kernel
theorem dX2_layNext_31 : decode cX2_layNext 31 = .ok (.ireturn, 1) := by decide +kernel
theorem dX2_sameEnds_0 : decode cX2_sameEnds 0 = .ok (.aload_n 0, 1) := by decide +kernel
theorem dX2_sameEnds_1 : decode cX2_sameEnds 1 = .ok (.getfield 29, 3) := by decide +kernel
theorem dX2_sameEnds_4 : decode cX2_sameEnds 4 = .ok (.iload_n 1, 1) := by decide +kernel
theorem dX2_sameEnds_5 : decode cX2_sameEnds 5 = .ok (.iaload, 1) := by decide +kernel
theorem dX2_sameEnds_6 : decode cX2_sameEnds 6 = .ok (.aload_n 0, 1) := by decide +kernel
theorem dX2_sameEnds_7 : decode cX2_sameEnds 7 = .ok (.getfield 29, 3) := by decide +kernel
theorem dX2_sameEnds_10 : decode cX2_sameEnds 10 = .ok (.iload_n 2, 1) := by decide +kernel
theorem dX2_sameEnds_11 : decode cX2_sameEnds 11 = .ok (.iaload, 1) := by decide +kernel
theorem dX2_sameEnds_12 : decode cX2_sameEnds 12 = .ok (.if_icmp .eq 5, 3) := by decide +kernel
theorem dX2_sameEnds_15 : decode cX2_sameEnds 15 = .ok (.iconst 0, 1) := by decide +kernel
theorem dX2_sameEnds_16 : decode cX2_sameEnds 16 = .ok (.ireturn, 1) := by decide +kernel
theorem dX2_sameEnds_17 : decode cX2_sameEnds 17 = .ok (.iconst 0, 1) := by decide +kernel
theorem dX2_sameEnds_18 : decode cX2_sameEnds 18 = .ok (.istore_n 3, 1) := by decide +kernel
theorem dX2_sameEnds_19 : decode cX2_sameEnds 19 = .ok (.iload_n 3, 1) := by decide +kernel
theorem dX2_sameEnds_20 : decode cX2_sameEnds 20 = .ok (.aload_n 0, 1) := by decide +kernel
theorem dX2_sameEnds_21 : decode cX2_sameEnds 21 = .ok (.getfield 29, 3) := by decide +kernel
theorem dX2_sameEnds_24 : decode cX2_sameEnds 24 = .ok (.iload_n 1, 1) := by decide +kernel
theorem dX2_sameEnds_25 : decode cX2_sameEnds 25 = .ok (.iaload, 1) := by decide +kernel
theorem dX2_sameEnds_26 : decode cX2_sameEnds 26 = .ok (.if_icmp .ge 30, 3) := by decide +kernel
theorem dX2_sameEnds_29 : decode cX2_sameEnds 29 = .ok (.aload_n 0, 1) := by decide +kernel
theorem dX2_sameEnds_30 : decode cX2_sameEnds 30 = .ok (.getfield 26, 3) := by decide +kernel
theorem dX2_sameEnds_33 : decode cX2_sameEnds 33 = .ok (.iload_n 1, 1) := by decide +kernel
theorem dX2_sameEnds_34 : decode cX2_sameEnds 34 = .ok (.aaload, 1) := by decide +kernel
theorem dX2_sameEnds_35 : decode cX2_sameEnds 35 = .ok (.iload_n 3, 1) := by decide +kernel
theorem dX2_sameEnds_36 : decode cX2_sameEnds 36 = .ok (.iaload, 1) := by decide +kernel
theorem dX2_sameEnds_37 : decode cX2_sameEnds 37 = .ok (.aload_n 0, 1) := by decide +kernel
theorem dX2_sameEnds_38 : decode cX2_sameEnds 38 = .ok (.getfield 26, 3) := by decide +kernel
theorem dX2_sameEnds_41 : decode cX2_sameEnds 41 = .ok (.iload_n 2, 1) := by decide +kernel
theorem dX2_sameEnds_42 : decode cX2_sameEnds 42 = .ok (.aaload, 1) := by decide +kernel
theorem dX2_sameEnds_43 : decode cX2_sameEnds 43 = .ok (.iload_n 3, 1) := by decide +kernel
theorem dX2_sameEnds_44 : decode cX2_sameEnds 44 = .ok (.iaload, 1) := by decide +kernel
theorem dX2_sameEnds_45 : decode cX2_sameEnds 45 = .ok (.if_icmp .eq 5, 3) := by decide +kernel
theorem dX2_sameEnds_48 : decode cX2_sameEnds 48 = .ok (.iconst 0, 1) := by decide +kernel
theorem dX2_sameEnds_49 : decode cX2_sameEnds 49 = .ok (.ireturn, 1) := by decide +kernel
theorem dX2_sameEnds_50 : decode cX2_sameEnds 50 = .ok (.iinc 3 1, 3) := by decide +kernel
theorem dX2_sameEnds_53 : decode cX2_sameEnds 53 = .ok (.goto (-34), 3) := by decide +kernel
theorem dX2_sameEnds_56 : decode cX2_sameEnds 56 = .ok (.iconst 1, 1) := by decide +kernel
theorem dX2_sameEnds_57 : decode cX2_sameEnds 57 = .ok (.ireturn, 1) := by decide +kernel
theorem dX2_swap_0 : decode cX2_swap 0 = .ok (.aload_n 0, 1) := by decide +kernel
theorem dX2_swap_1 : decode cX2_swap 1 = .ok (.getfield 9, 3) := by decide +kernel
theorem dX2_swap_4 : decode cX2_swap 4 = .ok (.iload_n 1, 1) := by decide +kernel
theorem dX2_swap_5 : decode cX2_swap 5 = .ok (.iaload, 1) := by decide +kernel
theorem dX2_swap_6 : decode cX2_swap 6 = .ok (.istore_n 3, 1) := by decide +kernel
theorem dX2_swap_7 : decode cX2_swap 7 = .ok (.aload_n 0, 1) := by decide +kernel
theorem dX2_swap_8 : decode cX2_swap 8 = .ok (.getfield 9, 3) := by decide +kernel
theorem dX2_swap_11 : decode cX2_swap 11 = .ok (.iload_n 1, 1) := by decide +kernel
theorem dX2_swap_12 : decode cX2_swap 12 = .ok (.aload_n 0, 1) := by decide +kernel
theorem dX2_swap_13 : decode cX2_swap 13 = .ok (.getfield 9, 3) := by decide +kernel
theorem dX2_swap_16 : decode cX2_swap 16 = .ok (.iload_n 2, 1) := by decide +kernel
theorem dX2_swap_17 : decode cX2_swap 17 = .ok (.iaload, 1) := by decide +kernel
theorem dX2_swap_18 : decode cX2_swap 18 = .ok (.iastore, 1) := by decide +kernel
theorem dX2_swap_19 : decode cX2_swap 19 = .ok (.aload_n 0, 1) := by decide +kernel
theorem dX2_swap_20 : decode cX2_swap 20 = .ok (.getfield 9, 3) := by decide +kernel
theorem dX2_swap_23 : decode cX2_swap 23 = .ok (.iload_n 2, 1) := by decide +kernel
theorem dX2_swap_24 : decode cX2_swap 24 = .ok (.iload_n 3, 1) := by decide +kernel
theorem dX2_swap_25 : decode cX2_swap 25 = .ok (.iastore, 1) := by decide +kernel
theorem dX2_swap_26 : decode cX2_swap 26 = .ok (.return_, 1) := by decide +kernel
/-! all orders -/
def ordOK (μ : va_M) : Prop := ((0 ≤ μ 48 6 ∧ μ 48 6 ≤ 24) ∧ 0 ≤ μ 48 7 ∧ μ 48 7 ≤ 4) ∧ (∀ j, 0 ≤ μ 49 j ∧ μ 49 j ≤ 3) ∧ (∀ j : Nat, j < 5 → 0 ≤ μ 51 j ∧ μ 51 j ≤ 2000 * j) ∧ (∀ j, 0 ≤ μ 77 j ∧ μ 77 j ≤ 1100) ∧ (∀ j, 0 ≤ μ 78 j ∧ μ 78 j ≤ 8000) ∧ (∀ k : Nat, k < 24 → sgA μ (53 + k)) ∧ ∀ i : Nat, i < 5 → rG μ (80 + i * 6) 1100
theorem ord_uz {μ : va_M} {k j : Nat} {v : Int} (h : ordOK μ) (hk : k < 53 ∨ k = 77 ∨ k = 78 ∨ k = 79) (h6 : k = 48 → (j = 6 → 0 ≤ v ∧ v ≤ 24) ∧ (j = 7 → 0 ≤ v ∧ v ≤ 4)) (h9 : k = 49 → 0 ≤ v ∧ v ≤ 3) (h51 : k = 51 → j < 5 → 0 ≤ v ∧ v ≤ 2000 * j) (h77 : k = 77 → 0 ≤ v ∧ v ≤ 1100) (h78 : k = 78 → 0 ≤ v ∧ v ≤ 8000) : ordOK (uz μ k j v) := by
  obtain ⟨a1, a2, a3, a4, a5, a6, a7⟩ := h
  refine ⟨?_, fun i => ?_, fun i hi => ?_, fun i => ?_, fun i => ?_, fun i hi => ?_, fun i hi => ?_⟩
  · by_cases e : k = 48
    · subst e
      have h6 := h6 rfl
      by_cases e6 : j = 6
      · subst e6; rw [uz_s, uz_n (by decide)]; exact ⟨h6.1 rfl, a1.2⟩
      · by_cases e7 : j = 7
        · subst e7; rw [uz_s, uz_n (by decide)]; exact ⟨a1.1, h6.2 rfl⟩
        · rw [uz_n (by (first | ((try clear h6); (try clear hi); (try clear i); (try clear a7); (try clear a6); (try clear a5); (try clear a4); (try clear a3); (try clear a2); (try clear a1); (try clear h78); (try clear h77); (try clear h51); (try clear h9); (try clear hk); omega) | omega)), uz_n (by (first | ((try clear e6); (try clear h6); (try clear hi); (try clear i); (try clear a7); (try clear a6); (try clear a5); (try clear a4); (try clear a3); (try clear a2); (try clear a1); (try clear h78); (try clear h77); (try clear h51); (try clear h9); (try clear hk); omega) | omega))]; exact a1
    · rw [uz_n (by (first | ((try clear hi); (try clear i); (try clear a7); (try clear a6); (try clear a5); (try clear a4); (try clear a3); (try clear a2); (try clear a1); (try clear h78); (try clear h77); (try clear h51); (try clear h9); (try clear h6); (try clear hk); omega) | omega)), uz_n (by (first | ((try clear hi); (try clear i); (try clear a7); (try clear a6); (try clear a5); (try clear a4); (try clear a3); (try clear a2); (try clear a1); (try clear h78); (try clear h77); (try clear h51); (try clear h9); (try clear h6); (try clear hk); omega) | omega))]; exact a1
  · by_cases e : k = 49 ∧ j = i
    · obtain ⟨rfl, rfl⟩ := e; rw [uz_s]; exact h9 rfl
    · rw [uz_n (by (first | ((try clear hi); (try clear a7); (try clear a6); (try clear a5); (try clear a4); (try clear a3); (try clear a2); (try clear a1); (try clear h78); (try clear h77); (try clear h51); (try clear h9); (try clear h6); (try clear hk); omega) | omega))]; exact a2 i
  · by_cases e : k = 51 ∧ j = i
    · obtain ⟨rfl, rfl⟩ := e; rw [uz_s]; exact h51 rfl hi
    · rw [uz_n (by (first | ((try clear hi); (try clear a7); (try clear a6); (try clear a5); (try clear a4); (try clear a3); (try clear a2); (try clear a1); (try clear h78); (try clear h77); (try clear h51); (try clear h9); (try clear h6); (try clear hk); omega) | omega))]; exact a3 i hi
  · by_cases e : k = 77 ∧ j = i
    · obtain ⟨rfl, rfl⟩ := e; rw [uz_s]; exact h77 rfl
    · rw [uz_n (by (first | ((try clear hi); (try clear a7); (try clear a6); (try clear a5); (try clear a4); (try clear a3); (try clear a2); (try clear a1); (try clear h78); (try clear h77); (try clear h51); (try clear h9); (try clear h6); (try clear hk); omega) | omega))]; exact a4 i
  · by_cases e : k = 78 ∧ j = i
    · obtain ⟨rfl, rfl⟩ := e; rw [uz_s]; exact h78 rfl
    · rw [uz_n (by (first | ((try clear hi); (try clear a7); (try clear a6); (try clear a5); (try clear a4); (try clear a3); (try clear a2); (try clear a1); (try clear h78); (try clear h77); (try clear h51); (try clear h9); (try clear h6); (try clear hk); omega) | omega))]; exact a5 i
  · intro y; rw [uz_n (by (first | ((try clear a7); (try clear a6); (try clear a5); (try clear a4); (try clear a3); (try clear a2); (try clear a1); omega) | omega))]; exact a6 i hi y
  · exact rG_fr (a7 i hi) (fun x y q1 q2 => uz_n (by (first | ((try clear a7); (try clear a6); (try clear a5); (try clear a4); (try clear a3); (try clear a2); (try clear a1); omega) | omega)))
theorem ord_fr {μ u : va_M} (h : ordOK μ) (hf : ∀ x y, 48 ≤ x → x < 110 → u x y = μ x y) : ordOK u := by
  obtain ⟨a1, a2, a3, a4, a5, a6, a7⟩ := h
  exact ⟨by rw [hf _ _ (by decide) (by decide), hf _ _ (by decide) (by decide)]; exact a1, fun i => by rw [hf _ _ (by decide) (by decide)]; exact a2 i, fun i hi => by rw [hf _ _ (by decide) (by decide)]; exact a3 i hi, fun i => by rw [hf _ _ (by decide) (by decide)]; exact a4 i, fun i => by rw [hf _ _ (by decide) (by decide)]; exact a5 i, fun i hi y => by rw [hf _ _ (by (first | ((try clear y); (try clear a7); (try clear a6); (try clear a5); (try clear a4); (try clear a3); (try clear a2); (try clear a1); (try clear hf); omega) | omega)) (by (first | ((try clear y); (try clear a7); (try clear a6); (try clear a5); (try clear a4); (try clear a3); (try clear a2); (try clear a1); (try clear hf); omega) | omega))]; exact a6 i hi y, fun i hi => rG_fr (a7 i hi) (fun x y q1 q2 => hf _ _ (by (first | ((try clear y); (try clear a7); (try clear a6); (try clear a5); (try clear a4); (try clear a3); (try clear a2); (try clear a1); (try clear hf); omega) | omega)) (by (first | ((try clear y); (try clear a7); (try clear a6); (try clear a5); (try clear a4); (try clear a3); (try clear a2); (try clear a1); (try clear hf); omega) | omega)))⟩
theorem ord_49 {μ u : va_M} (h : ordOK μ) (hf0 : fr (fun x _ => x = 49) μ u) (h9 : ∀ j, 0 ≤ u 49 j ∧ u 49 j ≤ 3) : ordOK u := by
  have hf : ∀ x y, x ≠ 49 → u x y = μ x y := fun x y h => hf0 x y h
  obtain ⟨a1, a2, a3, a4, a5, a6, a7⟩ := h
  exact ⟨by rw [hf _ _ (by decide), hf _ _ (by decide)]; exact a1, h9, fun i hi => by rw [hf _ _ (by decide)]; exact a3 i hi, fun i => by rw [hf _ _ (by decide)]; exact a4 i, fun i => by rw [hf _ _ (by decide)]; exact a5 i, fun i hi y => by rw [hf _ _ (by (first | ((try clear y); (try clear a7); (try clear a6); (try clear a5); (try clear a4); (try clear a3); (try clear a2); (try clear a1); (try clear hf); (try clear h9); (try clear hf0); omega) | omega))]; exact a6 i hi y, fun i hi => rG_fr (a7 i hi) (fun x y q1 q2 => hf _ _ (by (first | ((try clear y); (try clear a7); (try clear a6); (try clear a5); (try clear a4); (try clear a3); (try clear a2); (try clear a1); (try clear hf); (try clear h9); (try clear hf0); omega) | omega)))⟩
/-- a stage is another row than before -/
theorem ord_st {μ u : va_M} {i3 : Nat} (h : ordOK μ) (hi3 : i3 < 5) (hf : ∀ x y, 48 ≤ x → x < 110 → (x < 80 + i3 * 6 ∨ 80 + i3 * 6 + 6 ≤ x) → u x y = μ x y) (hg : rG u (80 + i3 * 6) 1100) : ordOK u := by
  obtain ⟨a1, a2, a3, a4, a5, a6, a7⟩ := h
  refine ⟨by rw [hf _ _ (by decide) (by decide) (by (first | ((try clear a7); (try clear a6); (try clear a5); (try clear a4); (try clear a3); (try clear a2); (try clear a1); (try clear hf); omega) | omega)), hf _ _ (by decide) (by decide) (by (first | ((try clear a7); (try clear a6); (try clear a5); (try clear a4); (try clear a3); (try clear a2); (try clear a1); (try clear hf); omega) | omega))]; exact a1, fun i => by rw [hf _ _ (by decide) (by decide) (by (first | ((try clear i); (try clear a7); (try clear a6); (try clear a5); (try clear a4); (try clear a3); (try clear a2); (try clear a1); (try clear hf); omega) | omega))]; exact a2 i, fun i hi => by rw [hf _ _ (by decide) (by decide) (by (first | ((try clear hi); (try clear a7); (try clear a6); (try clear a5); (try clear a4); (try clear a3); (try clear a2); (try clear a1); (try clear hf); omega) | omega))]; exact a3 i hi, fun i => by rw [hf _ _ (by decide) (by decide) (by (first | ((try clear i); (try clear hi); (try clear a7); (try clear a6); (try clear a5); (try clear a4); (try clear a3); (try clear a2); (try clear a1); (try clear hf); omega) | omega))]; exact a4 i, fun i => by rw [hf _ _ (by decide) (by decide) (by (first | ((try clear i); (try clear hi); (try clear a7); (try clear a6); (try clear a5); (try clear a4); (try clear a3); (try clear a2); (try clear a1); (try clear hf); omega) | omega))]; exact a5 i, fun i hi y => by rw [hf _ _ (by (first | ((try clear y); (try clear a7); (try clear a6); (try clear a5); (try clear a4); (try clear a3); (try clear a2); (try clear a1); (try clear hf); (try clear hi3); omega) | omega)) (by (first | ((try clear y); (try clear a7); (try clear a6); (try clear a5); (try clear a4); (try clear a3); (try clear a2); (try clear a1); (try clear hf); (try clear hi3); omega) | omega)) (by (first | ((try clear y); (try clear a7); (try clear a6); (try clear a5); (try clear a4); (try clear a3); (try clear a2); (try clear a1); (try clear hf); omega) | omega))]; exact a6 i hi y, fun i hi => ?_⟩
  by_cases e : i = i3
  · rw [e]; exact hg
  · exact rG_fr (a7 i hi) (fun x y q1 q2 => hf _ _ (by (first | ((try clear y); (try clear a7); (try clear a6); (try clear a5); (try clear a4); (try clear a3); (try clear a2); (try clear a1); (try clear hf); (try clear hi3); omega) | omega)) (by (first | ((try clear y); (try clear a7); (try clear a6); (try clear a5); (try clear a4); (try clear a3); (try clear a2); (try clear a1); (try clear hf); (try clear hi3); omega) | omega)) (by (first | ((try clear y); (try clear hi); (try clear a7); (try clear a6); (try clear a5); (try clear a4); (try clear a3); (try clear a2); (try clear a1); (try clear hf); (try clear hi3); omega) | omega)))
theorem ord_end {μ : va_M} {k d n : Nat} {q : Nat} (h : ordOK μ) (hk : k < 24) (hs : sgA μ (q + 1)) : ordOK (uc μ (q + 1) 0 (53 + k) d n) := by
  have hf : ∀ x y, (x < 53 ∨ 77 ≤ x) → uc μ (q + 1) 0 (53 + k) d n x y = μ x y := fun x y hx => uc_n (by (first | ((try clear hf); omega) | omega))
  obtain ⟨a1, a2, a3, a4, a5, a6, a7⟩ := h
  refine ⟨by rw [hf _ _ (by decide), hf _ _ (by decide)]; exact a1, fun i => by rw [hf _ _ (by decide)]; exact a2 i, fun i hi => by rw [hf _ _ (by decide)]; exact a3 i hi, fun i => by rw [hf _ _ (by decide)]; exact a4 i, fun i => by rw [hf _ _ (by decide)]; exact a5 i, fun i hi y => ?_, fun i hi => rG_fr (a7 i hi) (fun x y q1 q2 => hf _ _ (by (first | ((try clear y); (try clear a7); (try clear a6); (try clear a5); (try clear a4); (try clear a3); (try clear a2); (try clear a1); (try clear hf); (try clear hk); omega) | omega)))⟩
  unfold uc
  split
  · exact hs _
  · exact a6 i hi y
set_option maxHeartbeats 4000000 in
set_option maxRecDepth 100000 in
theorem s_Oswap (l : Launch) (dC : Nat → ClassId) (dI : Nat → Nat → Nat) (cI cZ cII cIII : ClassId) (h0 sz : Nat) (μ : va_M) (i : Int) (j : Int) (h9o : ∀ j, 0 ≤ μ 49 j ∧ μ 49 j ≤ 3) (hij : (0 ≤ i ∧ i < 4) ∧ 0 ≤ j ∧ j < 4) : Met l yX2_swap (Cond.code yX2_swap cX2_swap 4 none :: wsG) ({ frames := 1, cells := 0, slots := 0, locals := 14 } : Room) (va_Pc [.ref (h0 + 48), .int (iZ (i)), .int (iZ (j))] (fun U => U.heap.size = sz ∧ va_P (dC, dI) vwCl (fw (sE cI cZ cII cIII h0) h0 233 μ) U.heap ∧ va_K (dC, dI) vwCl (sT cI cZ cII cIII) U ∧ xM U)) (va_Qv (fun (u : va_M) => fr (fun x _ => x = 49) μ u ∧ ∀ j, 0 ≤ u 49 j ∧ u 49 j ≤ 3) (fun u t => va_P (dC, dI) vwCl (fw (sE cI cZ cII cIII h0) h0 233 u) t.heap ∧ va_K (dC, dI) vwCl (sT cI cZ cII cIII) t) (fA h0 233 sz)) 0 0 (fA h0 233 sz) := by
  refine Met.ofW (cc := cX2_swap) (maxL := 4) (ret := none) (by decide) rfl ?_
  intro p e s m args below meth c s₁ B hml hv
  obtain ⟨rfl, hsz, hP, hK, hM⟩ := hv
  have hx := B.exec
  have hb := B.bytes
  have hr := B.returns
  have hts : ∀ w ∈ wsG, w.before _ s = true := hG_of (atoms_spec (ws := (Cond.code yX2_swap cX2_swap 4 none :: wsG)) B.pre)
  have hown : s.vm.findClass RX2 = some m.cls := findClass_of_methodNamed B.named
  have hlocks := B.notSynchronized
  subst hsz
  have hS : va_S (fA h0 233 s.heap.size) s.heap s.heap [] := va_S.rf
  have hl := lv_entry ([.ref (h0 + 48), .int (iZ (i)), .int (iZ (j))]) (n := 4) (Nat.le_of_ble_eq_true rfl)
  rw [lg_entry_eq]
  generalize (lg_sl ([.ref (h0 + 48), .int (iZ (i)), .int (iZ (j))]) ++ List.replicate (4 - (lg_sl ([.ref (h0 + 48), .int (iZ (i)), .int (iZ (j))])).length) Slot.unset).toArray = ls at hl ⊢
  have hl : lv_has ls 4 [(0, .ref (h0 + 48)), (1, .int (iZ (i))), (2, .int (iZ (j)))] := hl
  refine lv_aload_n hx hb dX2_swap_0 rfl (lv_at hl 0 rfl) ?_
  refine fz_get (D := (dC, dI)) (ci := 2) (v := .ref (h0 + 49)) (C := RX2) (T := TX2) (N := 9) hx hb hts inG2 hown hK hP (k := 48) (by decide) (F := (sF48 h0)) sE_48 rfl 0 (by decide) (hts _ k228) (fun _ h9 => h9) rfl dX2_swap_1 ?_
  refine lv_iload_n hx hb dX2_swap_4 rfl (lv_at hl 1 rfl) ?_
  refine fz_ld (k := 49) (n := 4) hx hb hK hP 0 (by decide) sE_49 rfl ⟨by (first | ((try clear hsz); (try clear s₁); (try clear h9o); omega) | omega), by (first | ((try clear hsz); (try clear s₁); (try clear h9o); omega) | omega)⟩ (by decide) dX2_swap_5 ?_
  refine lv_istore_n (lv' := [(3, .int (iZ (μ 49 (i).toNat))), (0, .ref (h0 + 48)), (1, .int (iZ (i))), (2, .int (iZ (j)))]) hx hb dX2_swap_6 rfl hl (by decide) rfl (fun ls hl => ?_)
  refine lv_aload_n hx hb dX2_swap_7 rfl (lv_at hl 1 rfl) ?_
  refine fz_get (D := (dC, dI)) (ci := 2) (v := .ref (h0 + 49)) (C := RX2) (T := TX2) (N := 9) hx hb hts inG2 hown hK hP (k := 48) (by decide) (F := (sF48 h0)) sE_48 rfl 0 (by decide) (hts _ k228) (fun _ h9 => h9) rfl dX2_swap_8 ?_
  refine lv_iload_n hx hb dX2_swap_11 rfl (lv_at hl 2 rfl) ?_
  refine lv_aload_n hx hb dX2_swap_12 rfl (lv_at hl 1 rfl) ?_
  refine fz_get (D := (dC, dI)) (ci := 2) (v := .ref (h0 + 49)) (C := RX2) (T := TX2) (N := 9) hx hb hts inG2 hown hK hP (k := 48) (by decide) (F := (sF48 h0)) sE_48 rfl 0 (by decide) (hts _ k228) (fun _ h9 => h9) rfl dX2_swap_13 ?_
  refine lv_iload_n hx hb dX2_swap_16 rfl (lv_at hl 3 rfl) ?_
  refine fz_ld (k := 49) (n := 4) hx hb hK hP 0 (by decide) sE_49 rfl ⟨by (first | ((try clear hsz); (try clear s₁); (try clear h9o); omega) | omega), by (first | ((try clear hsz); (try clear s₁); (try clear h9o); omega) | omega)⟩ (by decide) dX2_swap_17 ?_
  refine fz_st (k := 49) (n := 4) (i := i) (z := (μ 49 (j).toNat)) hx hb hK hP fA_in hS 0 (by decide) sE_49 rfl ⟨by (first | ((try clear hsz); (try clear s₁); (try clear h9o); omega) | omega), by (first | ((try clear hsz); (try clear s₁); (try clear h9o); omega) | omega)⟩ (by decide) dX2_swap_18 (fun H locs hP hS => ?_)
  obtain ⟨μ1, eμ1⟩ : ∃ x : va_M, x = uz μ 49 (i).toNat (μ 49 (j).toNat) := ⟨_, rfl⟩
  rw [← eμ1] at hP
  refine lv_aload_n hx hb dX2_swap_19 rfl (lv_at hl 1 rfl) ?_
  refine fz_get (D := (dC, dI)) (ci := 2) (v := .ref (h0 + 49)) (C := RX2) (T := TX2) (N := 9) hx hb hts inG2 hown hK hP (k := 48) (by decide) (F := (sF48 h0)) sE_48 rfl 0 (by decide) (hts _ k228) (fun _ h9 => h9) rfl dX2_swap_20 ?_
  refine lv_iload_n hx hb dX2_swap_23 rfl (lv_at hl 3 rfl) ?_
  refine lv_iload_n hx hb dX2_swap_24 rfl (lv_at hl 0 rfl) ?_
  refine fz_st (k := 49) (n := 4) (i := j) (z := (μ 49 (i).toNat)) hx hb hK hP fA_in hS 0 (by decide) sE_49 rfl ⟨by (first | ((try clear x); (try clear eμ1); (try clear μ1); (try clear hsz); (try clear s₁); (try clear h9o); omega) | omega), by (first | ((try clear x); (try clear eμ1); (try clear μ1); (try clear hsz); (try clear s₁); (try clear h9o); omega) | omega)⟩ (by decide) dX2_swap_25 (fun H locs hP hS => ?_)
  obtain ⟨μ2, eμ2⟩ : ∃ x : va_M, x = uz μ1 49 (j).toNat (μ 49 (i).toNat) := ⟨_, rfl⟩
  rw [← eμ2] at hP
  exact W.vret hx hb hr (fun t9 ht9 hW9 => ⟨⟨μ2, rfl, (by
            try dsimp only
            refine ⟨by rw [eμ2, eμ1]; exact fr_uz (fr_uz fr_rfl rfl) rfl, fun k => ?_⟩
            have k1 := h9o i.toNat
            have k2 := h9o j.toNat
            have k3 := h9o k
            rw [eμ2, eμ1]
            by_cases e1 : k = j.toNat
            · rw [e1, uz_s]; exact k1
            · rw [uz_n (by (first | ((try clear k3); (try clear k2); (try clear k1); (try clear μ1); (try clear x); (try clear eμ2); (try clear μ2); (try clear eμ1); (try clear hsz); (try clear s₁); (try clear hij); (try clear h9o); omega) | omega))]
              by_cases e2 : k = i.toNat
              · rw [e2, uz_s]; exact k2
              · rw [uz_n (by (first | ((try clear e1); (try clear k3); (try clear k2); (try clear k1); (try clear μ1); (try clear x); (try clear eμ2); (try clear μ2); (try clear eμ1); (try clear hsz); (try clear s₁); (try clear hij); (try clear h9o); omega) | omega))]; exact k3), by rw [ht9]; exact hP, va_K.moved hW9.alike hK⟩, hS.F ht9⟩) hS.2.2 dX2_swap_26
set_option maxHeartbeats 4000000 in
set_option maxRecDepth 100000 in
theorem LX2_goToNextOrder_7 {p : Program} {l : Launch} {e : Env} {R : Room} {s : State} {m : MethodId} {args : Array Value} {below : List Frame} {meth : Method} {c : Code} {cells slots : Nat} {Q : State → Prop} {dC : Nat → ClassId} {dI : Nat → Nat → Nat} {h0 : Nat} {cI cZ cII cIII : ClassId} (hx : p.tables.exec = Jvm.exec) (hb : c.code = cX2_goToNextOrder) (hml : c.maxLocals = 5) (hown : s.vm.findClass RX2 = some m.cls) (hts : ∀ w ∈ wsG, w.before args s = true) (hK : va_K (dC, dI) vwCl (sT cI cZ cII cIII) s) (hM : xM s) (hRf : 2 ≤ R.frames) (hRl : 37 ≤ R.locals) (hRc : cells ≤ R.cells) (hRs : slots ≤ R.slots) (μ0 : va_M) (hpc : 0 ≤ μ0 48 7 ∧ μ0 48 7 ≤ 4) (h9o : ∀ j, 0 ≤ μ0 49 j ∧ μ0 49 j ≤ 3) (hexit34 : ∀ (i : Int) (μ : va_M) (H : Heap) (locs : List Loc) (ls : Array Slot), (μ = μ0) → (-2 ≤ i ∧ i ≤ μ0 48 7 - 2) → va_P (dC, dI) vwCl (fw (sE cI cZ cII cIII h0) h0 233 μ) H → va_S (fA h0 233 s.heap.size) s.heap H locs → lv_has ls 5 [(1, .int (iZ (i))), (0, .ref (h0 + 48))] → W p l e R s m args below meth c H locs cells slots Q (F0 m 34 ls [])) :
    ∀ (n9 : Nat) (i : Int) (μ : va_M) (H : Heap) (locs : List Loc) (ls : Array Slot), (μ = μ0) → (-2 ≤ i ∧ i ≤ μ0 48 7 - 2 ∧ (i = -2 → μ0 48 7 = 0)) → (i + 3).toNat < n9 → va_P (dC, dI) vwCl (fw (sE cI cZ cII cIII h0) h0 233 μ) H → va_S (fA h0 233 s.heap.size) s.heap H locs → lv_has ls 5 [(1, .int (iZ (i))), (0, .ref (h0 + 48))] → W p l e R s m args below meth c H locs cells slots Q (F0 m 7 ls []) := by
  intro n9
  induction n9 with
  | zero => intro i μ H locs ls hm9_ hi hm9 hP hS hl; exact absurd hm9 (Nat.not_lt_zero _)
  | succ n9 ih =>
    intro i μ H locs ls hm9_ hi hm9 hP hS hl
    subst hm9_
    refine lv_iload_n hx hb dX2_goToNextOrder_7 rfl (lv_at hl 0 rfl) ?_
    refine fz_if_lt (tgt := 34) (by constructor <;> (first | ((try clear hm9); (try clear hm9_); (try clear hexit34); (try clear h9o); (try clear hRs); (try clear hRc); (try clear hRl); (try clear hRf); omega) | omega)) hx hb dX2_goToNextOrder_8 (by decide) (fun c8_ => ?_) (fun c8_ => ?_)
    · exact hexit34 (i) μ H locs ls (by rfl) (by (first | ((try clear hm9); (try clear hm9_); (try clear hexit34); (try clear h9o); (try clear hpc); (try clear hRs); (try clear hRc); (try clear hRl); (try clear hRf); omega) | omega)) hP hS (lv_sub hl [0, 1] rfl)
    · have v1 := h9o i.toNat
      have v2 := h9o (i + 1).toNat
      refine lv_aload_n hx hb dX2_goToNextOrder_11 rfl (lv_at hl 1 rfl) ?_
      refine fz_get (D := (dC, dI)) (ci := 2) (v := .ref (h0 + 49)) (C := RX2) (T := TX2) (N := 9) hx hb hts inG2 hown hK hP (k := 48) (by decide) (F := (sF48 h0)) sE_48 rfl 0 (by decide) (hts _ k228) (fun _ h9 => h9) rfl dX2_goToNextOrder_12 ?_
      refine lv_iload_n hx hb dX2_goToNextOrder_15 rfl (lv_at hl 0 rfl) ?_
      refine fz_ld (k := 49) (n := 4) hx hb hK hP 0 (by decide) sE_49 rfl ⟨by (first | ((try clear v2); (try clear v1); (try clear hm9); (try clear hi); (try clear hm9_); (try clear hexit34); (try clear h9o); (try clear hpc); (try clear hRs); (try clear hRc); (try clear hRl); (try clear hRf); omega) | omega), by (first | ((try clear v2); (try clear v1); (try clear c8_); (try clear hm9); (try clear hm9_); (try clear hexit34); (try clear h9o); (try clear hRs); (try clear hRc); (try clear hRl); (try clear hRf); omega) | omega)⟩ (by decide) dX2_goToNextOrder_16 ?_
      refine lv_aload_n hx hb dX2_goToNextOrder_17 rfl (lv_at hl 1 rfl) ?_
      refine fz_get (D := (dC, dI)) (ci := 2) (v := .ref (h0 + 49)) (C := RX2) (T := TX2) (N := 9) hx hb hts inG2 hown hK hP (k := 48) (by decide) (F := (sF48 h0)) sE_48 rfl 0 (by decide) (hts _ k228) (fun _ h9 => h9) rfl dX2_goToNextOrder_18 ?_
      refine lv_iload_n hx hb dX2_goToNextOrder_21 rfl (lv_at hl 0 rfl) ?_
      refine lv_iconst (v := iZ 1) hx hb dX2_goToNextOrder_22 rfl ?_
      refine lv_iadd hx hb dX2_goToNextOrder_23 ?_
      refine lv_topi (fun x9 ex9 => ?_)
      obtain rfl : x9 = iZ (i + 1) := ex9.trans (iZ_add _ _)
      refine fz_ld (k := 49) (n := 4) hx hb hK hP 0 (by decide) sE_49 rfl ⟨by (first | ((try clear ex9); (try clear v2); (try clear v1); (try clear hm9); (try clear hi); (try clear hm9_); (try clear hexit34); (try clear h9o); (try clear hpc); (try clear hRs); (try clear hRc); (try clear hRl); (try clear hRf); omega) | omega), by (first | ((try clear ex9); (try clear v2); (try clear v1); (try clear c8_); (try clear hm9); (try clear hm9_); (try clear hexit34); (try clear h9o); (try clear hRs); (try clear hRc); (try clear hRl); (try clear hRf); omega) | omega)⟩ (by decide) dX2_goToNextOrder_24 ?_
      refine fz_icmp_le (tgt := 34) (by constructor <;> (first | ((try clear ex9); (try clear v2); (try clear c8_); (try clear hm9); (try clear hi); (try clear hm9_); (try clear hexit34); (try clear h9o); (try clear hpc); (try clear hRs); (try clear hRc); (try clear hRl); (try clear hRf); omega) | omega)) (by constructor <;> (first | ((try clear ex9); (try clear v1); (try clear c8_); (try clear hm9); (try clear hi); (try clear hm9_); (try clear hexit34); (try clear h9o); (try clear hpc); (try clear hRs); (try clear hRc); (try clear hRl); (try clear hRf); omega) | omega)) hx hb dX2_goToNextOrder_25 (by decide) (fun c25_ => ?_) (fun c25_ => ?_)
      · exact hexit34 (i) μ H locs ls (by rfl) (by (first | ((try clear c25_); (try clear ex9); (try clear v2); (try clear v1); (try clear hm9); (try clear hm9_); (try clear hexit34); (try clear h9o); (try clear hpc); (try clear hRs); (try clear hRc); (try clear hRl); (try clear hRf); omega) | omega)) hP hS (lv_sub hl [0, 1] rfl)
      · refine lv_iinc (v := iZ (i - 1)) (lv' := [(1, .int (iZ (i - 1))), (0, .ref (h0 + 48))]) hx hb dX2_goToNextOrder_28 hl (k := 0) rfl (iZ_add _ (-1)) (by decide) rfl (fun ls hl => ?_)
        refine lv_goto (tgt := 7) hx hb dX2_goToNextOrder_31 (by decide) ?_
        exact ih (i - 1) μ H locs ls (by rfl) (by (first | ((try clear c25_); (try clear ex9); (try clear v2); (try clear v1); (try clear hm9); (try clear hm9_); (try clear hexit34); (try clear h9o); (try clear hpc); (try clear hRs); (try clear hRc); (try clear hRl); (try clear hRf); omega) | omega)) (by (first | ((try clear c25_); (try clear ex9); (try clear v2); (try clear v1); (try clear hm9_); (try clear hexit34); (try clear h9o); (try clear hpc); (try clear hRs); (try clear hRc); (try clear hRl); (try clear hRf); omega) | omega)) hP hS (lv_sub hl [0, 1] rfl)
set_option maxHeartbeats 4000000 in
set_option maxRecDepth 100000 in
theorem LX2_goToNextOrder_47 {p : Program} {l : Launch} {e : Env} {R : Room} {s : State} {m : MethodId} {args : Array Value} {below : List Frame} {meth : Method} {c : Code} {cells slots : Nat} {Q : State → Prop} {dC : Nat → ClassId} {dI : Nat → Nat → Nat} {h0 : Nat} {cI cZ cII cIII : ClassId} (hx : p.tables.exec = Jvm.exec) (hb : c.code = cX2_goToNextOrder) (hml : c.maxLocals = 5) (hown : s.vm.findClass RX2 = some m.cls) (hts : ∀ w ∈ wsG, w.before args s = true) (hK : va_K (dC, dI) vwCl (sT cI cZ cII cIII) s) (hM : xM s) (hRf : 2 ≤ R.frames) (hRl : 37 ≤ R.locals) (hRc : cells ≤ R.cells) (hRs : slots ≤ R.slots) (μ0 : va_M) (i : Int) (hpc : 0 ≤ μ0 48 7 ∧ μ0 48 7 ≤ 4) (h9o : ∀ j, 0 ≤ μ0 49 j ∧ μ0 49 j ≤ 3) (hii : 0 ≤ i ∧ i ≤ 2) (hexit75 : ∀ (j : Int) (μ : va_M) (H : Heap) (locs : List Loc) (ls : Array Slot), (μ = μ0) → (i + 1 ≤ j ∧ j ≤ μ0 48 7 - 1) → va_P (dC, dI) vwCl (fw (sE cI cZ cII cIII h0) h0 233 μ) H → va_S (fA h0 233 s.heap.size) s.heap H locs → lv_has ls 5 [(2, .int (iZ (j))), (1, .int (iZ (i))), (0, .ref (h0 + 48))] → W p l e R s m args below meth c H locs cells slots Q (F0 m 75 ls [])) :
    ∀ (n9 : Nat) (j : Int) (μ : va_M) (H : Heap) (locs : List Loc) (ls : Array Slot), (μ = μ0) → (i + 1 ≤ j ∧ j ≤ μ0 48 7 - 1) → (j + 1).toNat < n9 → va_P (dC, dI) vwCl (fw (sE cI cZ cII cIII h0) h0 233 μ) H → va_S (fA h0 233 s.heap.size) s.heap H locs → lv_has ls 5 [(2, .int (iZ (j))), (1, .int (iZ (i))), (0, .ref (h0 + 48))] → W p l e R s m args below meth c H locs cells slots Q (F0 m 47 ls []) := by
  intro n9
  induction n9 with
  | zero => intro j μ H locs ls hm9_ hj hm9 hP hS hl; exact absurd hm9 (Nat.not_lt_zero _)
  | succ n9 ih =>
    intro j μ H locs ls hm9_ hj hm9 hP hS hl
    subst hm9_
    refine lv_iload_n hx hb dX2_goToNextOrder_47 rfl (lv_at hl 0 rfl) ?_
    refine lv_iload_n hx hb dX2_goToNextOrder_48 rfl (lv_at hl 1 rfl) ?_
    refine lv_iconst (v := iZ 1) hx hb dX2_goToNextOrder_49 rfl ?_
    refine lv_iadd hx hb dX2_goToNextOrder_50 ?_
    refine lv_topi (fun x9 ex9 => ?_)
    obtain rfl : x9 = iZ (i + 1) := ex9.trans (iZ_add _ _)
    refine fz_icmp_le (tgt := 75) (by constructor <;> (first | ((try clear ex9); (try clear hm9); (try clear hm9_); (try clear hexit75); (try clear h9o); (try clear hRs); (try clear hRc); (try clear hRl); (try clear hRf); omega) | omega)) (by constructor <;> (first | ((try clear ex9); (try clear hm9); (try clear hj); (try clear hm9_); (try clear hexit75); (try clear h9o); (try clear hpc); (try clear hRs); (try clear hRc); (try clear hRl); (try clear hRf); omega) | omega)) hx hb dX2_goToNextOrder_51 (by decide) (fun c51_ => ?_) (fun c51_ => ?_)
    · exact hexit75 (j) μ H locs ls (by rfl) (by (first | ((try clear c51_); (try clear ex9); (try clear hm9); (try clear hm9_); (try clear hexit75); (try clear hii); (try clear h9o); (try clear hpc); (try clear hRs); (try clear hRc); (try clear hRl); (try clear hRf); omega) | omega)) hP hS (lv_sub hl [0, 1, 2] rfl)
    · have v1 := h9o i.toNat
      have v2 := h9o j.toNat
      refine lv_aload_n hx hb dX2_goToNextOrder_54 rfl (lv_at hl 2 rfl) ?_
      refine fz_get (D := (dC, dI)) (ci := 2) (v := .ref (h0 + 49)) (C := RX2) (T := TX2) (N := 9) hx hb hts inG2 hown hK hP (k := 48) (by decide) (F := (sF48 h0)) sE_48 rfl 0 (by decide) (hts _ k228) (fun _ h9 => h9) rfl dX2_goToNextOrder_55 ?_
      refine lv_iload_n hx hb dX2_goToNextOrder_58 rfl (lv_at hl 0 rfl) ?_
      refine fz_ld (k := 49) (n := 4) hx hb hK hP 0 (by decide) sE_49 rfl ⟨by (first | ((try clear v2); (try clear v1); (try clear ex9); (try clear hm9); (try clear hj); (try clear hm9_); (try clear hexit75); (try clear h9o); (try clear hpc); (try clear hRs); (try clear hRc); (try clear hRl); (try clear hRf); omega) | omega), by (first | ((try clear v2); (try clear v1); (try clear c51_); (try clear ex9); (try clear hm9); (try clear hm9_); (try clear hexit75); (try clear hii); (try clear h9o); (try clear hRs); (try clear hRc); (try clear hRl); (try clear hRf); omega) | omega)⟩ (by decide) dX2_goToNextOrder_59 ?_
      refine lv_aload_n hx hb dX2_goToNextOrder_60 rfl (lv_at hl 2 rfl) ?_
      refine fz_get (D := (dC, dI)) (ci := 2) (v := .ref (h0 + 49)) (C := RX2) (T := TX2) (N := 9) hx hb hts inG2 hown hK hP (k := 48) (by decide) (F := (sF48 h0)) sE_48 rfl 0 (by decide) (hts _ k228) (fun _ h9 => h9) rfl dX2_goToNextOrder_61 ?_
      refine lv_iload_n hx hb dX2_goToNextOrder_64 rfl (lv_at hl 1 rfl) ?_
      refine fz_ld (k := 49) (n := 4) hx hb hK hP 0 (by decide) sE_49 rfl ⟨by (first | ((try clear v2); (try clear v1); (try clear c51_); (try clear ex9); (try clear hm9); (try clear hj); (try clear hm9_); (try clear hexit75); (try clear h9o); (try clear hpc); (try clear hRs); (try clear hRc); (try clear hRl); (try clear hRf); omega) | omega), by (first | ((try clear v2); (try clear v1); (try clear c51_); (try clear ex9); (try clear hm9); (try clear hj); (try clear hm9_); (try clear hexit75); (try clear h9o); (try clear hpc); (try clear hRs); (try clear hRc); (try clear hRl); (try clear hRf); omega) | omega)⟩ (by decide) dX2_goToNextOrder_65 ?_
      refine fz_icmp_ge (tgt := 75) (by constructor <;> (first | ((try clear v1); (try clear c51_); (try clear ex9); (try clear hm9); (try clear hj); (try clear hm9_); (try clear hexit75); (try clear hii); (try clear h9o); (try clear hpc); (try clear hRs); (try clear hRc); (try clear hRl); (try clear hRf); omega) | omega)) (by constructor <;> (first | ((try clear v2); (try clear c51_); (try clear ex9); (try clear hm9); (try clear hj); (try clear hm9_); (try clear hexit75); (try clear hii); (try clear h9o); (try clear hpc); (try clear hRs); (try clear hRc); (try clear hRl); (try clear hRf); omega) | omega)) hx hb dX2_goToNextOrder_66 (by decide) (fun c66_ => ?_) (fun c66_ => ?_)
      · exact hexit75 (j) μ H locs ls (by rfl) (by (first | ((try clear c66_); (try clear v2); (try clear v1); (try clear c51_); (try clear ex9); (try clear hm9); (try clear hm9_); (try clear hexit75); (try clear hii); (try clear h9o); (try clear hpc); (try clear hRs); (try clear hRc); (try clear hRl); (try clear hRf); omega) | omega)) hP hS (lv_sub hl [0, 1, 2] rfl)
      · refine lv_iinc (v := iZ (j - 1)) (lv' := [(2, .int (iZ (j - 1))), (1, .int (iZ (i))), (0, .ref (h0 + 48))]) hx hb dX2_goToNextOrder_69 hl (k := 0) rfl (iZ_add _ (-1)) (by decide) rfl (fun ls hl => ?_)
        refine lv_goto (tgt := 47) hx hb dX2_goToNextOrder_72 (by decide) ?_
        exact ih (j - 1) μ H locs ls (by rfl) (by (first | ((try clear c66_); (try clear v2); (try clear v1); (try clear ex9); (try clear hm9); (try clear hm9_); (try clear hexit75); (try clear hii); (try clear h9o); (try clear hpc); (try clear hRs); (try clear hRc); (try clear hRl); (try clear hRf); omega) | omega)) (by (first | ((try clear c66_); (try clear v2); (try clear v1); (try clear ex9); (try clear hj); (try clear hm9_); (try clear hexit75); (try clear h9o); (try clear hpc); (try clear hRs); (try clear hRc); (try clear hRl); (try clear hRf); omega) | omega)) hP hS (lv_sub hl [0, 1, 2] rfl)
set_option maxHeartbeats 4000000 in
set_option maxRecDepth 100000 in
theorem LX2_goToNextOrder_93 {p : Program} {l : Launch} {e : Env} {R : Room} {s : State} {m : MethodId} {args : Array Value} {below : List Frame} {meth : Method} {c : Code} {cells slots : Nat} {Q : State → Prop} {dC : Nat → ClassId} {dI : Nat → Nat → Nat} {h0 : Nat} {cI cZ cII cIII : ClassId} (hx : p.tables.exec = Jvm.exec) (hb : c.code = cX2_goToNextOrder) (hml : c.maxLocals = 5) (hown : s.vm.findClass RX2 = some m.cls) (hts : ∀ w ∈ wsG, w.before args s = true) (hK : va_K (dC, dI) vwCl (sT cI cZ cII cIII) s) (hM : xM s) (hRf : 2 ≤ R.frames) (hRl : 37 ≤ R.locals) (hRc : cells ≤ R.cells) (hRs : slots ≤ R.slots) (μ0 : va_M) (i : Int) (hexit115 : ∀ (j : Int) (k : Int) (μ : va_M) (H : Heap) (locs : List Loc) (ls : Array Slot), (fr (fun x _ => x = 49) μ0 μ) → (∀ j, 0 ≤ μ 49 j ∧ μ 49 j ≤ 3) → va_P (dC, dI) vwCl (fw (sE cI cZ cII cIII h0) h0 233 μ) H → va_S (fA h0 233 s.heap.size) s.heap H locs → lv_has ls 5 [(1, .int (iZ (i)))] → W p l e R s m args below meth c H locs cells slots Q (F0 m 115 ls [])) :
    ∀ (n9 : Nat) (j : Int) (k : Int) (μ : va_M) (H : Heap) (locs : List Loc) (ls : Array Slot), (0 ≤ j ∧ j ≤ 4 ∧ -1 ≤ k ∧ k ≤ 3) → (fr (fun x _ => x = 49) μ0 μ) → (∀ j, 0 ≤ μ 49 j ∧ μ 49 j ≤ 3) → (5 - j).toNat < n9 → va_P (dC, dI) vwCl (fw (sE cI cZ cII cIII h0) h0 233 μ) H → va_S (fA h0 233 s.heap.size) s.heap H locs → lv_has ls 5 [(3, .int (iZ (j))), (4, .int (iZ (k))), (1, .int (iZ (i))), (0, .ref (h0 + 48))] → W p l e R s m args below meth c H locs cells slots Q (F0 m 93 ls []) := by
  intro n9
  induction n9 with
  | zero => intro j k μ H locs ls hj hf h9o hm9 hP hS hl; exact absurd hm9 (Nat.not_lt_zero _)
  | succ n9 ih =>
    intro j k μ H locs ls hj hf h9o hm9 hP hS hl
    refine lv_iload_n hx hb dX2_goToNextOrder_93 rfl (lv_at hl 0 rfl) ?_
    refine lv_iload hx hb dX2_goToNextOrder_94 (lv_at hl 1 rfl) ?_
    refine fz_icmp_ge (tgt := 115) (by constructor <;> (first | ((try clear hm9); (try clear h9o); (try clear hf); (try clear hexit115); (try clear hRs); (try clear hRc); (try clear hRl); (try clear hRf); omega) | omega)) (by constructor <;> (first | ((try clear hm9); (try clear h9o); (try clear hf); (try clear hexit115); (try clear hRs); (try clear hRc); (try clear hRl); (try clear hRf); omega) | omega)) hx hb dX2_goToNextOrder_96 (by decide) (fun c96_ => ?_) (fun c96_ => ?_)
    · exact hexit115 (j) (k) μ H locs ls (by exact hf) (by exact h9o) hP hS (lv_sub hl [2] rfl)
    · refine lv_aload_n hx hb dX2_goToNextOrder_99 rfl (lv_at hl 3 rfl) ?_
      refine lv_iload_n hx hb dX2_goToNextOrder_100 rfl (lv_at hl 0 rfl) ?_
      refine lv_iload hx hb dX2_goToNextOrder_101 (lv_at hl 1 rfl) ?_
      refine va_callv (va_runV (As := [.int (iZ (j)), .int (iZ (k))]) (rest := []) ⟨hx, hb, hml, hown, hts⟩ (s_Oswap l dC dI cI cZ cII cIII h0 H.size μ (j) (k) (by exact h9o) (by (first | ((try clear hm9); (try clear h9o); (try clear hf); (try clear hexit115); (try clear hRs); (try clear hRc); (try clear hRl); (try clear hRf); omega) | omega))) (cwV 2 hts (gV_G k1065 k1067 ks_yX2_swap k9 k1068) rfl rfl rfl (by decide +kernel) ⟨by show 1 + 1 ≤ _; (first | ((try clear c96_); (try clear hm9); (try clear h9o); (try clear hf); (try clear hj); (try clear hexit115); (try clear hRs); (try clear hRc); (try clear hRl); omega) | omega), by show 8 + (4 + 11) + (14) ≤ _; (first | ((try clear c96_); (try clear hm9); (try clear h9o); (try clear hf); (try clear hj); (try clear hexit115); (try clear hRs); (try clear hRc); (try clear hRf); omega) | omega)⟩) ⟨fun a U g mk q => by obtain ⟨q0, q1, qP, qK, qM⟩ := q; exact ⟨q0, q1, qP, va_K.moved (u := U) (U := U.calling g mk a) (Vm.Alike.refl U.vm) qK, qM⟩, va_recv hK hP (ci := 2) (q0 := 48) rfl ((fw_get (by decide)).trans (by rw [sE_48])), fun U hU hW => ⟨rfl, by rw [hU], by rw [hU]; exact hP, va_K.moved hW.alike hK, xM_warm hW hM⟩⟩ rfl rfl hl.1 rfl (lv_room (Nat.le_of_ble_eq_true rfl)) dX2_goToNextOrder_103 ⟨hRc, hRs⟩) hS (fun q _ h => fA_le hS.1 q h) (fA_le hS.1) (fun u9 t9 H1 locs ht9 hvm9 hw9 hB9 hz9 hk9 hS => ?_)
      obtain ⟨hP, -⟩ := hB9
      rw [ht9] at hP
      generalize H1 = H at hP hS ⊢
      obtain ⟨μx, eμx⟩ : ∃ x : va_M, x = u9 := ⟨_, rfl⟩
      rw [← eμx] at hP hw9
      have hμx := hw9; clear hw9
      obtain ⟨f2_, w2_⟩ := hμx
      refine lv_iinc (v := iZ (j + 1)) (lv' := [(3, .int (iZ (j + 1))), (4, .int (iZ (k))), (1, .int (iZ (i))), (0, .ref (h0 + 48))]) hx hb dX2_goToNextOrder_106 hl (k := 0) rfl (iZ_add _ _) (by decide) rfl (fun ls hl => ?_)
      refine lv_iinc (v := iZ (k - 1)) (lv' := [(4, .int (iZ (k - 1))), (3, .int (iZ (j + 1))), (1, .int (iZ (i))), (0, .ref (h0 + 48))]) hx hb dX2_goToNextOrder_109 hl (k := 1) rfl (iZ_add _ (-1)) (by decide) rfl (fun ls hl => ?_)
      refine lv_goto (tgt := 93) hx hb dX2_goToNextOrder_112 (by decide) ?_
      exact ih (j + 1) (k - 1) μx H locs ls (by (first | ((try clear w2_); (try clear f2_); (try clear hμx); (try clear x); (try clear eμx); (try clear μx); (try clear hz9); (try clear hm9); (try clear h9o); (try clear hf); (try clear hexit115); (try clear hRs); (try clear hRc); (try clear hRl); (try clear hRf); omega) | omega)) (by exact fr_trans hf f2_) (by exact w2_) (by (first | ((try clear w2_); (try clear f2_); (try clear hμx); (try clear x); (try clear eμx); (try clear μx); (try clear hz9); (try clear h9o); (try clear hf); (try clear hexit115); (try clear hRs); (try clear hRc); (try clear hRl); (try clear hRf); omega) | omega)) hP hS (lv_sub hl [1, 0, 2, 3] rfl)
set_option maxHeartbeats 4000000 in
set_option maxRecDepth 100000 in
theorem s_OgoToNextOrder (l : Launch) (dC : Nat → ClassId) (dI : Nat → Nat → Nat) (cI cZ cII cIII : ClassId) (h0 sz : Nat) (μ : va_M)  (hpc : 0 ≤ μ 48 7 ∧ μ 48 7 ≤ 4) (h9o : ∀ j, 0 ≤ μ 49 j ∧ μ 49 j ≤ 3) : Met l yX2_goToNextOrder (Cond.code yX2_goToNextOrder cX2_goToNextOrder 5 (some .int) :: wsG) ({ frames := 2, cells := 0, slots := 0, locals := 37 } : Room) (va_Pc [.ref (h0 + 48)] (fun U => U.heap.size = sz ∧ va_P (dC, dI) vwCl (fw (sE cI cZ cII cIII h0) h0 233 μ) U.heap ∧ va_K (dC, dI) vwCl (sT cI cZ cII cIII) U ∧ xM U)) (va_Qi (fun (r9 : Int32) (u : va_M × Int) => r9 = iZ u.2 ∧ (fun (u : va_M) (r : Int) => fr (fun x _ => x = 49) μ u ∧ (∀ j, 0 ≤ u 49 j ∧ u 49 j ≤ 3) ∧ -1 ≤ r ∧ r ≤ 2) u.1 u.2) (fun u t => va_P (dC, dI) vwCl (fw (sE cI cZ cII cIII h0) h0 233 u.1) t.heap ∧ va_K (dC, dI) vwCl (sT cI cZ cII cIII) t) (fA h0 233 sz)) 0 0 (fA h0 233 sz) := by
  refine Met.ofW (cc := cX2_goToNextOrder) (maxL := 5) (ret := (some .int)) (by decide) rfl ?_
  intro p e s m args below meth c s₁ B hml hv
  obtain ⟨rfl, hsz, hP, hK, hM⟩ := hv
  have hx := B.exec
  have hb := B.bytes
  have hr := B.returns
  have hts : ∀ w ∈ wsG, w.before _ s = true := hG_of (atoms_spec (ws := (Cond.code yX2_goToNextOrder cX2_goToNextOrder 5 (some .int) :: wsG)) B.pre)
  have hown : s.vm.findClass RX2 = some m.cls := findClass_of_methodNamed B.named
  have hlocks := B.notSynchronized
  subst hsz
  have hS : va_S (fA h0 233 s.heap.size) s.heap s.heap [] := va_S.rf
  have hl := lv_entry ([.ref (h0 + 48)]) (n := 5) (Nat.le_of_ble_eq_true rfl)
  rw [lg_entry_eq]
  generalize (lg_sl ([.ref (h0 + 48)]) ++ List.replicate (5 - (lg_sl ([.ref (h0 + 48)])).length) Slot.unset).toArray = ls at hl ⊢
  have hl : lv_has ls 5 [(0, .ref (h0 + 48))] := hl
  refine lv_aload_n hx hb dX2_goToNextOrder_0 rfl (lv_at hl 0 rfl) ?_
  refine fz_get (D := (dC, dI)) (ci := 2) (v := .int (iZ (μ 48 7))) (C := RX2) (T := TX2) (N := 9) hx hb hts inG2 hown hK hP (k := 48) (by decide) (F := (sF48 h0)) sE_48 rfl 7 (by decide) (hts _ k235) (fun _ h9 => h9) rfl dX2_goToNextOrder_1 ?_
  refine lv_iconst (v := iZ 2) hx hb dX2_goToNextOrder_4 rfl ?_
  refine lv_isub hx hb dX2_goToNextOrder_5 ?_
  refine lv_topi (fun x9 ex9 => ?_)
  obtain rfl : x9 = iZ ((μ 48 7) - 2) := ex9.trans (iZ_sub _ _)
  refine lv_istore_n (lv' := [(1, .int (iZ ((μ 48 7) - 2))), (0, .ref (h0 + 48))]) hx hb dX2_goToNextOrder_6 rfl hl (by decide) rfl (fun ls hl => ?_)
  refine LX2_goToNextOrder_7 hx hb hml hown hts hK hM (Nat.le_of_ble_eq_true rfl) (Nat.le_of_ble_eq_true rfl) (Nat.le_of_ble_eq_true rfl) (Nat.le_of_ble_eq_true rfl) (μ) (by assumption) (by exact h9o) ?_ _ ((μ 48 7) - 2) μ s.heap [] ls (by rfl) (by (first | ((try clear ex9); (try clear hsz); (try clear s₁); (try clear h9o); omega) | omega)) (Nat.lt_succ_self _) hP hS (lv_sub hl [0, 1] rfl)
  · intro i_1 μ1_ H locs ls q1_1 q2_1 hP hS hl
    have hl : lv_has ls 5 [(1, .int (iZ (i_1))), (0, .ref (h0 + 48))] := hl
    have hPn34 := hP
    have hln34 := hl
    obtain rfl := q1_1
    have hP := hPn34
    have hl := hln34
    have Q2 := q2_1
    refine lv_iload_n hx hb dX2_goToNextOrder_34 rfl (lv_at hl 0 rfl) ?_
    refine fz_if_ge (tgt := 40) (by constructor <;> (first | ((try clear Q2); (try clear hln34); (try clear hPn34); (try clear q1_1); (try clear ex9); (try clear hsz); (try clear s₁); (try clear h9o); omega) | omega)) hx hb dX2_goToNextOrder_35 (by decide) (fun c35_ => ?_) (fun c35_ => ?_)
    · refine lv_aload_n hx hb dX2_goToNextOrder_40 rfl (lv_at hl 1 rfl) ?_
      refine fz_get (D := (dC, dI)) (ci := 2) (v := .int (iZ (μ1_ 48 7))) (C := RX2) (T := TX2) (N := 9) hx hb hts inG2 hown hK hP (k := 48) (by decide) (F := (sF48 h0)) sE_48 rfl 7 (by decide) (hts _ k235) (fun _ h9 => h9) rfl dX2_goToNextOrder_41 ?_
      refine lv_iconst (v := iZ 1) hx hb dX2_goToNextOrder_44 rfl ?_
      refine lv_isub hx hb dX2_goToNextOrder_45 ?_
      refine lv_topi (fun x9 ex9 => ?_)
      obtain rfl : x9 = iZ ((μ1_ 48 7) - 1) := ex9.trans (iZ_sub _ _)
      refine lv_istore_n (lv' := [(2, .int (iZ ((μ1_ 48 7) - 1))), (1, .int (iZ (i_1))), (0, .ref (h0 + 48))]) hx hb dX2_goToNextOrder_46 rfl hl (by decide) rfl (fun ls hl => ?_)
      refine LX2_goToNextOrder_47 hx hb hml hown hts hK hM (Nat.le_of_ble_eq_true rfl) (Nat.le_of_ble_eq_true rfl) (Nat.le_of_ble_eq_true rfl) (Nat.le_of_ble_eq_true rfl) (μ1_) (i_1) (by (first | ((try clear ex9); (try clear c35_); (try clear Q2); (try clear hln34); (try clear hPn34); (try clear q2_1); (try clear q1_1); (try clear μ1_); (try clear i_1); (try clear hsz); (try clear s₁); (try clear h9o); omega) | omega)) (by exact h9o) (by (first | ((try clear ex9); (try clear Q2); (try clear hln34); (try clear hPn34); (try clear q1_1); (try clear hsz); (try clear s₁); (try clear h9o); omega) | omega)) ?_ _ ((μ1_ 48 7) - 1) μ1_ H locs ls (by rfl) (by (first | ((try clear ex9); (try clear c35_); (try clear Q2); (try clear hln34); (try clear hPn34); (try clear q1_1); (try clear hsz); (try clear s₁); (try clear h9o); (try clear hpc); omega) | omega)) (Nat.lt_succ_self _) hP hS (lv_sub hl [0, 1, 2] rfl)
      · intro j_2 μ2_ H locs ls q3_2 q4_2 hP hS hl
        have hl : lv_has ls 5 [(2, .int (iZ (j_2))), (1, .int (iZ (i_1))), (0, .ref (h0 + 48))] := hl
        have hPn75 := hP
        have hln75 := hl
        obtain rfl := q3_2
        have hP := hPn75
        have hl := hln75
        have Q4 := q4_2
        refine lv_aload_n hx hb dX2_goToNextOrder_75 rfl (lv_at hl 2 rfl) ?_
        refine lv_iload_n hx hb dX2_goToNextOrder_76 rfl (lv_at hl 1 rfl) ?_
        refine lv_iload_n hx hb dX2_goToNextOrder_77 rfl (lv_at hl 0 rfl) ?_
        refine va_callv (va_runV (As := [.int (iZ (i_1)), .int (iZ (j_2))]) (rest := []) ⟨hx, hb, hml, hown, hts⟩ (s_Oswap l dC dI cI cZ cII cIII h0 H.size μ2_ (i_1) (j_2) (by exact h9o) (by (first | ((try clear Q4); (try clear hln75); (try clear hPn75); (try clear q3_2); (try clear ex9); (try clear Q2); (try clear hln34); (try clear hPn34); (try clear q1_1); (try clear μ1_); (try clear hsz); (try clear s₁); (try clear h9o); omega) | omega))) (cwV 2 hts (gV_G k1065 k1067 ks_yX2_swap k9 k1068) rfl rfl rfl (by decide +kernel) ⟨Nat.le_of_ble_eq_true rfl, Nat.le_of_ble_eq_true rfl⟩) ⟨fun a U g mk q => by obtain ⟨q0, q1, qP, qK, qM⟩ := q; exact ⟨q0, q1, qP, va_K.moved (u := U) (U := U.calling g mk a) (Vm.Alike.refl U.vm) qK, qM⟩, va_recv hK hP (ci := 2) (q0 := 48) rfl ((fw_get (by decide)).trans (by rw [sE_48])), fun U hU hW => ⟨rfl, by rw [hU], by rw [hU]; exact hP, va_K.moved hW.alike hK, xM_warm hW hM⟩⟩ rfl rfl hl.1 rfl (lv_room (Nat.le_of_ble_eq_true rfl)) dX2_goToNextOrder_78 ⟨Nat.le_of_ble_eq_true rfl, Nat.le_of_ble_eq_true rfl⟩) hS (fun q _ h => fA_le hS.1 q h) (fA_le hS.1) (fun u9 t9 H1 locs ht9 hvm9 hw9 hB9 hz9 hk9 hS => ?_)
        obtain ⟨hP, -⟩ := hB9
        rw [ht9] at hP
        generalize H1 = H at hP hS ⊢
        obtain ⟨μw, eμw⟩ : ∃ x : va_M, x = u9 := ⟨_, rfl⟩
        rw [← eμw] at hP hw9
        have hμw := hw9; clear hw9
        obtain ⟨f1_, w1_⟩ := hμw
        have w7_ : μw 48 7 = μ2_ 48 7 := f1_ _ _ (by decide)
        refine lv_iload_n hx hb dX2_goToNextOrder_81 rfl (lv_at hl 1 rfl) ?_
        refine lv_iconst (v := iZ 1) hx hb dX2_goToNextOrder_82 rfl ?_
        refine lv_iadd hx hb dX2_goToNextOrder_83 ?_
        refine lv_topi (fun x9 ex9 => ?_)
        obtain rfl : x9 = iZ (i_1 + 1) := ex9.trans (iZ_add _ _)
        refine lv_istore_n (lv' := [(3, .int (iZ (i_1 + 1))), (2, .int (iZ (j_2))), (1, .int (iZ (i_1))), (0, .ref (h0 + 48))]) hx hb dX2_goToNextOrder_84 rfl hl (by decide) rfl (fun ls hl => ?_)
        refine lv_aload_n hx hb dX2_goToNextOrder_85 rfl (lv_at hl 3 rfl) ?_
        refine fz_get (D := (dC, dI)) (ci := 2) (v := .int (iZ (μw 48 7))) (C := RX2) (T := TX2) (N := 9) hx hb hts inG2 hown hK hP (k := 48) (by decide) (F := (sF48 h0)) sE_48 rfl 7 (by decide) (hts _ k235) (fun _ h9 => h9) rfl dX2_goToNextOrder_86 ?_
        refine lv_iconst (v := iZ 1) hx hb dX2_goToNextOrder_89 rfl ?_
        refine lv_isub hx hb dX2_goToNextOrder_90 ?_
        refine lv_topi (fun x9 ex9 => ?_)
        obtain rfl : x9 = iZ ((μw 48 7) - 1) := ex9.trans (iZ_sub _ _)
        refine lv_istore (lv' := [(4, .int (iZ ((μw 48 7) - 1))), (3, .int (iZ (i_1 + 1))), (2, .int (iZ (j_2))), (1, .int (iZ (i_1))), (0, .ref (h0 + 48))]) hx hb dX2_goToNextOrder_91 hl (by decide) rfl (fun ls hl => ?_)
        refine LX2_goToNextOrder_93 hx hb hml hown hts hK hM (Nat.le_of_ble_eq_true rfl) (Nat.le_of_ble_eq_true rfl) (Nat.le_of_ble_eq_true rfl) (Nat.le_of_ble_eq_true rfl) (μ2_) (i_1)  ?_ _ (i_1 + 1) ((μw 48 7) - 1) μw H locs ls (by (first | ((try clear ex9); (try clear w1_); (try clear f1_); (try clear hμw); (try clear x); (try clear eμw); (try clear hz9); (try clear Q4); (try clear hln75); (try clear hPn75); (try clear q4_2); (try clear q3_2); (try clear Q2); (try clear hln34); (try clear hPn34); (try clear q1_1); (try clear μ1_); (try clear hsz); (try clear s₁); (try clear h9o); omega) | omega)) (by exact f1_) (by exact w1_) (Nat.lt_succ_self _) hP hS (lv_sub hl [1, 0, 3, 4] rfl)
        · intro j_3 k_3 μ3_ H locs ls q5_3 q6_3 hP hS hl
          have hl : lv_has ls 5 [(1, .int (iZ (i_1)))] := hl
          refine lv_iload_n hx hb dX2_goToNextOrder_115 rfl (lv_at hl 0 rfl) ?_
          exact W.iret (v := iZ (i_1)) hx hb hr (fun t9 ht9 hW9 => ⟨⟨iZ (i_1), (μ3_, i_1), rfl, ⟨rfl, (by
                            dsimp only
                            exact ⟨q5_3, q6_3, by (first | ((try clear q6_3); (try clear q5_3); (try clear μ3_); (try clear k_3); (try clear j_3); (try clear ex9); (try clear w1_); (try clear f1_); (try clear hμw); (try clear x); (try clear eμw); (try clear hz9); (try clear Q4); (try clear hln75); (try clear hPn75); (try clear q4_2); (try clear q3_2); (try clear Q2); (try clear hln34); (try clear hPn34); (try clear q1_1); (try clear μ1_); (try clear hsz); (try clear s₁); (try clear h9o); omega) | omega)⟩)⟩, by rw [ht9]; exact hP, va_K.moved hW9.alike hK⟩, hS.F ht9⟩) hS.2.2 dX2_goToNextOrder_116
    · refine lv_iconst (v := iZ (-1)) hx hb dX2_goToNextOrder_38 rfl ?_
      exact W.iret (v := iZ ((-1))) hx hb hr (fun t9 ht9 hW9 => ⟨⟨iZ ((-1)), (μ1_, (-1)), rfl, ⟨rfl, (by
                    dsimp only
                    exact ⟨fr_rfl, h9o, by (first | ((try clear c35_); (try clear Q2); (try clear hln34); (try clear hPn34); (try clear q2_1); (try clear q1_1); (try clear ex9); (try clear hsz); (try clear s₁); (try clear h9o); (try clear hpc); omega) | omega)⟩)⟩, by rw [ht9]; exact hP, va_K.moved hW9.alike hK⟩, hS.F ht9⟩) hS.2.2 dX2_goToNextOrder_39
set_option maxHeartbeats 4000000 in
set_option maxRecDepth 100000 in
theorem LX2_sameEnds_19 {p : Program} {l : Launch} {e : Env} {R : Room} {s : State} {m : MethodId} {args : Array Value} {below : List Frame} {meth : Method} {c : Code} {cells slots : Nat} {Q : State → Prop} {dC : Nat → ClassId} {dI : Nat → Nat → Nat} {h0 : Nat} {cI cZ cII cIII : ClassId} (hx : p.tables.exec = Jvm.exec) (hb : c.code = cX2_sameEnds) (hml : c.maxLocals = 4) (hown : s.vm.findClass RX2 = some m.cls) (hts : ∀ w ∈ wsG, w.before args s = true) (hK : va_K (dC, dI) vwCl (sT cI cZ cII cIII) s) (hM : xM s) (hRf : 1 ≤ R.frames) (hRl : 14 ≤ R.locals) (hRc : cells ≤ R.cells) (hRs : slots ≤ R.slots) (μ0 : va_M) (a9 : Int) (b9 : Int) (ho : ordOK μ0) (hab : (0 ≤ a9 ∧ a9 < 24) ∧ 0 ≤ b9 ∧ b9 < 24) (hexit48 : ∀ (i : Int) (μ : va_M) (H : Heap) (locs : List Loc) (ls : Array Slot), (μ = μ0) → va_P (dC, dI) vwCl (fw (sE cI cZ cII cIII h0) h0 233 μ) H → va_S (fA h0 233 s.heap.size) s.heap H locs → lv_has ls 4 [] → W p l e R s m args below meth c H locs cells slots Q (F0 m 48 ls [])) (hexit56 : ∀ (i : Int) (μ : va_M) (H : Heap) (locs : List Loc) (ls : Array Slot), (μ = μ0) → va_P (dC, dI) vwCl (fw (sE cI cZ cII cIII h0) h0 233 μ) H → va_S (fA h0 233 s.heap.size) s.heap H locs → lv_has ls 4 [] → W p l e R s m args below meth c H locs cells slots Q (F0 m 56 ls [])) :
    ∀ (n9 : Nat) (i : Int) (μ : va_M) (H : Heap) (locs : List Loc) (ls : Array Slot), (μ = μ0) → (0 ≤ i ∧ i ≤ 1100) → (1101 - i).toNat < n9 → va_P (dC, dI) vwCl (fw (sE cI cZ cII cIII h0) h0 233 μ) H → va_S (fA h0 233 s.heap.size) s.heap H locs → lv_has ls 4 [(3, .int (iZ (i))), (2, .int (iZ (b9))), (1, .int (iZ (a9))), (0, .ref (h0 + 48))] → W p l e R s m args below meth c H locs cells slots Q (F0 m 19 ls []) := by
  intro n9
  induction n9 with
  | zero => intro i μ H locs ls hm9_ hi hm9 hP hS hl; exact absurd hm9 (Nat.not_lt_zero _)
  | succ n9 ih =>
    intro i μ H locs ls hm9_ hi hm9 hP hS hl
    subst hm9_
    have l1_ := ho.2.2.2.1 a9.toNat
    refine lv_iload_n hx hb dX2_sameEnds_19 rfl (lv_at hl 0 rfl) ?_
    refine lv_aload_n hx hb dX2_sameEnds_20 rfl (lv_at hl 3 rfl) ?_
    refine fz_get (D := (dC, dI)) (ci := 2) (v := .ref (h0 + 77)) (C := RX2) (T := TX2) (N := 9) hx hb hts inG2 hown hK hP (k := 48) (by decide) (F := (sF48 h0)) sE_48 rfl 4 (by decide) (hts _ k232) (fun _ h9 => h9) rfl dX2_sameEnds_21 ?_
    refine lv_iload_n hx hb dX2_sameEnds_24 rfl (lv_at hl 2 rfl) ?_
    refine fz_ld (k := 77) (n := 24) hx hb hK hP 0 (by decide) sE_77 rfl ⟨by (first | ((try clear l1_); (try clear hm9); (try clear hi); (try clear hm9_); (try clear hexit56); (try clear hexit48); (try clear hRs); (try clear hRc); (try clear hRl); (try clear hRf); omega) | omega), by (first | ((try clear l1_); (try clear hm9); (try clear hi); (try clear hm9_); (try clear hexit56); (try clear hexit48); (try clear hRs); (try clear hRc); (try clear hRl); (try clear hRf); omega) | omega)⟩ (by decide) dX2_sameEnds_25 ?_
    refine fz_icmp_ge (tgt := 56) (by constructor <;> (first | ((try clear l1_); (try clear hm9); (try clear hm9_); (try clear hexit56); (try clear hexit48); (try clear hab); (try clear hRs); (try clear hRc); (try clear hRl); (try clear hRf); omega) | omega)) (by constructor <;> (first | ((try clear hm9); (try clear hi); (try clear hm9_); (try clear hexit56); (try clear hexit48); (try clear hab); (try clear hRs); (try clear hRc); (try clear hRl); (try clear hRf); omega) | omega)) hx hb dX2_sameEnds_26 (by decide) (fun c26_ => ?_) (fun c26_ => ?_)
    · exact hexit56 (i) μ H locs ls (by rfl) hP hS (lv_sub hl [] rfl)
    · have s1_ := ho.2.2.2.2.2.1 a9.toNat (by (first | ((try clear s1_); (try clear c26_); (try clear l1_); (try clear hm9); (try clear hi); (try clear hm9_); (try clear hexit56); (try clear hexit48); (try clear hRs); (try clear hRc); (try clear hRl); (try clear hRf); omega) | omega)) i.toNat
      have s2_ := ho.2.2.2.2.2.1 b9.toNat (by (first | ((try clear s2_); (try clear s1_); (try clear c26_); (try clear l1_); (try clear hm9); (try clear hi); (try clear hm9_); (try clear hexit56); (try clear hexit48); (try clear hRs); (try clear hRc); (try clear hRl); (try clear hRf); omega) | omega)) i.toNat
      refine lv_aload_n hx hb dX2_sameEnds_29 rfl (lv_at hl 3 rfl) ?_
      refine fz_get (D := (dC, dI)) (ci := 2) (v := .ref (h0 + 52)) (C := RX2) (T := TX2) (N := 9) hx hb hts inG2 hown hK hP (k := 48) (by decide) (F := (sF48 h0)) sE_48 rfl 3 (by decide) (hts _ k231) (fun _ h9 => h9) rfl dX2_sameEnds_30 ?_
      refine lv_iload_n hx hb dX2_sameEnds_33 rfl (lv_at hl 2 rfl) ?_
      refine fz_ald (k := 52) (n := 24) (k2 := (53 + (a9).toNat)) hx hb hK hP 2 rfl (by decide) sE_52 rfl ⟨by (first | ((try clear s2_); (try clear s1_); (try clear c26_); (try clear l1_); (try clear hm9); (try clear hi); (try clear hm9_); (try clear hexit56); (try clear hexit48); (try clear hRs); (try clear hRc); (try clear hRl); (try clear hRf); omega) | omega), by (first | ((try clear s2_); (try clear s1_); (try clear c26_); (try clear l1_); (try clear hm9); (try clear hi); (try clear hm9_); (try clear hexit56); (try clear hexit48); (try clear hRs); (try clear hRc); (try clear hRl); (try clear hRf); omega) | omega)⟩ (by decide) (if_pos (by (first | ((try clear s2_); (try clear s1_); (try clear c26_); (try clear l1_); (try clear hm9); (try clear hi); (try clear hm9_); (try clear hexit56); (try clear hexit48); (try clear hRs); (try clear hRc); (try clear hRl); (try clear hRf); omega) | omega))) dX2_sameEnds_34 ?_
      refine lv_iload_n hx hb dX2_sameEnds_35 rfl (lv_at hl 0 rfl) ?_
      refine fz_ld (k := (53 + (a9).toNat)) (n := 1100) hx hb hK hP 0 (by (first | ((try clear s2_); (try clear s1_); (try clear c26_); (try clear l1_); (try clear hm9); (try clear hi); (try clear hm9_); (try clear hexit56); (try clear hexit48); (try clear hRs); (try clear hRc); (try clear hRl); (try clear hRf); omega) | omega)) (sE_ends (show (a9).toNat < 24 by (first | ((try clear s2_); (try clear s1_); (try clear c26_); (try clear l1_); (try clear hm9); (try clear hi); (try clear hm9_); (try clear hexit56); (try clear hexit48); (try clear hRs); (try clear hRc); (try clear hRl); (try clear hRf); omega) | omega))) rfl ⟨by (first | ((try clear s2_); (try clear s1_); (try clear c26_); (try clear l1_); (try clear hm9); (try clear hm9_); (try clear hexit56); (try clear hexit48); (try clear hab); (try clear hRs); (try clear hRc); (try clear hRl); (try clear hRf); omega) | omega), by (first | ((try clear s2_); (try clear s1_); (try clear hm9); (try clear hm9_); (try clear hexit56); (try clear hexit48); (try clear hab); (try clear hRs); (try clear hRc); (try clear hRl); (try clear hRf); omega) | omega)⟩ (by decide) dX2_sameEnds_36 ?_
      refine lv_aload_n hx hb dX2_sameEnds_37 rfl (lv_at hl 3 rfl) ?_
      refine fz_get (D := (dC, dI)) (ci := 2) (v := .ref (h0 + 52)) (C := RX2) (T := TX2) (N := 9) hx hb hts inG2 hown hK hP (k := 48) (by decide) (F := (sF48 h0)) sE_48 rfl 3 (by decide) (hts _ k231) (fun _ h9 => h9) rfl dX2_sameEnds_38 ?_
      refine lv_iload_n hx hb dX2_sameEnds_41 rfl (lv_at hl 1 rfl) ?_
      refine fz_ald (k := 52) (n := 24) (k2 := (53 + (b9).toNat)) hx hb hK hP 2 rfl (by decide) sE_52 rfl ⟨by (first | ((try clear s2_); (try clear s1_); (try clear c26_); (try clear l1_); (try clear hm9); (try clear hi); (try clear hm9_); (try clear hexit56); (try clear hexit48); (try clear hRs); (try clear hRc); (try clear hRl); (try clear hRf); omega) | omega), by (first | ((try clear s2_); (try clear s1_); (try clear c26_); (try clear l1_); (try clear hm9); (try clear hi); (try clear hm9_); (try clear hexit56); (try clear hexit48); (try clear hRs); (try clear hRc); (try clear hRl); (try clear hRf); omega) | omega)⟩ (by decide) (if_pos (by (first | ((try clear s2_); (try clear s1_); (try clear c26_); (try clear l1_); (try clear hm9); (try clear hi); (try clear hm9_); (try clear hexit56); (try clear hexit48); (try clear hRs); (try clear hRc); (try clear hRl); (try clear hRf); omega) | omega))) dX2_sameEnds_42 ?_
      refine lv_iload_n hx hb dX2_sameEnds_43 rfl (lv_at hl 0 rfl) ?_
      refine fz_ld (k := (53 + (b9).toNat)) (n := 1100) hx hb hK hP 0 (by (first | ((try clear s2_); (try clear s1_); (try clear c26_); (try clear l1_); (try clear hm9); (try clear hi); (try clear hm9_); (try clear hexit56); (try clear hexit48); (try clear hRs); (try clear hRc); (try clear hRl); (try clear hRf); omega) | omega)) (sE_ends (show (b9).toNat < 24 by (first | ((try clear s2_); (try clear s1_); (try clear c26_); (try clear l1_); (try clear hm9); (try clear hi); (try clear hm9_); (try clear hexit56); (try clear hexit48); (try clear hRs); (try clear hRc); (try clear hRl); (try clear hRf); omega) | omega))) rfl ⟨by (first | ((try clear s2_); (try clear s1_); (try clear c26_); (try clear l1_); (try clear hm9); (try clear hm9_); (try clear hexit56); (try clear hexit48); (try clear hab); (try clear hRs); (try clear hRc); (try clear hRl); (try clear hRf); omega) | omega), by (first | ((try clear s2_); (try clear s1_); (try clear hm9); (try clear hm9_); (try clear hexit56); (try clear hexit48); (try clear hab); (try clear hRs); (try clear hRc); (try clear hRl); (try clear hRf); omega) | omega)⟩ (by decide) dX2_sameEnds_44 ?_
      refine fz_icmp_eq (tgt := 50) (by constructor <;> (first | ((try clear s2_); (try clear c26_); (try clear l1_); (try clear hm9); (try clear hi); (try clear hm9_); (try clear hexit56); (try clear hexit48); (try clear hab); (try clear hRs); (try clear hRc); (try clear hRl); (try clear hRf); omega) | omega)) (by constructor <;> (first | ((try clear s1_); (try clear c26_); (try clear l1_); (try clear hm9); (try clear hi); (try clear hm9_); (try clear hexit56); (try clear hexit48); (try clear hab); (try clear hRs); (try clear hRc); (try clear hRl); (try clear hRf); omega) | omega)) hx hb dX2_sameEnds_45 (by decide) (fun c45_ => ?_) (fun c45_ => ?_)
      · refine lv_iinc (v := iZ (i + 1)) (lv' := [(3, .int (iZ (i + 1))), (2, .int (iZ (b9))), (1, .int (iZ (a9))), (0, .ref (h0 + 48))]) hx hb dX2_sameEnds_50 hl (k := 0) rfl (iZ_add _ _) (by decide) rfl (fun ls hl => ?_)
        refine lv_goto (tgt := 19) hx hb dX2_sameEnds_53 (by decide) ?_
        exact ih (i + 1) μ H locs ls (by rfl) (by (first | ((try clear c45_); (try clear s2_); (try clear s1_); (try clear hm9); (try clear hm9_); (try clear hexit56); (try clear hexit48); (try clear hab); (try clear hRs); (try clear hRc); (try clear hRl); (try clear hRf); omega) | omega)) (by (first | ((try clear c45_); (try clear s2_); (try clear s1_); (try clear hm9_); (try clear hexit56); (try clear hexit48); (try clear hab); (try clear hRs); (try clear hRc); (try clear hRl); (try clear hRf); omega) | omega)) hP hS (lv_sub hl [0, 1, 2, 3] rfl)
      · exact hexit48 (i) μ H locs ls (by rfl) hP hS (lv_sub hl [] rfl)
set_option maxHeartbeats 4000000 in
set_option maxRecDepth 100000 in
theorem s_OsameEnds (l : Launch) (dC : Nat → ClassId) (dI : Nat → Nat → Nat) (cI cZ cII cIII : ClassId) (h0 sz : Nat) (μ : va_M) (a9 : Int) (b9 : Int) (ho : ordOK μ) (hab : (0 ≤ a9 ∧ a9 < 24) ∧ 0 ≤ b9 ∧ b9 < 24) : Met l yX2_sameEnds (Cond.code yX2_sameEnds cX2_sameEnds 4 (some .boolean) :: wsG) ({ frames := 1, cells := 0, slots := 0, locals := 14 } : Room) (va_Pc [.ref (h0 + 48), .int (iZ (a9)), .int (iZ (b9))] (fun U => U.heap.size = sz ∧ va_P (dC, dI) vwCl (fw (sE cI cZ cII cIII h0) h0 233 μ) U.heap ∧ va_K (dC, dI) vwCl (sT cI cZ cII cIII) U ∧ xM U)) (va_Qi (fun (r9 : Int32) (u : va_M × Int) => r9 = iZ u.2 ∧ (fun (u : va_M) (r : Int) => u = μ ∧ (r = 0 ∨ r = 1)) u.1 u.2) (fun u t => va_P (dC, dI) vwCl (fw (sE cI cZ cII cIII h0) h0 233 u.1) t.heap ∧ va_K (dC, dI) vwCl (sT cI cZ cII cIII) t) (fA h0 233 sz)) 0 0 (fA h0 233 sz) := by
  refine Met.ofW (cc := cX2_sameEnds) (maxL := 4) (ret := (some .boolean)) (by decide) rfl ?_
  intro p e s m args below meth c s₁ B hml hv
  obtain ⟨rfl, hsz, hP, hK, hM⟩ := hv
  have hx := B.exec
  have hb := B.bytes
  have hr := B.returns
  have hts : ∀ w ∈ wsG, w.before _ s = true := hG_of (atoms_spec (ws := (Cond.code yX2_sameEnds cX2_sameEnds 4 (some .boolean) :: wsG)) B.pre)
  have hown : s.vm.findClass RX2 = some m.cls := findClass_of_methodNamed B.named
  have hlocks := B.notSynchronized
  subst hsz
  have hS : va_S (fA h0 233 s.heap.size) s.heap s.heap [] := va_S.rf
  have hl := lv_entry ([.ref (h0 + 48), .int (iZ (a9)), .int (iZ (b9))]) (n := 4) (Nat.le_of_ble_eq_true rfl)
  rw [lg_entry_eq]
  generalize (lg_sl ([.ref (h0 + 48), .int (iZ (a9)), .int (iZ (b9))]) ++ List.replicate (4 - (lg_sl ([.ref (h0 + 48), .int (iZ (a9)), .int (iZ (b9))])).length) Slot.unset).toArray = ls at hl ⊢
  have hl : lv_has ls 4 [(0, .ref (h0 + 48)), (1, .int (iZ (a9))), (2, .int (iZ (b9)))] := hl
  have l1_ := ho.2.2.2.1 a9.toNat
  have l2_ := ho.2.2.2.1 b9.toNat
  refine lv_aload_n hx hb dX2_sameEnds_0 rfl (lv_at hl 0 rfl) ?_
  refine fz_get (D := (dC, dI)) (ci := 2) (v := .ref (h0 + 77)) (C := RX2) (T := TX2) (N := 9) hx hb hts inG2 hown hK hP (k := 48) (by decide) (F := (sF48 h0)) sE_48 rfl 4 (by decide) (hts _ k232) (fun _ h9 => h9) rfl dX2_sameEnds_1 ?_
  refine lv_iload_n hx hb dX2_sameEnds_4 rfl (lv_at hl 1 rfl) ?_
  refine fz_ld (k := 77) (n := 24) hx hb hK hP 0 (by decide) sE_77 rfl ⟨by (first | ((try clear l2_); (try clear l1_); (try clear hsz); (try clear s₁); omega) | omega), by (first | ((try clear l2_); (try clear l1_); (try clear hsz); (try clear s₁); omega) | omega)⟩ (by decide) dX2_sameEnds_5 ?_
  refine lv_aload_n hx hb dX2_sameEnds_6 rfl (lv_at hl 0 rfl) ?_
  refine fz_get (D := (dC, dI)) (ci := 2) (v := .ref (h0 + 77)) (C := RX2) (T := TX2) (N := 9) hx hb hts inG2 hown hK hP (k := 48) (by decide) (F := (sF48 h0)) sE_48 rfl 4 (by decide) (hts _ k232) (fun _ h9 => h9) rfl dX2_sameEnds_7 ?_
  refine lv_iload_n hx hb dX2_sameEnds_10 rfl (lv_at hl 2 rfl) ?_
  refine fz_ld (k := 77) (n := 24) hx hb hK hP 0 (by decide) sE_77 rfl ⟨by (first | ((try clear l2_); (try clear l1_); (try clear hsz); (try clear s₁); omega) | omega), by (first | ((try clear l2_); (try clear l1_); (try clear hsz); (try clear s₁); omega) | omega)⟩ (by decide) dX2_sameEnds_11 ?_
  refine fz_icmp_eq (tgt := 17) (by constructor <;> (first | ((try clear l2_); (try clear hsz); (try clear s₁); (try clear hab); omega) | omega)) (by constructor <;> (first | ((try clear l1_); (try clear hsz); (try clear s₁); (try clear hab); omega) | omega)) hx hb dX2_sameEnds_12 (by decide) (fun c12_ => ?_) (fun c12_ => ?_)
  · refine lv_iconst (v := iZ 0) hx hb dX2_sameEnds_17 rfl ?_
    refine lv_istore_n (lv' := [(3, .int (iZ (0))), (0, .ref (h0 + 48)), (1, .int (iZ (a9))), (2, .int (iZ (b9)))]) hx hb dX2_sameEnds_18 rfl hl (by decide) rfl (fun ls hl => ?_)
    refine LX2_sameEnds_19 hx hb hml hown hts hK hM (Nat.le_of_ble_eq_true rfl) (Nat.le_of_ble_eq_true rfl) (Nat.le_of_ble_eq_true rfl) (Nat.le_of_ble_eq_true rfl) (μ) (a9) (b9) (by exact ho) (by assumption) ?_ ?_ _ (0) μ s.heap [] ls (by rfl) (by decide) (Nat.lt_succ_self _) hP hS (lv_sub hl [0, 3, 2, 1] rfl)
    · intro i_1 μ1_ H locs ls q1_1 hP hS hl
      have hl : lv_has ls 4 [] := hl
      have hPn48 := hP
      have hln48 := hl
      obtain rfl := q1_1
      have hP := hPn48
      have hl := hln48
      refine lv_iconst (v := iZ 0) hx hb dX2_sameEnds_48 rfl ?_
      exact W.zret (v := iZ (0)) hx hb hr (by decide +kernel) (fun t9 ht9 hW9 => ⟨⟨iZ (0), (μ1_, 0), rfl, ⟨rfl, (by
                    dsimp only
                    exact ⟨rfl, by (first | ((try clear hln48); (try clear hPn48); (try clear q1_1); (try clear i_1); (try clear c12_); (try clear l2_); (try clear l1_); (try clear hsz); (try clear s₁); (try clear hab); omega) | omega)⟩)⟩, by rw [ht9]; exact hP, va_K.moved hW9.alike hK⟩, hS.F ht9⟩) hS.2.2 dX2_sameEnds_49
    · intro i_2 μ2_ H locs ls q3_2 hP hS hl
      have hl : lv_has ls 4 [] := hl
      have hPn56 := hP
      have hln56 := hl
      obtain rfl := q3_2
      have hP := hPn56
      have hl := hln56
      refine lv_iconst (v := iZ 1) hx hb dX2_sameEnds_56 rfl ?_
      exact W.zret (v := iZ (1)) hx hb hr (by decide +kernel) (fun t9 ht9 hW9 => ⟨⟨iZ (1), (μ2_, 1), rfl, ⟨rfl, (by
                    dsimp only
                    exact ⟨rfl, by (first | ((try clear hln56); (try clear hPn56); (try clear q3_2); (try clear i_2); (try clear c12_); (try clear l2_); (try clear l1_); (try clear hsz); (try clear s₁); (try clear hab); omega) | omega)⟩)⟩, by rw [ht9]; exact hP, va_K.moved hW9.alike hK⟩, hS.F ht9⟩) hS.2.2 dX2_sameEnds_57
  · refine lv_iconst (v := iZ 0) hx hb dX2_sameEnds_15 rfl ?_
    exact W.zret (v := iZ (0)) hx hb hr (by decide +kernel) (fun t9 ht9 hW9 => ⟨⟨iZ (0), (μ, 0), rfl, ⟨rfl, (by
                dsimp only
                exact ⟨rfl, by (first | ((try clear c12_); (try clear l2_); (try clear l1_); (try clear hsz); (try clear s₁); (try clear hab); omega) | omega)⟩)⟩, by rw [ht9]; exact hP, va_K.moved hW9.alike hK⟩, hS.F ht9⟩) hS.2.2 dX2_sameEnds_16
set_option maxHeartbeats 4000000 in
set_option maxRecDepth 100000 in
theorem LX2_countLike_5 {p : Program} {l : Launch} {e : Env} {R : Room} {s : State} {m : MethodId} {args : Array Value} {below : List Frame} {meth : Method} {c : Code} {cells slots : Nat} {Q : State → Prop} {dC : Nat → ClassId} {dI : Nat → Nat → Nat} {h0 : Nat} {cI cZ cII cIII : ClassId} (hx : p.tables.exec = Jvm.exec) (hb : c.code = cX2_countLike) (hml : c.maxLocals = 5) (hown : s.vm.findClass RX2 = some m.cls) (hts : ∀ w ∈ wsG, w.before args s = true) (hK : va_K (dC, dI) vwCl (sT cI cZ cII cIII) s) (hM : xM s) (hRf : 2 ≤ R.frames) (hRl : 37 ≤ R.locals) (hRc : cells ≤ R.cells) (hRs : slots ≤ R.slots) (μ0 : va_M) (en : Int) (fs : Int) (ho : ordOK μ0) (hef : (0 ≤ en ∧ en < 24) ∧ 0 ≤ fs ∧ fs ≤ 24) (hexit30 : ∀ (i : Int) (li : Int) (μ : va_M) (H : Heap) (locs : List Loc) (ls : Array Slot), (μ = μ0) → (0 ≤ li ∧ li ≤ 24) → va_P (dC, dI) vwCl (fw (sE cI cZ cII cIII h0) h0 233 μ) H → va_S (fA h0 233 s.heap.size) s.heap H locs → lv_has ls 5 [(3, .int (iZ (li)))] → W p l e R s m args below meth c H locs cells slots Q (F0 m 30 ls [])) :
    ∀ (n9 : Nat) (i : Int) (li : Int) (μ : va_M) (H : Heap) (locs : List Loc) (ls : Array Slot), (μ = μ0) → (0 ≤ i ∧ i ≤ fs ∧ 0 ≤ li ∧ li ≤ i) → (fs - i).toNat < n9 → va_P (dC, dI) vwCl (fw (sE cI cZ cII cIII h0) h0 233 μ) H → va_S (fA h0 233 s.heap.size) s.heap H locs → lv_has ls 5 [(4, .int (iZ (i))), (3, .int (iZ (li))), (2, .int (iZ (fs))), (1, .int (iZ (en))), (0, .ref (h0 + 48))] → W p l e R s m args below meth c H locs cells slots Q (F0 m 5 ls []) := by
  intro n9
  induction n9 with
  | zero => intro i li μ H locs ls hm9_ hi hm9 hP hS hl; exact absurd hm9 (Nat.not_lt_zero _)
  | succ n9 ih =>
    intro i li μ H locs ls hm9_ hi hm9 hP hS hl
    subst hm9_
    refine lv_iload hx hb dX2_countLike_5 (lv_at hl 0 rfl) ?_
    refine lv_iload_n hx hb dX2_countLike_7 rfl (lv_at hl 2 rfl) ?_
    refine fz_icmp_ge (tgt := 30) (by constructor <;> (first | ((try clear hm9); (try clear hm9_); (try clear hexit30); (try clear hRs); (try clear hRc); (try clear hRl); (try clear hRf); omega) | omega)) (by constructor <;> (first | ((try clear hm9); (try clear hi); (try clear hm9_); (try clear hexit30); (try clear hRs); (try clear hRc); (try clear hRl); (try clear hRf); omega) | omega)) hx hb dX2_countLike_8 (by decide) (fun c8_ => ?_) (fun c8_ => ?_)
    · exact hexit30 (i) (li) μ H locs ls (by rfl) (by (first | ((try clear hm9); (try clear hm9_); (try clear hexit30); (try clear hRs); (try clear hRc); (try clear hRl); (try clear hRf); omega) | omega)) hP hS (lv_sub hl [1] rfl)
    · refine lv_aload_n hx hb dX2_countLike_11 rfl (lv_at hl 4 rfl) ?_
      refine lv_iload hx hb dX2_countLike_12 (lv_at hl 0 rfl) ?_
      refine lv_iload_n hx hb dX2_countLike_14 rfl (lv_at hl 3 rfl) ?_
      refine va_calli (va_runV (As := [.int (iZ (i)), .int (iZ (en))]) (rest := []) ⟨hx, hb, hml, hown, hts⟩ (s_OsameEnds l dC dI cI cZ cII cIII h0 H.size μ (i) (en) (by exact ho) (by first | assumption | (first | ((try clear hm9); (try clear hm9_); (try clear hexit30); (try clear hRs); (try clear hRc); (try clear hRl); (try clear hRf); omega) | omega) | exact ⟨by omega, by omega⟩)) (cwV 2 hts (gV_G k1081 k1083 ks_yX2_sameEnds k9 k1084) rfl rfl rfl (by decide +kernel) ⟨by show 1 + 1 ≤ _; (first | ((try clear c8_); (try clear hm9); (try clear hi); (try clear hm9_); (try clear hexit30); (try clear hef); (try clear hRs); (try clear hRc); (try clear hRl); omega) | omega), by show 8 + (4 + 11) + (14) ≤ _; (first | ((try clear c8_); (try clear hm9); (try clear hi); (try clear hm9_); (try clear hexit30); (try clear hef); (try clear hRs); (try clear hRc); (try clear hRf); omega) | omega)⟩) ⟨fun a U g mk q => by obtain ⟨q0, q1, qP, qK, qM⟩ := q; exact ⟨q0, q1, qP, va_K.moved (u := U) (U := U.calling g mk a) (Vm.Alike.refl U.vm) qK, qM⟩, va_recv hK hP (ci := 2) (q0 := 48) rfl ((fw_get (by decide)).trans (by rw [sE_48])), fun U hU hW => ⟨rfl, by rw [hU], by rw [hU]; exact hP, va_K.moved hW.alike hK, xM_warm hW hM⟩⟩ rfl rfl hl.1 rfl (lv_room (Nat.le_of_ble_eq_true rfl)) dX2_countLike_15 ⟨hRc, hRs⟩) hS (fun q _ h => fA_le hS.1 q h) (fA_le hS.1) (fun r9 u9 t9 H1 locs ht9 hvm9 hw9 hB9 hz9 hk9 hS => ?_)
      obtain ⟨μs, rs⟩ := u9
      obtain ⟨hP, -⟩ := hB9
      rw [ht9] at hP
      generalize H1 = H at hP hS ⊢
      obtain ⟨e9, hw9⟩ := hw9
      have e9 : r9 = iZ rs := e9
      subst e9
      simp only at hP hw9
      have hμs := hw9; clear hw9
      rw [hμs.1] at hP; have hμs := hμs.2
      have hrs := hμs
      refine fz_if_eq (tgt := 24) (by constructor <;> (first | ((try clear hμs); (try clear μs); (try clear hz9); (try clear c8_); (try clear hm9); (try clear hi); (try clear hm9_); (try clear hexit30); (try clear hef); (try clear hRs); (try clear hRc); (try clear hRl); (try clear hRf); omega) | omega)) hx hb dX2_countLike_18 (by decide) (fun c18_ => ?_) (fun c18_ => ?_)
      · refine lv_iinc (v := iZ (i + 1)) (lv' := [(4, .int (iZ (i + 1))), (3, .int (iZ (li))), (2, .int (iZ (fs))), (1, .int (iZ (en))), (0, .ref (h0 + 48))]) hx hb dX2_countLike_24 hl (k := 0) rfl (iZ_add _ _) (by decide) rfl (fun ls hl => ?_)
        refine lv_goto (tgt := 5) hx hb dX2_countLike_27 (by decide) ?_
        exact ih (i + 1) (li) μ H locs ls (by rfl) (by (first | ((try clear c18_); (try clear hrs); (try clear hμs); (try clear μs); (try clear hz9); (try clear hm9); (try clear hm9_); (try clear hexit30); (try clear hef); (try clear hRs); (try clear hRc); (try clear hRl); (try clear hRf); omega) | omega)) (by (first | ((try clear hz9); (try clear hi); (try clear hm9_); (try clear hexit30); (try clear hef); (try clear hRs); (try clear hRc); (try clear hRl); (try clear hRf); omega) | omega)) hP hS (lv_sub hl [0, 1, 2, 3, 4] rfl)
      · refine lv_iinc (v := iZ (li + 1)) (lv' := [(3, .int (iZ (li + 1))), (4, .int (iZ (i))), (2, .int (iZ (fs))), (1, .int (iZ (en))), (0, .ref (h0 + 48))]) hx hb dX2_countLike_21 hl (k := 1) rfl (iZ_add _ _) (by decide) rfl (fun ls hl => ?_)
        refine lv_iinc (v := iZ (i + 1)) (lv' := [(4, .int (iZ (i + 1))), (3, .int (iZ (li + 1))), (2, .int (iZ (fs))), (1, .int (iZ (en))), (0, .ref (h0 + 48))]) hx hb dX2_countLike_24 hl (k := 1) rfl (iZ_add _ _) (by decide) rfl (fun ls hl => ?_)
        refine lv_goto (tgt := 5) hx hb dX2_countLike_27 (by decide) ?_
        exact ih (i + 1) (li + 1) μ H locs ls (by rfl) (by (first | ((try clear c18_); (try clear hrs); (try clear hμs); (try clear rs); (try clear μs); (try clear hz9); (try clear hm9); (try clear hm9_); (try clear hexit30); (try clear hef); (try clear hRs); (try clear hRc); (try clear hRl); (try clear hRf); omega) | omega)) (by (first | ((try clear hz9); (try clear hi); (try clear hm9_); (try clear hexit30); (try clear hef); (try clear hRs); (try clear hRc); (try clear hRl); (try clear hRf); omega) | omega)) hP hS (lv_sub hl [0, 1, 2, 3, 4] rfl)
set_option maxHeartbeats 4000000 in
set_option maxRecDepth 100000 in
theorem s_OcountLike (l : Launch) (dC : Nat → ClassId) (dI : Nat → Nat → Nat) (cI cZ cII cIII : ClassId) (h0 sz : Nat) (μ : va_M) (en : Int) (fs : Int) (ho : ordOK μ) (hef : (0 ≤ en ∧ en < 24) ∧ 0 ≤ fs ∧ fs ≤ 24) : Met l yX2_countLike (Cond.code yX2_countLike cX2_countLike 5 (some .int) :: wsG) ({ frames := 2, cells := 0, slots := 0, locals := 37 } : Room) (va_Pc [.ref (h0 + 48), .int (iZ (en)), .int (iZ (fs))] (fun U => U.heap.size = sz ∧ va_P (dC, dI) vwCl (fw (sE cI cZ cII cIII h0) h0 233 μ) U.heap ∧ va_K (dC, dI) vwCl (sT cI cZ cII cIII) U ∧ xM U)) (va_Qi (fun (r9 : Int32) (u : va_M × Int) => r9 = iZ u.2 ∧ (fun (u : va_M) (r : Int) => u = μ ∧ 0 ≤ r ∧ r ≤ 24) u.1 u.2) (fun u t => va_P (dC, dI) vwCl (fw (sE cI cZ cII cIII h0) h0 233 u.1) t.heap ∧ va_K (dC, dI) vwCl (sT cI cZ cII cIII) t) (fA h0 233 sz)) 0 0 (fA h0 233 sz) := by
  refine Met.ofW (cc := cX2_countLike) (maxL := 5) (ret := (some .int)) (by decide) rfl ?_
  intro p e s m args below meth c s₁ B hml hv
  obtain ⟨rfl, hsz, hP, hK, hM⟩ := hv
  have hx := B.exec
  have hb := B.bytes
  have hr := B.returns
  have hts : ∀ w ∈ wsG, w.before _ s = true := hG_of (atoms_spec (ws := (Cond.code yX2_countLike cX2_countLike 5 (some .int) :: wsG)) B.pre)
  have hown : s.vm.findClass RX2 = some m.cls := findClass_of_methodNamed B.named
  have hlocks := B.notSynchronized
  subst hsz
  have hS : va_S (fA h0 233 s.heap.size) s.heap s.heap [] := va_S.rf
  have hl := lv_entry ([.ref (h0 + 48), .int (iZ (en)), .int (iZ (fs))]) (n := 5) (Nat.le_of_ble_eq_true rfl)
  rw [lg_entry_eq]
  generalize (lg_sl ([.ref (h0 + 48), .int (iZ (en)), .int (iZ (fs))]) ++ List.replicate (5 - (lg_sl ([.ref (h0 + 48), .int (iZ (en)), .int (iZ (fs))])).length) Slot.unset).toArray = ls at hl ⊢
  have hl : lv_has ls 5 [(0, .ref (h0 + 48)), (1, .int (iZ (en))), (2, .int (iZ (fs)))] := hl
  refine lv_iconst (v := iZ 0) hx hb dX2_countLike_0 rfl ?_
  refine lv_istore_n (lv' := [(3, .int (iZ (0))), (0, .ref (h0 + 48)), (1, .int (iZ (en))), (2, .int (iZ (fs)))]) hx hb dX2_countLike_1 rfl hl (by decide) rfl (fun ls hl => ?_)
  refine lv_iconst (v := iZ 0) hx hb dX2_countLike_2 rfl ?_
  refine lv_istore (lv' := [(4, .int (iZ (0))), (3, .int (iZ (0))), (0, .ref (h0 + 48)), (1, .int (iZ (en))), (2, .int (iZ (fs)))]) hx hb dX2_countLike_3 hl (by decide) rfl (fun ls hl => ?_)
  refine LX2_countLike_5 hx hb hml hown hts hK hM (Nat.le_of_ble_eq_true rfl) (Nat.le_of_ble_eq_true rfl) (Nat.le_of_ble_eq_true rfl) (Nat.le_of_ble_eq_true rfl) (μ) (en) (fs) (by exact ho) (by assumption) ?_ _ (0) (0) μ s.heap [] ls (by rfl) (by (first | ((try clear hsz); (try clear s₁); omega) | omega)) (Nat.lt_succ_self _) hP hS (lv_sub hl [0, 1, 4, 3, 2] rfl)
  · intro i_1 li_1 μ1_ H locs ls q1_1 q2_1 hP hS hl
    have hl : lv_has ls 5 [(3, .int (iZ (li_1)))] := hl
    have hPn30 := hP
    have hln30 := hl
    obtain rfl := q1_1
    have hP := hPn30
    have hl := hln30
    refine lv_iload_n hx hb dX2_countLike_30 rfl (lv_at hl 0 rfl) ?_
    exact W.iret (v := iZ (li_1)) hx hb hr (fun t9 ht9 hW9 => ⟨⟨iZ (li_1), (μ1_, li_1), rfl, ⟨rfl, (by
                dsimp only
                exact ⟨rfl, q2_1⟩)⟩, by rw [ht9]; exact hP, va_K.moved hW9.alike hK⟩, hS.F ht9⟩) hS.2.2 dX2_countLike_31
set_option maxHeartbeats 4000000 in
set_option maxRecDepth 100000 in
theorem LX2_countUnlike_4 {p : Program} {l : Launch} {e : Env} {R : Room} {s : State} {m : MethodId} {args : Array Value} {below : List Frame} {meth : Method} {c : Code} {cells slots : Nat} {Q : State → Prop} {dC : Nat → ClassId} {dI : Nat → Nat → Nat} {h0 : Nat} {cI cZ cII cIII : ClassId} (hx : p.tables.exec = Jvm.exec) (hb : c.code = cX2_countUnlike) (hml : c.maxLocals = 3) (hown : s.vm.findClass RX2 = some m.cls) (hts : ∀ w ∈ wsG, w.before args s = true) (hK : va_K (dC, dI) vwCl (sT cI cZ cII cIII) s) (hM : xM s) (hRf : 3 ≤ R.frames) (hRl : 61 ≤ R.locals) (hRc : cells ≤ R.cells) (hRs : slots ≤ R.slots) (μ0 : va_M) (ho : ordOK μ0) (hexit30 : ∀ (i : Int) (un : Int) (μ : va_M) (H : Heap) (locs : List Loc) (ls : Array Slot), (μ = μ0) → (0 ≤ un ∧ un ≤ 24) → va_P (dC, dI) vwCl (fw (sE cI cZ cII cIII h0) h0 233 μ) H → va_S (fA h0 233 s.heap.size) s.heap H locs → lv_has ls 3 [(1, .int (iZ (un)))] → W p l e R s m args below meth c H locs cells slots Q (F0 m 30 ls [])) :
    ∀ (n9 : Nat) (i : Int) (un : Int) (μ : va_M) (H : Heap) (locs : List Loc) (ls : Array Slot), (μ = μ0) → (0 ≤ i ∧ i ≤ 24 ∧ 0 ≤ un ∧ un ≤ i) → (25 - i).toNat < n9 → va_P (dC, dI) vwCl (fw (sE cI cZ cII cIII h0) h0 233 μ) H → va_S (fA h0 233 s.heap.size) s.heap H locs → lv_has ls 3 [(2, .int (iZ (i))), (1, .int (iZ (un))), (0, .ref (h0 + 48))] → W p l e R s m args below meth c H locs cells slots Q (F0 m 4 ls []) := by
  intro n9
  induction n9 with
  | zero => intro i un μ H locs ls hm9_ hi hm9 hP hS hl; exact absurd hm9 (Nat.not_lt_zero _)
  | succ n9 ih =>
    intro i un μ H locs ls hm9_ hi hm9 hP hS hl
    subst hm9_
    have n1_ := ho.1
    refine lv_iload_n hx hb dX2_countUnlike_4 rfl (lv_at hl 0 rfl) ?_
    refine lv_aload_n hx hb dX2_countUnlike_5 rfl (lv_at hl 2 rfl) ?_
    refine fz_get (D := (dC, dI)) (ci := 2) (v := .int (iZ (μ 48 6))) (C := RX2) (T := TX2) (N := 9) hx hb hts inG2 hown hK hP (k := 48) (by decide) (F := (sF48 h0)) sE_48 rfl 6 (by decide) (hts _ k234) (fun _ h9 => h9) rfl dX2_countUnlike_6 ?_
    refine fz_icmp_ge (tgt := 30) (by constructor <;> (first | ((try clear n1_); (try clear hm9); (try clear hm9_); (try clear hexit30); (try clear hRs); (try clear hRc); (try clear hRl); (try clear hRf); omega) | omega)) (by constructor <;> (first | ((try clear hm9); (try clear hi); (try clear hm9_); (try clear hexit30); (try clear hRs); (try clear hRc); (try clear hRl); (try clear hRf); omega) | omega)) hx hb dX2_countUnlike_9 (by decide) (fun c9_ => ?_) (fun c9_ => ?_)
    · exact hexit30 (i) (un) μ H locs ls (by rfl) (by (first | ((try clear c9_); (try clear n1_); (try clear hm9); (try clear hm9_); (try clear hexit30); (try clear hRs); (try clear hRc); (try clear hRl); (try clear hRf); omega) | omega)) hP hS (lv_sub hl [1] rfl)
    · refine lv_aload_n hx hb dX2_countUnlike_12 rfl (lv_at hl 2 rfl) ?_
      refine lv_iload_n hx hb dX2_countUnlike_13 rfl (lv_at hl 0 rfl) ?_
      refine lv_iload_n hx hb dX2_countUnlike_14 rfl (lv_at hl 0 rfl) ?_
      refine va_calli (va_runV (As := [.int (iZ (i)), .int (iZ (i))]) (rest := []) ⟨hx, hb, hml, hown, hts⟩ (s_OcountLike l dC dI cI cZ cII cIII h0 H.size μ (i) (i) (by exact ho) (by first | assumption | (first | ((try clear hm9); (try clear hm9_); (try clear hexit30); (try clear hRs); (try clear hRc); (try clear hRl); (try clear hRf); omega) | omega) | exact ⟨by omega, by omega⟩)) (cwV 2 hts (gV_G k1077 k1079 ks_yX2_countLike k9 k1080) rfl rfl rfl (by decide +kernel) ⟨by show 2 + 1 ≤ _; (first | ((try clear c9_); (try clear n1_); (try clear hm9); (try clear hi); (try clear hm9_); (try clear hexit30); (try clear hRs); (try clear hRc); (try clear hRl); omega) | omega), by show 8 + (5 + 11) + (37) ≤ _; (first | ((try clear c9_); (try clear n1_); (try clear hm9); (try clear hi); (try clear hm9_); (try clear hexit30); (try clear hRs); (try clear hRc); (try clear hRf); omega) | omega)⟩) ⟨fun a U g mk q => by obtain ⟨q0, q1, qP, qK, qM⟩ := q; exact ⟨q0, q1, qP, va_K.moved (u := U) (U := U.calling g mk a) (Vm.Alike.refl U.vm) qK, qM⟩, va_recv hK hP (ci := 2) (q0 := 48) rfl ((fw_get (by decide)).trans (by rw [sE_48])), fun U hU hW => ⟨rfl, by rw [hU], by rw [hU]; exact hP, va_K.moved hW.alike hK, xM_warm hW hM⟩⟩ rfl rfl hl.1 rfl (lv_room (Nat.le_of_ble_eq_true rfl)) dX2_countUnlike_15 ⟨hRc, hRs⟩) hS (fun q _ h => fA_le hS.1 q h) (fA_le hS.1) (fun r9 u9 t9 H1 locs ht9 hvm9 hw9 hB9 hz9 hk9 hS => ?_)
      obtain ⟨μs, rs⟩ := u9
      obtain ⟨hP, -⟩ := hB9
      rw [ht9] at hP
      generalize H1 = H at hP hS ⊢
      obtain ⟨e9, hw9⟩ := hw9
      have e9 : r9 = iZ rs := e9
      subst e9
      simp only at hP hw9
      have hμs := hw9; clear hw9
      rw [hμs.1] at hP; have hμs := hμs.2
      have hrs := hμs
      refine fz_if_ne (tgt := 24) (by constructor <;> (first | ((try clear hrs); (try clear hμs); (try clear hz9); (try clear c9_); (try clear n1_); (try clear hm9); (try clear hi); (try clear hm9_); (try clear hexit30); (try clear hRs); (try clear hRc); (try clear hRl); (try clear hRf); omega) | omega)) hx hb dX2_countUnlike_18 (by decide) (fun c18_ => ?_) (fun c18_ => ?_)
      · refine lv_iinc (v := iZ (i + 1)) (lv' := [(2, .int (iZ (i + 1))), (1, .int (iZ (un))), (0, .ref (h0 + 48))]) hx hb dX2_countUnlike_24 hl (k := 0) rfl (iZ_add _ _) (by decide) rfl (fun ls hl => ?_)
        refine lv_goto (tgt := 4) hx hb dX2_countUnlike_27 (by decide) ?_
        exact ih (i + 1) (un) μ H locs ls (by rfl) (by (first | ((try clear c18_); (try clear hrs); (try clear hμs); (try clear μs); (try clear hz9); (try clear hm9); (try clear hm9_); (try clear hexit30); (try clear hRs); (try clear hRc); (try clear hRl); (try clear hRf); omega) | omega)) (by (first | ((try clear hrs); (try clear hμs); (try clear hz9); (try clear hm9_); (try clear hexit30); (try clear hRs); (try clear hRc); (try clear hRl); (try clear hRf); omega) | omega)) hP hS (lv_sub hl [0, 1, 2] rfl)
      · refine lv_iinc (v := iZ (un + 1)) (lv' := [(1, .int (iZ (un + 1))), (2, .int (iZ (i))), (0, .ref (h0 + 48))]) hx hb dX2_countUnlike_21 hl (k := 1) rfl (iZ_add _ _) (by decide) rfl (fun ls hl => ?_)
        refine lv_iinc (v := iZ (i + 1)) (lv' := [(2, .int (iZ (i + 1))), (1, .int (iZ (un + 1))), (0, .ref (h0 + 48))]) hx hb dX2_countUnlike_24 hl (k := 1) rfl (iZ_add _ _) (by decide) rfl (fun ls hl => ?_)
        refine lv_goto (tgt := 4) hx hb dX2_countUnlike_27 (by decide) ?_
        exact ih (i + 1) (un + 1) μ H locs ls (by rfl) (by (first | ((try clear c18_); (try clear hrs); (try clear hμs); (try clear μs); (try clear hz9); (try clear hm9); (try clear hm9_); (try clear hexit30); (try clear hRs); (try clear hRc); (try clear hRl); (try clear hRf); omega) | omega)) (by (first | ((try clear c18_); (try clear hrs); (try clear hμs); (try clear μs); (try clear hz9); (try clear hm9_); (try clear hexit30); (try clear hRs); (try clear hRc); (try clear hRl); (try clear hRf); omega) | omega)) hP hS (lv_sub hl [0, 1, 2] rfl)
set_option maxHeartbeats 4000000 in
set_option maxRecDepth 100000 in
theorem s_OcountUnlike (l : Launch) (dC : Nat → ClassId) (dI : Nat → Nat → Nat) (cI cZ cII cIII : ClassId) (h0 sz : Nat) (μ : va_M)  (ho : ordOK μ) : Met l yX2_countUnlike (Cond.code yX2_countUnlike cX2_countUnlike 3 (some .int) :: wsG) ({ frames := 3, cells := 0, slots := 0, locals := 61 } : Room) (va_Pc [.ref (h0 + 48)] (fun U => U.heap.size = sz ∧ va_P (dC, dI) vwCl (fw (sE cI cZ cII cIII h0) h0 233 μ) U.heap ∧ va_K (dC, dI) vwCl (sT cI cZ cII cIII) U ∧ xM U)) (va_Qi (fun (r9 : Int32) (u : va_M × Int) => r9 = iZ u.2 ∧ (fun (u : va_M) (r : Int) => u = μ ∧ 0 ≤ r ∧ r ≤ 24) u.1 u.2) (fun u t => va_P (dC, dI) vwCl (fw (sE cI cZ cII cIII h0) h0 233 u.1) t.heap ∧ va_K (dC, dI) vwCl (sT cI cZ cII cIII) t) (fA h0 233 sz)) 0 0 (fA h0 233 sz) := by
  refine Met.ofW (cc := cX2_countUnlike) (maxL := 3) (ret := (some .int)) (by decide) rfl ?_
  intro p e s m args below meth c s₁ B hml hv
  obtain ⟨rfl, hsz, hP, hK, hM⟩ := hv
  have hx := B.exec
  have hb := B.bytes
  have hr := B.returns
  have hts : ∀ w ∈ wsG, w.before _ s = true := hG_of (atoms_spec (ws := (Cond.code yX2_countUnlike cX2_countUnlike 3 (some .int) :: wsG)) B.pre)
  have hown : s.vm.findClass RX2 = some m.cls := findClass_of_methodNamed B.named
  have hlocks := B.notSynchronized
  subst hsz
  have hS : va_S (fA h0 233 s.heap.size) s.heap s.heap [] := va_S.rf
  have hl := lv_entry ([.ref (h0 + 48)]) (n := 3) (Nat.le_of_ble_eq_true rfl)
  rw [lg_entry_eq]
  generalize (lg_sl ([.ref (h0 + 48)]) ++ List.replicate (3 - (lg_sl ([.ref (h0 + 48)])).length) Slot.unset).toArray = ls at hl ⊢
  have hl : lv_has ls 3 [(0, .ref (h0 + 48))] := hl
  refine lv_iconst (v := iZ 0) hx hb dX2_countUnlike_0 rfl ?_
  refine lv_istore_n (lv' := [(1, .int (iZ (0))), (0, .ref (h0 + 48))]) hx hb dX2_countUnlike_1 rfl hl (by decide) rfl (fun ls hl => ?_)
  refine lv_iconst (v := iZ 0) hx hb dX2_countUnlike_2 rfl ?_
  refine lv_istore_n (lv' := [(2, .int (iZ (0))), (1, .int (iZ (0))), (0, .ref (h0 + 48))]) hx hb dX2_countUnlike_3 rfl hl (by decide) rfl (fun ls hl => ?_)
  refine LX2_countUnlike_4 hx hb hml hown hts hK hM (Nat.le_of_ble_eq_true rfl) (Nat.le_of_ble_eq_true rfl) (Nat.le_of_ble_eq_true rfl) (Nat.le_of_ble_eq_true rfl) (μ) (by exact ho) ?_ _ (0) (0) μ s.heap [] ls (by rfl) (by decide) (Nat.lt_succ_self _) hP hS (lv_sub hl [0, 1, 2] rfl)
  · intro i_1 un_1 μ1_ H locs ls q1_1 q2_1 hP hS hl
    have hl : lv_has ls 3 [(1, .int (iZ (un_1)))] := hl
    have hPn30 := hP
    have hln30 := hl
    obtain rfl := q1_1
    have hP := hPn30
    have hl := hln30
    refine lv_iload_n hx hb dX2_countUnlike_30 rfl (lv_at hl 0 rfl) ?_
    exact W.iret (v := iZ (un_1)) hx hb hr (fun t9 ht9 hW9 => ⟨⟨iZ (un_1), (μ1_, un_1), rfl, ⟨rfl, (by
                dsimp only
                exact ⟨rfl, q2_1⟩)⟩, by rw [ht9]; exact hP, va_K.moved hW9.alike hK⟩, hS.F ht9⟩) hS.2.2 dX2_countUnlike_31
set_option maxHeartbeats 4000000 in
set_option maxRecDepth 100000 in
theorem LX2_findAnswers_4 {p : Program} {l : Launch} {e : Env} {R : Room} {s : State} {m : MethodId} {args : Array Value} {below : List Frame} {meth : Method} {c : Code} {cells slots : Nat} {Q : State → Prop} {dC : Nat → ClassId} {dI : Nat → Nat → Nat} {h0 : Nat} {cI cZ cII cIII : ClassId} (hx : p.tables.exec = Jvm.exec) (hb : c.code = cX2_findAnswers) (hml : c.maxLocals = 3) (hown : s.vm.findClass RX2 = some m.cls) (hts : ∀ w ∈ wsG, w.before args s = true) (hK : va_K (dC, dI) vwCl (sT cI cZ cII cIII) s) (hM : xM s) (hRf : 4 ≤ R.frames) (hRl : 83 ≤ R.locals) (hRc : cells ≤ R.cells) (hRs : slots ≤ R.slots) (μ0 : va_M) (ho : ordOK μ0) (hexit39 : ∀ (i : Int) (be : Int) (μ : va_M) (H : Heap) (locs : List Loc) (ls : Array Slot), (μ = μ0) → (0 ≤ be ∧ be < 24) → va_P (dC, dI) vwCl (fw (sE cI cZ cII cIII h0) h0 233 μ) H → va_S (fA h0 233 s.heap.size) s.heap H locs → lv_has ls 3 [(1, .int (iZ (be))), (0, .ref (h0 + 48))] → W p l e R s m args below meth c H locs cells slots Q (F0 m 39 ls [])) :
    ∀ (n9 : Nat) (i : Int) (be : Int) (μ : va_M) (H : Heap) (locs : List Loc) (ls : Array Slot), (μ = μ0) → (0 ≤ i ∧ i ≤ 24 ∧ 0 ≤ be ∧ be < 24) → (25 - i).toNat < n9 → va_P (dC, dI) vwCl (fw (sE cI cZ cII cIII h0) h0 233 μ) H → va_S (fA h0 233 s.heap.size) s.heap H locs → lv_has ls 3 [(2, .int (iZ (i))), (1, .int (iZ (be))), (0, .ref (h0 + 48))] → W p l e R s m args below meth c H locs cells slots Q (F0 m 4 ls []) := by
  intro n9
  induction n9 with
  | zero => intro i be μ H locs ls hm9_ hi hm9 hP hS hl; exact absurd hm9 (Nat.not_lt_zero _)
  | succ n9 ih =>
    intro i be μ H locs ls hm9_ hi hm9 hP hS hl
    subst hm9_
    have n1_ := ho.1
    have t1_ := ho.2.2.2.2.1 i.toNat
    have t2_ := ho.2.2.2.2.1 be.toNat
    refine lv_iload_n hx hb dX2_findAnswers_4 rfl (lv_at hl 0 rfl) ?_
    refine lv_aload_n hx hb dX2_findAnswers_5 rfl (lv_at hl 2 rfl) ?_
    refine fz_get (D := (dC, dI)) (ci := 2) (v := .int (iZ (μ 48 6))) (C := RX2) (T := TX2) (N := 9) hx hb hts inG2 hown hK hP (k := 48) (by decide) (F := (sF48 h0)) sE_48 rfl 6 (by decide) (hts _ k234) (fun _ h9 => h9) rfl dX2_findAnswers_6 ?_
    refine fz_icmp_ge (tgt := 39) (by constructor <;> (first | ((try clear t2_); (try clear t1_); (try clear n1_); (try clear hm9); (try clear hm9_); (try clear hexit39); (try clear hRs); (try clear hRc); (try clear hRl); (try clear hRf); omega) | omega)) (by constructor <;> (first | ((try clear t2_); (try clear t1_); (try clear hm9); (try clear hi); (try clear hm9_); (try clear hexit39); (try clear hRs); (try clear hRc); (try clear hRl); (try clear hRf); omega) | omega)) hx hb dX2_findAnswers_9 (by decide) (fun c9_ => ?_) (fun c9_ => ?_)
    · exact hexit39 (i) (be) μ H locs ls (by rfl) (by (first | ((try clear c9_); (try clear t2_); (try clear t1_); (try clear n1_); (try clear hm9); (try clear hm9_); (try clear hexit39); (try clear hRs); (try clear hRc); (try clear hRl); (try clear hRf); omega) | omega)) hP hS (lv_sub hl [1, 2] rfl)
    · refine lv_aload_n hx hb dX2_findAnswers_12 rfl (lv_at hl 2 rfl) ?_
      refine fz_get (D := (dC, dI)) (ci := 2) (v := .ref (h0 + 78)) (C := RX2) (T := TX2) (N := 9) hx hb hts inG2 hown hK hP (k := 48) (by decide) (F := (sF48 h0)) sE_48 rfl 5 (by decide) (hts _ k233) (fun _ h9 => h9) rfl dX2_findAnswers_13 ?_
      refine lv_iload_n hx hb dX2_findAnswers_16 rfl (lv_at hl 0 rfl) ?_
      refine fz_ld (k := 78) (n := 24) hx hb hK hP 0 (by decide) sE_78 rfl ⟨by (first | ((try clear c9_); (try clear t2_); (try clear t1_); (try clear n1_); (try clear hm9); (try clear hm9_); (try clear hexit39); (try clear hRs); (try clear hRc); (try clear hRl); (try clear hRf); omega) | omega), by (first | ((try clear t2_); (try clear t1_); (try clear hm9); (try clear hm9_); (try clear hexit39); (try clear hRs); (try clear hRc); (try clear hRl); (try clear hRf); omega) | omega)⟩ (by decide) dX2_findAnswers_17 ?_
      refine lv_aload_n hx hb dX2_findAnswers_18 rfl (lv_at hl 2 rfl) ?_
      refine fz_get (D := (dC, dI)) (ci := 2) (v := .ref (h0 + 78)) (C := RX2) (T := TX2) (N := 9) hx hb hts inG2 hown hK hP (k := 48) (by decide) (F := (sF48 h0)) sE_48 rfl 5 (by decide) (hts _ k233) (fun _ h9 => h9) rfl dX2_findAnswers_19 ?_
      refine lv_iload_n hx hb dX2_findAnswers_22 rfl (lv_at hl 1 rfl) ?_
      refine fz_ld (k := 78) (n := 24) hx hb hK hP 0 (by decide) sE_78 rfl ⟨by (first | ((try clear c9_); (try clear t2_); (try clear t1_); (try clear n1_); (try clear hm9); (try clear hm9_); (try clear hexit39); (try clear hRs); (try clear hRc); (try clear hRl); (try clear hRf); omega) | omega), by (first | ((try clear c9_); (try clear t2_); (try clear t1_); (try clear n1_); (try clear hm9); (try clear hm9_); (try clear hexit39); (try clear hRs); (try clear hRc); (try clear hRl); (try clear hRf); omega) | omega)⟩ (by decide) dX2_findAnswers_23 ?_
      refine fz_icmp_ge (tgt := 31) (by constructor <;> (first | ((try clear c9_); (try clear t2_); (try clear n1_); (try clear hm9); (try clear hi); (try clear hm9_); (try clear hexit39); (try clear hRs); (try clear hRc); (try clear hRl); (try clear hRf); omega) | omega)) (by constructor <;> (first | ((try clear c9_); (try clear t1_); (try clear n1_); (try clear hm9); (try clear hi); (try clear hm9_); (try clear hexit39); (try clear hRs); (try clear hRc); (try clear hRl); (try clear hRf); omega) | omega)) hx hb dX2_findAnswers_24 (by decide) (fun c24_ => ?_) (fun c24_ => ?_)
      · refine lv_iload_n hx hb dX2_findAnswers_31 rfl (lv_at hl 1 rfl) ?_
        refine lv_istore_n (lv' := [(1, .int (iZ (be))), (2, .int (iZ (i))), (0, .ref (h0 + 48))]) hx hb dX2_findAnswers_32 rfl hl (by decide) rfl (fun ls hl => ?_)
        refine lv_iinc (v := iZ (i + 1)) (lv' := [(2, .int (iZ (i + 1))), (1, .int (iZ (be))), (0, .ref (h0 + 48))]) hx hb dX2_findAnswers_33 hl (k := 1) rfl (iZ_add _ _) (by decide) rfl (fun ls hl => ?_)
        refine lv_goto (tgt := 4) hx hb dX2_findAnswers_36 (by decide) ?_
        exact ih (i + 1) (be) μ H locs ls (by rfl) (by (first | ((try clear c24_); (try clear t2_); (try clear t1_); (try clear hm9); (try clear hm9_); (try clear hexit39); (try clear hRs); (try clear hRc); (try clear hRl); (try clear hRf); omega) | omega)) (by (first | ((try clear c24_); (try clear t2_); (try clear t1_); (try clear hm9_); (try clear hexit39); (try clear hRs); (try clear hRc); (try clear hRl); (try clear hRf); omega) | omega)) hP hS (lv_sub hl [0, 1, 2] rfl)
      · refine lv_iload_n hx hb dX2_findAnswers_27 rfl (lv_at hl 0 rfl) ?_
        refine lv_goto (tgt := 32) hx hb dX2_findAnswers_28 (by decide) ?_
        refine lv_istore_n (lv' := [(1, .int (iZ (i))), (2, .int (iZ (i))), (0, .ref (h0 + 48))]) hx hb dX2_findAnswers_32 rfl hl (by decide) rfl (fun ls hl => ?_)
        refine lv_iinc (v := iZ (i + 1)) (lv' := [(2, .int (iZ (i + 1))), (1, .int (iZ (i))), (0, .ref (h0 + 48))]) hx hb dX2_findAnswers_33 hl (k := 1) rfl (iZ_add _ _) (by decide) rfl (fun ls hl => ?_)
        refine lv_goto (tgt := 4) hx hb dX2_findAnswers_36 (by decide) ?_
        exact ih (i + 1) (i) μ H locs ls (by rfl) (by (first | ((try clear c24_); (try clear t2_); (try clear t1_); (try clear hm9); (try clear hm9_); (try clear hexit39); (try clear hRs); (try clear hRc); (try clear hRl); (try clear hRf); omega) | omega)) (by (first | ((try clear c24_); (try clear t2_); (try clear t1_); (try clear hm9_); (try clear hexit39); (try clear hRs); (try clear hRc); (try clear hRl); (try clear hRf); omega) | omega)) hP hS (lv_sub hl [0, 1, 2] rfl)
set_option maxHeartbeats 4000000 in
set_option maxRecDepth 100000 in
theorem s_OfindAnswers (l : Launch) (dC : Nat → ClassId) (dI : Nat → Nat → Nat) (cI cZ cII cIII : ClassId) (h0 sz : Nat) (μ : va_M)  (ho : ordOK μ) : Met l yX2_findAnswers (Cond.code yX2_findAnswers cX2_findAnswers 3 none :: wsG) ({ frames := 4, cells := 0, slots := 0, locals := 83 } : Room) (va_Pc [.ref (h0 + 48)] (fun U => U.heap.size = sz ∧ va_P (dC, dI) vwCl (fw (sE cI cZ cII cIII h0) h0 233 μ) U.heap ∧ va_K (dC, dI) vwCl (sT cI cZ cII cIII) U ∧ xM U)) (va_Qv (fun (u : va_M) => ordOK u ∧ fr (fun x _ => x = 79) μ u) (fun u t => va_P (dC, dI) vwCl (fw (sE cI cZ cII cIII h0) h0 233 u) t.heap ∧ va_K (dC, dI) vwCl (sT cI cZ cII cIII) t) (fA h0 233 sz)) 0 0 (fA h0 233 sz) := by
  refine Met.ofW (cc := cX2_findAnswers) (maxL := 3) (ret := none) (by decide) rfl ?_
  intro p e s m args below meth c s₁ B hml hv
  obtain ⟨rfl, hsz, hP, hK, hM⟩ := hv
  have hx := B.exec
  have hb := B.bytes
  have hr := B.returns
  have hts : ∀ w ∈ wsG, w.before _ s = true := hG_of (atoms_spec (ws := (Cond.code yX2_findAnswers cX2_findAnswers 3 none :: wsG)) B.pre)
  have hown : s.vm.findClass RX2 = some m.cls := findClass_of_methodNamed B.named
  have hlocks := B.notSynchronized
  subst hsz
  have hS : va_S (fA h0 233 s.heap.size) s.heap s.heap [] := va_S.rf
  have hl := lv_entry ([.ref (h0 + 48)]) (n := 3) (Nat.le_of_ble_eq_true rfl)
  rw [lg_entry_eq]
  generalize (lg_sl ([.ref (h0 + 48)]) ++ List.replicate (3 - (lg_sl ([.ref (h0 + 48)])).length) Slot.unset).toArray = ls at hl ⊢
  have hl : lv_has ls 3 [(0, .ref (h0 + 48))] := hl
  refine lv_iconst (v := iZ 0) hx hb dX2_findAnswers_0 rfl ?_
  refine lv_istore_n (lv' := [(1, .int (iZ (0))), (0, .ref (h0 + 48))]) hx hb dX2_findAnswers_1 rfl hl (by decide) rfl (fun ls hl => ?_)
  refine lv_iconst (v := iZ 1) hx hb dX2_findAnswers_2 rfl ?_
  refine lv_istore_n (lv' := [(2, .int (iZ (1))), (1, .int (iZ (0))), (0, .ref (h0 + 48))]) hx hb dX2_findAnswers_3 rfl hl (by decide) rfl (fun ls hl => ?_)
  refine LX2_findAnswers_4 hx hb hml hown hts hK hM (Nat.le_of_ble_eq_true rfl) (Nat.le_of_ble_eq_true rfl) (Nat.le_of_ble_eq_true rfl) (Nat.le_of_ble_eq_true rfl) (μ) (by exact ho) ?_ _ (1) (0) μ s.heap [] ls (by rfl) (by decide) (Nat.lt_succ_self _) hP hS (lv_sub hl [0, 1, 2] rfl)
  · intro i_1 be_1 μ1_ H locs ls q1_1 q2_1 hP hS hl
    have hl : lv_has ls 3 [(1, .int (iZ (be_1))), (0, .ref (h0 + 48))] := hl
    have hPn39 := hP
    have hln39 := hl
    obtain rfl := q1_1
    have hP := hPn39
    have hl := hln39
    have Q2 := q2_1
    have n1_ := ho.1
    refine lv_aload_n hx hb dX2_findAnswers_39 rfl (lv_at hl 1 rfl) ?_
    refine fz_get (D := (dC, dI)) (ci := 2) (v := .ref (h0 + 79)) (C := RX2) (T := TX2) (N := 9) hx hb hts inG2 hown hK hP (k := 48) (by decide) (F := (sF48 h0)) sE_48 rfl 8 (by decide) (hts _ k237) (fun _ h9 => h9) rfl dX2_findAnswers_40 ?_
    refine lv_iconst (v := iZ 0) hx hb dX2_findAnswers_43 rfl ?_
    refine lv_aload_n hx hb dX2_findAnswers_44 rfl (lv_at hl 1 rfl) ?_
    refine va_calli (va_runV (As := []) (rest := [.int (iZ (0)), .ref (h0 + 79)]) ⟨hx, hb, hml, hown, hts⟩ (s_OcountUnlike l dC dI cI cZ cII cIII h0 H.size μ1_  (by exact ho)) (cwV 0 hts (gV_G k1073 k1075 ks_yX2_countUnlike k9 k1076) rfl rfl rfl (by decide +kernel) ⟨Nat.le_of_ble_eq_true rfl, Nat.le_of_ble_eq_true rfl⟩) ⟨fun a U g mk q => by obtain ⟨q0, q1, qP, qK, qM⟩ := q; exact ⟨q0, q1, qP, va_K.moved (u := U) (U := U.calling g mk a) (Vm.Alike.refl U.vm) qK, qM⟩, va_recv hK hP (ci := 2) (q0 := 48) rfl ((fw_get (by decide)).trans (by rw [sE_48])), fun U hU hW => ⟨rfl, by rw [hU], by rw [hU]; exact hP, va_K.moved hW.alike hK, xM_warm hW hM⟩⟩ rfl rfl hl.1 rfl (lv_room (Nat.le_of_ble_eq_true rfl)) dX2_findAnswers_45 ⟨Nat.le_of_ble_eq_true rfl, Nat.le_of_ble_eq_true rfl⟩) hS (fun q _ h => fA_le hS.1 q h) (fA_le hS.1) (fun r9 u9 t9 H1 locs ht9 hvm9 hw9 hB9 hz9 hk9 hS => ?_)
    obtain ⟨μs, rs⟩ := u9
    obtain ⟨hP, -⟩ := hB9
    rw [ht9] at hP
    generalize H1 = H at hP hS ⊢
    obtain ⟨e9, hw9⟩ := hw9
    have e9 : r9 = iZ rs := e9
    subst e9
    simp only at hP hw9
    have hμs := hw9; clear hw9
    rw [hμs.1] at hP; have hμs := hμs.2
    have hrs := hμs
    refine fz_st (k := 79) (n := 4) (i := 0) (z := rs) hx hb hK hP fA_in hS 0 (by decide) sE_79 rfl ⟨by (first | ((try clear hrs); (try clear hμs); (try clear μs); (try clear hz9); (try clear n1_); (try clear Q2); (try clear hln39); (try clear hPn39); (try clear q2_1); (try clear q1_1); (try clear i_1); (try clear hsz); (try clear s₁); omega) | omega), by (first | ((try clear hrs); (try clear hμs); (try clear μs); (try clear hz9); (try clear n1_); (try clear Q2); (try clear hln39); (try clear hPn39); (try clear q2_1); (try clear q1_1); (try clear i_1); (try clear hsz); (try clear s₁); omega) | omega)⟩ (by decide) dX2_findAnswers_48 (fun H locs hP hS => ?_)
    rw [show (0 : Int).toNat = 0 from rfl] at hP
    obtain ⟨μ2, eμ2⟩ : ∃ x : va_M, x = uz μ1_ 79 0 (rs) := ⟨_, rfl⟩
    rw [← eμ2] at hP
    refine lv_aload_n hx hb dX2_findAnswers_49 rfl (lv_at hl 1 rfl) ?_
    refine fz_get (D := (dC, dI)) (ci := 2) (v := .ref (h0 + 79)) (C := RX2) (T := TX2) (N := 9) hx hb hts inG2 hown hK hP (k := 48) (by decide) (F := (sF48 h0)) sE_48 rfl 8 (by decide) (hts _ k237) (fun _ h9 => h9) rfl dX2_findAnswers_50 ?_
    refine lv_iconst (v := iZ 1) hx hb dX2_findAnswers_53 rfl ?_
    refine lv_aload_n hx hb dX2_findAnswers_54 rfl (lv_at hl 1 rfl) ?_
    refine fz_get (D := (dC, dI)) (ci := 2) (v := .ref (h0 + 78)) (C := RX2) (T := TX2) (N := 9) hx hb hts inG2 hown hK hP (k := 48) (by decide) (F := (sF48 h0)) sE_48 rfl 5 (by decide) (hts _ k233) (fun _ h9 => h9) rfl dX2_findAnswers_55 ?_
    refine lv_iload_n hx hb dX2_findAnswers_58 rfl (lv_at hl 0 rfl) ?_
    refine fz_ld (k := 78) (n := 24) hx hb hK hP 0 (by decide) sE_78 rfl ⟨by (first | ((try clear x); (try clear eμ2); (try clear μ2); (try clear hrs); (try clear hμs); (try clear μs); (try clear hz9); (try clear n1_); (try clear Q2); (try clear hln39); (try clear hPn39); (try clear q1_1); (try clear i_1); (try clear hsz); (try clear s₁); omega) | omega), by (first | ((try clear x); (try clear eμ2); (try clear μ2); (try clear hrs); (try clear hμs); (try clear μs); (try clear hz9); (try clear n1_); (try clear Q2); (try clear hln39); (try clear hPn39); (try clear q1_1); (try clear i_1); (try clear hsz); (try clear s₁); omega) | omega)⟩ (by decide) dX2_findAnswers_59 ?_
    rw [show μ2 78 (be_1).toNat = μ1_ 78 (be_1).toNat from by rw [eμ2, uz_n (by (first | ((try clear x); (try clear eμ2); (try clear μ2); (try clear hrs); (try clear hμs); (try clear μs); (try clear hz9); (try clear n1_); (try clear Q2); (try clear hln39); (try clear hPn39); (try clear q2_1); (try clear q1_1); (try clear i_1); (try clear hsz); (try clear s₁); omega) | omega))]]
    refine fz_st (k := 79) (n := 4) (i := 1) (z := (μ1_ 78 (be_1).toNat)) hx hb hK hP fA_in hS 0 (by decide) sE_79 rfl ⟨by (first | ((try clear x); (try clear eμ2); (try clear μ2); (try clear hrs); (try clear hμs); (try clear μs); (try clear hz9); (try clear n1_); (try clear Q2); (try clear hln39); (try clear hPn39); (try clear q2_1); (try clear q1_1); (try clear i_1); (try clear hsz); (try clear s₁); omega) | omega), by (first | ((try clear x); (try clear eμ2); (try clear μ2); (try clear hrs); (try clear hμs); (try clear μs); (try clear hz9); (try clear n1_); (try clear Q2); (try clear hln39); (try clear hPn39); (try clear q2_1); (try clear q1_1); (try clear i_1); (try clear hsz); (try clear s₁); omega) | omega)⟩ (by decide) dX2_findAnswers_60 (fun H locs hP hS => ?_)
    rw [show (1 : Int).toNat = 1 from rfl] at hP
    obtain ⟨μ3, eμ3⟩ : ∃ x : va_M, x = uz μ2 79 1 (μ1_ 78 (be_1).toNat) := ⟨_, rfl⟩
    rw [← eμ3] at hP
    refine lv_aload_n hx hb dX2_findAnswers_61 rfl (lv_at hl 1 rfl) ?_
    refine fz_get (D := (dC, dI)) (ci := 2) (v := .ref (h0 + 79)) (C := RX2) (T := TX2) (N := 9) hx hb hts inG2 hown hK hP (k := 48) (by decide) (F := (sF48 h0)) sE_48 rfl 8 (by decide) (hts _ k237) (fun _ h9 => h9) rfl dX2_findAnswers_62 ?_
    refine lv_iconst (v := iZ 2) hx hb dX2_findAnswers_65 rfl ?_
    refine lv_iload_n hx hb dX2_findAnswers_66 rfl (lv_at hl 0 rfl) ?_
    refine fz_st (k := 79) (n := 4) (i := 2) (z := be_1) hx hb hK hP fA_in hS 0 (by decide) sE_79 rfl ⟨by (first | ((try clear μ2); (try clear x); (try clear eμ3); (try clear μ3); (try clear eμ2); (try clear hrs); (try clear hμs); (try clear μs); (try clear hz9); (try clear n1_); (try clear Q2); (try clear hln39); (try clear hPn39); (try clear q2_1); (try clear q1_1); (try clear i_1); (try clear hsz); (try clear s₁); omega) | omega), by (first | ((try clear μ2); (try clear x); (try clear eμ3); (try clear μ3); (try clear eμ2); (try clear hrs); (try clear hμs); (try clear μs); (try clear hz9); (try clear n1_); (try clear Q2); (try clear hln39); (try clear hPn39); (try clear q2_1); (try clear q1_1); (try clear i_1); (try clear hsz); (try clear s₁); omega) | omega)⟩ (by decide) dX2_findAnswers_67 (fun H locs hP hS => ?_)
    rw [show (2 : Int).toNat = 2 from rfl] at hP
    obtain ⟨μ4, eμ4⟩ : ∃ x : va_M, x = uz μ3 79 2 (be_1) := ⟨_, rfl⟩
    rw [← eμ4] at hP
    refine lv_aload_n hx hb dX2_findAnswers_68 rfl (lv_at hl 1 rfl) ?_
    refine fz_get (D := (dC, dI)) (ci := 2) (v := .ref (h0 + 79)) (C := RX2) (T := TX2) (N := 9) hx hb hts inG2 hown hK hP (k := 48) (by decide) (F := (sF48 h0)) sE_48 rfl 8 (by decide) (hts _ k237) (fun _ h9 => h9) rfl dX2_findAnswers_69 ?_
    refine lv_iconst (v := iZ 3) hx hb dX2_findAnswers_72 rfl ?_
    have F3 : ordOK μ4 ∧ fr (fun x _ => x = 79) μ1_ μ4 := by
      rw [eμ4, eμ3, eμ2]
      refine ⟨ord_uz (ord_uz (ord_uz ho (by (first | ((try clear F3); (try clear μ3); (try clear x); (try clear eμ4); (try clear μ4); (try clear μ2); (try clear eμ3); (try clear eμ2); (try clear hrs); (try clear hμs); (try clear μs); (try clear hz9); (try clear n1_); (try clear Q2); (try clear hln39); (try clear hPn39); (try clear q2_1); (try clear q1_1); (try clear i_1); (try clear hsz); (try clear s₁); omega) | omega)) (by (first | ((try clear F3); (try clear μ3); (try clear x); (try clear eμ4); (try clear μ4); (try clear μ2); (try clear eμ3); (try clear eμ2); (try clear hrs); (try clear hμs); (try clear μs); (try clear hz9); (try clear n1_); (try clear Q2); (try clear hln39); (try clear hPn39); (try clear q2_1); (try clear q1_1); (try clear i_1); (try clear hsz); (try clear s₁); omega) | omega)) (by (first | ((try clear F3); (try clear μ3); (try clear x); (try clear eμ4); (try clear μ4); (try clear μ2); (try clear eμ3); (try clear eμ2); (try clear hrs); (try clear hμs); (try clear μs); (try clear hz9); (try clear n1_); (try clear Q2); (try clear hln39); (try clear hPn39); (try clear q2_1); (try clear q1_1); (try clear i_1); (try clear hsz); (try clear s₁); omega) | omega)) (by (first | ((try clear F3); (try clear μ3); (try clear x); (try clear eμ4); (try clear μ4); (try clear μ2); (try clear eμ3); (try clear eμ2); (try clear hrs); (try clear hμs); (try clear μs); (try clear hz9); (try clear n1_); (try clear Q2); (try clear hln39); (try clear hPn39); (try clear q2_1); (try clear q1_1); (try clear i_1); (try clear hsz); (try clear s₁); omega) | omega)) (by (first | ((try clear F3); (try clear μ3); (try clear x); (try clear eμ4); (try clear μ4); (try clear μ2); (try clear eμ3); (try clear eμ2); (try clear hrs); (try clear hμs); (try clear μs); (try clear hz9); (try clear n1_); (try clear Q2); (try clear hln39); (try clear hPn39); (try clear q2_1); (try clear q1_1); (try clear i_1); (try clear hsz); (try clear s₁); omega) | omega)) (by (first | ((try clear F3); (try clear μ3); (try clear x); (try clear eμ4); (try clear μ4); (try clear μ2); (try clear eμ3); (try clear eμ2); (try clear hrs); (try clear hμs); (try clear μs); (try clear hz9); (try clear n1_); (try clear Q2); (try clear hln39); (try clear hPn39); (try clear q2_1); (try clear q1_1); (try clear i_1); (try clear hsz); (try clear s₁); omega) | omega))) (by (first | ((try clear F3); (try clear μ3); (try clear x); (try clear eμ4); (try clear μ4); (try clear μ2); (try clear eμ3); (try clear eμ2); (try clear hrs); (try clear hμs); (try clear μs); (try clear hz9); (try clear n1_); (try clear Q2); (try clear hln39); (try clear hPn39); (try clear q2_1); (try clear q1_1); (try clear i_1); (try clear hsz); (try clear s₁); omega) | omega)) (by (first | ((try clear F3); (try clear μ3); (try clear x); (try clear eμ4); (try clear μ4); (try clear μ2); (try clear eμ3); (try clear eμ2); (try clear hrs); (try clear hμs); (try clear μs); (try clear hz9); (try clear n1_); (try clear Q2); (try clear hln39); (try clear hPn39); (try clear q2_1); (try clear q1_1); (try clear i_1); (try clear hsz); (try clear s₁); omega) | omega)) (by (first | ((try clear F3); (try clear μ3); (try clear x); (try clear eμ4); (try clear μ4); (try clear μ2); (try clear eμ3); (try clear eμ2); (try clear hrs); (try clear hμs); (try clear μs); (try clear hz9); (try clear n1_); (try clear Q2); (try clear hln39); (try clear hPn39); (try clear q2_1); (try clear q1_1); (try clear i_1); (try clear hsz); (try clear s₁); omega) | omega)) (by (first | ((try clear F3); (try clear μ3); (try clear x); (try clear eμ4); (try clear μ4); (try clear μ2); (try clear eμ3); (try clear eμ2); (try clear hrs); (try clear hμs); (try clear μs); (try clear hz9); (try clear n1_); (try clear Q2); (try clear hln39); (try clear hPn39); (try clear q2_1); (try clear q1_1); (try clear i_1); (try clear hsz); (try clear s₁); omega) | omega)) (by (first | ((try clear F3); (try clear μ3); (try clear x); (try clear eμ4); (try clear μ4); (try clear μ2); (try clear eμ3); (try clear eμ2); (try clear hrs); (try clear hμs); (try clear μs); (try clear hz9); (try clear n1_); (try clear Q2); (try clear hln39); (try clear hPn39); (try clear q2_1); (try clear q1_1); (try clear i_1); (try clear hsz); (try clear s₁); omega) | omega)) (by (first | ((try clear F3); (try clear μ3); (try clear x); (try clear eμ4); (try clear μ4); (try clear μ2); (try clear eμ3); (try clear eμ2); (try clear hrs); (try clear hμs); (try clear μs); (try clear hz9); (try clear n1_); (try clear Q2); (try clear hln39); (try clear hPn39); (try clear q2_1); (try clear q1_1); (try clear i_1); (try clear hsz); (try clear s₁); omega) | omega))) (by (first | ((try clear F3); (try clear μ3); (try clear x); (try clear eμ4); (try clear μ4); (try clear μ2); (try clear eμ3); (try clear eμ2); (try clear hrs); (try clear hμs); (try clear μs); (try clear hz9); (try clear n1_); (try clear Q2); (try clear hln39); (try clear hPn39); (try clear q2_1); (try clear q1_1); (try clear i_1); (try clear hsz); (try clear s₁); omega) | omega)) (by (first | ((try clear F3); (try clear μ3); (try clear x); (try clear eμ4); (try clear μ4); (try clear μ2); (try clear eμ3); (try clear eμ2); (try clear hrs); (try clear hμs); (try clear μs); (try clear hz9); (try clear n1_); (try clear Q2); (try clear hln39); (try clear hPn39); (try clear q2_1); (try clear q1_1); (try clear i_1); (try clear hsz); (try clear s₁); omega) | omega)) (by (first | ((try clear F3); (try clear μ3); (try clear x); (try clear eμ4); (try clear μ4); (try clear μ2); (try clear eμ3); (try clear eμ2); (try clear hrs); (try clear hμs); (try clear μs); (try clear hz9); (try clear n1_); (try clear Q2); (try clear hln39); (try clear hPn39); (try clear q2_1); (try clear q1_1); (try clear i_1); (try clear hsz); (try clear s₁); omega) | omega)) (by (first | ((try clear F3); (try clear μ3); (try clear x); (try clear eμ4); (try clear μ4); (try clear μ2); (try clear eμ3); (try clear eμ2); (try clear hrs); (try clear hμs); (try clear μs); (try clear hz9); (try clear n1_); (try clear Q2); (try clear hln39); (try clear hPn39); (try clear q2_1); (try clear q1_1); (try clear i_1); (try clear hsz); (try clear s₁); omega) | omega)) (by (first | ((try clear F3); (try clear μ3); (try clear x); (try clear eμ4); (try clear μ4); (try clear μ2); (try clear eμ3); (try clear eμ2); (try clear hrs); (try clear hμs); (try clear μs); (try clear hz9); (try clear n1_); (try clear Q2); (try clear hln39); (try clear hPn39); (try clear q2_1); (try clear q1_1); (try clear i_1); (try clear hsz); (try clear s₁); omega) | omega)) (by (first | ((try clear F3); (try clear μ3); (try clear x); (try clear eμ4); (try clear μ4); (try clear μ2); (try clear eμ3); (try clear eμ2); (try clear hrs); (try clear hμs); (try clear μs); (try clear hz9); (try clear n1_); (try clear Q2); (try clear hln39); (try clear hPn39); (try clear q2_1); (try clear q1_1); (try clear i_1); (try clear hsz); (try clear s₁); omega) | omega)), fr_uz (fr_uz (fr_uz fr_rfl rfl) rfl) rfl⟩
    obtain ⟨F31, F32⟩ := F3
    have n2_ := F31.1
    refine lv_aload_n hx hb dX2_findAnswers_73 rfl (lv_at hl 1 rfl) ?_
    refine lv_iload_n hx hb dX2_findAnswers_74 rfl (lv_at hl 0 rfl) ?_
    refine lv_aload_n hx hb dX2_findAnswers_75 rfl (lv_at hl 1 rfl) ?_
    refine fz_get (D := (dC, dI)) (ci := 2) (v := .int (iZ (μ4 48 6))) (C := RX2) (T := TX2) (N := 9) hx hb hts inG2 hown hK hP (k := 48) (by decide) (F := (sF48 h0)) sE_48 rfl 6 (by decide) (hts _ k234) (fun _ h9 => h9) rfl dX2_findAnswers_76 ?_
    rw [show μ4 48 6 = μ1_ 48 6 from by rw [eμ4, uz_n (by (first | ((try clear n2_); (try clear F32); (try clear F31); (try clear F3); (try clear μ3); (try clear x); (try clear eμ4); (try clear μ2); (try clear eμ3); (try clear eμ2); (try clear hrs); (try clear hμs); (try clear μs); (try clear hz9); (try clear n1_); (try clear Q2); (try clear hln39); (try clear hPn39); (try clear q2_1); (try clear q1_1); (try clear i_1); (try clear hsz); (try clear s₁); omega) | omega)), eμ3, uz_n (by (first | ((try clear n2_); (try clear F32); (try clear F31); (try clear F3); (try clear μ3); (try clear x); (try clear eμ4); (try clear μ2); (try clear eμ3); (try clear eμ2); (try clear hrs); (try clear hμs); (try clear μs); (try clear hz9); (try clear n1_); (try clear Q2); (try clear hln39); (try clear hPn39); (try clear q2_1); (try clear q1_1); (try clear i_1); (try clear hsz); (try clear s₁); omega) | omega)), eμ2, uz_n (by (first | ((try clear n2_); (try clear F32); (try clear F31); (try clear F3); (try clear μ3); (try clear x); (try clear eμ4); (try clear μ2); (try clear eμ3); (try clear eμ2); (try clear hrs); (try clear hμs); (try clear μs); (try clear hz9); (try clear n1_); (try clear Q2); (try clear hln39); (try clear hPn39); (try clear q2_1); (try clear q1_1); (try clear i_1); (try clear hsz); (try clear s₁); omega) | omega))]]
    refine va_calli (va_runV (As := [.int (iZ (be_1)), .int (iZ (μ1_ 48 6))]) (rest := [.int (iZ (3)), .ref (h0 + 79)]) ⟨hx, hb, hml, hown, hts⟩ (s_OcountLike l dC dI cI cZ cII cIII h0 H.size μ4 (be_1) (μ1_ 48 6) (by exact F31) (by first | assumption | (first | ((try clear n2_); (try clear F32); (try clear F31); (try clear F3); (try clear μ3); (try clear x); (try clear eμ4); (try clear μ2); (try clear eμ3); (try clear eμ2); (try clear hrs); (try clear hμs); (try clear μs); (try clear hz9); (try clear Q2); (try clear hln39); (try clear hPn39); (try clear q1_1); (try clear i_1); (try clear hsz); (try clear s₁); omega) | omega) | exact ⟨by omega, by omega⟩)) (cwV 2 hts (gV_G k1077 k1079 ks_yX2_countLike k9 k1080) rfl rfl rfl (by decide +kernel) ⟨Nat.le_of_ble_eq_true rfl, Nat.le_of_ble_eq_true rfl⟩) ⟨fun a U g mk q => by obtain ⟨q0, q1, qP, qK, qM⟩ := q; exact ⟨q0, q1, qP, va_K.moved (u := U) (U := U.calling g mk a) (Vm.Alike.refl U.vm) qK, qM⟩, va_recv hK hP (ci := 2) (q0 := 48) rfl ((fw_get (by decide)).trans (by rw [sE_48])), fun U hU hW => ⟨rfl, by rw [hU], by rw [hU]; exact hP, va_K.moved hW.alike hK, xM_warm hW hM⟩⟩ rfl rfl hl.1 rfl (lv_room (Nat.le_of_ble_eq_true rfl)) dX2_findAnswers_79 ⟨Nat.le_of_ble_eq_true rfl, Nat.le_of_ble_eq_true rfl⟩) hS (fun q _ h => fA_le hS.1 q h) (fA_le hS.1) (fun r9 u9 t9 H1 locs ht9 hvm9 hw9 hB9 hz9 hk9 hS => ?_)
    obtain ⟨μt, rt⟩ := u9
    obtain ⟨hP, -⟩ := hB9
    rw [ht9] at hP
    generalize H1 = H at hP hS ⊢
    obtain ⟨e9, hw9⟩ := hw9
    have e9 : r9 = iZ rt := e9
    subst e9
    simp only at hP hw9
    have hμt := hw9; clear hw9
    rw [hμt.1] at hP; have hμt := hμt.2
    have hrt := hμt
    refine fz_st (k := 79) (n := 4) (i := 3) (z := rt) hx hb hK hP fA_in hS 0 (by decide) sE_79 rfl ⟨by (first | ((try clear hrt); (try clear hμt); (try clear μt); (try clear hz9); (try clear n2_); (try clear F32); (try clear F31); (try clear F3); (try clear μ3); (try clear x); (try clear eμ4); (try clear μ2); (try clear eμ3); (try clear eμ2); (try clear hrs); (try clear hμs); (try clear μs); (try clear n1_); (try clear Q2); (try clear hln39); (try clear hPn39); (try clear q2_1); (try clear q1_1); (try clear i_1); (try clear hsz); (try clear s₁); omega) | omega), by (first | ((try clear hrt); (try clear hμt); (try clear μt); (try clear hz9); (try clear n2_); (try clear F32); (try clear F31); (try clear F3); (try clear μ3); (try clear x); (try clear eμ4); (try clear μ2); (try clear eμ3); (try clear eμ2); (try clear hrs); (try clear hμs); (try clear μs); (try clear n1_); (try clear Q2); (try clear hln39); (try clear hPn39); (try clear q2_1); (try clear q1_1); (try clear i_1); (try clear hsz); (try clear s₁); omega) | omega)⟩ (by decide) dX2_findAnswers_82 (fun H locs hP hS => ?_)
    rw [show (3 : Int).toNat = 3 from rfl] at hP
    obtain ⟨μ5, eμ5⟩ : ∃ x : va_M, x = uz μ4 79 3 (rt) := ⟨_, rfl⟩
    rw [← eμ5] at hP
    exact W.vret hx hb hr (fun t9 ht9 hW9 => ⟨⟨μ5, rfl, (by
                try dsimp only
                rw [eμ5]
                exact ⟨ord_uz F31 (by (first | ((try clear x); (try clear eμ5); (try clear μ5); (try clear hrt); (try clear hμt); (try clear μt); (try clear hz9); (try clear n2_); (try clear F32); (try clear F31); (try clear F3); (try clear μ3); (try clear eμ4); (try clear μ2); (try clear eμ3); (try clear eμ2); (try clear hrs); (try clear hμs); (try clear μs); (try clear n1_); (try clear Q2); (try clear hln39); (try clear hPn39); (try clear q2_1); (try clear q1_1); (try clear i_1); (try clear hsz); (try clear s₁); omega) | omega)) (by (first | ((try clear x); (try clear eμ5); (try clear μ5); (try clear hrt); (try clear hμt); (try clear μt); (try clear hz9); (try clear n2_); (try clear F32); (try clear F31); (try clear F3); (try clear μ3); (try clear eμ4); (try clear μ2); (try clear eμ3); (try clear eμ2); (try clear hrs); (try clear hμs); (try clear μs); (try clear n1_); (try clear Q2); (try clear hln39); (try clear hPn39); (try clear q2_1); (try clear q1_1); (try clear i_1); (try clear hsz); (try clear s₁); omega) | omega)) (by (first | ((try clear x); (try clear eμ5); (try clear μ5); (try clear hrt); (try clear hμt); (try clear μt); (try clear hz9); (try clear n2_); (try clear F32); (try clear F31); (try clear F3); (try clear μ3); (try clear eμ4); (try clear μ2); (try clear eμ3); (try clear eμ2); (try clear hrs); (try clear hμs); (try clear μs); (try clear n1_); (try clear Q2); (try clear hln39); (try clear hPn39); (try clear q2_1); (try clear q1_1); (try clear i_1); (try clear hsz); (try clear s₁); omega) | omega)) (by (first | ((try clear x); (try clear eμ5); (try clear μ5); (try clear hrt); (try clear hμt); (try clear μt); (try clear hz9); (try clear n2_); (try clear F32); (try clear F31); (try clear F3); (try clear μ3); (try clear eμ4); (try clear μ2); (try clear eμ3); (try clear eμ2); (try clear hrs); (try clear hμs); (try clear μs); (try clear n1_); (try clear Q2); (try clear hln39); (try clear hPn39); (try clear q2_1); (try clear q1_1); (try clear i_1); (try clear hsz); (try clear s₁); omega) | omega)) (by (first | ((try clear x); (try clear eμ5); (try clear μ5); (try clear hrt); (try clear hμt); (try clear μt); (try clear hz9); (try clear n2_); (try clear F32); (try clear F31); (try clear F3); (try clear μ3); (try clear eμ4); (try clear μ2); (try clear eμ3); (try clear eμ2); (try clear hrs); (try clear hμs); (try clear μs); (try clear n1_); (try clear Q2); (try clear hln39); (try clear hPn39); (try clear q2_1); (try clear q1_1); (try clear i_1); (try clear hsz); (try clear s₁); omega) | omega)) (by (first | ((try clear x); (try clear eμ5); (try clear μ5); (try clear hrt); (try clear hμt); (try clear μt); (try clear hz9); (try clear n2_); (try clear F32); (try clear F31); (try clear F3); (try clear μ3); (try clear eμ4); (try clear μ2); (try clear eμ3); (try clear eμ2); (try clear hrs); (try clear hμs); (try clear μs); (try clear n1_); (try clear Q2); (try clear hln39); (try clear hPn39); (try clear q2_1); (try clear q1_1); (try clear i_1); (try clear hsz); (try clear s₁); omega) | omega)), fr_uz F32 rfl⟩), by rw [ht9]; exact hP, va_K.moved hW9.alike hK⟩, hS.F ht9⟩) hS.2.2 dX2_findAnswers_83
set_option maxHeartbeats 4000000 in
set_option maxRecDepth 100000 in
theorem s_OlayNext (l : Launch) (dC : Nat → ClassId) (dI : Nat → Nat → Nat) (cI cZ cII cIII : ClassId) (h0 sz : Nat) (μ : va_M) (q : Nat) (rm : Nat) (q2 : Nat) (rm2 : Nat) (q3 : Nat) (rm3 : Nat) (hq : rowB q rm) (hq2 : rowB q2 rm2) (hq3 : rowB q3 rm3) (ha3 : apart q3 q) (ha32 : apart q3 q2) (hG : rG μ q rm) (hG2 : rG μ q2 rm2) (h96 : rm2 = 96) (hG3 : rG μ q3 rm3) : Met l yX2_layNext (Cond.code yX2_layNext cX2_layNext 5 (some .int) :: wsG) ({ frames := 6, cells := 0, slots := 0, locals := 139 } : Room) (va_Pc [.ref (h0 + q), .ref (h0 + q2), .ref (h0 + q3), .ref (h0 + 41)] (fun U => U.heap.size = sz ∧ va_P (dC, dI) vwCl (fw (sE cI cZ cII cIII h0) h0 233 μ) U.heap ∧ va_K (dC, dI) vwCl (sT cI cZ cII cIII) U ∧ xM U)) (va_Qi (fun (r9 : Int32) (u : va_M × Int) => r9 = iZ u.2 ∧ (fun (u : va_M) (r : Int) => rG u q3 rm3 ∧ fr (fun x y => LEq q3 x y ∨ (41 ≤ x ∧ x ≤ 44)) μ u ∧ 0 ≤ r ∧ r ≤ 2000) u.1 u.2) (fun u t => va_P (dC, dI) vwCl (fw (sE cI cZ cII cIII h0) h0 233 u.1) t.heap ∧ va_K (dC, dI) vwCl (sT cI cZ cII cIII) t) (fA h0 233 sz)) 0 0 (fA h0 233 sz) := by
  refine Met.ofW (cc := cX2_layNext) (maxL := 5) (ret := (some .int)) (by decide) rfl ?_
  intro p e s m args below meth c s₁ B hml hv
  obtain ⟨rfl, hsz, hP, hK, hM⟩ := hv
  have hx := B.exec
  have hb := B.bytes
  have hr := B.returns
  have hts : ∀ w ∈ wsG, w.before _ s = true := hG_of (atoms_spec (ws := (Cond.code yX2_layNext cX2_layNext 5 (some .int) :: wsG)) B.pre)
  have hown : s.vm.findClass RX2 = some m.cls := findClass_of_methodNamed B.named
  have hlocks := B.notSynchronized
  subst hsz
  have hS : va_S (fA h0 233 s.heap.size) s.heap s.heap [] := va_S.rf
  have hl := lv_entry ([.ref (h0 + q), .ref (h0 + q2), .ref (h0 + q3), .ref (h0 + 41)]) (n := 5) (Nat.le_of_ble_eq_true rfl)
  rw [lg_entry_eq]
  generalize (lg_sl ([.ref (h0 + q), .ref (h0 + q2), .ref (h0 + q3), .ref (h0 + 41)]) ++ List.replicate (5 - (lg_sl ([.ref (h0 + q), .ref (h0 + q2), .ref (h0 + q3), .ref (h0 + 41)])).length) Slot.unset).toArray = ls at hl ⊢
  have hl : lv_has ls 5 [(0, .ref (h0 + q)), (1, .ref (h0 + q2)), (2, .ref (h0 + q3)), (3, .ref (h0 + 41))] := hl
  have hqb := rowB_c hq
  have hqb2 := rowB_c hq2
  have hqb3 := rowB_c hq3
  have hrm := rG_rc hq hG
  have hrm2 := rG_rc hq2 hG2
  refine lv_aload_n hx hb dX2_layNext_0 rfl (lv_at hl 0 rfl) ?_
  refine fz_get (D := (dC, dI)) (ci := 4) (v := .int (iZ (μ q 5))) (C := RX4) (T := TX4) (N := 8) hx hb hts inG4 hown hK hP (k := q) (by (first | ((try clear hrm2); (try clear hrm); (try clear hqb3); (try clear hqb2); (try clear hsz); (try clear s₁); (try clear h96); omega) | omega)) (F := (sRF h0 q)) (sE_rowO hq) rfl 5 (by decide) (hts _ k98) (fun _ h9 => h9) rfl dX2_layNext_1 ?_
  refine fz_if_ne (tgt := 14) (by constructor <;> (first | ((try clear hrm2); (try clear hqb3); (try clear hqb2); (try clear hsz); (try clear s₁); (try clear h96); omega) | omega)) hx hb dX2_layNext_4 (by decide) (fun c4_ => ?_) (fun c4_ => ?_)
  · refine lv_aload_n hx hb dX2_layNext_14 rfl (lv_at hl 3 rfl) ?_
    refine lv_aload_n hx hb dX2_layNext_15 rfl (lv_at hl 0 rfl) ?_
    refine lv_aload_n hx hb dX2_layNext_16 rfl (lv_at hl 1 rfl) ?_
    refine va_calli (va_runV (As := [.ref (h0 + q), .ref (h0 + q2)]) (rest := []) ⟨hx, hb, hml, hown, hts⟩ (s_YleastCost l dC dI cI cZ cII cIII h0 s.heap.size μ (q) (rm) (q2) (rm2) (hq) (hq2) (by exact hG) (by exact hG2) (by exact h96)) (cwV 2 hts (gV_G k1054 k763 k764 k7 k765) rfl rfl rfl (by decide +kernel) ⟨Nat.le_of_ble_eq_true rfl, Nat.le_of_ble_eq_true rfl⟩) ⟨fun a U g mk q => by obtain ⟨q0, q1, qP, qK, qM⟩ := q; exact ⟨q0, q1, qP, va_K.moved (u := U) (U := U.calling g mk a) (Vm.Alike.refl U.vm) qK, qM⟩, va_recv hK hP (ci := 0) (q0 := 41) rfl ((fw_get (by decide)).trans (by rw [sE_41])), fun U hU hW => ⟨rfl, by rw [hU], by rw [hU]; exact hP, va_K.moved hW.alike hK, xM_warm hW hM⟩⟩ rfl rfl hl.1 rfl (lv_room (Nat.le_of_ble_eq_true rfl)) dX2_layNext_17 ⟨Nat.le_of_ble_eq_true rfl, Nat.le_of_ble_eq_true rfl⟩) hS (fun q _ h => fA_le hS.1 q h) (fA_le hS.1) (fun r9 u9 t9 H1 locs ht9 hvm9 hw9 hB9 hz9 hk9 hS => ?_)
    obtain ⟨μl, rl⟩ := u9
    obtain ⟨hP, -⟩ := hB9
    rw [ht9] at hP
    generalize H1 = H at hP hS ⊢
    obtain ⟨e9, hw9⟩ := hw9
    have e9 : r9 = iZ rl := e9
    subst e9
    simp only at hP hw9
    have hμl := hw9; clear hw9
    obtain ⟨f1_, k1_, r1_⟩ := hμl
    have z : ∀ (q8 rm8 : Nat), rowB q8 rm8 → ag μ μl q8 := fun q8 rm8 h8 x y h6 h7 => f1_ _ _ (by have := rowB_f h8; (first | ((try clear h8); (try clear z); (try clear r1_); (try clear k1_); (try clear f1_); (try clear hμl); (try clear μl); (try clear hz9); (try clear c4_); (try clear hrm2); (try clear hrm); (try clear hqb3); (try clear hqb2); (try clear hqb); (try clear hsz); (try clear s₁); (try clear h96); omega) | omega))
    refine lv_istore (lv' := [(4, .int (iZ (rl))), (0, .ref (h0 + q)), (1, .ref (h0 + q2)), (2, .ref (h0 + q3)), (3, .ref (h0 + 41))]) hx hb dX2_layNext_20 hl (by decide) rfl (fun ls hl => ?_)
    refine lv_aload_n hx hb dX2_layNext_22 rfl (lv_at hl 4 rfl) ?_
    refine lv_aload_n hx hb dX2_layNext_23 rfl (lv_at hl 1 rfl) ?_
    refine lv_aload_n hx hb dX2_layNext_24 rfl (lv_at hl 2 rfl) ?_
    refine lv_aload_n hx hb dX2_layNext_25 rfl (lv_at hl 3 rfl) ?_
    refine va_callv (va_runV (As := [.ref (h0 + q), .ref (h0 + q2), .ref (h0 + q3)]) (rest := []) ⟨hx, hb, hml, hown, hts⟩ (s_Ybuild l dC dI cI cZ cII cIII h0 H.size μl (q) (rm) (q2) (rm2) (q3) (rm3) (hq) (hq2) (hq3) (by exact ha3) (by exact ha32) (by exact rG_fr hG (z q rm hq)) (by exact rG_fr hG2 (z q2 rm2 hq2)) (by exact h96) (by exact k1_) (by exact rG_fr hG3 (z q3 rm3 hq3))) (cwV 3 hts (gV_G k1055 k814 k815 k7 k816) rfl rfl rfl (by decide +kernel) ⟨Nat.le_of_ble_eq_true rfl, Nat.le_of_ble_eq_true rfl⟩) ⟨fun a U g mk q => by obtain ⟨q0, q1, qP, qK, qM⟩ := q; exact ⟨q0, q1, qP, va_K.moved (u := U) (U := U.calling g mk a) (Vm.Alike.refl U.vm) qK, qM⟩, va_recv hK hP (ci := 0) (q0 := 41) rfl ((fw_get (by decide)).trans (by rw [sE_41])), fun U hU hW => ⟨rfl, by rw [hU], by rw [hU]; exact hP, va_K.moved hW.alike hK, xM_warm hW hM⟩⟩ rfl rfl hl.1 rfl (lv_room (Nat.le_of_ble_eq_true rfl)) dX2_layNext_26 ⟨Nat.le_of_ble_eq_true rfl, Nat.le_of_ble_eq_true rfl⟩) hS (fun q _ h => fA_le hS.1 q h) (fA_le hS.1) (fun u9 t9 H1 locs ht9 hvm9 hw9 hB9 hz9 hk9 hS => ?_)
    obtain ⟨hP, -⟩ := hB9
    rw [ht9] at hP
    generalize H1 = H at hP hS ⊢
    obtain ⟨μb, eμb⟩ : ∃ x : va_M, x = u9 := ⟨_, rfl⟩
    rw [← eμb] at hP hw9
    have hμb := hw9; clear hw9
    obtain ⟨g1_, g2_⟩ := hμb
    refine lv_iload hx hb dX2_layNext_29 (lv_at hl 0 rfl) ?_
    exact W.iret (v := iZ (rl)) hx hb hr (fun t9 ht9 hW9 => ⟨⟨iZ (rl), (μb, rl), rfl, ⟨rfl, (by
                dsimp only
                exact ⟨g1_, fr_trans (fr_mono f1_ (fun x y h => Or.inr (by (first | ((try clear g2_); (try clear g1_); (try clear hμb); (try clear eμb); (try clear μb); (try clear hz9); (try clear z); (try clear r1_); (try clear k1_); (try clear f1_); (try clear hμl); (try clear μl); (try clear c4_); (try clear hrm2); (try clear hrm); (try clear hqb3); (try clear hqb2); (try clear hqb); (try clear hsz); (try clear s₁); (try clear h96); omega) | omega)))) (fr_mono g2_ (fun x y h => h.elim Or.inl (fun h => Or.inr (by (first | ((try clear g2_); (try clear g1_); (try clear hμb); (try clear eμb); (try clear μb); (try clear hz9); (try clear z); (try clear r1_); (try clear k1_); (try clear f1_); (try clear hμl); (try clear μl); (try clear c4_); (try clear hrm2); (try clear hrm); (try clear hqb3); (try clear hqb2); (try clear hqb); (try clear hsz); (try clear s₁); (try clear h96); omega) | omega))))), r1_.1, r1_.2⟩)⟩, by rw [ht9]; exact hP, va_K.moved hW9.alike hK⟩, hS.F ht9⟩) hS.2.2 dX2_layNext_31
  · obtain ⟨w, w1_, w2_⟩ := rG_w hG2
    refine lv_aload_n hx hb dX2_layNext_7 rfl (lv_at hl 2 rfl) ?_
    refine lv_aload_n hx hb dX2_layNext_8 rfl (lv_at hl 1 rfl) ?_
    refine va_callv (va_runV (As := [.ref (h0 + q2)]) (rest := []) ⟨hx, hb, hml, hown, hts⟩ (s_Rtake2 l dC dI cI cZ cII cIII h0 s.heap.size μ (q3) (rm3) (q2) (rm2) (w) (hq3) (hq2) (by exact ha32) (by exact w1_) (by exact w2_) (by exact (rG_len hG2).2)) (cwV 1 hts (gV_G k1053 k399 k400 k3 k401) rfl rfl rfl (by decide +kernel) ⟨Nat.le_of_ble_eq_true rfl, Nat.le_of_ble_eq_true rfl⟩) ⟨fun a U g mk q => by obtain ⟨q0, q1, qP, qK, qM⟩ := q; exact ⟨q0, q1, qP, va_K.moved (u := U) (U := U.calling g mk a) (Vm.Alike.refl U.vm) qK, qM⟩, va_recv hK hP (ci := 4) (q0 := q3) rfl ((fw_get (by (first | ((try clear mk); (try clear g); (try clear U); (try clear w2_); (try clear w1_); (try clear w); (try clear c4_); (try clear hrm2); (try clear hrm); (try clear hqb2); (try clear hqb); (try clear hsz); (try clear s₁); (try clear h96); omega) | omega))).trans (by rw [(sE_rowO hq3)])), fun U hU hW => ⟨rfl, by rw [hU], by rw [hU]; exact hP, va_K.moved hW.alike hK, xM_warm hW hM⟩⟩ rfl rfl hl.1 rfl (lv_room (Nat.le_of_ble_eq_true rfl)) dX2_layNext_9 ⟨Nat.le_of_ble_eq_true rfl, Nat.le_of_ble_eq_true rfl⟩) hS (fun q _ h => fA_le hS.1 q h) (fA_le hS.1) (fun u9 t9 H1 locs ht9 hvm9 hw9 hB9 hz9 hk9 hS => ?_)
    obtain ⟨hP, -⟩ := hB9
    rw [ht9] at hP
    generalize H1 = H at hP hS ⊢
    obtain ⟨μt, eμt⟩ : ∃ x : va_M, x = u9 := ⟨_, rfl⟩
    rw [← eμt] at hP hw9
    have hμt := hw9; clear hw9
    obtain ⟨⟨a1_, a2_, a3_⟩, a4_⟩ := hμt
    have G9 := rG_load hG3 w1_ hG2.1 a4_ a1_ a2_ a3_
    refine lv_iconst (v := iZ 0) hx hb dX2_layNext_12 rfl ?_
    exact W.iret (v := iZ (0)) hx hb hr (fun t9 ht9 hW9 => ⟨⟨iZ (0), (μt, 0), rfl, ⟨rfl, (by
                dsimp only
                exact ⟨G9, fr_mono a2_ (fun x y h => Or.inl (LEw_4 h)), by decide, by decide⟩)⟩, by rw [ht9]; exact hP, va_K.moved hW9.alike hK⟩, hS.F ht9⟩) hS.2.2 dX2_layNext_13

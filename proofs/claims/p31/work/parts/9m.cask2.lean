set_option maxRecDepth 100000 in
theorem k485 : (Cond.static ({ cls := "PageSkeleton", name := "isTag", desc := "(I)Z" } : MethodName)) ∈ wsG := wsG_a3 5 rfl rfl
set_option maxRecDepth 100000 in
theorem k486 : (Cond.code ({ cls := "PageSkeleton", name := "isTag", desc := "(I)Z" } : MethodName) prog_1_method_53_code (1 : Nat) (Option.some FieldType.boolean)) ∈ wsG := wsG_a3 6 rfl rfl
set_option maxRecDepth 100000 in
theorem k568 : (Cond.static ({ cls := "PageSkeleton", name := "isWord", desc := "(I)Z" } : MethodName)) ∈ wsG := wsG_a3 88 rfl rfl
set_option maxRecDepth 100000 in
theorem k569 : (Cond.code ({ cls := "PageSkeleton", name := "isWord", desc := "(I)Z" } : MethodName) prog_1_method_54_code (1 : Nat) (Option.some FieldType.boolean)) ∈ wsG := wsG_a3 89 rfl rfl
set_option maxRecDepth 100000 in
theorem k809 : (Cond.instanceMethod ({ cls := "PageSkeleton$Row", name := "sizeAt", desc := "(I)I" } : MethodName)) ∈ wsG := wsG_a4 89 rfl rfl
set_option maxRecDepth 100000 in
theorem k810 : (Cond.selects "PageSkeleton$Row" ({ cls := "PageSkeleton$Row", name := "sizeAt", desc := "(I)I" } : MethodName) ({ cls := "PageSkeleton$Row", name := "sizeAt", desc := "(I)I" } : MethodName)) ∈ wsG := wsG_a4 90 rfl rfl
set_option maxRecDepth 100000 in
theorem k811 : (Cond.code ({ cls := "PageSkeleton$Row", name := "sizeAt", desc := "(I)I" } : MethodName) prog_6_method_9_code (2 : Nat) (Option.some FieldType.int)) ∈ wsG := wsG_a4 91 rfl rfl
set_option maxRecDepth 100000 in
theorem k922 : (Cond.methodLink "PageSkeleton$Row" (85 : Nat) ({ cls := "PageSkeleton$Row", name := "sortAt", desc := "(I)I" } : MethodName)) ∈ wsG := wsG_a4 202 rfl rfl
set_option maxRecDepth 100000 in
theorem k924 : (Cond.instanceMethod ({ cls := "PageSkeleton$Row", name := "sortAt", desc := "(I)I" } : MethodName)) ∈ wsG := wsG_a4 204 rfl rfl
set_option maxRecDepth 100000 in
theorem k925 : (Cond.code ({ cls := "PageSkeleton$Row", name := "sortAt", desc := "(I)I" } : MethodName) prog_6_method_22_code (2 : Nat) (Option.some FieldType.int)) ∈ wsG := wsG_a4 205 rfl rfl
set_option maxRecDepth 100000 in
theorem k928 : (Cond.methodLink "PageSkeleton$Row" (94 : Nat) ({ cls := "PageSkeleton$Row", name := "depthOf", desc := "(I)I" } : MethodName)) ∈ wsG := wsG_a4 208 rfl rfl
set_option maxRecDepth 100000 in
theorem k930 : (Cond.instanceMethod ({ cls := "PageSkeleton$Row", name := "depthOf", desc := "(I)I" } : MethodName)) ∈ wsG := wsG_a4 210 rfl rfl
set_option maxRecDepth 100000 in
theorem k931 : (Cond.code ({ cls := "PageSkeleton$Row", name := "depthOf", desc := "(I)I" } : MethodName) prog_6_method_23_code (4 : Nat) (Option.some FieldType.int)) ∈ wsG := wsG_a4 211 rfl rfl
set_option maxRecDepth 100000 in
theorem k932 : (Cond.methodLink "PageSkeleton$Row" (97 : Nat) ({ cls := "PageSkeleton$Row", name := "parentOf", desc := "(I)I" } : MethodName)) ∈ wsG := wsG_a4 212 rfl rfl
set_option maxRecDepth 100000 in
theorem k934 : (Cond.instanceMethod ({ cls := "PageSkeleton$Row", name := "parentOf", desc := "(I)I" } : MethodName)) ∈ wsG := wsG_a4 214 rfl rfl
set_option maxRecDepth 100000 in
theorem k935 : (Cond.code ({ cls := "PageSkeleton$Row", name := "parentOf", desc := "(I)I" } : MethodName) prog_6_method_24_code (3 : Nat) (Option.some FieldType.int)) ∈ wsG := wsG_a4 215 rfl rfl
set_option maxRecDepth 100000 in
theorem k936 : (Cond.methodLink "PageSkeleton$Row" (100 : Nat) ({ cls := "PageSkeleton$Row", name := "sizeAt", desc := "(I)I" } : MethodName)) ∈ wsG := wsG_a4 216 rfl rfl
set_option maxRecDepth 100000 in
theorem k937 : (Cond.methodLink "PageSkeleton$Row" (103 : Nat) ({ cls := "PageSkeleton$Row", name := "itemsIn", desc := "(I)I" } : MethodName)) ∈ wsG := wsG_a4 217 rfl rfl
set_option maxRecDepth 100000 in
theorem k939 : (Cond.instanceMethod ({ cls := "PageSkeleton$Row", name := "itemsIn", desc := "(I)I" } : MethodName)) ∈ wsG := wsG_a4 219 rfl rfl
set_option maxRecDepth 100000 in
theorem k940 : (Cond.code ({ cls := "PageSkeleton$Row", name := "itemsIn", desc := "(I)I" } : MethodName) prog_6_method_25_code (4 : Nat) (Option.some FieldType.int)) ∈ wsG := wsG_a4 220 rfl rfl
set_option maxRecDepth 100000 in
theorem ks_yX4_sortAt : Cond.selects RX4 yX4_sortAt yX4_sortAt ∈ wsG := wsG_p 35 rfl rfl
set_option maxRecDepth 100000 in
theorem ks_yX4_depthOf : Cond.selects RX4 yX4_depthOf yX4_depthOf ∈ wsG := wsG_p 36 rfl rfl
set_option maxRecDepth 100000 in
theorem ks_yX4_parentOf : Cond.selects RX4 yX4_parentOf yX4_parentOf ∈ wsG := wsG_p 37 rfl rfl
set_option maxRecDepth 100000 in
theorem ks_yX4_itemsIn : Cond.selects RX4 yX4_itemsIn yX4_itemsIn ∈ wsG := wsG_p 38 rfl rfl
theorem dX4_countLeaves_0 : decode cX4_countLeaves 0 = .ok (.iconst 0, 1) := by decide +kernel
theorem dX4_countLeaves_1 : decode cX4_countLeaves 1 = .ok (.istore 4, 2) := by decide +kernel
theorem dX4_countLeaves_3 : decode cX4_countLeaves 3 = .ok (.iconst 0, 1) := by decide +kernel
theorem dX4_countLeaves_4 : decode cX4_countLeaves 4 = .ok (.istore 5, 2) := by decide +kernel
theorem dX4_countLeaves_6 : decode cX4_countLeaves 6 = .ok (.iconst 0, 1) := by decide +kernel
theorem dX4_countLeaves_7 : decode cX4_countLeaves 7 = .ok (.istore 6, 2) := by decide +kernel
theorem dX4_countLeaves_9 : decode cX4_countLeaves 9 = .ok (.iload 6, 2) := by decide +kernel
theorem dX4_countLeaves_11 : decode cX4_countLeaves 11 = .ok (.aload_n 0, 1) := by decide +kernel
theorem dX4_countLeaves_12 : decode cX4_countLeaves 12 = .ok (.getfield 9, 3) := by decide +kernel
theorem dX4_countLeaves_15 : decode cX4_countLeaves 15 = .ok (.if_icmp .ge 124, 3) := by decide +kernel
theorem dX4_countLeaves_18 : decode cX4_countLeaves 18 = .ok (.aload_n 0, 1) := by decide +kernel
theorem dX4_countLeaves_19 : decode cX4_countLeaves 19 = .ok (.getfield 28, 3) := by decide +kernel
theorem dX4_countLeaves_22 : decode cX4_countLeaves 22 = .ok (.iload 6, 2) := by decide +kernel
theorem dX4_countLeaves_24 : decode cX4_countLeaves 24 = .ok (.iaload, 1) := by decide +kernel
theorem dX4_countLeaves_25 : decode cX4_countLeaves 25 = .ok (.sipush 515, 3) := by decide +kernel
theorem dX4_countLeaves_28 : decode cX4_countLeaves 28 = .ok (.if_icmp .ne 18, 3) := by decide +kernel
theorem dX4_countLeaves_31 : decode cX4_countLeaves 31 = .ok (.aload_n 0, 1) := by decide +kernel
theorem dX4_countLeaves_32 : decode cX4_countLeaves 32 = .ok (.getfield 28, 3) := by decide +kernel
theorem dX4_countLeaves_35 : decode cX4_countLeaves 35 = .ok (.aload_n 0, 1) := by decide +kernel
theorem dX4_countLeaves_36 : decode cX4_countLeaves 36 = .ok (.getfield 32, 3) := by decide +kernel
theorem dX4_countLeaves_39 : decode cX4_countLeaves 39 = .ok (.iload 6, 2) := by decide +kernel
theorem dX4_countLeaves_41 : decode cX4_countLeaves 41 = .ok (.iaload, 1) := by decide +kernel
theorem dX4_countLeaves_42 : decode cX4_countLeaves 42 = .ok (.iaload, 1) := by decide +kernel
theorem dX4_countLeaves_43 : decode cX4_countLeaves 43 = .ok (.goto 10, 3) := by decide +kernel
theorem dX4_countLeaves_46 : decode cX4_countLeaves 46 = .ok (.aload_n 0, 1) := by decide +kernel
theorem dX4_countLeaves_47 : decode cX4_countLeaves 47 = .ok (.getfield 28, 3) := by decide +kernel
theorem dX4_countLeaves_50 : decode cX4_countLeaves 50 = .ok (.iload 6, 2) := by decide +kernel
theorem dX4_countLeaves_52 : decode cX4_countLeaves 52 = .ok (.iaload, 1) := by decide +kernel
theorem dX4_countLeaves_53 : decode cX4_countLeaves 53 = .ok (.istore 7, 2) := by decide +kernel
theorem dX4_countLeaves_55 : decode cX4_countLeaves 55 = .ok (.iload 7, 2) := by decide +kernel
theorem dX4_countLeaves_57 : decode cX4_countLeaves 57 = .ok (.sipush 513, 3) := by decide +kernel
theorem dX4_countLeaves_60 : decode cX4_countLeaves 60 = .ok (.if_icmp .ne 7, 3) := by decide +kernel
theorem dX4_countLeaves_63 : decode cX4_countLeaves 63 = .ok (.iload_n 1, 1) := by decide +kernel
theorem dX4_countLeaves_64 : decode cX4_countLeaves 64 = .ok (.ifCond .ne 15, 3) := by decide +kernel
theorem dX4_countLeaves_67 : decode cX4_countLeaves 67 = .ok (.iload 7, 2) := by decide +kernel
theorem dX4_countLeaves_69 : decode cX4_countLeaves 69 = .ok (.sipush 514, 3) := by decide +kernel
theorem dX4_countLeaves_72 : decode cX4_countLeaves 72 = .ok (.if_icmp .ne 33, 3) := by decide +kernel
theorem dX4_countLeaves_75 : decode cX4_countLeaves 75 = .ok (.iload_n 2, 1) := by decide +kernel
theorem dX4_countLeaves_76 : decode cX4_countLeaves 76 = .ok (.ifCond .eq 29, 3) := by decide +kernel
theorem dX4_countLeaves_79 : decode cX4_countLeaves 79 = .ok (.iload 5, 2) := by decide +kernel
theorem dX4_countLeaves_81 : decode cX4_countLeaves 81 = .ok (.aload_n 0, 1) := by decide +kernel
theorem dX4_countLeaves_82 : decode cX4_countLeaves 82 = .ok (.getfield 28, 3) := by decide +kernel
theorem dX4_countLeaves_85 : decode cX4_countLeaves 85 = .ok (.iload 6, 2) := by decide +kernel
theorem dX4_countLeaves_87 : decode cX4_countLeaves 87 = .ok (.iaload, 1) := by decide +kernel
theorem dX4_countLeaves_88 : decode cX4_countLeaves 88 = .ok (.sipush 515, 3) := by decide +kernel
theorem dX4_countLeaves_91 : decode cX4_countLeaves 91 = .ok (.if_icmp .ne 7, 3) := by decide +kernel
theorem dX4_countLeaves_94 : decode cX4_countLeaves 94 = .ok (.iconst (-1), 1) := by decide +kernel
theorem dX4_countLeaves_95 : decode cX4_countLeaves 95 = .ok (.goto 4, 3) := by decide +kernel
theorem dX4_countLeaves_98 : decode cX4_countLeaves 98 = .ok (.iconst 1, 1) := by decide +kernel
theorem dX4_countLeaves_99 : decode cX4_countLeaves 99 = .ok (.iadd, 1) := by decide +kernel
theorem dX4_countLeaves_100 : decode cX4_countLeaves 100 = .ok (.istore 5, 2) := by decide +kernel
theorem dX4_countLeaves_102 : decode cX4_countLeaves 102 = .ok (.goto 31, 3) := by decide +kernel
theorem dX4_countLeaves_105 : decode cX4_countLeaves 105 = .ok (.iload 5, 2) := by decide +kernel
theorem dX4_countLeaves_107 : decode cX4_countLeaves 107 = .ok (.ifCond .ne 26, 3) := by decide +kernel
theorem dX4_countLeaves_110 : decode cX4_countLeaves 110 = .ok (.iload 7, 2) := by decide +kernel
theorem dX4_countLeaves_112 : decode cX4_countLeaves 112 = .ok (.invokestatic 58, 3) := by decide +kernel
theorem dX4_countLeaves_115 : decode cX4_countLeaves 115 = .ok (.ifCond .eq 18, 3) := by decide +kernel
theorem dX4_countLeaves_118 : decode cX4_countLeaves 118 = .ok (.iload_n 3, 1) := by decide +kernel
theorem dX4_countLeaves_119 : decode cX4_countLeaves 119 = .ok (.ifCond .ne 11, 3) := by decide +kernel
theorem dX4_countLeaves_122 : decode cX4_countLeaves 122 = .ok (.iload 7, 2) := by decide +kernel
theorem dX4_countLeaves_124 : decode cX4_countLeaves 124 = .ok (.sipush 512, 3) := by decide +kernel
theorem dX4_countLeaves_127 : decode cX4_countLeaves 127 = .ok (.if_icmp .eq 6, 3) := by decide +kernel
theorem dX4_countLeaves_130 : decode cX4_countLeaves 130 = .ok (.iinc 4 1, 3) := by decide +kernel
theorem dX4_countLeaves_133 : decode cX4_countLeaves 133 = .ok (.iinc 6 1, 3) := by decide +kernel
theorem dX4_countLeaves_136 : decode cX4_countLeaves 136 = .ok (.goto (-127), 3) := by decide +kernel
theorem dX4_countLeaves_139 : decode cX4_countLeaves 139 = .ok (.iload 4, 2) := by decide +kernel
theorem dX4_countLeaves_141 : decode cX4_countLeaves 141 = .ok (.ireturn, 1) := by decide +kernel
theorem dX4_deepestRepeat_0 : decode cX4_deepestRepeat 0 = .ok (.iconst 0, 1) := by decide +kernel
theorem dX4_deepestRepeat_1 : decode cX4_deepestRepeat 1 = .ok (.istore_n 1, 1) := by decide +kernel
theorem dX4_deepestRepeat_2 : decode cX4_deepestRepeat 2 = .ok (.iconst 0, 1) := by decide +kernel
theorem dX4_deepestRepeat_3 : decode cX4_deepestRepeat 3 = .ok (.istore_n 2, 1) := by decide +kernel
theorem dX4_deepestRepeat_4 : decode cX4_deepestRepeat 4 = .ok (.iconst 0, 1) := by decide +kernel
theorem dX4_deepestRepeat_5 : decode cX4_deepestRepeat 5 = .ok (.istore_n 3, 1) := by decide +kernel
theorem dX4_deepestRepeat_6 : decode cX4_deepestRepeat 6 = .ok (.iload_n 3, 1) := by decide +kernel
theorem dX4_deepestRepeat_7 : decode cX4_deepestRepeat 7 = .ok (.aload_n 0, 1) := by decide +kernel
theorem dX4_deepestRepeat_8 : decode cX4_deepestRepeat 8 = .ok (.getfield 9, 3) := by decide +kernel
theorem dX4_deepestRepeat_11 : decode cX4_deepestRepeat 11 = .ok (.if_icmp .ge 65, 3) := by decide +kernel
theorem dX4_deepestRepeat_14 : decode cX4_deepestRepeat 14 = .ok (.aload_n 0, 1) := by decide +kernel
theorem dX4_deepestRepeat_15 : decode cX4_deepestRepeat 15 = .ok (.getfield 28, 3) := by decide +kernel
theorem dX4_deepestRepeat_18 : decode cX4_deepestRepeat 18 = .ok (.iload_n 3, 1) := by decide +kernel
theorem dX4_deepestRepeat_19 : decode cX4_deepestRepeat 19 = .ok (.iaload, 1) := by decide +kernel
theorem dX4_deepestRepeat_20 : decode cX4_deepestRepeat 20 = .ok (.sipush 514, 3) := by decide +kernel
theorem dX4_deepestRepeat_23 : decode cX4_deepestRepeat 23 = .ok (.if_icmp .ne 15, 3) := by decide +kernel
theorem dX4_deepestRepeat_26 : decode cX4_deepestRepeat 26 = .ok (.iinc 1 1, 3) := by decide +kernel
theorem dX4_deepestRepeat_29 : decode cX4_deepestRepeat 29 = .ok (.iload_n 2, 1) := by decide +kernel
theorem dX4_deepestRepeat_30 : decode cX4_deepestRepeat 30 = .ok (.iload_n 1, 1) := by decide +kernel
theorem dX4_deepestRepeat_31 : decode cX4_deepestRepeat 31 = .ok (.invokestatic 22, 3) := by decide +kernel
theorem dX4_deepestRepeat_34 : decode cX4_deepestRepeat 34 = .ok (.istore_n 2, 1) := by decide +kernel
theorem dX4_deepestRepeat_35 : decode cX4_deepestRepeat 35 = .ok (.goto 35, 3) := by decide +kernel
theorem dX4_deepestRepeat_38 : decode cX4_deepestRepeat 38 = .ok (.aload_n 0, 1) := by decide +kernel
theorem dX4_deepestRepeat_39 : decode cX4_deepestRepeat 39 = .ok (.getfield 28, 3) := by decide +kernel
theorem dX4_deepestRepeat_42 : decode cX4_deepestRepeat 42 = .ok (.iload_n 3, 1) := by decide +kernel
theorem dX4_deepestRepeat_43 : decode cX4_deepestRepeat 43 = .ok (.iaload, 1) := by decide +kernel
theorem dX4_deepestRepeat_44 : decode cX4_deepestRepeat 44 = .ok (.sipush 515, 3) := by decide +kernel
theorem dX4_deepestRepeat_47 : decode cX4_deepestRepeat 47 = .ok (.if_icmp .ne 23, 3) := by decide +kernel
theorem dX4_deepestRepeat_50 : decode cX4_deepestRepeat 50 = .ok (.aload_n 0, 1) := by decide +kernel
theorem dX4_deepestRepeat_51 : decode cX4_deepestRepeat 51 = .ok (.getfield 28, 3) := by decide +kernel
theorem dX4_deepestRepeat_54 : decode cX4_deepestRepeat 54 = .ok (.aload_n 0, 1) := by decide +kernel
theorem dX4_deepestRepeat_55 : decode cX4_deepestRepeat 55 = .ok (.getfield 32, 3) := by decide +kernel
theorem dX4_deepestRepeat_58 : decode cX4_deepestRepeat 58 = .ok (.iload_n 3, 1) := by decide +kernel
theorem dX4_deepestRepeat_59 : decode cX4_deepestRepeat 59 = .ok (.iaload, 1) := by decide +kernel
theorem dX4_deepestRepeat_60 : decode cX4_deepestRepeat 60 = .ok (.iaload, 1) := by decide +kernel
theorem dX4_deepestRepeat_61 : decode cX4_deepestRepeat 61 = .ok (.sipush 514, 3) := by decide +kernel
theorem dX4_deepestRepeat_64 : decode cX4_deepestRepeat 64 = .ok (.if_icmp .ne 6, 3) := by decide +kernel
theorem dX4_deepestRepeat_67 : decode cX4_deepestRepeat 67 = .ok (.iinc 1 (-1), 3) := by decide +kernel
theorem dX4_deepestRepeat_70 : decode cX4_deepestRepeat 70 = .ok (.iinc 3 1, 3) := by decide +kernel
theorem dX4_deepestRepeat_73 : decode cX4_deepestRepeat 73 = .ok (.goto (-67), 3) := by decide +kernel
theorem dX4_deepestRepeat_76 : decode cX4_deepestRepeat 76 = .ok (.iload_n 2, 1) := by decide +kernel
theorem dX4_deepestRepeat_77 : decode cX4_deepestRepeat 77 = .ok (.ireturn, 1) := by decide +kernel
theorem dX4_depthOf_0 : decode cX4_depthOf 0 = .ok (.iconst 0, 1) := by decide +kernel
theorem dX4_depthOf_1 : decode cX4_depthOf 1 = .ok (.istore_n 2, 1) := by decide +kernel
theorem dX4_depthOf_2 : decode cX4_depthOf 2 = .ok (.iconst 0, 1) := by decide +kernel
theorem dX4_depthOf_3 : decode cX4_depthOf 3 = .ok (.istore_n 3, 1) := by decide +kernel
theorem dX4_depthOf_4 : decode cX4_depthOf 4 = .ok (.iload_n 3, 1) := by decide +kernel
theorem dX4_depthOf_5 : decode cX4_depthOf 5 = .ok (.iload_n 1, 1) := by decide +kernel
theorem dX4_depthOf_6 : decode cX4_depthOf 6 = .ok (.if_icmp .ge 34, 3) := by decide +kernel
theorem dX4_depthOf_9 : decode cX4_depthOf 9 = .ok (.aload_n 0, 1) := by decide +kernel
theorem dX4_depthOf_10 : decode cX4_depthOf 10 = .ok (.getfield 28, 3) := by decide +kernel
theorem dX4_depthOf_13 : decode cX4_depthOf 13 = .ok (.iload_n 3, 1) := by decide +kernel
theorem dX4_depthOf_14 : decode cX4_depthOf 14 = .ok (.iaload, 1) := by decide +kernel
theorem dX4_depthOf_15 : decode cX4_depthOf 15 = .ok (.invokestatic 62, 3) := by decide +kernel
theorem dX4_depthOf_18 : decode cX4_depthOf 18 = .ok (.ifCond .eq 16, 3) := by decide +kernel
theorem dX4_depthOf_21 : decode cX4_depthOf 21 = .ok (.aload_n 0, 1) := by decide +kernel
theorem dX4_depthOf_22 : decode cX4_depthOf 22 = .ok (.getfield 32, 3) := by decide +kernel
theorem dX4_depthOf_25 : decode cX4_depthOf 25 = .ok (.iload_n 3, 1) := by decide +kernel
theorem dX4_depthOf_26 : decode cX4_depthOf 26 = .ok (.iaload, 1) := by decide +kernel
theorem dX4_depthOf_27 : decode cX4_depthOf 27 = .ok (.iload_n 1, 1) := by decide +kernel
theorem dX4_depthOf_28 : decode cX4_depthOf 28 = .ok (.if_icmp .le 6, 3) := by decide +kernel
theorem dX4_depthOf_31 : decode cX4_depthOf 31 = .ok (.iinc 2 1, 3) := by decide +kernel
theorem dX4_depthOf_34 : decode cX4_depthOf 34 = .ok (.iinc 3 1, 3) := by decide +kernel
theorem dX4_depthOf_37 : decode cX4_depthOf 37 = .ok (.goto (-33), 3) := by decide +kernel
theorem dX4_depthOf_40 : decode cX4_depthOf 40 = .ok (.iload_n 2, 1) := by decide +kernel
theorem dX4_depthOf_41 : decode cX4_depthOf 41 = .ok (.ireturn, 1) := by decide +kernel
theorem dX4_itemsIn_0 : decode cX4_itemsIn 0 = .ok (.iconst 0, 1) := by decide +kernel
theorem dX4_itemsIn_1 : decode cX4_itemsIn 1 = .ok (.istore_n 2, 1) := by decide +kernel
theorem dX4_itemsIn_2 : decode cX4_itemsIn 2 = .ok (.aload_n 0, 1) := by decide +kernel
theorem dX4_itemsIn_3 : decode cX4_itemsIn 3 = .ok (.getfield 28, 3) := by decide +kernel
theorem dX4_itemsIn_6 : decode cX4_itemsIn 6 = .ok (.iload_n 1, 1) := by decide +kernel
theorem dX4_itemsIn_7 : decode cX4_itemsIn 7 = .ok (.iaload, 1) := by decide +kernel
theorem dX4_itemsIn_8 : decode cX4_itemsIn 8 = .ok (.invokestatic 62, 3) := by decide +kernel
theorem dX4_itemsIn_11 : decode cX4_itemsIn 11 = .ok (.ifCond .eq 35, 3) := by decide +kernel
theorem dX4_itemsIn_14 : decode cX4_itemsIn 14 = .ok (.iload_n 1, 1) := by decide +kernel
theorem dX4_itemsIn_15 : decode cX4_itemsIn 15 = .ok (.iconst 1, 1) := by decide +kernel
theorem dX4_itemsIn_16 : decode cX4_itemsIn 16 = .ok (.iadd, 1) := by decide +kernel
theorem dX4_itemsIn_17 : decode cX4_itemsIn 17 = .ok (.istore_n 3, 1) := by decide +kernel
theorem dX4_itemsIn_18 : decode cX4_itemsIn 18 = .ok (.iload_n 3, 1) := by decide +kernel
theorem dX4_itemsIn_19 : decode cX4_itemsIn 19 = .ok (.aload_n 0, 1) := by decide +kernel
theorem dX4_itemsIn_20 : decode cX4_itemsIn 20 = .ok (.getfield 32, 3) := by decide +kernel
theorem dX4_itemsIn_23 : decode cX4_itemsIn 23 = .ok (.iload_n 1, 1) := by decide +kernel
theorem dX4_itemsIn_24 : decode cX4_itemsIn 24 = .ok (.iaload, 1) := by decide +kernel
theorem dX4_itemsIn_25 : decode cX4_itemsIn 25 = .ok (.if_icmp .ge 21, 3) := by decide +kernel
theorem dX4_itemsIn_28 : decode cX4_itemsIn 28 = .ok (.iinc 2 1, 3) := by decide +kernel
theorem dX4_itemsIn_31 : decode cX4_itemsIn 31 = .ok (.iload_n 3, 1) := by decide +kernel
theorem dX4_itemsIn_32 : decode cX4_itemsIn 32 = .ok (.iconst 1, 1) := by decide +kernel
theorem dX4_itemsIn_33 : decode cX4_itemsIn 33 = .ok (.iadd, 1) := by decide +kernel
theorem dX4_itemsIn_34 : decode cX4_itemsIn 34 = .ok (.aload_n 0, 1) := by decide +kernel
theorem dX4_itemsIn_35 : decode cX4_itemsIn 35 = .ok (.iload_n 3, 1) := by decide +kernel
theorem dX4_itemsIn_36 : decode cX4_itemsIn 36 = .ok (.invokevirtual 65, 3) := by decide +kernel
theorem dX4_itemsIn_39 : decode cX4_itemsIn 39 = .ok (.invokestatic 22, 3) := by decide +kernel
theorem dX4_itemsIn_42 : decode cX4_itemsIn 42 = .ok (.istore_n 3, 1) := by decide +kernel
theorem dX4_itemsIn_43 : decode cX4_itemsIn 43 = .ok (.goto (-25), 3) := by decide +kernel
theorem dX4_itemsIn_46 : decode cX4_itemsIn 46 = .ok (.iload_n 2, 1) := by decide +kernel
theorem dX4_itemsIn_47 : decode cX4_itemsIn 47 = .ok (.ireturn, 1) := by decide +kernel
theorem dX4_parentOf_0 : decode cX4_parentOf 0 = .ok (.iload_n 1, 1) := by decide +kernel
theorem dX4_parentOf_1 : decode cX4_parentOf 1 = .ok (.iconst 1, 1) := by decide +kernel
theorem dX4_parentOf_2 : decode cX4_parentOf 2 = .ok (.isub, 1) := by decide +kernel
theorem dX4_parentOf_3 : decode cX4_parentOf 3 = .ok (.istore_n 2, 1) := by decide +kernel
theorem dX4_parentOf_4 : decode cX4_parentOf 4 = .ok (.iload_n 2, 1) := by decide +kernel
theorem dX4_parentOf_5 : decode cX4_parentOf 5 = .ok (.ifCond .lt 38, 3) := by decide +kernel
theorem dX4_parentOf_8 : decode cX4_parentOf 8 = .ok (.aload_n 0, 1) := by decide +kernel
theorem dX4_parentOf_9 : decode cX4_parentOf 9 = .ok (.getfield 28, 3) := by decide +kernel
theorem dX4_parentOf_12 : decode cX4_parentOf 12 = .ok (.iload_n 2, 1) := by decide +kernel
theorem dX4_parentOf_13 : decode cX4_parentOf 13 = .ok (.iaload, 1) := by decide +kernel
theorem dX4_parentOf_14 : decode cX4_parentOf 14 = .ok (.invokestatic 62, 3) := by decide +kernel
theorem dX4_parentOf_17 : decode cX4_parentOf 17 = .ok (.ifCond .eq 20, 3) := by decide +kernel
theorem dX4_parentOf_20 : decode cX4_parentOf 20 = .ok (.aload_n 0, 1) := by decide +kernel
theorem dX4_parentOf_21 : decode cX4_parentOf 21 = .ok (.getfield 32, 3) := by decide +kernel
theorem dX4_parentOf_24 : decode cX4_parentOf 24 = .ok (.iload_n 2, 1) := by decide +kernel
theorem dX4_parentOf_25 : decode cX4_parentOf 25 = .ok (.iaload, 1) := by decide +kernel
theorem dX4_parentOf_26 : decode cX4_parentOf 26 = .ok (.iload_n 1, 1) := by decide +kernel
theorem dX4_parentOf_27 : decode cX4_parentOf 27 = .ok (.if_icmp .le 10, 3) := by decide +kernel
theorem dX4_parentOf_30 : decode cX4_parentOf 30 = .ok (.aload_n 0, 1) := by decide +kernel
theorem dX4_parentOf_31 : decode cX4_parentOf 31 = .ok (.getfield 38, 3) := by decide +kernel
theorem dX4_parentOf_34 : decode cX4_parentOf 34 = .ok (.iload_n 2, 1) := by decide +kernel
theorem dX4_parentOf_35 : decode cX4_parentOf 35 = .ok (.iaload, 1) := by decide +kernel
theorem dX4_parentOf_36 : decode cX4_parentOf 36 = .ok (.ireturn, 1) := by decide +kernel
theorem dX4_parentOf_37 : decode cX4_parentOf 37 = .ok (.iinc 2 (-1), 3) := by decide +kernel
theorem dX4_parentOf_40 : decode cX4_parentOf 40 = .ok (.goto (-36), 3) := by decide +kernel
theorem dX4_parentOf_43 : decode cX4_parentOf 43 = .ok (.iconst (-1), 1) := by decide +kernel
theorem dX4_parentOf_44 : decode cX4_parentOf 44 = .ok (.ireturn, 1) := by decide +kernel
theorem dX4_putRange_0 : decode cX4_putRange 0 = .ok (.iload_n 2, 1) := by decide +kernel
theorem dX4_putRange_1 : decode cX4_putRange 1 = .ok (.istore 4, 2) := by decide +kernel
theorem dX4_putRange_3 : decode cX4_putRange 3 = .ok (.iload 4, 2) := by decide +kernel
theorem dX4_putRange_5 : decode cX4_putRange 5 = .ok (.iload_n 3, 1) := by decide +kernel
theorem dX4_putRange_6 : decode cX4_putRange 6 = .ok (.if_icmp .ge 20, 3) := by decide +kernel
theorem dX4_putRange_9 : decode cX4_putRange 9 = .ok (.aload_n 0, 1) := by decide +kernel
theorem dX4_putRange_10 : decode cX4_putRange 10 = .ok (.aload_n 1, 1) := by decide +kernel
theorem dX4_putRange_11 : decode cX4_putRange 11 = .ok (.getfield 28, 3) := by decide +kernel
theorem dX4_putRange_14 : decode cX4_putRange 14 = .ok (.iload 4, 2) := by decide +kernel
theorem dX4_putRange_16 : decode cX4_putRange 16 = .ok (.iaload, 1) := by decide +kernel
theorem dX4_putRange_17 : decode cX4_putRange 17 = .ok (.invokevirtual 44, 3) := by decide +kernel
theorem dX4_putRange_20 : decode cX4_putRange 20 = .ok (.iinc 4 1, 3) := by decide +kernel
theorem dX4_putRange_23 : decode cX4_putRange 23 = .ok (.goto (-20), 3) := by decide +kernel
theorem dX4_putRange_26 : decode cX4_putRange 26 = .ok (.return_, 1) := by decide +kernel
theorem dX4_sortAt_0 : decode cX4_sortAt 0 = .ok (.aload_n 0, 1) := by decide +kernel
theorem dX4_sortAt_1 : decode cX4_sortAt 1 = .ok (.getfield 28, 3) := by decide +kernel
theorem dX4_sortAt_4 : decode cX4_sortAt 4 = .ok (.iload_n 1, 1) := by decide +kernel
theorem dX4_sortAt_5 : decode cX4_sortAt 5 = .ok (.iaload, 1) := by decide +kernel
theorem dX4_sortAt_6 : decode cX4_sortAt 6 = .ok (.invokestatic 88, 3) := by decide +kernel
theorem dX4_sortAt_9 : decode cX4_sortAt 9 = .ok (.ifCond .eq 5, 3) := by decide +kernel
theorem dX4_sortAt_12 : decode cX4_sortAt 12 = .ok (.iconst 0, 1) := by decide +kernel
theorem dX4_sortAt_13 : decode cX4_sortAt 13 = .ok (.ireturn, 1) := by decide +kernel
theorem dX4_sortAt_14 : decode cX4_sortAt 14 = .ok (.aload_n 0, 1) := by decide +kernel
theorem dX4_sortAt_15 : decode cX4_sortAt 15 = .ok (.getfield 28, 3) := by decide +kernel
theorem dX4_sortAt_18 : decode cX4_sortAt 18 = .ok (.iload_n 1, 1) := by decide +kernel
theorem dX4_sortAt_19 : decode cX4_sortAt 19 = .ok (.iaload, 1) := by decide +kernel
theorem dX4_sortAt_20 : decode cX4_sortAt 20 = .ok (.invokestatic 91, 3) := by decide +kernel
theorem dX4_sortAt_23 : decode cX4_sortAt 23 = .ok (.ifCond .eq 7, 3) := by decide +kernel
theorem dX4_sortAt_26 : decode cX4_sortAt 26 = .ok (.iconst 1, 1) := by decide +kernel
theorem dX4_sortAt_27 : decode cX4_sortAt 27 = .ok (.goto 15, 3) := by decide +kernel
theorem dX4_sortAt_30 : decode cX4_sortAt 30 = .ok (.aload_n 0, 1) := by decide +kernel
theorem dX4_sortAt_31 : decode cX4_sortAt 31 = .ok (.getfield 28, 3) := by decide +kernel
theorem dX4_sortAt_34 : decode cX4_sortAt 34 = .ok (.iload_n 1, 1) := by decide +kernel
theorem dX4_sortAt_35 : decode cX4_sortAt 35 = .ok (.iaload, 1) := by decide +kernel
theorem dX4_sortAt_36 : decode cX4_sortAt 36 = .ok (.sipush 512, 3) := by decide +kernel
theorem dX4_sortAt_39 : decode cX4_sortAt 39 = .ok (.isub, 1) := by decide +kernel
theorem dX4_sortAt_40 : decode cX4_sortAt 40 = .ok (.iconst 2, 1) := by decide +kernel
theorem dX4_sortAt_41 : decode cX4_sortAt 41 = .ok (.iadd, 1) := by decide +kernel
theorem dX4_sortAt_42 : decode cX4_sortAt 42 = .ok (.ireturn, 1) := by decide +kernel
theorem dX4_tellNode_0 : decode cX4_tellNode 0 = .ok (.aload_n 0, 1) := by decide +kernel
theorem dX4_tellNode_1 : decode cX4_tellNode 1 = .ok (.getfield 41, 3) := by decide +kernel
theorem dX4_tellNode_4 : decode cX4_tellNode 4 = .ok (.iload_n 1, 1) := by decide +kernel
theorem dX4_tellNode_5 : decode cX4_tellNode 5 = .ok (.iaload, 1) := by decide +kernel
theorem dX4_tellNode_6 : decode cX4_tellNode 6 = .ok (.istore_n 3, 1) := by decide +kernel
theorem dX4_tellNode_7 : decode cX4_tellNode 7 = .ok (.iload_n 2, 1) := by decide +kernel
theorem dX4_tellNode_8 : decode cX4_tellNode 8 = .ok (.tableswitch 108 0 4 #[36, 42, 90, 96, 102], 36) := by decide +kernel
theorem dX4_tellNode_44 : decode cX4_tellNode 44 = .ok (.aload_n 0, 1) := by decide +kernel
theorem dX4_tellNode_45 : decode cX4_tellNode 45 = .ok (.iload_n 3, 1) := by decide +kernel
theorem dX4_tellNode_46 : decode cX4_tellNode 46 = .ok (.invokevirtual 85, 3) := by decide +kernel
theorem dX4_tellNode_49 : decode cX4_tellNode 49 = .ok (.ireturn, 1) := by decide +kernel
theorem dX4_tellNode_50 : decode cX4_tellNode 50 = .ok (.aload_n 0, 1) := by decide +kernel
theorem dX4_tellNode_51 : decode cX4_tellNode 51 = .ok (.getfield 28, 3) := by decide +kernel
theorem dX4_tellNode_54 : decode cX4_tellNode 54 = .ok (.iload_n 3, 1) := by decide +kernel
theorem dX4_tellNode_55 : decode cX4_tellNode 55 = .ok (.iaload, 1) := by decide +kernel
theorem dX4_tellNode_56 : decode cX4_tellNode 56 = .ok (.invokestatic 88, 3) := by decide +kernel
theorem dX4_tellNode_59 : decode cX4_tellNode 59 = .ok (.ifCond .eq 12, 3) := by decide +kernel
theorem dX4_tellNode_62 : decode cX4_tellNode 62 = .ok (.aload_n 0, 1) := by decide +kernel
theorem dX4_tellNode_63 : decode cX4_tellNode 63 = .ok (.getfield 28, 3) := by decide +kernel
theorem dX4_tellNode_66 : decode cX4_tellNode 66 = .ok (.iload_n 3, 1) := by decide +kernel
theorem dX4_tellNode_67 : decode cX4_tellNode 67 = .ok (.iaload, 1) := by decide +kernel
theorem dX4_tellNode_68 : decode cX4_tellNode 68 = .ok (.goto 29, 3) := by decide +kernel
theorem dX4_tellNode_71 : decode cX4_tellNode 71 = .ok (.aload_n 0, 1) := by decide +kernel
theorem dX4_tellNode_72 : decode cX4_tellNode 72 = .ok (.getfield 28, 3) := by decide +kernel
theorem dX4_tellNode_75 : decode cX4_tellNode 75 = .ok (.iload_n 3, 1) := by decide +kernel
theorem dX4_tellNode_76 : decode cX4_tellNode 76 = .ok (.iaload, 1) := by decide +kernel
theorem dX4_tellNode_77 : decode cX4_tellNode 77 = .ok (.invokestatic 91, 3) := by decide +kernel
theorem dX4_tellNode_80 : decode cX4_tellNode 80 = .ok (.ifCond .eq 16, 3) := by decide +kernel
theorem dX4_tellNode_83 : decode cX4_tellNode 83 = .ok (.aload_n 0, 1) := by decide +kernel
theorem dX4_tellNode_84 : decode cX4_tellNode 84 = .ok (.getfield 28, 3) := by decide +kernel
theorem dX4_tellNode_87 : decode cX4_tellNode 87 = .ok (.iload_n 3, 1) := by decide +kernel
theorem dX4_tellNode_88 : decode cX4_tellNode 88 = .ok (.iaload, 1) := by decide +kernel
theorem dX4_tellNode_89 : decode cX4_tellNode 89 = .ok (.sipush 256, 3) := by decide +kernel
theorem dX4_tellNode_92 : decode cX4_tellNode 92 = .ok (.isub, 1) := by decide +kernel
theorem dX4_tellNode_93 : decode cX4_tellNode 93 = .ok (.goto 4, 3) := by decide +kernel
theorem dX4_tellNode_96 : decode cX4_tellNode 96 = .ok (.iconst (-1), 1) := by decide +kernel
theorem dX4_tellNode_97 : decode cX4_tellNode 97 = .ok (.ireturn, 1) := by decide +kernel
theorem dX4_tellNode_98 : decode cX4_tellNode 98 = .ok (.aload_n 0, 1) := by decide +kernel
theorem dX4_tellNode_99 : decode cX4_tellNode 99 = .ok (.iload_n 3, 1) := by decide +kernel
theorem dX4_tellNode_100 : decode cX4_tellNode 100 = .ok (.invokevirtual 94, 3) := by decide +kernel
theorem dX4_tellNode_103 : decode cX4_tellNode 103 = .ok (.ireturn, 1) := by decide +kernel
theorem dX4_tellNode_104 : decode cX4_tellNode 104 = .ok (.aload_n 0, 1) := by decide +kernel
theorem dX4_tellNode_105 : decode cX4_tellNode 105 = .ok (.iload_n 3, 1) := by decide +kernel
theorem dX4_tellNode_106 : decode cX4_tellNode 106 = .ok (.invokevirtual 97, 3) := by decide +kernel
theorem dX4_tellNode_109 : decode cX4_tellNode 109 = .ok (.ireturn, 1) := by decide +kernel
theorem dX4_tellNode_110 : decode cX4_tellNode 110 = .ok (.aload_n 0, 1) := by decide +kernel
theorem dX4_tellNode_111 : decode cX4_tellNode 111 = .ok (.iload_n 3, 1) := by decide +kernel
theorem dX4_tellNode_112 : decode cX4_tellNode 112 = .ok (.invokevirtual 100, 3) := by decide +kernel
theorem dX4_tellNode_115 : decode cX4_tellNode 115 = .ok (.ireturn, 1) := by decide +kernel
theorem dX4_tellNode_116 : decode cX4_tellNode 116 = .ok (.aload_n 0, 1) := by decide +kernel
theorem dX4_tellNode_117 : decode cX4_tellNode 117 = .ok (.iload_n 3, 1) := by decide +kernel
theorem dX4_tellNode_118 : decode cX4_tellNode 118 = .ok (.invokevirtual 103, 3) := by decide +kernel
theorem dX4_tellNode_121 : decode cX4_tellNode 121 = .ok (.ireturn, 1) := by decide +kernel
/-! what a row is asked (that it is answered); a row that is being put together -/
theorem rG_rm {μ : va_M} {q rm : Nat} (hq : rowB q rm) (h : rG μ q rm) : 0 ≤ μ q 5 ∧ μ q 5 ≤ rm ∧ (rm = 1100 ∨ rm = 96) := ⟨(rG_len h).1, (rG_len h).2, (rowB_b hq).2.2⟩
theorem rG_m {μ : va_M} {q rm : Nat} (h : rG μ q rm) (i : Int) (h1 : 0 ≤ i) (h2 : i < μ q 5) : 0 ≤ μ (q + 2) i.toNat ∧ μ (q + 2) i.toNat < μ q 5 := (rG_at h (i := i.toNat) (by omega)).2.1
theorem rG_n {μ : va_M} {q rm : Nat} (h : rG μ q rm) (i : Int) (h1 : 0 ≤ i) (h2 : i < μ q 5) : 0 ≤ μ (q + 4) i.toNat ∧ μ (q + 4) i.toNat ≤ i := by
  have := (rG_at h (i := i.toNat) (by omega)).2.2.2
  (first | ((try clear h2); omega) | omega)
theorem rG_p {μ : va_M} {q rm : Nat} (h : rG μ q rm) (i : Int) (h1 : 0 ≤ i) (h2 : i < μ q 6) : 0 ≤ μ (q + 5) i.toNat ∧ μ (q + 5) i.toNat < μ q 5 := rG_pl h (k := i.toNat) (by omega)
/-- a row that is being put together, d deep where it stands -/
def outS (μ : va_M) (q rm : Nat) (d : Int) : Prop := (0 ≤ μ q 5 ∧ μ q 5 ≤ rm) ∧ sgA μ (q + 1) ∧ (μ q 7 = 1 ∨ (μ q 7 = 0 ∧ Dp (μ (q + 1)) (μ q 5).toNat = d ∧ ∀ j : Nat, (j : Int) ≤ μ q 5 → 0 ≤ Dp (μ (q + 1)) j ∧ ((j : Int) < μ q 5 → vS (μ (q + 1) j))))
theorem vS_b {s : Int} (h : vS s) : 0 ≤ s ∧ s ≤ 515 := by unfold vS at h; omega
theorem sgA_uz {μ : va_M} {c a b : Nat} {s : Int} (h : sgA μ c) (hs : 0 ≤ s ∧ s ≤ 515) : sgA (uz μ c b s) c := fun i => by
  by_cases h9 : i = b
  · rw [h9, uz_s]; exact hs
  · rw [uz_n (by (first | ((try clear hs); omega) | omega))]; exact h i
theorem outS_0 {μ : va_M} {q rm : Nat} (h : sgA μ (q + 1)) (h5 : μ q 5 = 0) (h7 : μ q 7 = 0) : outS μ q rm 0 := by
  refine ⟨by (first | ((try clear h7); omega) | omega), h, Or.inr ⟨h7, by rw [h5]; rfl, fun j hj => ?_⟩⟩
  obtain rfl : j = 0 := by (first | ((try clear h7); omega) | omega)
  exact ⟨Int.le_refl _, fun h9 => by (first | ((try clear hj); (try clear j); (try clear h7); omega) | omega)⟩
theorem outS_put {μ u : va_M} {q rm : Nat} {d s : Int} (h : outS μ q rm d) (hv : vS s) (hd : 0 ≤ d + dl s) (c1 : μ q 5 < rm → u = uz (uz μ (q + 1) (μ q 5).toNat s) q 5 (μ q 5 + 1)) (c2 : ¬ μ q 5 < rm → u = uz μ q 7 1) : outS u q rm (d + dl s) ∧ fr (fun x _ => x = q ∨ x = q + 1) μ u := by
  obtain ⟨h1, h2, h3⟩ := h
  by_cases h9 : μ q 5 < rm
  · have e := c1 h9
    refine ⟨?_, by rw [e]; exact fr_uz (fr_uz fr_rfl (Or.inr rfl)) (Or.inl rfl)⟩
    have e5 : u q 5 = μ q 5 + 1 := by rw [e, uz_s]
    have e7 : u q 7 = μ q 7 := by rw [e, uz_n (by (first | ((try clear e7); (try clear e5); (try clear h9); (try clear h3); (try clear h2); (try clear h1); (try clear c2); (try clear c1); (try clear hd); omega) | omega)), uz_n (by (first | ((try clear e7); (try clear e5); (try clear h9); (try clear h3); (try clear h2); (try clear h1); (try clear c2); (try clear c1); (try clear hd); omega) | omega))]
    have es : u (q + 1) (μ q 5).toNat = s := by rw [e, uz_n (by (first | ((try clear es); (try clear e7); (try clear e5); (try clear h9); (try clear h3); (try clear h2); (try clear h1); (try clear c2); (try clear c1); (try clear hd); omega) | omega)), uz_s]
    have en : ∀ j : Nat, j ≠ (μ q 5).toNat → u (q + 1) j = μ (q + 1) j := fun j hj => by rw [e, uz_n (by (first | ((try clear hj); (try clear en); (try clear es); (try clear e7); (try clear e5); (try clear h9); (try clear h3); (try clear h2); (try clear h1); (try clear c2); (try clear c1); (try clear hd); omega) | omega)), uz_n (by (first | ((try clear en); (try clear es); (try clear e7); (try clear e5); (try clear h9); (try clear h3); (try clear h2); (try clear h1); (try clear c2); (try clear c1); (try clear hd); omega) | omega))]
    refine ⟨by (first | ((try clear en); (try clear es); (try clear e7); (try clear h3); (try clear h2); (try clear c2); (try clear c1); (try clear hd); omega) | omega), fun i => ?_, ?_⟩
    · by_cases h8 : i = (μ q 5).toNat
      · rw [h8, es]; exact vS_b hv
      · rw [en i h8]; exact h2 i
    · rcases h3 with h3 | ⟨h3, h4, h5⟩
      · exact Or.inl (e7.trans h3)
      · have eD : ∀ j : Nat, (j : Int) ≤ μ q 5 → Dp (u (q + 1)) j = Dp (μ (q + 1)) j := fun j hj => Dp_eq j (fun i hi => by rw [en i (by (first | ((try clear eD); (try clear en); (try clear es); (try clear e7); (try clear h9); (try clear h3); (try clear h2); (try clear c2); (try clear c1); (try clear hd); omega) | omega))])
        have eL : Dp (u (q + 1)) ((μ q 5).toNat + 1) = Dp (u (q + 1)) (μ q 5).toNat + dl (u (q + 1) (μ q 5).toNat) := rfl
        have e8 := eD (μ q 5).toNat (by (first | ((try clear e8); (try clear eL); (try clear eD); (try clear i); (try clear en); (try clear es); (try clear e7); (try clear h9); (try clear h3); (try clear h2); (try clear c2); (try clear c1); (try clear hd); omega) | omega))
        rw [es] at eL
        refine Or.inr ⟨e7.trans h3, by rw [e5, show (μ q 5 + 1).toNat = (μ q 5).toNat + 1 by (first | ((try clear e8); (try clear eL); (try clear eD); (try clear i); (try clear en); (try clear es); (try clear e7); (try clear h9); (try clear h3); (try clear h2); (try clear c2); (try clear c1); (try clear hd); omega) | omega)]; (first | ((try clear eD); (try clear i); (try clear en); (try clear es); (try clear e7); (try clear e5); (try clear h9); (try clear h3); (try clear h2); (try clear h1); (try clear c2); (try clear c1); (try clear hd); omega) | omega), fun j hj => ?_⟩
        by_cases h8 : (j : Int) ≤ μ q 5
        · refine ⟨by rw [eD j h8]; exact (h5 j h8).1, fun _ => ?_⟩
          by_cases h7 : j = (μ q 5).toNat
          · rw [h7, es]; exact hv
          · rw [en j h7]; exact (h5 j h8).2 (by (first | ((try clear hj); (try clear e8); (try clear eL); (try clear eD); (try clear i); (try clear en); (try clear es); (try clear e7); (try clear h9); (try clear h3); (try clear h2); (try clear c2); (try clear c1); (try clear hd); omega) | omega))
        · obtain rfl : j = (μ q 5).toNat + 1 := by (first | ((try clear e8); (try clear eL); (try clear eD); (try clear i); (try clear en); (try clear es); (try clear e7); (try clear h9); (try clear h3); (try clear h2); (try clear c2); (try clear c1); (try clear hd); omega) | omega)
          exact ⟨by (first | ((try clear h8); (try clear hj); (try clear eD); (try clear i); (try clear en); (try clear es); (try clear e7); (try clear e5); (try clear h9); (try clear h3); (try clear h2); (try clear h1); (try clear c2); (try clear c1); omega) | omega), fun h => by (first | ((try clear e8); (try clear eL); (try clear eD); (try clear i); (try clear en); (try clear es); (try clear e7); (try clear h9); (try clear h3); (try clear h2); (try clear h1); (try clear c2); (try clear c1); (try clear hd); omega) | omega)⟩
  · have e := c2 h9
    refine ⟨⟨by rw [e, uz_n (by (first | ((try clear h9); (try clear h3); (try clear h2); (try clear h1); (try clear c2); (try clear c1); (try clear hd); omega) | omega))]; exact h1, fun i => by rw [e, uz_n (by (first | ((try clear h9); (try clear h3); (try clear h2); (try clear h1); (try clear c2); (try clear c1); (try clear hd); omega) | omega))]; exact h2 i, Or.inl (by rw [e, uz_s])⟩, by rw [e]; exact fr_uz fr_rfl (Or.inl rfl)⟩
theorem outS_w {μ : va_M} {q rm : Nat} (h : outS μ q rm 0) : ∃ w : Rw, rW0 w ∧ sL w ≤ rm ∧ ((μ q 7 = 0 ∧ SA μ (q + 1) w 0 ∧ μ q 5 = sL w) ∨ (μ q 7 = 1 ∧ w = .leaf)) := by
  obtain ⟨h1, h2, h3⟩ := h
  rcases h3 with h3 | ⟨h3, h4, h5⟩
  · exact ⟨.leaf, trivial, Nat.zero_le _, Or.inr ⟨h3, rfl⟩⟩
  · have e0 : Dp (μ (q + 1)) 0 = 0 := rfl
    obtain ⟨w, w1, w2, w3⟩ := parse μ (q + 1) (μ q 5).toNat 0 (fun j _ hj => (h5 j (by (first | ((try clear w3); (try clear w2); (try clear w1); (try clear w); (try clear e0); (try clear h3); (try clear h2); omega) | omega))).2 (by (first | ((try clear w3); (try clear w2); (try clear w1); (try clear w); (try clear e0); (try clear h3); (try clear h2); omega) | omega))) (fun j _ hj => by rw [e0]; exact (h5 j (by (first | ((try clear w3); (try clear w2); (try clear w1); (try clear w); (try clear e0); (try clear h3); (try clear h2); omega) | omega))).1) (by rw [Nat.zero_add, h4, e0])
    exact ⟨w, w1, by (first | ((try clear w3); (try clear w1); (try clear e0); (try clear h3); (try clear h2); omega) | omega), Or.inl ⟨h3, w3, by (first | ((try clear w3); (try clear w1); (try clear e0); (try clear h3); (try clear h2); omega) | omega)⟩⟩
/-- sealed -/
theorem rG_seal {μ u : va_M} {q rm : Nat} {w : Rw} (hw : rW0 w) (hl : sL w ≤ rm) (h7 : (μ q 7 = 0 ∧ SA μ (q + 1) w 0 ∧ μ q 5 = sL w) ∨ (μ q 7 = 1 ∧ w = .leaf)) (hs : sgA μ (q + 1)) (hm : mA μ q rm) (h1 : rowS u q w) (h2 : fr (SEw q (sL w)) μ u) : rG u q rm := by
  have e1 : ∀ j, u (q + 1) j = μ (q + 1) j := fun j => h2 _ _ (by unfold SEw SEq; (first | ((try clear e1); (try clear h2); (try clear h7); omega) | omega))
  have e7 : u q 7 = μ q 7 := h2 _ _ (by unfold SEw SEq; (first | ((try clear e7); (try clear e1); (try clear h2); (try clear h7); omega) | omega))
  refine ⟨fun i => by rw [e1]; exact hs i, fun y => ?_, ?_, w, hw, hl, h1⟩
  · by_cases h9 : y < sL w
    · have := (SS_mF w 0 0 0 hw h1.2.1 h1.2.2 y (by (first | ((try clear h9); (try clear e7); (try clear e1); (try clear h2); (try clear h7); omega) | omega)) (by (first | ((try clear e7); (try clear e1); (try clear h2); (try clear h7); omega) | omega))).2.1
      (first | ((try clear h9); (try clear e7); (try clear e1); (try clear h2); (try clear h7); omega) | omega)
    · rw [h2 _ _ (by unfold SEw SEq; (first | ((try clear e7); (try clear e1); (try clear h2); (try clear h7); omega) | omega))]; exact hm y
  · rw [e7]
    rcases h7 with h | ⟨h, rfl⟩
    · exact Or.inl h.1
    · exact Or.inr ⟨h, h1.1.1⟩
theorem rG_w {μ : va_M} {q rm : Nat} (h : rG μ q rm) : ∃ w : Rw, rW0 w ∧ rowS μ q w := ⟨_, h.2.2.2.choose_spec.1, h.2.2.2.choose_spec.2.2⟩
/-- loaded -/
theorem rG_load {μ u : va_M} {q rm kc : Nat} {w : Rw} (hg : rG μ q rm) (hw : rW0 w) (hk : sgA μ kc) (h7 : u q 7 = 0 ∨ (u q 7 = 1 ∧ u q 5 = 0)) (h1 : rowS u q (rcut rm w)) (h2 : fr (LEw q (sL (rcut rm w))) μ u) (h3 : ∀ j : Nat, u (q + 1) j = μ (q + 1) j ∨ u (q + 1) j = μ kc j) : rG u q rm := by
  have hw2 : rW0 (rcut rm w) := by
    unfold rcut
    split
    · exact hw
    · trivial
  have hl : sL (rcut rm w) ≤ rm := by
    unfold rcut
    split
    · assumption
    · exact Nat.zero_le _
  refine ⟨fun i => ?_, fun y => ?_, h7, _, hw2, hl, h1⟩
  · rcases h3 i with h | h
    · rw [h]; exact hg.1 i
    · rw [h]; exact hk i
  · by_cases h9 : y < sL (rcut rm w)
    · have := (SS_mF _ 0 0 0 hw2 h1.2.1 h1.2.2 y (by (first | ((try clear h9); (try clear i); (try clear h3); (try clear h2); (try clear h7); omega) | omega)) (by (first | ((try clear i); (try clear h3); (try clear h2); (try clear h7); omega) | omega))).2.1
      (first | ((try clear h9); (try clear i); (try clear h3); (try clear h2); (try clear h7); omega) | omega)
    · rw [h2 _ _ (by unfold LEw LEq; (first | ((try clear i); (try clear h3); (try clear h2); (try clear h7); omega) | omega))]; exact hg.2.1 y
set_option maxHeartbeats 4000000 in
set_option maxRecDepth 100000 in
theorem LX4_deepestRepeat_6 {p : Program} {l : Launch} {e : Env} {R : Room} {s : State} {m : MethodId} {args : Array Value} {below : List Frame} {meth : Method} {c : Code} {cells slots : Nat} {Q : State → Prop} {dC : Nat → ClassId} {dI : Nat → Nat → Nat} {h0 : Nat} {cI cZ cII cIII : ClassId} (hx : p.tables.exec = Jvm.exec) (hb : c.code = cX4_deepestRepeat) (hml : c.maxLocals = 4) (hown : s.vm.findClass RX4 = some m.cls) (hts : ∀ w ∈ wsG, w.before args s = true) (hK : va_K (dC, dI) vwCl (sT cI cZ cII cIII) s) (hM : xM s) (hRf : 1 ≤ R.frames) (hRl : 21 ≤ R.locals) (hRc : cells ≤ R.cells) (hRs : slots ≤ R.slots) (μ0 : va_M) (q : Nat) (rm : Nat) (hq : rowB q rm) (hG : rG μ0 q rm) (hexit76 : ∀ (i : Int) (dd : Int) (de : Int) (μ : va_M) (H : Heap) (locs : List Loc) (ls : Array Slot), (μ = μ0) → va_P (dC, dI) vwCl (fw (sE cI cZ cII cIII h0) h0 233 μ) H → va_S (fA h0 233 s.heap.size) s.heap H locs → lv_has ls 4 [(2, .int (iZ (dd)))] → W p l e R s m args below meth c H locs cells slots Q (F0 m 76 ls [])) :
    ∀ (n9 : Nat) (i : Int) (dd : Int) (de : Int) (μ : va_M) (H : Heap) (locs : List Loc) (ls : Array Slot), (μ = μ0) → (0 ≤ i ∧ i ≤ μ0 q 5) → (-i ≤ de ∧ de ≤ i ∧ 0 ≤ dd ∧ dd ≤ i) → (1101 - i).toNat < n9 → va_P (dC, dI) vwCl (fw (sE cI cZ cII cIII h0) h0 233 μ) H → va_S (fA h0 233 s.heap.size) s.heap H locs → lv_has ls 4 [(3, .int (iZ (i))), (2, .int (iZ (dd))), (1, .int (iZ (de))), (0, .ref (h0 + q))] → W p l e R s m args below meth c H locs cells slots Q (F0 m 6 ls []) := by
  intro n9
  induction n9 with
  | zero => intro i dd de μ H locs ls hm9_ hi hd hm9 hP hS hl; exact absurd hm9 (Nat.not_lt_zero _)
  | succ n9 ih =>
    intro i dd de μ H locs ls hm9_ hi hd hm9 hP hS hl
    subst hm9_
    have hrm := rG_rm hq hG
    have hqb := rowB_b hq
    refine lv_iload_n hx hb dX4_deepestRepeat_6 rfl (lv_at hl 0 rfl) ?_
    refine lv_aload_n hx hb dX4_deepestRepeat_7 rfl (lv_at hl 3 rfl) ?_
    refine fz_get (D := (dC, dI)) (ci := 4) (v := .int (iZ (μ q 5))) (C := RX4) (T := TX4) (N := 8) hx hb hts inG4 hown hK hP (k := q) (by (first | ((try clear hrm); (try clear hm9); (try clear hd); (try clear hi); (try clear hm9_); (try clear hexit76); (try clear hRs); (try clear hRc); (try clear hRl); (try clear hRf); omega) | omega)) (F := (sRF h0 q)) (sE_rowO hq) rfl 5 (by decide) (hts _ k92) (fun _ h9 => h9) rfl dX4_deepestRepeat_8 ?_
    refine fz_icmp_ge (tgt := 76) (by constructor <;> (first | ((try clear hm9); (try clear hd); (try clear hm9_); (try clear hexit76); (try clear hRs); (try clear hRc); (try clear hRl); (try clear hRf); omega) | omega)) (by constructor <;> (first | ((try clear hm9); (try clear hd); (try clear hi); (try clear hm9_); (try clear hexit76); (try clear hRs); (try clear hRc); (try clear hRl); (try clear hRf); omega) | omega)) hx hb dX4_deepestRepeat_11 (by decide) (fun c11_ => ?_) (fun c11_ => ?_)
    · exact hexit76 (i) (dd) (de) μ H locs ls (by rfl) hP hS (lv_sub hl [1] rfl)
    · have hmi := rG_m hG (i) (by (first | ((try clear hmi); (try clear c11_); (try clear hqb); (try clear hrm); (try clear hm9); (try clear hd); (try clear hm9_); (try clear hexit76); (try clear hRs); (try clear hRc); (try clear hRl); (try clear hRf); omega) | omega)) (by (first | ((try clear hmi); (try clear hqb); (try clear hrm); (try clear hm9); (try clear hd); (try clear hi); (try clear hm9_); (try clear hexit76); (try clear hRs); (try clear hRc); (try clear hRl); (try clear hRf); omega) | omega))
      have hs1 := hG.1 (i).toNat
      have hs2 := hG.1 (μ (q + 2) (i).toNat).toNat
      refine lv_aload_n hx hb dX4_deepestRepeat_14 rfl (lv_at hl 3 rfl) ?_
      refine fz_get (D := (dC, dI)) (ci := 4) (v := .ref (h0 + (q + 1))) (C := RX4) (T := TX4) (N := 8) hx hb hts inG4 hown hK hP (k := q) (by (first | ((try clear hs2); (try clear hs1); (try clear hmi); (try clear c11_); (try clear hrm); (try clear hm9); (try clear hd); (try clear hi); (try clear hm9_); (try clear hexit76); (try clear hRs); (try clear hRc); (try clear hRl); (try clear hRf); omega) | omega)) (F := (sRF h0 q)) (sE_rowO hq) rfl 0 (by decide) (hts _ k77) (fun _ h9 => h9) rfl dX4_deepestRepeat_15 ?_
      refine lv_iload_n hx hb dX4_deepestRepeat_18 rfl (lv_at hl 0 rfl) ?_
      refine fz_ld (k := (q + 1)) (n := rm) hx hb hK hP 0 (by (first | ((try clear hs2); (try clear hs1); (try clear hmi); (try clear c11_); (try clear hrm); (try clear hm9); (try clear hd); (try clear hi); (try clear hm9_); (try clear hexit76); (try clear hRs); (try clear hRc); (try clear hRl); (try clear hRf); omega) | omega)) (sE_rowA (r := 1) hq (by decide)) rfl ⟨by (first | ((try clear hs2); (try clear hs1); (try clear hmi); (try clear c11_); (try clear hqb); (try clear hrm); (try clear hm9); (try clear hd); (try clear hm9_); (try clear hexit76); (try clear hRs); (try clear hRc); (try clear hRl); (try clear hRf); omega) | omega), by (first | ((try clear hs2); (try clear hs1); (try clear hmi); (try clear hqb); (try clear hm9); (try clear hd); (try clear hi); (try clear hm9_); (try clear hexit76); (try clear hRs); (try clear hRc); (try clear hRl); (try clear hRf); omega) | omega)⟩ (by (first | ((try clear hs2); (try clear hs1); (try clear hmi); (try clear c11_); (try clear hrm); (try clear hm9); (try clear hd); (try clear hi); (try clear hm9_); (try clear hexit76); (try clear hRs); (try clear hRc); (try clear hRl); (try clear hRf); omega) | omega)) dX4_deepestRepeat_19 ?_
      refine lv_sipush (v := iZ 514) hx hb dX4_deepestRepeat_20 rfl ?_
      refine fz_icmp_ne (tgt := 38) (by constructor <;> (first | ((try clear hs2); (try clear hmi); (try clear c11_); (try clear hqb); (try clear hrm); (try clear hm9); (try clear hd); (try clear hi); (try clear hm9_); (try clear hexit76); (try clear hRs); (try clear hRc); (try clear hRl); (try clear hRf); omega) | omega)) (by decide) hx hb dX4_deepestRepeat_23 (by decide) (fun c23_ => ?_) (fun c23_ => ?_)
      · refine lv_aload_n hx hb dX4_deepestRepeat_38 rfl (lv_at hl 3 rfl) ?_
        refine fz_get (D := (dC, dI)) (ci := 4) (v := .ref (h0 + (q + 1))) (C := RX4) (T := TX4) (N := 8) hx hb hts inG4 hown hK hP (k := q) (by (first | ((try clear c23_); (try clear hs2); (try clear hs1); (try clear hmi); (try clear c11_); (try clear hrm); (try clear hm9); (try clear hd); (try clear hi); (try clear hm9_); (try clear hexit76); (try clear hRs); (try clear hRc); (try clear hRl); (try clear hRf); omega) | omega)) (F := (sRF h0 q)) (sE_rowO hq) rfl 0 (by decide) (hts _ k77) (fun _ h9 => h9) rfl dX4_deepestRepeat_39 ?_
        refine lv_iload_n hx hb dX4_deepestRepeat_42 rfl (lv_at hl 0 rfl) ?_
        refine fz_ld (k := (q + 1)) (n := rm) hx hb hK hP 0 (by (first | ((try clear c23_); (try clear hs2); (try clear hs1); (try clear hmi); (try clear c11_); (try clear hrm); (try clear hm9); (try clear hd); (try clear hi); (try clear hm9_); (try clear hexit76); (try clear hRs); (try clear hRc); (try clear hRl); (try clear hRf); omega) | omega)) (sE_rowA (r := 1) hq (by decide)) rfl ⟨by (first | ((try clear c23_); (try clear hs2); (try clear hs1); (try clear hmi); (try clear c11_); (try clear hqb); (try clear hrm); (try clear hm9); (try clear hd); (try clear hm9_); (try clear hexit76); (try clear hRs); (try clear hRc); (try clear hRl); (try clear hRf); omega) | omega), by (first | ((try clear c23_); (try clear hs2); (try clear hs1); (try clear hmi); (try clear hqb); (try clear hm9); (try clear hd); (try clear hi); (try clear hm9_); (try clear hexit76); (try clear hRs); (try clear hRc); (try clear hRl); (try clear hRf); omega) | omega)⟩ (by (first | ((try clear hs2); (try clear hs1); (try clear hmi); (try clear c11_); (try clear hrm); (try clear hm9); (try clear hd); (try clear hi); (try clear hm9_); (try clear hexit76); (try clear hRs); (try clear hRc); (try clear hRl); (try clear hRf); omega) | omega)) dX4_deepestRepeat_43 ?_
        refine lv_sipush (v := iZ 515) hx hb dX4_deepestRepeat_44 rfl ?_
        refine fz_icmp_ne (tgt := 70) (by constructor <;> (first | ((try clear c23_); (try clear hs2); (try clear hmi); (try clear c11_); (try clear hqb); (try clear hrm); (try clear hm9); (try clear hd); (try clear hi); (try clear hm9_); (try clear hexit76); (try clear hRs); (try clear hRc); (try clear hRl); (try clear hRf); omega) | omega)) (by decide) hx hb dX4_deepestRepeat_47 (by decide) (fun c47_ => ?_) (fun c47_ => ?_)
        · refine lv_iinc (v := iZ (i + 1)) (lv' := [(3, .int (iZ (i + 1))), (2, .int (iZ (dd))), (1, .int (iZ (de))), (0, .ref (h0 + q))]) hx hb dX4_deepestRepeat_70 hl (k := 0) rfl (iZ_add _ _) (by decide) rfl (fun ls hl => ?_)
          refine lv_goto (tgt := 6) hx hb dX4_deepestRepeat_73 (by decide) ?_
          exact ih (i + 1) (dd) (de) μ H locs ls (by rfl) (by (first | ((try clear c47_); (try clear c23_); (try clear hs2); (try clear hs1); (try clear hmi); (try clear hqb); (try clear hrm); (try clear hm9); (try clear hd); (try clear hm9_); (try clear hexit76); (try clear hRs); (try clear hRc); (try clear hRl); (try clear hRf); omega) | omega)) (by (first | ((try clear c47_); (try clear c23_); (try clear hs2); (try clear hs1); (try clear hmi); (try clear c11_); (try clear hqb); (try clear hrm); (try clear hm9); (try clear hi); (try clear hm9_); (try clear hexit76); (try clear hRs); (try clear hRc); (try clear hRl); (try clear hRf); omega) | omega)) (by (first | ((try clear hs2); (try clear hmi); (try clear hd); (try clear hm9_); (try clear hexit76); (try clear hRs); (try clear hRc); (try clear hRl); (try clear hRf); omega) | omega)) hP hS (lv_sub hl [0, 1, 2, 3] rfl)
        · refine lv_aload_n hx hb dX4_deepestRepeat_50 rfl (lv_at hl 3 rfl) ?_
          refine fz_get (D := (dC, dI)) (ci := 4) (v := .ref (h0 + (q + 1))) (C := RX4) (T := TX4) (N := 8) hx hb hts inG4 hown hK hP (k := q) (by (first | ((try clear c47_); (try clear c23_); (try clear hs2); (try clear hs1); (try clear hmi); (try clear c11_); (try clear hrm); (try clear hm9); (try clear hd); (try clear hi); (try clear hm9_); (try clear hexit76); (try clear hRs); (try clear hRc); (try clear hRl); (try clear hRf); omega) | omega)) (F := (sRF h0 q)) (sE_rowO hq) rfl 0 (by decide) (hts _ k77) (fun _ h9 => h9) rfl dX4_deepestRepeat_51 ?_
          refine lv_aload_n hx hb dX4_deepestRepeat_54 rfl (lv_at hl 3 rfl) ?_
          refine fz_get (D := (dC, dI)) (ci := 4) (v := .ref (h0 + (q + 2))) (C := RX4) (T := TX4) (N := 8) hx hb hts inG4 hown hK hP (k := q) (by (first | ((try clear c47_); (try clear c23_); (try clear hs2); (try clear hs1); (try clear hmi); (try clear c11_); (try clear hrm); (try clear hm9); (try clear hd); (try clear hi); (try clear hm9_); (try clear hexit76); (try clear hRs); (try clear hRc); (try clear hRl); (try clear hRf); omega) | omega)) (F := (sRF h0 q)) (sE_rowO hq) rfl 1 (by decide) (hts _ k83) (fun _ h9 => h9) rfl dX4_deepestRepeat_55 ?_
          refine lv_iload_n hx hb dX4_deepestRepeat_58 rfl (lv_at hl 0 rfl) ?_
          refine fz_ld (k := (q + 2)) (n := rm) hx hb hK hP 0 (by (first | ((try clear c47_); (try clear c23_); (try clear hs2); (try clear hs1); (try clear hmi); (try clear c11_); (try clear hrm); (try clear hm9); (try clear hd); (try clear hi); (try clear hm9_); (try clear hexit76); (try clear hRs); (try clear hRc); (try clear hRl); (try clear hRf); omega) | omega)) (sE_rowA (r := 2) hq (by decide)) rfl ⟨by (first | ((try clear c47_); (try clear c23_); (try clear hs2); (try clear hs1); (try clear hmi); (try clear c11_); (try clear hqb); (try clear hrm); (try clear hm9); (try clear hd); (try clear hm9_); (try clear hexit76); (try clear hRs); (try clear hRc); (try clear hRl); (try clear hRf); omega) | omega), by (first | ((try clear c47_); (try clear c23_); (try clear hs2); (try clear hs1); (try clear hmi); (try clear hqb); (try clear hm9); (try clear hd); (try clear hi); (try clear hm9_); (try clear hexit76); (try clear hRs); (try clear hRc); (try clear hRl); (try clear hRf); omega) | omega)⟩ (by (first | ((try clear hs2); (try clear hs1); (try clear hmi); (try clear c11_); (try clear hrm); (try clear hm9); (try clear hd); (try clear hi); (try clear hm9_); (try clear hexit76); (try clear hRs); (try clear hRc); (try clear hRl); (try clear hRf); omega) | omega)) dX4_deepestRepeat_59 ?_
          refine fz_ld (k := (q + 1)) (n := rm) hx hb hK hP 0 (by (first | ((try clear c47_); (try clear c23_); (try clear hs2); (try clear hs1); (try clear hmi); (try clear c11_); (try clear hrm); (try clear hm9); (try clear hd); (try clear hi); (try clear hm9_); (try clear hexit76); (try clear hRs); (try clear hRc); (try clear hRl); (try clear hRf); omega) | omega)) (sE_rowA (r := 1) hq (by decide)) rfl ⟨by (first | ((try clear c47_); (try clear c23_); (try clear hs2); (try clear hs1); (try clear c11_); (try clear hqb); (try clear hrm); (try clear hm9); (try clear hd); (try clear hi); (try clear hm9_); (try clear hexit76); (try clear hRs); (try clear hRc); (try clear hRl); (try clear hRf); omega) | omega), by (first | ((try clear c47_); (try clear c23_); (try clear hs2); (try clear hs1); (try clear c11_); (try clear hqb); (try clear hm9); (try clear hd); (try clear hi); (try clear hm9_); (try clear hexit76); (try clear hRs); (try clear hRc); (try clear hRl); (try clear hRf); omega) | omega)⟩ (by (first | ((try clear hs2); (try clear hs1); (try clear hmi); (try clear c11_); (try clear hrm); (try clear hm9); (try clear hd); (try clear hi); (try clear hm9_); (try clear hexit76); (try clear hRs); (try clear hRc); (try clear hRl); (try clear hRf); omega) | omega)) dX4_deepestRepeat_60 ?_
          refine lv_sipush (v := iZ 514) hx hb dX4_deepestRepeat_61 rfl ?_
          refine fz_icmp_ne (tgt := 70) (by constructor <;> (first | ((try clear c47_); (try clear c23_); (try clear hs1); (try clear hmi); (try clear c11_); (try clear hqb); (try clear hrm); (try clear hm9); (try clear hd); (try clear hi); (try clear hm9_); (try clear hexit76); (try clear hRs); (try clear hRc); (try clear hRl); (try clear hRf); omega) | omega)) (by decide) hx hb dX4_deepestRepeat_64 (by decide) (fun c64_ => ?_) (fun c64_ => ?_)
          · refine lv_iinc (v := iZ (i + 1)) (lv' := [(3, .int (iZ (i + 1))), (2, .int (iZ (dd))), (1, .int (iZ (de))), (0, .ref (h0 + q))]) hx hb dX4_deepestRepeat_70 hl (k := 0) rfl (iZ_add _ _) (by decide) rfl (fun ls hl => ?_)
            refine lv_goto (tgt := 6) hx hb dX4_deepestRepeat_73 (by decide) ?_
            exact ih (i + 1) (dd) (de) μ H locs ls (by rfl) (by (first | ((try clear c64_); (try clear c47_); (try clear c23_); (try clear hs2); (try clear hs1); (try clear hmi); (try clear hqb); (try clear hrm); (try clear hm9); (try clear hd); (try clear hm9_); (try clear hexit76); (try clear hRs); (try clear hRc); (try clear hRl); (try clear hRf); omega) | omega)) (by (first | ((try clear c64_); (try clear c47_); (try clear c23_); (try clear hs2); (try clear hs1); (try clear hmi); (try clear c11_); (try clear hqb); (try clear hrm); (try clear hm9); (try clear hi); (try clear hm9_); (try clear hexit76); (try clear hRs); (try clear hRc); (try clear hRl); (try clear hRf); omega) | omega)) (by (first | ((try clear hs2); (try clear hs1); (try clear hmi); (try clear hd); (try clear hm9_); (try clear hexit76); (try clear hRs); (try clear hRc); (try clear hRl); (try clear hRf); omega) | omega)) hP hS (lv_sub hl [0, 1, 2, 3] rfl)
          · refine lv_iinc (v := iZ (de - 1)) (lv' := [(1, .int (iZ (de - 1))), (3, .int (iZ (i))), (2, .int (iZ (dd))), (0, .ref (h0 + q))]) hx hb dX4_deepestRepeat_67 hl (k := 2) rfl (iZ_add _ (-1)) (by decide) rfl (fun ls hl => ?_)
            refine lv_iinc (v := iZ (i + 1)) (lv' := [(3, .int (iZ (i + 1))), (1, .int (iZ (de - 1))), (2, .int (iZ (dd))), (0, .ref (h0 + q))]) hx hb dX4_deepestRepeat_70 hl (k := 1) rfl (iZ_add _ _) (by decide) rfl (fun ls hl => ?_)
            refine lv_goto (tgt := 6) hx hb dX4_deepestRepeat_73 (by decide) ?_
            exact ih (i + 1) (dd) (de - 1) μ H locs ls (by rfl) (by (first | ((try clear c64_); (try clear c47_); (try clear c23_); (try clear hs2); (try clear hs1); (try clear hmi); (try clear hqb); (try clear hrm); (try clear hm9); (try clear hd); (try clear hm9_); (try clear hexit76); (try clear hRs); (try clear hRc); (try clear hRl); (try clear hRf); omega) | omega)) (by (first | ((try clear c64_); (try clear c47_); (try clear c23_); (try clear hs2); (try clear hs1); (try clear hmi); (try clear c11_); (try clear hqb); (try clear hrm); (try clear hm9); (try clear hi); (try clear hm9_); (try clear hexit76); (try clear hRs); (try clear hRc); (try clear hRl); (try clear hRf); omega) | omega)) (by (first | ((try clear c64_); (try clear hs2); (try clear hs1); (try clear hmi); (try clear hd); (try clear hm9_); (try clear hexit76); (try clear hRs); (try clear hRc); (try clear hRl); (try clear hRf); omega) | omega)) hP hS (lv_sub hl [0, 2, 1, 3] rfl)
      · refine lv_iinc (v := iZ (de + 1)) (lv' := [(1, .int (iZ (de + 1))), (3, .int (iZ (i))), (2, .int (iZ (dd))), (0, .ref (h0 + q))]) hx hb dX4_deepestRepeat_26 hl (k := 2) rfl (iZ_add _ _) (by decide) rfl (fun ls hl => ?_)
        refine lv_iload_n hx hb dX4_deepestRepeat_29 rfl (lv_at hl 2 rfl) ?_
        refine lv_iload_n hx hb dX4_deepestRepeat_30 rfl (lv_at hl 0 rfl) ?_
        refine va_mmax hx hb (hml.trans hl.1.symm) hown (hts _ k74) (hts _ k75) (hts _ k4) (hts _ k76) (Nat.le_trans (Nat.le_of_ble_eq_true rfl) hRf) (Nat.le_trans (m := 21) (Nat.le_of_ble_eq_true rfl) hRl) hRc hRs dX4_deepestRepeat_31 ?_
        refine lv_topi (fun x9 ex9 => ?_)
        obtain rfl : x9 = iZ (max dd (de + 1)) := ex9.trans (iZ_mx (by constructor <;> (first | ((try clear ex9); (try clear c23_); (try clear hs2); (try clear hs1); (try clear hmi); (try clear hm9); (try clear hi); (try clear hm9_); (try clear hexit76); (try clear hRs); (try clear hRc); (try clear hRl); (try clear hRf); omega) | omega)) (by constructor <;> (first | ((try clear ex9); (try clear c23_); (try clear hs2); (try clear hs1); (try clear hmi); (try clear hm9); (try clear hi); (try clear hm9_); (try clear hexit76); (try clear hRs); (try clear hRc); (try clear hRl); (try clear hRf); omega) | omega)))
        refine lv_istore_n (lv' := [(2, .int (iZ (max dd (de + 1)))), (1, .int (iZ (de + 1))), (3, .int (iZ (i))), (0, .ref (h0 + q))]) hx hb dX4_deepestRepeat_34 rfl hl (by decide) rfl (fun ls hl => ?_)
        refine lv_goto (tgt := 70) hx hb dX4_deepestRepeat_35 (by decide) ?_
        refine lv_iinc (v := iZ (i + 1)) (lv' := [(3, .int (iZ (i + 1))), (2, .int (iZ (max dd (de + 1)))), (1, .int (iZ (de + 1))), (0, .ref (h0 + q))]) hx hb dX4_deepestRepeat_70 hl (k := 2) rfl (iZ_add _ _) (by decide) rfl (fun ls hl => ?_)
        refine lv_goto (tgt := 6) hx hb dX4_deepestRepeat_73 (by decide) ?_
        exact ih (i + 1) (max dd (de + 1)) (de + 1) μ H locs ls (by rfl) (by (first | ((try clear ex9); (try clear c23_); (try clear hs2); (try clear hs1); (try clear hmi); (try clear hqb); (try clear hrm); (try clear hm9); (try clear hd); (try clear hm9_); (try clear hexit76); (try clear hRs); (try clear hRc); (try clear hRl); (try clear hRf); omega) | omega)) (by (first | ((try clear ex9); (try clear c23_); (try clear hs2); (try clear hs1); (try clear hmi); (try clear c11_); (try clear hqb); (try clear hrm); (try clear hm9); (try clear hi); (try clear hm9_); (try clear hexit76); (try clear hRs); (try clear hRc); (try clear hRl); (try clear hRf); omega) | omega)) (by (first | ((try clear ex9); (try clear c23_); (try clear hs2); (try clear hs1); (try clear hmi); (try clear hd); (try clear hm9_); (try clear hexit76); (try clear hRs); (try clear hRc); (try clear hRl); (try clear hRf); omega) | omega)) hP hS (lv_sub hl [0, 1, 2, 3] rfl)
set_option maxHeartbeats 4000000 in
set_option maxRecDepth 100000 in
theorem s_RdeepestRepeat (l : Launch) (dC : Nat → ClassId) (dI : Nat → Nat → Nat) (cI cZ cII cIII : ClassId) (h0 sz : Nat) (μ : va_M) (q : Nat) (rm : Nat) (hq : rowB q rm) (hG : rG μ q rm) : Met l yX4_deepestRepeat (Cond.code yX4_deepestRepeat cX4_deepestRepeat 4 (some .int) :: wsG) ({ frames := 1, cells := 0, slots := 0, locals := 21 } : Room) (va_Pc [.ref (h0 + q)] (fun U => U.heap.size = sz ∧ va_P (dC, dI) vwCl (fw (sE cI cZ cII cIII h0) h0 233 μ) U.heap ∧ va_K (dC, dI) vwCl (sT cI cZ cII cIII) U ∧ xM U)) (va_Qi (fun (r9 : Int32) (u : va_M × Int) => r9 = iZ u.2 ∧ (fun (u : va_M) (r : Int) => u = μ) u.1 u.2) (fun u t => va_P (dC, dI) vwCl (fw (sE cI cZ cII cIII h0) h0 233 u.1) t.heap ∧ va_K (dC, dI) vwCl (sT cI cZ cII cIII) t) (fA h0 233 sz)) 0 0 (fA h0 233 sz) := by
  refine Met.ofW (cc := cX4_deepestRepeat) (maxL := 4) (ret := (some .int)) (by decide) rfl ?_
  intro p e s m args below meth c s₁ B hml hv
  obtain ⟨rfl, hsz, hP, hK, hM⟩ := hv
  have hx := B.exec
  have hb := B.bytes
  have hr := B.returns
  have hts : ∀ w ∈ wsG, w.before _ s = true := hG_of (atoms_spec (ws := (Cond.code yX4_deepestRepeat cX4_deepestRepeat 4 (some .int) :: wsG)) B.pre)
  have hown : s.vm.findClass RX4 = some m.cls := findClass_of_methodNamed B.named
  have hlocks := B.notSynchronized
  subst hsz
  have hS : va_S (fA h0 233 s.heap.size) s.heap s.heap [] := va_S.rf
  have hl := lv_entry ([.ref (h0 + q)]) (n := 4) (Nat.le_of_ble_eq_true rfl)
  rw [lg_entry_eq]
  generalize (lg_sl ([.ref (h0 + q)]) ++ List.replicate (4 - (lg_sl ([.ref (h0 + q)])).length) Slot.unset).toArray = ls at hl ⊢
  have hl : lv_has ls 4 [(0, .ref (h0 + q))] := hl
  have hqb := rowB_b hq
  refine lv_iconst (v := iZ 0) hx hb dX4_deepestRepeat_0 rfl ?_
  refine lv_istore_n (lv' := [(1, .int (iZ (0))), (0, .ref (h0 + q))]) hx hb dX4_deepestRepeat_1 rfl hl (by decide) rfl (fun ls hl => ?_)
  refine lv_iconst (v := iZ 0) hx hb dX4_deepestRepeat_2 rfl ?_
  refine lv_istore_n (lv' := [(2, .int (iZ (0))), (1, .int (iZ (0))), (0, .ref (h0 + q))]) hx hb dX4_deepestRepeat_3 rfl hl (by decide) rfl (fun ls hl => ?_)
  refine lv_iconst (v := iZ 0) hx hb dX4_deepestRepeat_4 rfl ?_
  refine lv_istore_n (lv' := [(3, .int (iZ (0))), (2, .int (iZ (0))), (1, .int (iZ (0))), (0, .ref (h0 + q))]) hx hb dX4_deepestRepeat_5 rfl hl (by decide) rfl (fun ls hl => ?_)
  refine LX4_deepestRepeat_6 hx hb hml hown hts hK hM (Nat.le_of_ble_eq_true rfl) (Nat.le_of_ble_eq_true rfl) (Nat.le_of_ble_eq_true rfl) (Nat.le_of_ble_eq_true rfl) (μ) (q) (rm) (by assumption) (by assumption) ?_ _ (0) (0) (0) μ s.heap [] ls (by rfl) (by have := rG_len hG; (first | ((try clear hqb); (try clear hsz); (try clear s₁); omega) | omega)) (by (first | ((try clear hqb); (try clear hsz); (try clear s₁); omega) | omega)) (Nat.lt_succ_self _) hP hS (lv_sub hl [0, 1, 2, 3] rfl)
  · intro i_1 dd_1 de_1 μ1_ H locs ls q1_1 hP hS hl
    have hl : lv_has ls 4 [(2, .int (iZ (dd_1)))] := hl
    have hPn76 := hP
    obtain rfl := q1_1
    have hP := hPn76
    refine lv_iload_n hx hb dX4_deepestRepeat_76 rfl (lv_at hl 0 rfl) ?_
    exact W.iret (v := iZ (dd_1)) hx hb hr (fun t9 ht9 hW9 => ⟨⟨iZ (dd_1), (μ1_, dd_1), rfl, ⟨rfl, (by
                dsimp only
                all_goals exact rfl)⟩, by rw [ht9]; exact hP, va_K.moved hW9.alike hK⟩, hS.F ht9⟩) hS.2.2 dX4_deepestRepeat_77
set_option maxHeartbeats 4000000 in
set_option maxRecDepth 100000 in
theorem LX4_countLeaves_9 {p : Program} {l : Launch} {e : Env} {R : Room} {s : State} {m : MethodId} {args : Array Value} {below : List Frame} {meth : Method} {c : Code} {cells slots : Nat} {Q : State → Prop} {dC : Nat → ClassId} {dI : Nat → Nat → Nat} {h0 : Nat} {cI cZ cII cIII : ClassId} (hx : p.tables.exec = Jvm.exec) (hb : c.code = cX4_countLeaves) (hml : c.maxLocals = 8) (hown : s.vm.findClass RX4 = some m.cls) (hts : ∀ w ∈ wsG, w.before args s = true) (hK : va_K (dC, dI) vwCl (sT cI cZ cII cIII) s) (hM : xM s) (hRf : 2 ≤ R.frames) (hRl : 34 ≤ R.locals) (hRc : cells ≤ R.cells) (hRs : slots ≤ R.slots) (μ0 : va_M) (q : Nat) (rm : Nat) (b1 : Int) (b2 : Int) (b3 : Int) (hq : rowB q rm) (hG : rG μ0 q rm) (hb8 : (0 ≤ b1 ∧ b1 ≤ 1) ∧ (0 ≤ b2 ∧ b2 ≤ 1) ∧ 0 ≤ b3 ∧ b3 ≤ 1) (hexit139 : ∀ (i : Int) (cn : Int) (ba : Int) (μ : va_M) (H : Heap) (locs : List Loc) (ls : Array Slot), (μ = μ0) → va_P (dC, dI) vwCl (fw (sE cI cZ cII cIII h0) h0 233 μ) H → va_S (fA h0 233 s.heap.size) s.heap H locs → lv_has ls 8 [(4, .int (iZ (cn)))] → W p l e R s m args below meth c H locs cells slots Q (F0 m 139 ls [])) :
    ∀ (n9 : Nat) (i : Int) (cn : Int) (ba : Int) (μ : va_M) (H : Heap) (locs : List Loc) (ls : Array Slot), (μ = μ0) → (0 ≤ i ∧ i ≤ μ0 q 5) → (-i ≤ ba ∧ ba ≤ i ∧ 0 ≤ cn ∧ cn ≤ i) → (1101 - i).toNat < n9 → va_P (dC, dI) vwCl (fw (sE cI cZ cII cIII h0) h0 233 μ) H → va_S (fA h0 233 s.heap.size) s.heap H locs → lv_has ls 8 [(6, .int (iZ (i))), (5, .int (iZ (ba))), (4, .int (iZ (cn))), (3, .int (iZ (b3))), (2, .int (iZ (b2))), (1, .int (iZ (b1))), (0, .ref (h0 + q))] → W p l e R s m args below meth c H locs cells slots Q (F0 m 9 ls []) := by
  intro n9
  induction n9 with
  | zero => intro i cn ba μ H locs ls hm9_ hi hd hm9 hP hS hl; exact absurd hm9 (Nat.not_lt_zero _)
  | succ n9 ih =>
    intro i cn ba μ H locs ls hm9_ hi hd hm9 hP hS hl
    subst hm9_
    have hrm := rG_rm hq hG
    have hqb := rowB_b hq
    have hb1_ := hb8
    refine lv_iload hx hb dX4_countLeaves_9 (lv_at hl 0 rfl) ?_
    refine lv_aload_n hx hb dX4_countLeaves_11 rfl (lv_at hl 6 rfl) ?_
    refine fz_get (D := (dC, dI)) (ci := 4) (v := .int (iZ (μ q 5))) (C := RX4) (T := TX4) (N := 8) hx hb hts inG4 hown hK hP (k := q) (by (first | ((try clear hb1_); (try clear hrm); (try clear hm9); (try clear hd); (try clear hi); (try clear hm9_); (try clear hexit139); (try clear hb8); (try clear hRs); (try clear hRc); (try clear hRl); (try clear hRf); omega) | omega)) (F := (sRF h0 q)) (sE_rowO hq) rfl 5 (by decide) (hts _ k92) (fun _ h9 => h9) rfl dX4_countLeaves_12 ?_
    refine fz_icmp_ge (tgt := 139) (by constructor <;> (first | ((try clear hb1_); (try clear hm9); (try clear hd); (try clear hm9_); (try clear hexit139); (try clear hb8); (try clear hRs); (try clear hRc); (try clear hRl); (try clear hRf); omega) | omega)) (by constructor <;> (first | ((try clear hb1_); (try clear hm9); (try clear hd); (try clear hi); (try clear hm9_); (try clear hexit139); (try clear hb8); (try clear hRs); (try clear hRc); (try clear hRl); (try clear hRf); omega) | omega)) hx hb dX4_countLeaves_15 (by decide) (fun c15_ => ?_) (fun c15_ => ?_)
    · exact hexit139 (i) (cn) (ba) μ H locs ls (by rfl) hP hS (lv_sub hl [2] rfl)
    · have hmi := rG_m hG (i) (by (first | ((try clear hmi); (try clear c15_); (try clear hb1_); (try clear hqb); (try clear hrm); (try clear hm9); (try clear hd); (try clear hm9_); (try clear hexit139); (try clear hb8); (try clear hRs); (try clear hRc); (try clear hRl); (try clear hRf); omega) | omega)) (by (first | ((try clear hmi); (try clear hb1_); (try clear hqb); (try clear hrm); (try clear hm9); (try clear hd); (try clear hi); (try clear hm9_); (try clear hexit139); (try clear hb8); (try clear hRs); (try clear hRc); (try clear hRl); (try clear hRf); omega) | omega))
      have hs1 := hG.1 (i).toNat
      have hs2 := hG.1 (μ (q + 2) (i).toNat).toNat
      refine lv_aload_n hx hb dX4_countLeaves_18 rfl (lv_at hl 6 rfl) ?_
      refine fz_get (D := (dC, dI)) (ci := 4) (v := .ref (h0 + (q + 1))) (C := RX4) (T := TX4) (N := 8) hx hb hts inG4 hown hK hP (k := q) (by (first | ((try clear hs2); (try clear hs1); (try clear hmi); (try clear c15_); (try clear hb1_); (try clear hrm); (try clear hm9); (try clear hd); (try clear hi); (try clear hm9_); (try clear hexit139); (try clear hb8); (try clear hRs); (try clear hRc); (try clear hRl); (try clear hRf); omega) | omega)) (F := (sRF h0 q)) (sE_rowO hq) rfl 0 (by decide) (hts _ k77) (fun _ h9 => h9) rfl dX4_countLeaves_19 ?_
      refine lv_iload hx hb dX4_countLeaves_22 (lv_at hl 0 rfl) ?_
      refine fz_ld (k := (q + 1)) (n := rm) hx hb hK hP 0 (by (first | ((try clear hs2); (try clear hs1); (try clear hmi); (try clear c15_); (try clear hb1_); (try clear hrm); (try clear hm9); (try clear hd); (try clear hi); (try clear hm9_); (try clear hexit139); (try clear hb8); (try clear hRs); (try clear hRc); (try clear hRl); (try clear hRf); omega) | omega)) (sE_rowA (r := 1) hq (by decide)) rfl ⟨by (first | ((try clear hs2); (try clear hs1); (try clear hmi); (try clear c15_); (try clear hb1_); (try clear hqb); (try clear hrm); (try clear hm9); (try clear hd); (try clear hm9_); (try clear hexit139); (try clear hb8); (try clear hRs); (try clear hRc); (try clear hRl); (try clear hRf); omega) | omega), by (first | ((try clear hs2); (try clear hs1); (try clear hmi); (try clear hb1_); (try clear hqb); (try clear hm9); (try clear hd); (try clear hi); (try clear hm9_); (try clear hexit139); (try clear hb8); (try clear hRs); (try clear hRc); (try clear hRl); (try clear hRf); omega) | omega)⟩ (by (first | ((try clear hs2); (try clear hs1); (try clear hmi); (try clear c15_); (try clear hb1_); (try clear hrm); (try clear hm9); (try clear hd); (try clear hi); (try clear hm9_); (try clear hexit139); (try clear hb8); (try clear hRs); (try clear hRc); (try clear hRl); (try clear hRf); omega) | omega)) dX4_countLeaves_24 ?_
      refine lv_sipush (v := iZ 515) hx hb dX4_countLeaves_25 rfl ?_
      have j53_ : ∀ (x53_0 : Int), (0 ≤ x53_0 ∧ x53_0 ≤ 515) → W p l e R s m args below meth c H locs cells slots Q (F0 m 53 ls [.int (iZ (x53_0))]) := by
        intro x53_0 hj53_0
        refine lv_istore (lv' := [(7, .int (iZ (x53_0))), (6, .int (iZ (i))), (5, .int (iZ (ba))), (4, .int (iZ (cn))), (3, .int (iZ (b3))), (2, .int (iZ (b2))), (1, .int (iZ (b1))), (0, .ref (h0 + q))]) hx hb dX4_countLeaves_53 hl (by decide) rfl (fun ls hl => ?_)
        refine lv_iload hx hb dX4_countLeaves_55 (lv_at hl 0 rfl) ?_
        refine lv_sipush (v := iZ 513) hx hb dX4_countLeaves_57 rfl ?_
        have j105_ : W p l e R s m args below meth c H locs cells slots Q (F0 m 105 ls []) := by
          refine lv_iload hx hb dX4_countLeaves_105 (lv_at hl 2 rfl) ?_
          refine fz_if_ne (tgt := 133) (by constructor <;> (first | ((try clear hj53_0); (try clear j53_); (try clear hs2); (try clear hs1); (try clear hmi); (try clear hb1_); (try clear hm9); (try clear hi); (try clear hm9_); (try clear hexit139); (try clear hb8); (try clear hRs); (try clear hRc); (try clear hRl); (try clear hRf); omega) | omega)) hx hb dX4_countLeaves_107 (by decide) (fun c107_ => ?_) (fun c107_ => ?_)
          · refine lv_iinc (v := iZ (i + 1)) (lv' := [(6, .int (iZ (i + 1))), (7, .int (iZ (x53_0))), (5, .int (iZ (ba))), (4, .int (iZ (cn))), (3, .int (iZ (b3))), (2, .int (iZ (b2))), (1, .int (iZ (b1))), (0, .ref (h0 + q))]) hx hb dX4_countLeaves_133 hl (k := 1) rfl (iZ_add _ _) (by decide) rfl (fun ls hl => ?_)
            refine lv_goto (tgt := 9) hx hb dX4_countLeaves_136 (by decide) ?_
            exact ih (i + 1) (cn) (ba) μ H locs ls (by rfl) (by (first | ((try clear c107_); (try clear hj53_0); (try clear j53_); (try clear hs2); (try clear hs1); (try clear hmi); (try clear hb1_); (try clear hqb); (try clear hrm); (try clear hm9); (try clear hd); (try clear hm9_); (try clear hexit139); (try clear hb8); (try clear hRs); (try clear hRc); (try clear hRl); (try clear hRf); omega) | omega)) (by (first | ((try clear c107_); (try clear hj53_0); (try clear j53_); (try clear hs2); (try clear hs1); (try clear hmi); (try clear c15_); (try clear hb1_); (try clear hqb); (try clear hrm); (try clear hm9); (try clear hi); (try clear hm9_); (try clear hexit139); (try clear hb8); (try clear hRs); (try clear hRc); (try clear hRl); (try clear hRf); omega) | omega)) (by (first | ((try clear hj53_0); (try clear j53_); (try clear hs2); (try clear hs1); (try clear hmi); (try clear hb1_); (try clear hd); (try clear hm9_); (try clear hexit139); (try clear hb8); (try clear hRs); (try clear hRc); (try clear hRl); (try clear hRf); omega) | omega)) hP hS (lv_sub hl [0, 2, 3, 4, 5, 6, 7] rfl)
          · refine lv_iload hx hb dX4_countLeaves_110 (lv_at hl 0 rfl) ?_
            refine va_calli (va_runSN (As := [.int (iZ (x53_0))]) (rest := []) ⟨hx, hb, hml, hown, hts⟩ (s_isLeaf l dC dI cI cZ cII cIII h0 H.size μ (x53_0) (by first | assumption | (first | ((try clear c107_); (try clear j53_); (try clear hs2); (try clear hs1); (try clear hmi); (try clear c15_); (try clear hb1_); (try clear hqb); (try clear hrm); (try clear hm9); (try clear hd); (try clear hi); (try clear hm9_); (try clear hexit139); (try clear hb8); (try clear hRs); (try clear hRc); (try clear hRl); (try clear hRf); omega) | omega) | exact ⟨by omega, by omega⟩)) ⟨va_cnB (host := "PageSkeleton") 1 hts (gI_G k420) rfl rfl rfl (xM_nest hM 7 rfl) (hts _ k1) (by decide +kernel) ⟨by show 1 + 1 ≤ _; (first | ((try clear c107_); (try clear hj53_0); (try clear j53_); (try clear hs2); (try clear hs1); (try clear hmi); (try clear c15_); (try clear hb1_); (try clear hqb); (try clear hrm); (try clear hm9); (try clear hd); (try clear hi); (try clear hm9_); (try clear hexit139); (try clear hb8); (try clear hRs); (try clear hRc); (try clear hRl); omega) | omega), by show 8 + (1 + 11) + (14) ≤ _; (first | ((try clear c107_); (try clear hj53_0); (try clear j53_); (try clear hs2); (try clear hs1); (try clear hmi); (try clear c15_); (try clear hb1_); (try clear hqb); (try clear hrm); (try clear hm9); (try clear hd); (try clear hi); (try clear hm9_); (try clear hexit139); (try clear hb8); (try clear hRs); (try clear hRc); (try clear hRf); omega) | omega)⟩, hts _ k419, trivial⟩ ⟨fun a U g mk q => by obtain ⟨q0, q1, qP, qK, qM⟩ := q; exact ⟨q0, q1, qP, va_K.moved (u := U) (U := U.calling g mk a) (Vm.Alike.refl U.vm) qK, qM⟩, fun U hU hW => ⟨rfl, by rw [hU], by rw [hU]; exact hP, va_K.moved hW.alike hK, xM_warm hW hM⟩⟩ rfl rfl hl.1 rfl (lv_room (Nat.le_of_ble_eq_true rfl)) dX4_countLeaves_112 ⟨hRc, hRs⟩) hS (fun q _ h => fA_le hS.1 q h) (fA_le hS.1) (fun r9 u9 t9 H1 locs ht9 hvm9 hw9 hB9 hz9 hk9 hS => ?_)
            obtain ⟨μ1, r2⟩ := u9
            obtain ⟨hP, -⟩ := hB9
            rw [ht9] at hP
            generalize H1 = H at hP hS ⊢
            obtain ⟨e9, hw9⟩ := hw9
            have e9 : r9 = iZ r2 := e9
            subst e9
            simp only at hP hw9
            have hμ1 := hw9; clear hw9
            rw [hμ1.1] at hP; have hμ1 := hμ1.2
            have hlf := if_01 hμ1
            refine fz_if_eq (tgt := 133) (by constructor <;> (first | ((try clear hμ1); (try clear hz9); (try clear c107_); (try clear hj53_0); (try clear j53_); (try clear hs2); (try clear hs1); (try clear hmi); (try clear c15_); (try clear hb1_); (try clear hqb); (try clear hrm); (try clear hm9); (try clear hd); (try clear hi); (try clear hm9_); (try clear hexit139); (try clear hb8); (try clear hRs); (try clear hRc); (try clear hRl); (try clear hRf); omega) | omega)) hx hb dX4_countLeaves_115 (by decide) (fun c115_ => ?_) (fun c115_ => ?_)
            · refine lv_iinc (v := iZ (i + 1)) (lv' := [(6, .int (iZ (i + 1))), (7, .int (iZ (x53_0))), (5, .int (iZ (ba))), (4, .int (iZ (cn))), (3, .int (iZ (b3))), (2, .int (iZ (b2))), (1, .int (iZ (b1))), (0, .ref (h0 + q))]) hx hb dX4_countLeaves_133 hl (k := 1) rfl (iZ_add _ _) (by decide) rfl (fun ls hl => ?_)
              refine lv_goto (tgt := 9) hx hb dX4_countLeaves_136 (by decide) ?_
              exact ih (i + 1) (cn) (ba) μ H locs ls (by rfl) (by (first | ((try clear c115_); (try clear hlf); (try clear hμ1); (try clear μ1); (try clear hz9); (try clear hj53_0); (try clear j53_); (try clear hs2); (try clear hs1); (try clear hmi); (try clear hb1_); (try clear hqb); (try clear hrm); (try clear hm9); (try clear hi); (try clear hm9_); (try clear hexit139); (try clear hb8); (try clear hRs); (try clear hRc); (try clear hRl); (try clear hRf); omega) | omega)) (by (first | ((try clear c115_); (try clear hlf); (try clear hμ1); (try clear μ1); (try clear hz9); (try clear hj53_0); (try clear j53_); (try clear hs2); (try clear hs1); (try clear hmi); (try clear c15_); (try clear hb1_); (try clear hqb); (try clear hrm); (try clear hm9); (try clear hi); (try clear hm9_); (try clear hexit139); (try clear hb8); (try clear hRs); (try clear hRc); (try clear hRl); (try clear hRf); omega) | omega)) (by (first | ((try clear hμ1); (try clear hz9); (try clear j53_); (try clear hs2); (try clear hs1); (try clear hmi); (try clear hb1_); (try clear hi); (try clear hm9_); (try clear hexit139); (try clear hb8); (try clear hRs); (try clear hRc); (try clear hRl); (try clear hRf); omega) | omega)) hP hS (lv_sub hl [0, 2, 3, 4, 5, 6, 7] rfl)
            · refine lv_iload_n hx hb dX4_countLeaves_118 rfl (lv_at hl 4 rfl) ?_
              refine fz_if_ne (tgt := 130) (by constructor <;> (first | ((try clear c115_); (try clear hlf); (try clear hμ1); (try clear μ1); (try clear hz9); (try clear c107_); (try clear hj53_0); (try clear j53_); (try clear hs2); (try clear hs1); (try clear hmi); (try clear c15_); (try clear hb1_); (try clear hqb); (try clear hrm); (try clear hm9); (try clear hd); (try clear hi); (try clear hm9_); (try clear hexit139); (try clear hRs); (try clear hRc); (try clear hRl); (try clear hRf); omega) | omega)) hx hb dX4_countLeaves_119 (by decide) (fun c119_ => ?_) (fun c119_ => ?_)
              · refine lv_iinc (v := iZ (cn + 1)) (lv' := [(4, .int (iZ (cn + 1))), (7, .int (iZ (x53_0))), (6, .int (iZ (i))), (5, .int (iZ (ba))), (3, .int (iZ (b3))), (2, .int (iZ (b2))), (1, .int (iZ (b1))), (0, .ref (h0 + q))]) hx hb dX4_countLeaves_130 hl (k := 3) rfl (iZ_add _ _) (by decide) rfl (fun ls hl => ?_)
                refine lv_iinc (v := iZ (i + 1)) (lv' := [(6, .int (iZ (i + 1))), (4, .int (iZ (cn + 1))), (7, .int (iZ (x53_0))), (5, .int (iZ (ba))), (3, .int (iZ (b3))), (2, .int (iZ (b2))), (1, .int (iZ (b1))), (0, .ref (h0 + q))]) hx hb dX4_countLeaves_133 hl (k := 2) rfl (iZ_add _ _) (by decide) rfl (fun ls hl => ?_)
                refine lv_goto (tgt := 9) hx hb dX4_countLeaves_136 (by decide) ?_
                exact ih (i + 1) (cn + 1) (ba) μ H locs ls (by rfl) (by (first | ((try clear c119_); (try clear c115_); (try clear hlf); (try clear hμ1); (try clear μ1); (try clear hz9); (try clear hj53_0); (try clear j53_); (try clear hs2); (try clear hs1); (try clear hmi); (try clear hb1_); (try clear hqb); (try clear hrm); (try clear hm9); (try clear hi); (try clear hm9_); (try clear hexit139); (try clear hb8); (try clear hRs); (try clear hRc); (try clear hRl); (try clear hRf); omega) | omega)) (by (first | ((try clear c119_); (try clear c115_); (try clear hlf); (try clear hμ1); (try clear μ1); (try clear hz9); (try clear hj53_0); (try clear j53_); (try clear hs2); (try clear hs1); (try clear hmi); (try clear c15_); (try clear hb1_); (try clear hqb); (try clear hrm); (try clear hm9); (try clear hi); (try clear hm9_); (try clear hexit139); (try clear hb8); (try clear hRs); (try clear hRc); (try clear hRl); (try clear hRf); omega) | omega)) (by (first | ((try clear hμ1); (try clear hz9); (try clear hj53_0); (try clear j53_); (try clear hs2); (try clear hs1); (try clear hmi); (try clear hb1_); (try clear hi); (try clear hm9_); (try clear hexit139); (try clear hRs); (try clear hRc); (try clear hRl); (try clear hRf); omega) | omega)) hP hS (lv_sub hl [0, 3, 1, 4, 5, 6, 7] rfl)
              · refine lv_iload hx hb dX4_countLeaves_122 (lv_at hl 0 rfl) ?_
                refine lv_sipush (v := iZ 512) hx hb dX4_countLeaves_124 rfl ?_
                refine fz_icmp_eq (tgt := 133) (by constructor <;> (first | ((try clear c119_); (try clear c115_); (try clear hlf); (try clear hμ1); (try clear μ1); (try clear hz9); (try clear c107_); (try clear j53_); (try clear hs2); (try clear hs1); (try clear hmi); (try clear c15_); (try clear hb1_); (try clear hqb); (try clear hrm); (try clear hm9); (try clear hd); (try clear hi); (try clear hm9_); (try clear hexit139); (try clear hb8); (try clear hRs); (try clear hRc); (try clear hRl); (try clear hRf); omega) | omega)) (by decide) hx hb dX4_countLeaves_127 (by decide) (fun c127_ => ?_) (fun c127_ => ?_)
                · refine lv_iinc (v := iZ (i + 1)) (lv' := [(6, .int (iZ (i + 1))), (7, .int (iZ (x53_0))), (5, .int (iZ (ba))), (4, .int (iZ (cn))), (3, .int (iZ (b3))), (2, .int (iZ (b2))), (1, .int (iZ (b1))), (0, .ref (h0 + q))]) hx hb dX4_countLeaves_133 hl (k := 1) rfl (iZ_add _ _) (by decide) rfl (fun ls hl => ?_)
                  refine lv_goto (tgt := 9) hx hb dX4_countLeaves_136 (by decide) ?_
                  exact ih (i + 1) (cn) (ba) μ H locs ls (by rfl) (by (first | ((try clear c127_); (try clear c119_); (try clear c115_); (try clear hlf); (try clear hμ1); (try clear μ1); (try clear hz9); (try clear hj53_0); (try clear j53_); (try clear hs2); (try clear hs1); (try clear hmi); (try clear hb1_); (try clear hqb); (try clear hrm); (try clear hm9); (try clear hi); (try clear hm9_); (try clear hexit139); (try clear hb8); (try clear hRs); (try clear hRc); (try clear hRl); (try clear hRf); omega) | omega)) (by (first | ((try clear c127_); (try clear c119_); (try clear c115_); (try clear hlf); (try clear hμ1); (try clear μ1); (try clear hz9); (try clear hj53_0); (try clear j53_); (try clear hs2); (try clear hs1); (try clear hmi); (try clear c15_); (try clear hb1_); (try clear hqb); (try clear hrm); (try clear hm9); (try clear hi); (try clear hm9_); (try clear hexit139); (try clear hb8); (try clear hRs); (try clear hRc); (try clear hRl); (try clear hRf); omega) | omega)) (by (first | ((try clear c127_); (try clear c119_); (try clear hμ1); (try clear hz9); (try clear hj53_0); (try clear j53_); (try clear hs2); (try clear hs1); (try clear hmi); (try clear hb1_); (try clear hi); (try clear hm9_); (try clear hexit139); (try clear hb8); (try clear hRs); (try clear hRc); (try clear hRl); (try clear hRf); omega) | omega)) hP hS (lv_sub hl [0, 2, 3, 4, 5, 6, 7] rfl)
                · refine lv_iinc (v := iZ (cn + 1)) (lv' := [(4, .int (iZ (cn + 1))), (7, .int (iZ (x53_0))), (6, .int (iZ (i))), (5, .int (iZ (ba))), (3, .int (iZ (b3))), (2, .int (iZ (b2))), (1, .int (iZ (b1))), (0, .ref (h0 + q))]) hx hb dX4_countLeaves_130 hl (k := 3) rfl (iZ_add _ _) (by decide) rfl (fun ls hl => ?_)
                  refine lv_iinc (v := iZ (i + 1)) (lv' := [(6, .int (iZ (i + 1))), (4, .int (iZ (cn + 1))), (7, .int (iZ (x53_0))), (5, .int (iZ (ba))), (3, .int (iZ (b3))), (2, .int (iZ (b2))), (1, .int (iZ (b1))), (0, .ref (h0 + q))]) hx hb dX4_countLeaves_133 hl (k := 2) rfl (iZ_add _ _) (by decide) rfl (fun ls hl => ?_)
                  refine lv_goto (tgt := 9) hx hb dX4_countLeaves_136 (by decide) ?_
                  exact ih (i + 1) (cn + 1) (ba) μ H locs ls (by rfl) (by (first | ((try clear c127_); (try clear c119_); (try clear c115_); (try clear hlf); (try clear hμ1); (try clear μ1); (try clear hz9); (try clear hj53_0); (try clear j53_); (try clear hs2); (try clear hs1); (try clear hmi); (try clear hb1_); (try clear hqb); (try clear hrm); (try clear hm9); (try clear hi); (try clear hm9_); (try clear hexit139); (try clear hb8); (try clear hRs); (try clear hRc); (try clear hRl); (try clear hRf); omega) | omega)) (by (first | ((try clear c127_); (try clear c119_); (try clear c115_); (try clear hlf); (try clear hμ1); (try clear μ1); (try clear hz9); (try clear hj53_0); (try clear j53_); (try clear hs2); (try clear hs1); (try clear hmi); (try clear c15_); (try clear hb1_); (try clear hqb); (try clear hrm); (try clear hm9); (try clear hi); (try clear hm9_); (try clear hexit139); (try clear hb8); (try clear hRs); (try clear hRc); (try clear hRl); (try clear hRf); omega) | omega)) (by (first | ((try clear c119_); (try clear hμ1); (try clear hz9); (try clear j53_); (try clear hs2); (try clear hs1); (try clear hmi); (try clear hb1_); (try clear hi); (try clear hm9_); (try clear hexit139); (try clear hb8); (try clear hRs); (try clear hRc); (try clear hRl); (try clear hRf); omega) | omega)) hP hS (lv_sub hl [0, 3, 1, 4, 5, 6, 7] rfl)
        refine fz_icmp_ne (tgt := 67) (by constructor <;> (first | ((try clear j53_); (try clear hs2); (try clear hs1); (try clear hmi); (try clear c15_); (try clear hb1_); (try clear hqb); (try clear hrm); (try clear hm9); (try clear hd); (try clear hi); (try clear hm9_); (try clear hexit139); (try clear hb8); (try clear hRs); (try clear hRc); (try clear hRl); (try clear hRf); omega) | omega)) (by decide) hx hb dX4_countLeaves_60 (by decide) (fun c60_ => ?_) (fun c60_ => ?_)
        · refine lv_iload hx hb dX4_countLeaves_67 (lv_at hl 0 rfl) ?_
          refine lv_sipush (v := iZ 514) hx hb dX4_countLeaves_69 rfl ?_
          refine fz_icmp_ne (tgt := 105) (by constructor <;> (first | ((try clear c60_); (try clear j53_); (try clear hs2); (try clear hs1); (try clear hmi); (try clear c15_); (try clear hb1_); (try clear hqb); (try clear hrm); (try clear hm9); (try clear hd); (try clear hi); (try clear hm9_); (try clear hexit139); (try clear hb8); (try clear hRs); (try clear hRc); (try clear hRl); (try clear hRf); omega) | omega)) (by decide) hx hb dX4_countLeaves_72 (by decide) (fun c72_ => ?_) (fun c72_ => ?_)
          · exact j105_
          · refine lv_iload_n hx hb dX4_countLeaves_75 rfl (lv_at hl 5 rfl) ?_
            refine fz_if_eq (tgt := 105) (by constructor <;> (first | ((try clear c72_); (try clear c60_); (try clear hj53_0); (try clear j53_); (try clear hs2); (try clear hs1); (try clear hmi); (try clear c15_); (try clear hb1_); (try clear hqb); (try clear hrm); (try clear hm9); (try clear hd); (try clear hi); (try clear hm9_); (try clear hexit139); (try clear hRs); (try clear hRc); (try clear hRl); (try clear hRf); omega) | omega)) hx hb dX4_countLeaves_76 (by decide) (fun c76_ => ?_) (fun c76_ => ?_)
            · exact j105_
            · refine lv_iload hx hb dX4_countLeaves_79 (lv_at hl 2 rfl) ?_
              refine lv_aload_n hx hb dX4_countLeaves_81 rfl (lv_at hl 7 rfl) ?_
              refine fz_get (D := (dC, dI)) (ci := 4) (v := .ref (h0 + (q + 1))) (C := RX4) (T := TX4) (N := 8) hx hb hts inG4 hown hK hP (k := q) (by (first | ((try clear c76_); (try clear c72_); (try clear c60_); (try clear hj53_0); (try clear j53_); (try clear hs2); (try clear hs1); (try clear hmi); (try clear c15_); (try clear hb1_); (try clear hrm); (try clear hm9); (try clear hd); (try clear hi); (try clear hm9_); (try clear hexit139); (try clear hb8); (try clear hRs); (try clear hRc); (try clear hRl); (try clear hRf); omega) | omega)) (F := (sRF h0 q)) (sE_rowO hq) rfl 0 (by decide) (hts _ k77) (fun _ h9 => h9) rfl dX4_countLeaves_82 ?_
              refine lv_iload hx hb dX4_countLeaves_85 (lv_at hl 1 rfl) ?_
              refine fz_ld (k := (q + 1)) (n := rm) hx hb hK hP 0 (by (first | ((try clear c76_); (try clear c72_); (try clear c60_); (try clear hj53_0); (try clear j53_); (try clear hs2); (try clear hs1); (try clear hmi); (try clear c15_); (try clear hb1_); (try clear hrm); (try clear hm9); (try clear hd); (try clear hi); (try clear hm9_); (try clear hexit139); (try clear hb8); (try clear hRs); (try clear hRc); (try clear hRl); (try clear hRf); omega) | omega)) (sE_rowA (r := 1) hq (by decide)) rfl ⟨by (first | ((try clear c76_); (try clear c72_); (try clear c60_); (try clear hj53_0); (try clear j53_); (try clear hs2); (try clear hs1); (try clear hmi); (try clear c15_); (try clear hb1_); (try clear hqb); (try clear hrm); (try clear hm9); (try clear hd); (try clear hm9_); (try clear hexit139); (try clear hb8); (try clear hRs); (try clear hRc); (try clear hRl); (try clear hRf); omega) | omega), by (first | ((try clear c76_); (try clear c72_); (try clear c60_); (try clear hj53_0); (try clear j53_); (try clear hs2); (try clear hs1); (try clear hmi); (try clear hb1_); (try clear hqb); (try clear hm9); (try clear hd); (try clear hi); (try clear hm9_); (try clear hexit139); (try clear hb8); (try clear hRs); (try clear hRc); (try clear hRl); (try clear hRf); omega) | omega)⟩ (by (first | ((try clear hj53_0); (try clear j53_); (try clear hs2); (try clear hs1); (try clear hmi); (try clear c15_); (try clear hb1_); (try clear hrm); (try clear hm9); (try clear hd); (try clear hi); (try clear hm9_); (try clear hexit139); (try clear hRs); (try clear hRc); (try clear hRl); (try clear hRf); omega) | omega)) dX4_countLeaves_87 ?_
              refine lv_sipush (v := iZ 515) hx hb dX4_countLeaves_88 rfl ?_
              have j99_ : ∀ (x99_0 : Int), (-1 ≤ x99_0 ∧ x99_0 ≤ 1) → W p l e R s m args below meth c H locs cells slots Q (F0 m 99 ls [.int (iZ (x99_0)), .int (iZ (ba))]) := by
                intro x99_0 hj99_0
                refine lv_iadd hx hb dX4_countLeaves_99 ?_
                refine lv_topi (fun x9 ex9 => ?_)
                obtain rfl : x9 = iZ (ba + x99_0) := ex9.trans (iZ_add _ _)
                refine lv_istore (lv' := [(5, .int (iZ (ba + x99_0))), (7, .int (iZ (x53_0))), (6, .int (iZ (i))), (4, .int (iZ (cn))), (3, .int (iZ (b3))), (2, .int (iZ (b2))), (1, .int (iZ (b1))), (0, .ref (h0 + q))]) hx hb dX4_countLeaves_100 hl (by decide) rfl (fun ls hl => ?_)
                refine lv_goto (tgt := 133) hx hb dX4_countLeaves_102 (by decide) ?_
                refine lv_iinc (v := iZ (i + 1)) (lv' := [(6, .int (iZ (i + 1))), (5, .int (iZ (ba + x99_0))), (7, .int (iZ (x53_0))), (4, .int (iZ (cn))), (3, .int (iZ (b3))), (2, .int (iZ (b2))), (1, .int (iZ (b1))), (0, .ref (h0 + q))]) hx hb dX4_countLeaves_133 hl (k := 2) rfl (iZ_add _ _) (by decide) rfl (fun ls hl => ?_)
                refine lv_goto (tgt := 9) hx hb dX4_countLeaves_136 (by decide) ?_
                exact ih (i + 1) (cn) (ba + x99_0) μ H locs ls (by rfl) (by (first | ((try clear ex9); (try clear hj99_0); (try clear j99_); (try clear c76_); (try clear c72_); (try clear c60_); (try clear hj53_0); (try clear j53_); (try clear hs2); (try clear hs1); (try clear hmi); (try clear hb1_); (try clear hqb); (try clear hrm); (try clear hm9); (try clear hd); (try clear hm9_); (try clear hexit139); (try clear hb8); (try clear hRs); (try clear hRc); (try clear hRl); (try clear hRf); omega) | omega)) (by (first | ((try clear ex9); (try clear j99_); (try clear c76_); (try clear c72_); (try clear c60_); (try clear hj53_0); (try clear j53_); (try clear hs2); (try clear hs1); (try clear hmi); (try clear c15_); (try clear hb1_); (try clear hqb); (try clear hrm); (try clear hm9); (try clear hi); (try clear hm9_); (try clear hexit139); (try clear hb8); (try clear hRs); (try clear hRc); (try clear hRl); (try clear hRf); omega) | omega)) (by (first | ((try clear ex9); (try clear hj99_0); (try clear j99_); (try clear hj53_0); (try clear j53_); (try clear hs2); (try clear hs1); (try clear hmi); (try clear hb1_); (try clear hd); (try clear hm9_); (try clear hexit139); (try clear hRs); (try clear hRc); (try clear hRl); (try clear hRf); omega) | omega)) hP hS (lv_sub hl [0, 1, 3, 4, 5, 6, 7] rfl)
              refine fz_icmp_ne (tgt := 98) (by constructor <;> (first | ((try clear j99_); (try clear c76_); (try clear c72_); (try clear c60_); (try clear hj53_0); (try clear j53_); (try clear hs2); (try clear hmi); (try clear c15_); (try clear hb1_); (try clear hqb); (try clear hrm); (try clear hm9); (try clear hd); (try clear hi); (try clear hm9_); (try clear hexit139); (try clear hb8); (try clear hRs); (try clear hRc); (try clear hRl); (try clear hRf); omega) | omega)) (by decide) hx hb dX4_countLeaves_91 (by decide) (fun c91_ => ?_) (fun c91_ => ?_)
              · refine lv_iconst (v := iZ 1) hx hb dX4_countLeaves_98 rfl ?_
                exact j99_ (1) (by (first | ((try clear c91_); (try clear j99_); (try clear c76_); (try clear c72_); (try clear c60_); (try clear hj53_0); (try clear j53_); (try clear hs2); (try clear hs1); (try clear hmi); (try clear c15_); (try clear hb1_); (try clear hqb); (try clear hrm); (try clear hm9); (try clear hd); (try clear hi); (try clear hm9_); (try clear hexit139); (try clear hb8); (try clear hRs); (try clear hRc); (try clear hRl); (try clear hRf); omega) | omega))
              · refine lv_iconst (v := iZ (-1)) hx hb dX4_countLeaves_94 rfl ?_
                refine lv_goto (tgt := 99) hx hb dX4_countLeaves_95 (by decide) ?_
                exact j99_ ((-1)) (by (first | ((try clear c91_); (try clear j99_); (try clear c76_); (try clear c72_); (try clear c60_); (try clear hj53_0); (try clear j53_); (try clear hs2); (try clear hs1); (try clear hmi); (try clear c15_); (try clear hb1_); (try clear hqb); (try clear hrm); (try clear hm9); (try clear hd); (try clear hi); (try clear hm9_); (try clear hexit139); (try clear hb8); (try clear hRs); (try clear hRc); (try clear hRl); (try clear hRf); omega) | omega))
        · refine lv_iload_n hx hb dX4_countLeaves_63 rfl (lv_at hl 6 rfl) ?_
          refine fz_if_ne (tgt := 79) (by constructor <;> (first | ((try clear c60_); (try clear hj53_0); (try clear j53_); (try clear hs2); (try clear hs1); (try clear hmi); (try clear c15_); (try clear hb1_); (try clear hqb); (try clear hrm); (try clear hm9); (try clear hd); (try clear hi); (try clear hm9_); (try clear hexit139); (try clear hRs); (try clear hRc); (try clear hRl); (try clear hRf); omega) | omega)) hx hb dX4_countLeaves_64 (by decide) (fun c64_ => ?_) (fun c64_ => ?_)
          · refine lv_iload hx hb dX4_countLeaves_79 (lv_at hl 2 rfl) ?_
            refine lv_aload_n hx hb dX4_countLeaves_81 rfl (lv_at hl 7 rfl) ?_
            refine fz_get (D := (dC, dI)) (ci := 4) (v := .ref (h0 + (q + 1))) (C := RX4) (T := TX4) (N := 8) hx hb hts inG4 hown hK hP (k := q) (by (first | ((try clear c64_); (try clear c60_); (try clear hj53_0); (try clear j53_); (try clear hs2); (try clear hs1); (try clear hmi); (try clear c15_); (try clear hb1_); (try clear hrm); (try clear hm9); (try clear hd); (try clear hi); (try clear hm9_); (try clear hexit139); (try clear hb8); (try clear hRs); (try clear hRc); (try clear hRl); (try clear hRf); omega) | omega)) (F := (sRF h0 q)) (sE_rowO hq) rfl 0 (by decide) (hts _ k77) (fun _ h9 => h9) rfl dX4_countLeaves_82 ?_
            refine lv_iload hx hb dX4_countLeaves_85 (lv_at hl 1 rfl) ?_
            refine fz_ld (k := (q + 1)) (n := rm) hx hb hK hP 0 (by (first | ((try clear c64_); (try clear c60_); (try clear hj53_0); (try clear j53_); (try clear hs2); (try clear hs1); (try clear hmi); (try clear c15_); (try clear hb1_); (try clear hrm); (try clear hm9); (try clear hd); (try clear hi); (try clear hm9_); (try clear hexit139); (try clear hb8); (try clear hRs); (try clear hRc); (try clear hRl); (try clear hRf); omega) | omega)) (sE_rowA (r := 1) hq (by decide)) rfl ⟨by (first | ((try clear c64_); (try clear c60_); (try clear hj53_0); (try clear j53_); (try clear hs2); (try clear hs1); (try clear hmi); (try clear c15_); (try clear hb1_); (try clear hqb); (try clear hrm); (try clear hm9); (try clear hd); (try clear hm9_); (try clear hexit139); (try clear hb8); (try clear hRs); (try clear hRc); (try clear hRl); (try clear hRf); omega) | omega), by (first | ((try clear c64_); (try clear c60_); (try clear hj53_0); (try clear j53_); (try clear hs2); (try clear hs1); (try clear hmi); (try clear hb1_); (try clear hqb); (try clear hm9); (try clear hd); (try clear hi); (try clear hm9_); (try clear hexit139); (try clear hb8); (try clear hRs); (try clear hRc); (try clear hRl); (try clear hRf); omega) | omega)⟩ (by (first | ((try clear c60_); (try clear hj53_0); (try clear j53_); (try clear hs2); (try clear hs1); (try clear hmi); (try clear c15_); (try clear hb1_); (try clear hrm); (try clear hm9); (try clear hd); (try clear hi); (try clear hm9_); (try clear hexit139); (try clear hRs); (try clear hRc); (try clear hRl); (try clear hRf); omega) | omega)) dX4_countLeaves_87 ?_
            refine lv_sipush (v := iZ 515) hx hb dX4_countLeaves_88 rfl ?_
            have j99_ : ∀ (x99_0 : Int), (-1 ≤ x99_0 ∧ x99_0 ≤ 1) → W p l e R s m args below meth c H locs cells slots Q (F0 m 99 ls [.int (iZ (x99_0)), .int (iZ (ba))]) := by
              intro x99_0 hj99_0
              refine lv_iadd hx hb dX4_countLeaves_99 ?_
              refine lv_topi (fun x9 ex9 => ?_)
              obtain rfl : x9 = iZ (ba + x99_0) := ex9.trans (iZ_add _ _)
              refine lv_istore (lv' := [(5, .int (iZ (ba + x99_0))), (7, .int (iZ (x53_0))), (6, .int (iZ (i))), (4, .int (iZ (cn))), (3, .int (iZ (b3))), (2, .int (iZ (b2))), (1, .int (iZ (b1))), (0, .ref (h0 + q))]) hx hb dX4_countLeaves_100 hl (by decide) rfl (fun ls hl => ?_)
              refine lv_goto (tgt := 133) hx hb dX4_countLeaves_102 (by decide) ?_
              refine lv_iinc (v := iZ (i + 1)) (lv' := [(6, .int (iZ (i + 1))), (5, .int (iZ (ba + x99_0))), (7, .int (iZ (x53_0))), (4, .int (iZ (cn))), (3, .int (iZ (b3))), (2, .int (iZ (b2))), (1, .int (iZ (b1))), (0, .ref (h0 + q))]) hx hb dX4_countLeaves_133 hl (k := 2) rfl (iZ_add _ _) (by decide) rfl (fun ls hl => ?_)
              refine lv_goto (tgt := 9) hx hb dX4_countLeaves_136 (by decide) ?_
              exact ih (i + 1) (cn) (ba + x99_0) μ H locs ls (by rfl) (by (first | ((try clear ex9); (try clear hj99_0); (try clear j99_); (try clear c64_); (try clear c60_); (try clear hj53_0); (try clear j53_); (try clear hs2); (try clear hs1); (try clear hmi); (try clear hb1_); (try clear hqb); (try clear hrm); (try clear hm9); (try clear hd); (try clear hm9_); (try clear hexit139); (try clear hb8); (try clear hRs); (try clear hRc); (try clear hRl); (try clear hRf); omega) | omega)) (by (first | ((try clear ex9); (try clear j99_); (try clear c64_); (try clear c60_); (try clear hj53_0); (try clear j53_); (try clear hs2); (try clear hs1); (try clear hmi); (try clear c15_); (try clear hb1_); (try clear hqb); (try clear hrm); (try clear hm9); (try clear hi); (try clear hm9_); (try clear hexit139); (try clear hb8); (try clear hRs); (try clear hRc); (try clear hRl); (try clear hRf); omega) | omega)) (by (first | ((try clear ex9); (try clear hj99_0); (try clear j99_); (try clear c60_); (try clear hj53_0); (try clear j53_); (try clear hs2); (try clear hs1); (try clear hmi); (try clear hb1_); (try clear hd); (try clear hm9_); (try clear hexit139); (try clear hRs); (try clear hRc); (try clear hRl); (try clear hRf); omega) | omega)) hP hS (lv_sub hl [0, 1, 3, 4, 5, 6, 7] rfl)
            refine fz_icmp_ne (tgt := 98) (by constructor <;> (first | ((try clear j99_); (try clear c64_); (try clear c60_); (try clear hj53_0); (try clear j53_); (try clear hs2); (try clear hmi); (try clear c15_); (try clear hb1_); (try clear hqb); (try clear hrm); (try clear hm9); (try clear hd); (try clear hi); (try clear hm9_); (try clear hexit139); (try clear hb8); (try clear hRs); (try clear hRc); (try clear hRl); (try clear hRf); omega) | omega)) (by decide) hx hb dX4_countLeaves_91 (by decide) (fun c91_ => ?_) (fun c91_ => ?_)
            · refine lv_iconst (v := iZ 1) hx hb dX4_countLeaves_98 rfl ?_
              exact j99_ (1) (by (first | ((try clear c91_); (try clear j99_); (try clear c64_); (try clear c60_); (try clear hj53_0); (try clear j53_); (try clear hs2); (try clear hs1); (try clear hmi); (try clear c15_); (try clear hb1_); (try clear hqb); (try clear hrm); (try clear hm9); (try clear hd); (try clear hi); (try clear hm9_); (try clear hexit139); (try clear hb8); (try clear hRs); (try clear hRc); (try clear hRl); (try clear hRf); omega) | omega))
            · refine lv_iconst (v := iZ (-1)) hx hb dX4_countLeaves_94 rfl ?_
              refine lv_goto (tgt := 99) hx hb dX4_countLeaves_95 (by decide) ?_
              exact j99_ ((-1)) (by (first | ((try clear c91_); (try clear j99_); (try clear c64_); (try clear c60_); (try clear hj53_0); (try clear j53_); (try clear hs2); (try clear hs1); (try clear hmi); (try clear c15_); (try clear hb1_); (try clear hqb); (try clear hrm); (try clear hm9); (try clear hd); (try clear hi); (try clear hm9_); (try clear hexit139); (try clear hb8); (try clear hRs); (try clear hRc); (try clear hRl); (try clear hRf); omega) | omega))
          · refine lv_iload hx hb dX4_countLeaves_67 (lv_at hl 0 rfl) ?_
            refine lv_sipush (v := iZ 514) hx hb dX4_countLeaves_69 rfl ?_
            refine fz_icmp_ne (tgt := 105) (by constructor <;> (first | ((try clear c64_); (try clear hj53_0); (try clear j53_); (try clear hs2); (try clear hs1); (try clear hmi); (try clear c15_); (try clear hb1_); (try clear hqb); (try clear hrm); (try clear hm9); (try clear hd); (try clear hi); (try clear hm9_); (try clear hexit139); (try clear hb8); (try clear hRs); (try clear hRc); (try clear hRl); (try clear hRf); omega) | omega)) (by decide) hx hb dX4_countLeaves_72 (by decide) (fun c72_ => ?_) (fun c72_ => ?_)
            · exact j105_
            · refine lv_iload_n hx hb dX4_countLeaves_75 rfl (lv_at hl 5 rfl) ?_
              refine fz_if_eq (tgt := 105) (by constructor <;> (first | ((try clear c64_); (try clear hj53_0); (try clear j53_); (try clear hs2); (try clear hs1); (try clear hmi); (try clear c15_); (try clear hb1_); (try clear hqb); (try clear hrm); (try clear hm9); (try clear hd); (try clear hi); (try clear hm9_); (try clear hexit139); (try clear hb8); (try clear hRs); (try clear hRc); (try clear hRl); (try clear hRf); omega) | omega)) hx hb dX4_countLeaves_76 (by decide) (fun c76_ => ?_) (fun c76_ => ?_)
              · exact j105_
              · refine lv_iload hx hb dX4_countLeaves_79 (lv_at hl 2 rfl) ?_
                refine lv_aload_n hx hb dX4_countLeaves_81 rfl (lv_at hl 7 rfl) ?_
                refine fz_get (D := (dC, dI)) (ci := 4) (v := .ref (h0 + (q + 1))) (C := RX4) (T := TX4) (N := 8) hx hb hts inG4 hown hK hP (k := q) (by (first | ((try clear c76_); (try clear c64_); (try clear hj53_0); (try clear j53_); (try clear hs2); (try clear hs1); (try clear hmi); (try clear c15_); (try clear hb1_); (try clear hqb); (try clear hrm); (try clear hm9); (try clear hd); (try clear hi); (try clear hm9_); (try clear hexit139); (try clear hb8); (try clear hRs); (try clear hRc); (try clear hRl); (try clear hRf); omega) | omega)) (F := (sRF h0 q)) (sE_rowO hq) rfl 0 (by decide) (hts _ k77) (fun _ h9 => h9) rfl dX4_countLeaves_82 ?_
                refine lv_iload hx hb dX4_countLeaves_85 (lv_at hl 1 rfl) ?_
                refine fz_ld (k := (q + 1)) (n := rm) hx hb hK hP 0 (by (first | ((try clear c76_); (try clear c64_); (try clear hj53_0); (try clear j53_); (try clear hs2); (try clear hs1); (try clear hmi); (try clear c15_); (try clear hb1_); (try clear hqb); (try clear hrm); (try clear hm9); (try clear hd); (try clear hi); (try clear hm9_); (try clear hexit139); (try clear hb8); (try clear hRs); (try clear hRc); (try clear hRl); (try clear hRf); omega) | omega)) (sE_rowA (r := 1) hq (by decide)) rfl ⟨by (first | ((try clear c76_); (try clear c64_); (try clear hj53_0); (try clear j53_); (try clear hs2); (try clear hs1); (try clear hmi); (try clear c15_); (try clear hb1_); (try clear hqb); (try clear hrm); (try clear hm9); (try clear hd); (try clear hi); (try clear hm9_); (try clear hexit139); (try clear hb8); (try clear hRs); (try clear hRc); (try clear hRl); (try clear hRf); omega) | omega), by (first | ((try clear c76_); (try clear c64_); (try clear hj53_0); (try clear j53_); (try clear hs2); (try clear hs1); (try clear hmi); (try clear c15_); (try clear hb1_); (try clear hqb); (try clear hrm); (try clear hm9); (try clear hd); (try clear hi); (try clear hm9_); (try clear hexit139); (try clear hb8); (try clear hRs); (try clear hRc); (try clear hRl); (try clear hRf); omega) | omega)⟩ (by (first | ((try clear c76_); (try clear c64_); (try clear hj53_0); (try clear j53_); (try clear hs2); (try clear hs1); (try clear hmi); (try clear c15_); (try clear hb1_); (try clear hqb); (try clear hrm); (try clear hm9); (try clear hd); (try clear hi); (try clear hm9_); (try clear hexit139); (try clear hb8); (try clear hRs); (try clear hRc); (try clear hRl); (try clear hRf); omega) | omega)) dX4_countLeaves_87 ?_
                refine lv_sipush (v := iZ 515) hx hb dX4_countLeaves_88 rfl ?_
                have j99_ : ∀ (x99_0 : Int), (-1 ≤ x99_0 ∧ x99_0 ≤ 1) → W p l e R s m args below meth c H locs cells slots Q (F0 m 99 ls [.int (iZ (x99_0)), .int (iZ (ba))]) := by
                  intro x99_0 hj99_0
                  refine lv_iadd hx hb dX4_countLeaves_99 ?_
                  refine lv_topi (fun x9 ex9 => ?_)
                  obtain rfl : x9 = iZ (ba + x99_0) := ex9.trans (iZ_add _ _)
                  refine lv_istore (lv' := [(5, .int (iZ (ba + x99_0))), (7, .int (iZ (x53_0))), (6, .int (iZ (i))), (4, .int (iZ (cn))), (3, .int (iZ (b3))), (2, .int (iZ (b2))), (1, .int (iZ (b1))), (0, .ref (h0 + q))]) hx hb dX4_countLeaves_100 hl (by decide) rfl (fun ls hl => ?_)
                  refine lv_goto (tgt := 133) hx hb dX4_countLeaves_102 (by decide) ?_
                  refine lv_iinc (v := iZ (i + 1)) (lv' := [(6, .int (iZ (i + 1))), (5, .int (iZ (ba + x99_0))), (7, .int (iZ (x53_0))), (4, .int (iZ (cn))), (3, .int (iZ (b3))), (2, .int (iZ (b2))), (1, .int (iZ (b1))), (0, .ref (h0 + q))]) hx hb dX4_countLeaves_133 hl (k := 2) rfl (iZ_add _ _) (by decide) rfl (fun ls hl => ?_)
                  refine lv_goto (tgt := 9) hx hb dX4_countLeaves_136 (by decide) ?_
                  exact ih (i + 1) (cn) (ba + x99_0) μ H locs ls (by rfl) (by (first | ((try clear ex9); (try clear hj99_0); (try clear j99_); (try clear c76_); (try clear c64_); (try clear hj53_0); (try clear j53_); (try clear hs2); (try clear hs1); (try clear hmi); (try clear c15_); (try clear hb1_); (try clear hqb); (try clear hrm); (try clear hm9); (try clear hd); (try clear hi); (try clear hm9_); (try clear hexit139); (try clear hb8); (try clear hRs); (try clear hRc); (try clear hRl); (try clear hRf); omega) | omega)) (by (first | ((try clear ex9); (try clear hj99_0); (try clear j99_); (try clear c76_); (try clear c64_); (try clear hj53_0); (try clear j53_); (try clear hs2); (try clear hs1); (try clear hmi); (try clear c15_); (try clear hb1_); (try clear hqb); (try clear hrm); (try clear hm9); (try clear hd); (try clear hi); (try clear hm9_); (try clear hexit139); (try clear hb8); (try clear hRs); (try clear hRc); (try clear hRl); (try clear hRf); omega) | omega)) (by (first | ((try clear ex9); (try clear hj99_0); (try clear j99_); (try clear c76_); (try clear c64_); (try clear hj53_0); (try clear j53_); (try clear hs2); (try clear hs1); (try clear hmi); (try clear c15_); (try clear hb1_); (try clear hqb); (try clear hrm); (try clear hm9); (try clear hd); (try clear hi); (try clear hm9_); (try clear hexit139); (try clear hb8); (try clear hRs); (try clear hRc); (try clear hRl); (try clear hRf); omega) | omega)) hP hS (lv_sub hl [0, 1, 3, 4, 5, 6, 7] rfl)
                refine fz_icmp_ne (tgt := 98) (by constructor <;> (first | ((try clear j99_); (try clear c76_); (try clear c64_); (try clear hj53_0); (try clear j53_); (try clear hs2); (try clear hs1); (try clear hmi); (try clear c15_); (try clear hb1_); (try clear hqb); (try clear hrm); (try clear hm9); (try clear hd); (try clear hi); (try clear hm9_); (try clear hexit139); (try clear hb8); (try clear hRs); (try clear hRc); (try clear hRl); (try clear hRf); omega) | omega)) (by decide) hx hb dX4_countLeaves_91 (by decide) (fun c91_ => ?_) (fun c91_ => ?_)
                · refine lv_iconst (v := iZ 1) hx hb dX4_countLeaves_98 rfl ?_
                  exact j99_ (1) (by (first | ((try clear c91_); (try clear j99_); (try clear c76_); (try clear c64_); (try clear hj53_0); (try clear j53_); (try clear hs2); (try clear hs1); (try clear hmi); (try clear c15_); (try clear hb1_); (try clear hqb); (try clear hrm); (try clear hm9); (try clear hd); (try clear hi); (try clear hm9_); (try clear hexit139); (try clear hb8); (try clear hRs); (try clear hRc); (try clear hRl); (try clear hRf); omega) | omega))
                · refine lv_iconst (v := iZ (-1)) hx hb dX4_countLeaves_94 rfl ?_
                  refine lv_goto (tgt := 99) hx hb dX4_countLeaves_95 (by decide) ?_
                  exact j99_ ((-1)) (by (first | ((try clear c91_); (try clear j99_); (try clear c76_); (try clear c64_); (try clear hj53_0); (try clear j53_); (try clear hs2); (try clear hs1); (try clear hmi); (try clear c15_); (try clear hb1_); (try clear hqb); (try clear hrm); (try clear hm9); (try clear hd); (try clear hi); (try clear hm9_); (try clear hexit139); (try clear hb8); (try clear hRs); (try clear hRc); (try clear hRl); (try clear hRf); omega) | omega))
      refine fz_icmp_ne (tgt := 46) (by constructor <;> (first | ((try clear j53_); (try clear hs2); (try clear hmi); (try clear c15_); (try clear hb1_); (try clear hqb); (try clear hrm); (try clear hm9); (try clear hd); (try clear hi); (try clear hm9_); (try clear hexit139); (try clear hb8); (try clear hRs); (try clear hRc); (try clear hRl); (try clear hRf); omega) | omega)) (by decide) hx hb dX4_countLeaves_28 (by decide) (fun c28_ => ?_) (fun c28_ => ?_)
      · refine lv_aload_n hx hb dX4_countLeaves_46 rfl (lv_at hl 6 rfl) ?_
        refine fz_get (D := (dC, dI)) (ci := 4) (v := .ref (h0 + (q + 1))) (C := RX4) (T := TX4) (N := 8) hx hb hts inG4 hown hK hP (k := q) (by (first | ((try clear c28_); (try clear j53_); (try clear hs2); (try clear hs1); (try clear hmi); (try clear c15_); (try clear hb1_); (try clear hrm); (try clear hm9); (try clear hd); (try clear hi); (try clear hm9_); (try clear hexit139); (try clear hb8); (try clear hRs); (try clear hRc); (try clear hRl); (try clear hRf); omega) | omega)) (F := (sRF h0 q)) (sE_rowO hq) rfl 0 (by decide) (hts _ k77) (fun _ h9 => h9) rfl dX4_countLeaves_47 ?_
        refine lv_iload hx hb dX4_countLeaves_50 (lv_at hl 0 rfl) ?_
        refine fz_ld (k := (q + 1)) (n := rm) hx hb hK hP 0 (by (first | ((try clear c28_); (try clear j53_); (try clear hs2); (try clear hs1); (try clear hmi); (try clear c15_); (try clear hb1_); (try clear hrm); (try clear hm9); (try clear hd); (try clear hi); (try clear hm9_); (try clear hexit139); (try clear hb8); (try clear hRs); (try clear hRc); (try clear hRl); (try clear hRf); omega) | omega)) (sE_rowA (r := 1) hq (by decide)) rfl ⟨by (first | ((try clear c28_); (try clear j53_); (try clear hs2); (try clear hs1); (try clear hmi); (try clear c15_); (try clear hb1_); (try clear hqb); (try clear hrm); (try clear hm9); (try clear hd); (try clear hm9_); (try clear hexit139); (try clear hb8); (try clear hRs); (try clear hRc); (try clear hRl); (try clear hRf); omega) | omega), by (first | ((try clear c28_); (try clear j53_); (try clear hs2); (try clear hs1); (try clear hmi); (try clear hb1_); (try clear hqb); (try clear hm9); (try clear hd); (try clear hi); (try clear hm9_); (try clear hexit139); (try clear hb8); (try clear hRs); (try clear hRc); (try clear hRl); (try clear hRf); omega) | omega)⟩ (by (first | ((try clear j53_); (try clear hs2); (try clear hmi); (try clear c15_); (try clear hb1_); (try clear hrm); (try clear hm9); (try clear hd); (try clear hi); (try clear hm9_); (try clear hexit139); (try clear hb8); (try clear hRs); (try clear hRc); (try clear hRl); (try clear hRf); omega) | omega)) dX4_countLeaves_52 ?_
        exact j53_ (μ (q + 1) (i).toNat) (by (first | ((try clear c28_); (try clear j53_); (try clear hs2); (try clear hmi); (try clear c15_); (try clear hb1_); (try clear hqb); (try clear hrm); (try clear hm9); (try clear hd); (try clear hi); (try clear hm9_); (try clear hexit139); (try clear hb8); (try clear hRs); (try clear hRc); (try clear hRl); (try clear hRf); omega) | omega))
      · refine lv_aload_n hx hb dX4_countLeaves_31 rfl (lv_at hl 6 rfl) ?_
        refine fz_get (D := (dC, dI)) (ci := 4) (v := .ref (h0 + (q + 1))) (C := RX4) (T := TX4) (N := 8) hx hb hts inG4 hown hK hP (k := q) (by (first | ((try clear c28_); (try clear j53_); (try clear hs2); (try clear hs1); (try clear hmi); (try clear c15_); (try clear hb1_); (try clear hrm); (try clear hm9); (try clear hd); (try clear hi); (try clear hm9_); (try clear hexit139); (try clear hb8); (try clear hRs); (try clear hRc); (try clear hRl); (try clear hRf); omega) | omega)) (F := (sRF h0 q)) (sE_rowO hq) rfl 0 (by decide) (hts _ k77) (fun _ h9 => h9) rfl dX4_countLeaves_32 ?_
        refine lv_aload_n hx hb dX4_countLeaves_35 rfl (lv_at hl 6 rfl) ?_
        refine fz_get (D := (dC, dI)) (ci := 4) (v := .ref (h0 + (q + 2))) (C := RX4) (T := TX4) (N := 8) hx hb hts inG4 hown hK hP (k := q) (by (first | ((try clear c28_); (try clear j53_); (try clear hs2); (try clear hs1); (try clear hmi); (try clear c15_); (try clear hb1_); (try clear hrm); (try clear hm9); (try clear hd); (try clear hi); (try clear hm9_); (try clear hexit139); (try clear hb8); (try clear hRs); (try clear hRc); (try clear hRl); (try clear hRf); omega) | omega)) (F := (sRF h0 q)) (sE_rowO hq) rfl 1 (by decide) (hts _ k83) (fun _ h9 => h9) rfl dX4_countLeaves_36 ?_
        refine lv_iload hx hb dX4_countLeaves_39 (lv_at hl 0 rfl) ?_
        refine fz_ld (k := (q + 2)) (n := rm) hx hb hK hP 0 (by (first | ((try clear c28_); (try clear j53_); (try clear hs2); (try clear hs1); (try clear hmi); (try clear c15_); (try clear hb1_); (try clear hrm); (try clear hm9); (try clear hd); (try clear hi); (try clear hm9_); (try clear hexit139); (try clear hb8); (try clear hRs); (try clear hRc); (try clear hRl); (try clear hRf); omega) | omega)) (sE_rowA (r := 2) hq (by decide)) rfl ⟨by (first | ((try clear c28_); (try clear j53_); (try clear hs2); (try clear hs1); (try clear hmi); (try clear c15_); (try clear hb1_); (try clear hqb); (try clear hrm); (try clear hm9); (try clear hd); (try clear hm9_); (try clear hexit139); (try clear hb8); (try clear hRs); (try clear hRc); (try clear hRl); (try clear hRf); omega) | omega), by (first | ((try clear c28_); (try clear j53_); (try clear hs2); (try clear hs1); (try clear hmi); (try clear hb1_); (try clear hqb); (try clear hm9); (try clear hd); (try clear hi); (try clear hm9_); (try clear hexit139); (try clear hb8); (try clear hRs); (try clear hRc); (try clear hRl); (try clear hRf); omega) | omega)⟩ (by (first | ((try clear c28_); (try clear j53_); (try clear hs2); (try clear hs1); (try clear hmi); (try clear c15_); (try clear hb1_); (try clear hrm); (try clear hm9); (try clear hd); (try clear hi); (try clear hm9_); (try clear hexit139); (try clear hb8); (try clear hRs); (try clear hRc); (try clear hRl); (try clear hRf); omega) | omega)) dX4_countLeaves_41 ?_
        refine fz_ld (k := (q + 1)) (n := rm) hx hb hK hP 0 (by (first | ((try clear c28_); (try clear j53_); (try clear hs2); (try clear hs1); (try clear hmi); (try clear c15_); (try clear hb1_); (try clear hrm); (try clear hm9); (try clear hd); (try clear hi); (try clear hm9_); (try clear hexit139); (try clear hb8); (try clear hRs); (try clear hRc); (try clear hRl); (try clear hRf); omega) | omega)) (sE_rowA (r := 1) hq (by decide)) rfl ⟨by (first | ((try clear c28_); (try clear j53_); (try clear hs2); (try clear hs1); (try clear c15_); (try clear hb1_); (try clear hqb); (try clear hrm); (try clear hm9); (try clear hd); (try clear hi); (try clear hm9_); (try clear hexit139); (try clear hb8); (try clear hRs); (try clear hRc); (try clear hRl); (try clear hRf); omega) | omega), by (first | ((try clear c28_); (try clear j53_); (try clear hs2); (try clear hs1); (try clear c15_); (try clear hb1_); (try clear hqb); (try clear hm9); (try clear hd); (try clear hi); (try clear hm9_); (try clear hexit139); (try clear hb8); (try clear hRs); (try clear hRc); (try clear hRl); (try clear hRf); omega) | omega)⟩ (by (first | ((try clear c28_); (try clear j53_); (try clear hs2); (try clear hs1); (try clear hmi); (try clear c15_); (try clear hb1_); (try clear hrm); (try clear hm9); (try clear hd); (try clear hi); (try clear hm9_); (try clear hexit139); (try clear hb8); (try clear hRs); (try clear hRc); (try clear hRl); (try clear hRf); omega) | omega)) dX4_countLeaves_42 ?_
        refine lv_goto (tgt := 53) hx hb dX4_countLeaves_43 (by decide) ?_
        exact j53_ (μ (q + 1) (μ (q + 2) (i).toNat).toNat) (by (first | ((try clear c28_); (try clear j53_); (try clear hs1); (try clear hmi); (try clear c15_); (try clear hb1_); (try clear hqb); (try clear hrm); (try clear hm9); (try clear hd); (try clear hi); (try clear hm9_); (try clear hexit139); (try clear hb8); (try clear hRs); (try clear hRc); (try clear hRl); (try clear hRf); omega) | omega))
set_option maxHeartbeats 4000000 in
set_option maxRecDepth 100000 in
theorem s_RcountLeaves (l : Launch) (dC : Nat → ClassId) (dI : Nat → Nat → Nat) (cI cZ cII cIII : ClassId) (h0 sz : Nat) (μ : va_M) (q : Nat) (rm : Nat) (b1 : Int) (b2 : Int) (b3 : Int) (hq : rowB q rm) (hG : rG μ q rm) (hbb : (0 ≤ b1 ∧ b1 ≤ 1) ∧ (0 ≤ b2 ∧ b2 ≤ 1) ∧ 0 ≤ b3 ∧ b3 ≤ 1) : Met l yX4_countLeaves (Cond.code yX4_countLeaves cX4_countLeaves 8 (some .int) :: wsG) ({ frames := 2, cells := 0, slots := 0, locals := 34 } : Room) (va_Pc [.ref (h0 + q), .int (iZ (b1)), .int (iZ (b2)), .int (iZ (b3))] (fun U => U.heap.size = sz ∧ va_P (dC, dI) vwCl (fw (sE cI cZ cII cIII h0) h0 233 μ) U.heap ∧ va_K (dC, dI) vwCl (sT cI cZ cII cIII) U ∧ xM U)) (va_Qi (fun (r9 : Int32) (u : va_M × Int) => r9 = iZ u.2 ∧ (fun (u : va_M) (r : Int) => u = μ) u.1 u.2) (fun u t => va_P (dC, dI) vwCl (fw (sE cI cZ cII cIII h0) h0 233 u.1) t.heap ∧ va_K (dC, dI) vwCl (sT cI cZ cII cIII) t) (fA h0 233 sz)) 0 0 (fA h0 233 sz) := by
  refine Met.ofW (cc := cX4_countLeaves) (maxL := 8) (ret := (some .int)) (by decide) rfl ?_
  intro p e s m args below meth c s₁ B hml hv
  obtain ⟨rfl, hsz, hP, hK, hM⟩ := hv
  have hx := B.exec
  have hb := B.bytes
  have hr := B.returns
  have hts : ∀ w ∈ wsG, w.before _ s = true := hG_of (atoms_spec (ws := (Cond.code yX4_countLeaves cX4_countLeaves 8 (some .int) :: wsG)) B.pre)
  have hown : s.vm.findClass RX4 = some m.cls := findClass_of_methodNamed B.named
  have hlocks := B.notSynchronized
  subst hsz
  have hS : va_S (fA h0 233 s.heap.size) s.heap s.heap [] := va_S.rf
  have hl := lv_entry ([.ref (h0 + q), .int (iZ (b1)), .int (iZ (b2)), .int (iZ (b3))]) (n := 8) (Nat.le_of_ble_eq_true rfl)
  rw [lg_entry_eq]
  generalize (lg_sl ([.ref (h0 + q), .int (iZ (b1)), .int (iZ (b2)), .int (iZ (b3))]) ++ List.replicate (8 - (lg_sl ([.ref (h0 + q), .int (iZ (b1)), .int (iZ (b2)), .int (iZ (b3))])).length) Slot.unset).toArray = ls at hl ⊢
  have hl : lv_has ls 8 [(0, .ref (h0 + q)), (1, .int (iZ (b1))), (2, .int (iZ (b2))), (3, .int (iZ (b3)))] := hl
  have hqb := rowB_b hq
  refine lv_iconst (v := iZ 0) hx hb dX4_countLeaves_0 rfl ?_
  refine lv_istore (lv' := [(4, .int (iZ (0))), (0, .ref (h0 + q)), (1, .int (iZ (b1))), (2, .int (iZ (b2))), (3, .int (iZ (b3)))]) hx hb dX4_countLeaves_1 hl (by decide) rfl (fun ls hl => ?_)
  refine lv_iconst (v := iZ 0) hx hb dX4_countLeaves_3 rfl ?_
  refine lv_istore (lv' := [(5, .int (iZ (0))), (4, .int (iZ (0))), (0, .ref (h0 + q)), (1, .int (iZ (b1))), (2, .int (iZ (b2))), (3, .int (iZ (b3)))]) hx hb dX4_countLeaves_4 hl (by decide) rfl (fun ls hl => ?_)
  refine lv_iconst (v := iZ 0) hx hb dX4_countLeaves_6 rfl ?_
  refine lv_istore (lv' := [(6, .int (iZ (0))), (5, .int (iZ (0))), (4, .int (iZ (0))), (0, .ref (h0 + q)), (1, .int (iZ (b1))), (2, .int (iZ (b2))), (3, .int (iZ (b3)))]) hx hb dX4_countLeaves_7 hl (by decide) rfl (fun ls hl => ?_)
  refine LX4_countLeaves_9 hx hb hml hown hts hK hM (Nat.le_of_ble_eq_true rfl) (Nat.le_of_ble_eq_true rfl) (Nat.le_of_ble_eq_true rfl) (Nat.le_of_ble_eq_true rfl) (μ) (q) (rm) (b1) (b2) (b3) (by assumption) (by assumption) (by exact hbb) ?_ _ (0) (0) (0) μ s.heap [] ls (by rfl) (by have := rG_len hG; (first | ((try clear hqb); (try clear hsz); (try clear s₁); (try clear hbb); omega) | omega)) (by (first | ((try clear hqb); (try clear hsz); (try clear s₁); (try clear hbb); omega) | omega)) (Nat.lt_succ_self _) hP hS (lv_sub hl [0, 1, 2, 6, 5, 4, 3] rfl)
  · intro i_3 cn_3 ba_3 μ3_ H locs ls q1_3 hP hS hl
    have hl : lv_has ls 8 [(4, .int (iZ (cn_3)))] := hl
    have hPn139 := hP
    obtain rfl := q1_3
    have hP := hPn139
    refine lv_iload hx hb dX4_countLeaves_139 (lv_at hl 0 rfl) ?_
    exact W.iret (v := iZ (cn_3)) hx hb hr (fun t9 ht9 hW9 => ⟨⟨iZ (cn_3), (μ3_, cn_3), rfl, ⟨rfl, (by
                dsimp only
                all_goals exact rfl)⟩, by rw [ht9]; exact hP, va_K.moved hW9.alike hK⟩, hS.F ht9⟩) hS.2.2 dX4_countLeaves_141
set_option maxHeartbeats 4000000 in
set_option maxRecDepth 100000 in
theorem s_RsortAt (l : Launch) (dC : Nat → ClassId) (dI : Nat → Nat → Nat) (cI cZ cII cIII : ClassId) (h0 sz : Nat) (μ : va_M) (q : Nat) (rm : Nat) (p9 : Int) (hq : rowB q rm) (h_p : 0 ≤ p9 ∧ p9 < rm) (hsg : sgA μ (q + 1)) : Met l yX4_sortAt (Cond.code yX4_sortAt cX4_sortAt 2 (some .int) :: wsG) ({ frames := 2, cells := 0, slots := 0, locals := 34 } : Room) (va_Pc [.ref (h0 + q), .int (iZ (p9))] (fun U => U.heap.size = sz ∧ va_P (dC, dI) vwCl (fw (sE cI cZ cII cIII h0) h0 233 μ) U.heap ∧ va_K (dC, dI) vwCl (sT cI cZ cII cIII) U ∧ xM U)) (va_Qi (fun (r9 : Int32) (u : va_M × Int) => r9 = iZ u.2 ∧ (fun (u : va_M) (r : Int) => u = μ) u.1 u.2) (fun u t => va_P (dC, dI) vwCl (fw (sE cI cZ cII cIII h0) h0 233 u.1) t.heap ∧ va_K (dC, dI) vwCl (sT cI cZ cII cIII) t) (fA h0 233 sz)) 0 0 (fA h0 233 sz) := by
  refine Met.ofW (cc := cX4_sortAt) (maxL := 2) (ret := (some .int)) (by decide) rfl ?_
  intro p e s m args below meth c s₁ B hml hv
  obtain ⟨rfl, hsz, hP, hK, hM⟩ := hv
  have hx := B.exec
  have hb := B.bytes
  have hr := B.returns
  have hts : ∀ w ∈ wsG, w.before _ s = true := hG_of (atoms_spec (ws := (Cond.code yX4_sortAt cX4_sortAt 2 (some .int) :: wsG)) B.pre)
  have hown : s.vm.findClass RX4 = some m.cls := findClass_of_methodNamed B.named
  have hlocks := B.notSynchronized
  subst hsz
  have hS : va_S (fA h0 233 s.heap.size) s.heap s.heap [] := va_S.rf
  have hl := lv_entry ([.ref (h0 + q), .int (iZ (p9))]) (n := 2) (Nat.le_of_ble_eq_true rfl)
  rw [lg_entry_eq]
  generalize (lg_sl ([.ref (h0 + q), .int (iZ (p9))]) ++ List.replicate (2 - (lg_sl ([.ref (h0 + q), .int (iZ (p9))])).length) Slot.unset).toArray = ls at hl ⊢
  have hl : lv_has ls 2 [(0, .ref (h0 + q)), (1, .int (iZ (p9)))] := hl
  have hqb := rowB_b hq
  have hs1 := hsg p9.toNat
  refine lv_aload_n hx hb dX4_sortAt_0 rfl (lv_at hl 0 rfl) ?_
  refine fz_get (D := (dC, dI)) (ci := 4) (v := .ref (h0 + (q + 1))) (C := RX4) (T := TX4) (N := 8) hx hb hts inG4 hown hK hP (k := q) (by (first | ((try clear hs1); (try clear hsz); (try clear s₁); (try clear h_p); omega) | omega)) (F := (sRF h0 q)) (sE_rowO hq) rfl 0 (by decide) (hts _ k77) (fun _ h9 => h9) rfl dX4_sortAt_1 ?_
  refine lv_iload_n hx hb dX4_sortAt_4 rfl (lv_at hl 1 rfl) ?_
  refine fz_ld (k := (q + 1)) (n := rm) hx hb hK hP 0 (by (first | ((try clear hs1); (try clear hsz); (try clear s₁); (try clear h_p); omega) | omega)) (sE_rowA (r := 1) hq (by decide)) rfl ⟨by (first | ((try clear hs1); (try clear hqb); (try clear hsz); (try clear s₁); omega) | omega), by (first | ((try clear hs1); (try clear hqb); (try clear hsz); (try clear s₁); omega) | omega)⟩ (by (first | ((try clear hs1); (try clear hsz); (try clear s₁); (try clear h_p); omega) | omega)) dX4_sortAt_5 ?_
  refine va_calli (va_runSN (As := [.int (iZ (μ (q + 1) (p9).toNat))]) (rest := []) ⟨hx, hb, hml, hown, hts⟩ (s_isTag l dC dI cI cZ cII cIII h0 s.heap.size μ (μ (q + 1) (p9).toNat) (by first | assumption | (first | ((try clear hqb); (try clear hsz); (try clear s₁); (try clear h_p); omega) | omega) | exact ⟨by omega, by omega⟩)) ⟨va_cnB (host := "PageSkeleton") 1 hts (gI_G k486) rfl rfl rfl (xM_nest hM 20 rfl) (hts _ k1) (by decide +kernel) ⟨Nat.le_of_ble_eq_true rfl, Nat.le_of_ble_eq_true rfl⟩, hts _ k485, trivial⟩ ⟨fun a U g mk q => by obtain ⟨q0, q1, qP, qK, qM⟩ := q; exact ⟨q0, q1, qP, va_K.moved (u := U) (U := U.calling g mk a) (Vm.Alike.refl U.vm) qK, qM⟩, fun U hU hW => ⟨rfl, by rw [hU], by rw [hU]; exact hP, va_K.moved hW.alike hK, xM_warm hW hM⟩⟩ rfl rfl hl.1 rfl (lv_room (Nat.le_of_ble_eq_true rfl)) dX4_sortAt_6 ⟨Nat.le_of_ble_eq_true rfl, Nat.le_of_ble_eq_true rfl⟩) hS (fun q _ h => fA_le hS.1 q h) (fA_le hS.1) (fun r9 u9 t9 H1 locs ht9 hvm9 hw9 hB9 hz9 hk9 hS => ?_)
  obtain ⟨μ1, r2⟩ := u9
  obtain ⟨hP, -⟩ := hB9
  rw [ht9] at hP
  generalize H1 = H at hP hS ⊢
  obtain ⟨e9, hw9⟩ := hw9
  have e9 : r9 = iZ r2 := e9
  subst e9
  simp only at hP hw9
  have hμ1 := hw9; clear hw9
  rw [hμ1.1] at hP; have hμ1 := hμ1.2
  have hlf := if_01 hμ1
  refine fz_if_eq (tgt := 14) (by constructor <;> (first | ((try clear hμ1); (try clear hz9); (try clear hs1); (try clear hqb); (try clear hsz); (try clear s₁); (try clear h_p); omega) | omega)) hx hb dX4_sortAt_9 (by decide) (fun c9_ => ?_) (fun c9_ => ?_)
  · refine lv_aload_n hx hb dX4_sortAt_14 rfl (lv_at hl 0 rfl) ?_
    refine fz_get (D := (dC, dI)) (ci := 4) (v := .ref (h0 + (q + 1))) (C := RX4) (T := TX4) (N := 8) hx hb hts inG4 hown hK hP (k := q) (by (first | ((try clear c9_); (try clear hlf); (try clear hμ1); (try clear μ1); (try clear hz9); (try clear hs1); (try clear hsz); (try clear s₁); (try clear h_p); omega) | omega)) (F := (sRF h0 q)) (sE_rowO hq) rfl 0 (by decide) (hts _ k77) (fun _ h9 => h9) rfl dX4_sortAt_15 ?_
    refine lv_iload_n hx hb dX4_sortAt_18 rfl (lv_at hl 1 rfl) ?_
    refine fz_ld (k := (q + 1)) (n := rm) hx hb hK hP 0 (by (first | ((try clear c9_); (try clear hlf); (try clear hμ1); (try clear μ1); (try clear hz9); (try clear hs1); (try clear hsz); (try clear s₁); (try clear h_p); omega) | omega)) (sE_rowA (r := 1) hq (by decide)) rfl ⟨by (first | ((try clear c9_); (try clear hlf); (try clear hμ1); (try clear μ1); (try clear hz9); (try clear hs1); (try clear hqb); (try clear hsz); (try clear s₁); omega) | omega), by (first | ((try clear c9_); (try clear hlf); (try clear hμ1); (try clear μ1); (try clear hz9); (try clear hs1); (try clear hqb); (try clear hsz); (try clear s₁); omega) | omega)⟩ (by (first | ((try clear hμ1); (try clear hz9); (try clear hsz); (try clear s₁); (try clear h_p); omega) | omega)) dX4_sortAt_19 ?_
    refine va_calli (va_runSN (As := [.int (iZ (μ (q + 1) (p9).toNat))]) (rest := []) ⟨hx, hb, hml, hown, hts⟩ (s_isWord l dC dI cI cZ cII cIII h0 H.size μ (μ (q + 1) (p9).toNat) (by first | assumption | (first | ((try clear c9_); (try clear hlf); (try clear hμ1); (try clear μ1); (try clear hz9); (try clear hqb); (try clear hsz); (try clear s₁); (try clear h_p); omega) | omega) | exact ⟨by omega, by omega⟩)) ⟨va_cnB (host := "PageSkeleton") 1 hts (gI_G k569) rfl rfl rfl (xM_nest hM 21 rfl) (hts _ k1) (by decide +kernel) ⟨Nat.le_of_ble_eq_true rfl, Nat.le_of_ble_eq_true rfl⟩, hts _ k568, trivial⟩ ⟨fun a U g mk q => by obtain ⟨q0, q1, qP, qK, qM⟩ := q; exact ⟨q0, q1, qP, va_K.moved (u := U) (U := U.calling g mk a) (Vm.Alike.refl U.vm) qK, qM⟩, fun U hU hW => ⟨rfl, by rw [hU], by rw [hU]; exact hP, va_K.moved hW.alike hK, xM_warm hW hM⟩⟩ rfl rfl hl.1 rfl (lv_room (Nat.le_of_ble_eq_true rfl)) dX4_sortAt_20 ⟨Nat.le_of_ble_eq_true rfl, Nat.le_of_ble_eq_true rfl⟩) hS (fun q _ h => fA_le hS.1 q h) (fA_le hS.1) (fun r9 u9 t9 H1 locs ht9 hvm9 hw9 hB9 hz9 hk9 hS => ?_)
    obtain ⟨μ3, r4⟩ := u9
    obtain ⟨hP, -⟩ := hB9
    rw [ht9] at hP
    generalize H1 = H at hP hS ⊢
    obtain ⟨e9, hw9⟩ := hw9
    have e9 : r9 = iZ r4 := e9
    subst e9
    simp only at hP hw9
    have hμ3 := hw9; clear hw9
    rw [hμ3.1] at hP; have hμ3 := hμ3.2
    have hlf2 := if_01 hμ3
    refine fz_if_eq (tgt := 30) (by constructor <;> (first | ((try clear hμ3); (try clear hz9); (try clear c9_); (try clear hlf); (try clear hμ1); (try clear μ1); (try clear hs1); (try clear hqb); (try clear hsz); (try clear s₁); (try clear h_p); omega) | omega)) hx hb dX4_sortAt_23 (by decide) (fun c23_ => ?_) (fun c23_ => ?_)
    · refine lv_aload_n hx hb dX4_sortAt_30 rfl (lv_at hl 0 rfl) ?_
      refine fz_get (D := (dC, dI)) (ci := 4) (v := .ref (h0 + (q + 1))) (C := RX4) (T := TX4) (N := 8) hx hb hts inG4 hown hK hP (k := q) (by (first | ((try clear c23_); (try clear hlf2); (try clear hμ3); (try clear μ3); (try clear hz9); (try clear c9_); (try clear hlf); (try clear hμ1); (try clear μ1); (try clear hs1); (try clear hsz); (try clear s₁); (try clear h_p); omega) | omega)) (F := (sRF h0 q)) (sE_rowO hq) rfl 0 (by decide) (hts _ k77) (fun _ h9 => h9) rfl dX4_sortAt_31 ?_
      refine lv_iload_n hx hb dX4_sortAt_34 rfl (lv_at hl 1 rfl) ?_
      refine fz_ld (k := (q + 1)) (n := rm) hx hb hK hP 0 (by (first | ((try clear c23_); (try clear hlf2); (try clear hμ3); (try clear μ3); (try clear hz9); (try clear c9_); (try clear hlf); (try clear hμ1); (try clear μ1); (try clear hs1); (try clear hsz); (try clear s₁); (try clear h_p); omega) | omega)) (sE_rowA (r := 1) hq (by decide)) rfl ⟨by (first | ((try clear c23_); (try clear hlf2); (try clear hμ3); (try clear μ3); (try clear hz9); (try clear c9_); (try clear hlf); (try clear hμ1); (try clear μ1); (try clear hs1); (try clear hqb); (try clear hsz); (try clear s₁); omega) | omega), by (first | ((try clear c23_); (try clear hlf2); (try clear hμ3); (try clear μ3); (try clear hz9); (try clear c9_); (try clear hlf); (try clear hμ1); (try clear μ1); (try clear hs1); (try clear hqb); (try clear hsz); (try clear s₁); omega) | omega)⟩ (by (first | ((try clear hμ3); (try clear hz9); (try clear hμ1); (try clear hsz); (try clear s₁); (try clear h_p); omega) | omega)) dX4_sortAt_35 ?_
      refine lv_sipush (v := iZ 512) hx hb dX4_sortAt_36 rfl ?_
      refine lv_isub hx hb dX4_sortAt_39 ?_
      refine lv_topi (fun x9 ex9 => ?_)
      obtain rfl : x9 = iZ ((μ (q + 1) (p9).toNat) - 512) := ex9.trans (iZ_sub _ _)
      refine lv_iconst (v := iZ 2) hx hb dX4_sortAt_40 rfl ?_
      refine lv_iadd hx hb dX4_sortAt_41 ?_
      refine lv_topi (fun x9 ex9 => ?_)
      obtain rfl : x9 = iZ (((μ (q + 1) (p9).toNat) - 512) + 2) := ex9.trans (iZ_add _ _)
      exact W.iret (v := iZ (((μ (q + 1) (p9).toNat) - 512) + 2)) hx hb hr (fun t9 ht9 hW9 => ⟨⟨iZ (((μ (q + 1) (p9).toNat) - 512) + 2), (μ, ((μ (q + 1) (p9).toNat) - 512) + 2), rfl, ⟨rfl, (by
                    dsimp only
                    all_goals exact rfl)⟩, by rw [ht9]; exact hP, va_K.moved hW9.alike hK⟩, hS.F ht9⟩) hS.2.2 dX4_sortAt_42
    · refine lv_iconst (v := iZ 1) hx hb dX4_sortAt_26 rfl ?_
      refine lv_goto (tgt := 42) hx hb dX4_sortAt_27 (by decide) ?_
      exact W.iret (v := iZ (1)) hx hb hr (fun t9 ht9 hW9 => ⟨⟨iZ (1), (μ, 1), rfl, ⟨rfl, (by
                    dsimp only
                    all_goals exact rfl)⟩, by rw [ht9]; exact hP, va_K.moved hW9.alike hK⟩, hS.F ht9⟩) hS.2.2 dX4_sortAt_42
  · refine lv_iconst (v := iZ 0) hx hb dX4_sortAt_12 rfl ?_
    exact W.iret (v := iZ (0)) hx hb hr (fun t9 ht9 hW9 => ⟨⟨iZ (0), (μ, 0), rfl, ⟨rfl, (by
                dsimp only
                all_goals exact rfl)⟩, by rw [ht9]; exact hP, va_K.moved hW9.alike hK⟩, hS.F ht9⟩) hS.2.2 dX4_sortAt_13
set_option maxHeartbeats 4000000 in
set_option maxRecDepth 100000 in
theorem LX4_depthOf_4 {p : Program} {l : Launch} {e : Env} {R : Room} {s : State} {m : MethodId} {args : Array Value} {below : List Frame} {meth : Method} {c : Code} {cells slots : Nat} {Q : State → Prop} {dC : Nat → ClassId} {dI : Nat → Nat → Nat} {h0 : Nat} {cI cZ cII cIII : ClassId} (hx : p.tables.exec = Jvm.exec) (hb : c.code = cX4_depthOf) (hml : c.maxLocals = 4) (hown : s.vm.findClass RX4 = some m.cls) (hts : ∀ w ∈ wsG, w.before args s = true) (hK : va_K (dC, dI) vwCl (sT cI cZ cII cIII) s) (hM : xM s) (hRf : 2 ≤ R.frames) (hRl : 34 ≤ R.locals) (hRc : cells ≤ R.cells) (hRs : slots ≤ R.slots) (μ0 : va_M) (q : Nat) (rm : Nat) (p9 : Int) (hq : rowB q rm) (hG : rG μ0 q rm) (h_p : 0 ≤ p9 ∧ p9 < rm) (hexit40 : ∀ (i : Int) (de : Int) (μ : va_M) (H : Heap) (locs : List Loc) (ls : Array Slot), (μ = μ0) → va_P (dC, dI) vwCl (fw (sE cI cZ cII cIII h0) h0 233 μ) H → va_S (fA h0 233 s.heap.size) s.heap H locs → lv_has ls 4 [(2, .int (iZ (de)))] → W p l e R s m args below meth c H locs cells slots Q (F0 m 40 ls [])) :
    ∀ (n9 : Nat) (i : Int) (de : Int) (μ : va_M) (H : Heap) (locs : List Loc) (ls : Array Slot), (μ = μ0) → (0 ≤ i ∧ i ≤ p9) → (0 ≤ de ∧ de ≤ i) → (1101 - i).toNat < n9 → va_P (dC, dI) vwCl (fw (sE cI cZ cII cIII h0) h0 233 μ) H → va_S (fA h0 233 s.heap.size) s.heap H locs → lv_has ls 4 [(3, .int (iZ (i))), (2, .int (iZ (de))), (1, .int (iZ (p9))), (0, .ref (h0 + q))] → W p l e R s m args below meth c H locs cells slots Q (F0 m 4 ls []) := by
  intro n9
  induction n9 with
  | zero => intro i de μ H locs ls hm9_ hi hd hm9 hP hS hl; exact absurd hm9 (Nat.not_lt_zero _)
  | succ n9 ih =>
    intro i de μ H locs ls hm9_ hi hd hm9 hP hS hl
    subst hm9_
    have hrm := rG_rm hq hG
    have hqb := rowB_b hq
    refine lv_iload_n hx hb dX4_depthOf_4 rfl (lv_at hl 0 rfl) ?_
    refine lv_iload_n hx hb dX4_depthOf_5 rfl (lv_at hl 2 rfl) ?_
    refine fz_icmp_ge (tgt := 40) (by constructor <;> (first | ((try clear hrm); (try clear hm9); (try clear hd); (try clear hm9_); (try clear hexit40); (try clear hRs); (try clear hRc); (try clear hRl); (try clear hRf); omega) | omega)) (by constructor <;> (first | ((try clear hrm); (try clear hm9); (try clear hd); (try clear hi); (try clear hm9_); (try clear hexit40); (try clear hRs); (try clear hRc); (try clear hRl); (try clear hRf); omega) | omega)) hx hb dX4_depthOf_6 (by decide) (fun c6_ => ?_) (fun c6_ => ?_)
    · exact hexit40 (i) (de) μ H locs ls (by rfl) hP hS (lv_sub hl [1] rfl)
    · have hmi := hG.2.1 (i).toNat
      have hs1 := hG.1 (i).toNat
      refine lv_aload_n hx hb dX4_depthOf_9 rfl (lv_at hl 3 rfl) ?_
      refine fz_get (D := (dC, dI)) (ci := 4) (v := .ref (h0 + (q + 1))) (C := RX4) (T := TX4) (N := 8) hx hb hts inG4 hown hK hP (k := q) (by (first | ((try clear hs1); (try clear hmi); (try clear c6_); (try clear hrm); (try clear hm9); (try clear hd); (try clear hi); (try clear hm9_); (try clear hexit40); (try clear h_p); (try clear hRs); (try clear hRc); (try clear hRl); (try clear hRf); omega) | omega)) (F := (sRF h0 q)) (sE_rowO hq) rfl 0 (by decide) (hts _ k77) (fun _ h9 => h9) rfl dX4_depthOf_10 ?_
      refine lv_iload_n hx hb dX4_depthOf_13 rfl (lv_at hl 0 rfl) ?_
      refine fz_ld (k := (q + 1)) (n := rm) hx hb hK hP 0 (by (first | ((try clear hs1); (try clear hmi); (try clear c6_); (try clear hrm); (try clear hm9); (try clear hd); (try clear hi); (try clear hm9_); (try clear hexit40); (try clear h_p); (try clear hRs); (try clear hRc); (try clear hRl); (try clear hRf); omega) | omega)) (sE_rowA (r := 1) hq (by decide)) rfl ⟨by (first | ((try clear hs1); (try clear hmi); (try clear c6_); (try clear hqb); (try clear hrm); (try clear hm9); (try clear hd); (try clear hm9_); (try clear hexit40); (try clear h_p); (try clear hRs); (try clear hRc); (try clear hRl); (try clear hRf); omega) | omega), by (first | ((try clear hs1); (try clear hmi); (try clear hqb); (try clear hrm); (try clear hm9); (try clear hd); (try clear hi); (try clear hm9_); (try clear hexit40); (try clear hRs); (try clear hRc); (try clear hRl); (try clear hRf); omega) | omega)⟩ (by (first | ((try clear hs1); (try clear hmi); (try clear c6_); (try clear hrm); (try clear hm9); (try clear hd); (try clear hi); (try clear hm9_); (try clear hexit40); (try clear h_p); (try clear hRs); (try clear hRc); (try clear hRl); (try clear hRf); omega) | omega)) dX4_depthOf_14 ?_
      refine va_calli (va_runSN (As := [.int (iZ (μ (q + 1) (i).toNat))]) (rest := []) ⟨hx, hb, hml, hown, hts⟩ (s_isOpen l dC dI cI cZ cII cIII h0 H.size μ (μ (q + 1) (i).toNat) (by first | assumption | (first | ((try clear hmi); (try clear c6_); (try clear hqb); (try clear hrm); (try clear hm9); (try clear hd); (try clear hi); (try clear hm9_); (try clear hexit40); (try clear h_p); (try clear hRs); (try clear hRc); (try clear hRl); (try clear hRf); omega) | omega) | exact ⟨by omega, by omega⟩)) ⟨va_cnB (host := "PageSkeleton") 1 hts (gI_G k423) rfl rfl rfl (xM_nest hM 8 rfl) (hts _ k1) (by decide +kernel) ⟨by show 1 + 1 ≤ _; (first | ((try clear hs1); (try clear hmi); (try clear c6_); (try clear hqb); (try clear hrm); (try clear hm9); (try clear hd); (try clear hi); (try clear hm9_); (try clear hexit40); (try clear h_p); (try clear hRs); (try clear hRc); (try clear hRl); omega) | omega), by show 8 + (1 + 11) + (14) ≤ _; (first | ((try clear hs1); (try clear hmi); (try clear c6_); (try clear hqb); (try clear hrm); (try clear hm9); (try clear hd); (try clear hi); (try clear hm9_); (try clear hexit40); (try clear h_p); (try clear hRs); (try clear hRc); (try clear hRf); omega) | omega)⟩, hts _ k422, trivial⟩ ⟨fun a U g mk q => by obtain ⟨q0, q1, qP, qK, qM⟩ := q; exact ⟨q0, q1, qP, va_K.moved (u := U) (U := U.calling g mk a) (Vm.Alike.refl U.vm) qK, qM⟩, fun U hU hW => ⟨rfl, by rw [hU], by rw [hU]; exact hP, va_K.moved hW.alike hK, xM_warm hW hM⟩⟩ rfl rfl hl.1 rfl (lv_room (Nat.le_of_ble_eq_true rfl)) dX4_depthOf_15 ⟨hRc, hRs⟩) hS (fun q _ h => fA_le hS.1 q h) (fA_le hS.1) (fun r9 u9 t9 H1 locs ht9 hvm9 hw9 hB9 hz9 hk9 hS => ?_)
      obtain ⟨μ1, r2⟩ := u9
      obtain ⟨hP, -⟩ := hB9
      rw [ht9] at hP
      generalize H1 = H at hP hS ⊢
      obtain ⟨e9, hw9⟩ := hw9
      have e9 : r9 = iZ r2 := e9
      subst e9
      simp only at hP hw9
      have hμ1 := hw9; clear hw9
      rw [hμ1.1] at hP; have hμ1 := hμ1.2
      have hlf := if_01 hμ1
      refine fz_if_eq (tgt := 34) (by constructor <;> (first | ((try clear hμ1); (try clear hz9); (try clear hs1); (try clear hmi); (try clear c6_); (try clear hqb); (try clear hrm); (try clear hm9); (try clear hd); (try clear hi); (try clear hm9_); (try clear hexit40); (try clear h_p); (try clear hRs); (try clear hRc); (try clear hRl); (try clear hRf); omega) | omega)) hx hb dX4_depthOf_18 (by decide) (fun c18_ => ?_) (fun c18_ => ?_)
      · refine lv_iinc (v := iZ (i + 1)) (lv' := [(3, .int (iZ (i + 1))), (2, .int (iZ (de))), (1, .int (iZ (p9))), (0, .ref (h0 + q))]) hx hb dX4_depthOf_34 hl (k := 0) rfl (iZ_add _ _) (by decide) rfl (fun ls hl => ?_)
        refine lv_goto (tgt := 4) hx hb dX4_depthOf_37 (by decide) ?_
        exact ih (i + 1) (de) μ H locs ls (by rfl) (by (first | ((try clear c18_); (try clear hlf); (try clear hμ1); (try clear μ1); (try clear hz9); (try clear hs1); (try clear hmi); (try clear hqb); (try clear hrm); (try clear hm9); (try clear hd); (try clear hm9_); (try clear hexit40); (try clear h_p); (try clear hRs); (try clear hRc); (try clear hRl); (try clear hRf); omega) | omega)) (by (first | ((try clear c18_); (try clear hlf); (try clear hμ1); (try clear μ1); (try clear hz9); (try clear hs1); (try clear hmi); (try clear c6_); (try clear hqb); (try clear hrm); (try clear hm9); (try clear hi); (try clear hm9_); (try clear hexit40); (try clear h_p); (try clear hRs); (try clear hRc); (try clear hRl); (try clear hRf); omega) | omega)) (by (first | ((try clear hμ1); (try clear hz9); (try clear hmi); (try clear hd); (try clear hm9_); (try clear hexit40); (try clear hRs); (try clear hRc); (try clear hRl); (try clear hRf); omega) | omega)) hP hS (lv_sub hl [0, 1, 2, 3] rfl)
      · refine lv_aload_n hx hb dX4_depthOf_21 rfl (lv_at hl 3 rfl) ?_
        refine fz_get (D := (dC, dI)) (ci := 4) (v := .ref (h0 + (q + 2))) (C := RX4) (T := TX4) (N := 8) hx hb hts inG4 hown hK hP (k := q) (by (first | ((try clear c18_); (try clear hlf); (try clear hμ1); (try clear μ1); (try clear hz9); (try clear hs1); (try clear hmi); (try clear c6_); (try clear hrm); (try clear hm9); (try clear hd); (try clear hi); (try clear hm9_); (try clear hexit40); (try clear h_p); (try clear hRs); (try clear hRc); (try clear hRl); (try clear hRf); omega) | omega)) (F := (sRF h0 q)) (sE_rowO hq) rfl 1 (by decide) (hts _ k83) (fun _ h9 => h9) rfl dX4_depthOf_22 ?_
        refine lv_iload_n hx hb dX4_depthOf_25 rfl (lv_at hl 0 rfl) ?_
        refine fz_ld (k := (q + 2)) (n := rm) hx hb hK hP 0 (by (first | ((try clear c18_); (try clear hlf); (try clear hμ1); (try clear μ1); (try clear hz9); (try clear hs1); (try clear hmi); (try clear c6_); (try clear hrm); (try clear hm9); (try clear hd); (try clear hi); (try clear hm9_); (try clear hexit40); (try clear h_p); (try clear hRs); (try clear hRc); (try clear hRl); (try clear hRf); omega) | omega)) (sE_rowA (r := 2) hq (by decide)) rfl ⟨by (first | ((try clear c18_); (try clear hlf); (try clear hμ1); (try clear μ1); (try clear hz9); (try clear hs1); (try clear hmi); (try clear c6_); (try clear hqb); (try clear hrm); (try clear hm9); (try clear hd); (try clear hm9_); (try clear hexit40); (try clear h_p); (try clear hRs); (try clear hRc); (try clear hRl); (try clear hRf); omega) | omega), by (first | ((try clear c18_); (try clear hlf); (try clear hμ1); (try clear μ1); (try clear hz9); (try clear hs1); (try clear hmi); (try clear hqb); (try clear hrm); (try clear hm9); (try clear hd); (try clear hi); (try clear hm9_); (try clear hexit40); (try clear hRs); (try clear hRc); (try clear hRl); (try clear hRf); omega) | omega)⟩ (by (first | ((try clear hμ1); (try clear hz9); (try clear hs1); (try clear hmi); (try clear c6_); (try clear hrm); (try clear hm9); (try clear hd); (try clear hi); (try clear hm9_); (try clear hexit40); (try clear h_p); (try clear hRs); (try clear hRc); (try clear hRl); (try clear hRf); omega) | omega)) dX4_depthOf_26 ?_
        refine lv_iload_n hx hb dX4_depthOf_27 rfl (lv_at hl 2 rfl) ?_
        refine fz_icmp_le (tgt := 34) (by constructor <;> (first | ((try clear hμ1); (try clear hz9); (try clear hs1); (try clear c6_); (try clear hrm); (try clear hm9); (try clear hd); (try clear hi); (try clear hm9_); (try clear hexit40); (try clear h_p); (try clear hRs); (try clear hRc); (try clear hRl); (try clear hRf); omega) | omega)) (by constructor <;> (first | ((try clear hμ1); (try clear hz9); (try clear hs1); (try clear hmi); (try clear c6_); (try clear hrm); (try clear hm9); (try clear hd); (try clear hi); (try clear hm9_); (try clear hexit40); (try clear hRs); (try clear hRc); (try clear hRl); (try clear hRf); omega) | omega)) hx hb dX4_depthOf_28 (by decide) (fun c28_ => ?_) (fun c28_ => ?_)
        · refine lv_iinc (v := iZ (i + 1)) (lv' := [(3, .int (iZ (i + 1))), (2, .int (iZ (de))), (1, .int (iZ (p9))), (0, .ref (h0 + q))]) hx hb dX4_depthOf_34 hl (k := 0) rfl (iZ_add _ _) (by decide) rfl (fun ls hl => ?_)
          refine lv_goto (tgt := 4) hx hb dX4_depthOf_37 (by decide) ?_
          exact ih (i + 1) (de) μ H locs ls (by rfl) (by (first | ((try clear c28_); (try clear c18_); (try clear hlf); (try clear hμ1); (try clear μ1); (try clear hz9); (try clear hs1); (try clear hmi); (try clear hqb); (try clear hrm); (try clear hm9); (try clear hd); (try clear hm9_); (try clear hexit40); (try clear h_p); (try clear hRs); (try clear hRc); (try clear hRl); (try clear hRf); omega) | omega)) (by (first | ((try clear c28_); (try clear c18_); (try clear hlf); (try clear hμ1); (try clear μ1); (try clear hz9); (try clear hs1); (try clear hmi); (try clear c6_); (try clear hqb); (try clear hrm); (try clear hm9); (try clear hi); (try clear hm9_); (try clear hexit40); (try clear h_p); (try clear hRs); (try clear hRc); (try clear hRl); (try clear hRf); omega) | omega)) (by (first | ((try clear c28_); (try clear hμ1); (try clear hz9); (try clear hs1); (try clear hmi); (try clear hd); (try clear hm9_); (try clear hexit40); (try clear hRs); (try clear hRc); (try clear hRl); (try clear hRf); omega) | omega)) hP hS (lv_sub hl [0, 1, 2, 3] rfl)
        · refine lv_iinc (v := iZ (de + 1)) (lv' := [(2, .int (iZ (de + 1))), (3, .int (iZ (i))), (1, .int (iZ (p9))), (0, .ref (h0 + q))]) hx hb dX4_depthOf_31 hl (k := 1) rfl (iZ_add _ _) (by decide) rfl (fun ls hl => ?_)
          refine lv_iinc (v := iZ (i + 1)) (lv' := [(3, .int (iZ (i + 1))), (2, .int (iZ (de + 1))), (1, .int (iZ (p9))), (0, .ref (h0 + q))]) hx hb dX4_depthOf_34 hl (k := 1) rfl (iZ_add _ _) (by decide) rfl (fun ls hl => ?_)
          refine lv_goto (tgt := 4) hx hb dX4_depthOf_37 (by decide) ?_
          exact ih (i + 1) (de + 1) μ H locs ls (by rfl) (by (first | ((try clear c28_); (try clear c18_); (try clear hlf); (try clear hμ1); (try clear μ1); (try clear hz9); (try clear hs1); (try clear hmi); (try clear hqb); (try clear hrm); (try clear hm9); (try clear hd); (try clear hm9_); (try clear hexit40); (try clear h_p); (try clear hRs); (try clear hRc); (try clear hRl); (try clear hRf); omega) | omega)) (by (first | ((try clear c28_); (try clear c18_); (try clear hlf); (try clear hμ1); (try clear μ1); (try clear hz9); (try clear hs1); (try clear hmi); (try clear c6_); (try clear hqb); (try clear hrm); (try clear hm9); (try clear hi); (try clear hm9_); (try clear hexit40); (try clear h_p); (try clear hRs); (try clear hRc); (try clear hRl); (try clear hRf); omega) | omega)) (by (first | ((try clear hμ1); (try clear hz9); (try clear hs1); (try clear hd); (try clear hm9_); (try clear hexit40); (try clear h_p); (try clear hRs); (try clear hRc); (try clear hRl); (try clear hRf); omega) | omega)) hP hS (lv_sub hl [0, 1, 2, 3] rfl)
set_option maxHeartbeats 4000000 in
set_option maxRecDepth 100000 in
theorem s_RdepthOf (l : Launch) (dC : Nat → ClassId) (dI : Nat → Nat → Nat) (cI cZ cII cIII : ClassId) (h0 sz : Nat) (μ : va_M) (q : Nat) (rm : Nat) (p9 : Int) (hq : rowB q rm) (hG : rG μ q rm) (h_p : 0 ≤ p9 ∧ p9 < rm) : Met l yX4_depthOf (Cond.code yX4_depthOf cX4_depthOf 4 (some .int) :: wsG) ({ frames := 2, cells := 0, slots := 0, locals := 34 } : Room) (va_Pc [.ref (h0 + q), .int (iZ (p9))] (fun U => U.heap.size = sz ∧ va_P (dC, dI) vwCl (fw (sE cI cZ cII cIII h0) h0 233 μ) U.heap ∧ va_K (dC, dI) vwCl (sT cI cZ cII cIII) U ∧ xM U)) (va_Qi (fun (r9 : Int32) (u : va_M × Int) => r9 = iZ u.2 ∧ (fun (u : va_M) (r : Int) => u = μ) u.1 u.2) (fun u t => va_P (dC, dI) vwCl (fw (sE cI cZ cII cIII h0) h0 233 u.1) t.heap ∧ va_K (dC, dI) vwCl (sT cI cZ cII cIII) t) (fA h0 233 sz)) 0 0 (fA h0 233 sz) := by
  refine Met.ofW (cc := cX4_depthOf) (maxL := 4) (ret := (some .int)) (by decide) rfl ?_
  intro p e s m args below meth c s₁ B hml hv
  obtain ⟨rfl, hsz, hP, hK, hM⟩ := hv
  have hx := B.exec
  have hb := B.bytes
  have hr := B.returns
  have hts : ∀ w ∈ wsG, w.before _ s = true := hG_of (atoms_spec (ws := (Cond.code yX4_depthOf cX4_depthOf 4 (some .int) :: wsG)) B.pre)
  have hown : s.vm.findClass RX4 = some m.cls := findClass_of_methodNamed B.named
  have hlocks := B.notSynchronized
  subst hsz
  have hS : va_S (fA h0 233 s.heap.size) s.heap s.heap [] := va_S.rf
  have hl := lv_entry ([.ref (h0 + q), .int (iZ (p9))]) (n := 4) (Nat.le_of_ble_eq_true rfl)
  rw [lg_entry_eq]
  generalize (lg_sl ([.ref (h0 + q), .int (iZ (p9))]) ++ List.replicate (4 - (lg_sl ([.ref (h0 + q), .int (iZ (p9))])).length) Slot.unset).toArray = ls at hl ⊢
  have hl : lv_has ls 4 [(0, .ref (h0 + q)), (1, .int (iZ (p9)))] := hl
  have hqb := rowB_b hq
  refine lv_iconst (v := iZ 0) hx hb dX4_depthOf_0 rfl ?_
  refine lv_istore_n (lv' := [(2, .int (iZ (0))), (0, .ref (h0 + q)), (1, .int (iZ (p9)))]) hx hb dX4_depthOf_1 rfl hl (by decide) rfl (fun ls hl => ?_)
  refine lv_iconst (v := iZ 0) hx hb dX4_depthOf_2 rfl ?_
  refine lv_istore_n (lv' := [(3, .int (iZ (0))), (2, .int (iZ (0))), (0, .ref (h0 + q)), (1, .int (iZ (p9)))]) hx hb dX4_depthOf_3 rfl hl (by decide) rfl (fun ls hl => ?_)
  refine LX4_depthOf_4 hx hb hml hown hts hK hM (Nat.le_of_ble_eq_true rfl) (Nat.le_of_ble_eq_true rfl) (Nat.le_of_ble_eq_true rfl) (Nat.le_of_ble_eq_true rfl) (μ) (q) (rm) (p9) (by assumption) (by assumption) (by assumption) ?_ _ (0) (0) μ s.heap [] ls (by rfl) (by (first | ((try clear hqb); (try clear hsz); (try clear s₁); omega) | omega)) (by (first | ((try clear hqb); (try clear hsz); (try clear s₁); (try clear h_p); omega) | omega)) (Nat.lt_succ_self _) hP hS (lv_sub hl [0, 1, 3, 2] rfl)
  · intro i_3 de_3 μ3_ H locs ls q1_3 hP hS hl
    have hl : lv_has ls 4 [(2, .int (iZ (de_3)))] := hl
    have hPn40 := hP
    obtain rfl := q1_3
    have hP := hPn40
    refine lv_iload_n hx hb dX4_depthOf_40 rfl (lv_at hl 0 rfl) ?_
    exact W.iret (v := iZ (de_3)) hx hb hr (fun t9 ht9 hW9 => ⟨⟨iZ (de_3), (μ3_, de_3), rfl, ⟨rfl, (by
                dsimp only
                all_goals exact rfl)⟩, by rw [ht9]; exact hP, va_K.moved hW9.alike hK⟩, hS.F ht9⟩) hS.2.2 dX4_depthOf_41
set_option maxHeartbeats 4000000 in
set_option maxRecDepth 100000 in
theorem LX4_parentOf_4 {p : Program} {l : Launch} {e : Env} {R : Room} {s : State} {m : MethodId} {args : Array Value} {below : List Frame} {meth : Method} {c : Code} {cells slots : Nat} {Q : State → Prop} {dC : Nat → ClassId} {dI : Nat → Nat → Nat} {h0 : Nat} {cI cZ cII cIII : ClassId} (hx : p.tables.exec = Jvm.exec) (hb : c.code = cX4_parentOf) (hml : c.maxLocals = 3) (hown : s.vm.findClass RX4 = some m.cls) (hts : ∀ w ∈ wsG, w.before args s = true) (hK : va_K (dC, dI) vwCl (sT cI cZ cII cIII) s) (hM : xM s) (hRf : 2 ≤ R.frames) (hRl : 34 ≤ R.locals) (hRc : cells ≤ R.cells) (hRs : slots ≤ R.slots) (μ0 : va_M) (q : Nat) (rm : Nat) (p9 : Int) (hq : rowB q rm) (hG : rG μ0 q rm) (h_p : 0 ≤ p9 ∧ p9 < rm) (hexit30 : ∀ (i : Int) (μ : va_M) (H : Heap) (locs : List Loc) (ls : Array Slot), (μ = μ0) → (0 ≤ i ∧ i < p9) → va_P (dC, dI) vwCl (fw (sE cI cZ cII cIII h0) h0 233 μ) H → va_S (fA h0 233 s.heap.size) s.heap H locs → lv_has ls 3 [(2, .int (iZ (i))), (0, .ref (h0 + q))] → W p l e R s m args below meth c H locs cells slots Q (F0 m 30 ls [])) (hexit43 : ∀ (i : Int) (μ : va_M) (H : Heap) (locs : List Loc) (ls : Array Slot), (μ = μ0) → va_P (dC, dI) vwCl (fw (sE cI cZ cII cIII h0) h0 233 μ) H → va_S (fA h0 233 s.heap.size) s.heap H locs → lv_has ls 3 [] → W p l e R s m args below meth c H locs cells slots Q (F0 m 43 ls [])) :
    ∀ (n9 : Nat) (i : Int) (μ : va_M) (H : Heap) (locs : List Loc) (ls : Array Slot), (μ = μ0) → (-1 ≤ i ∧ i < p9) → (i + 1).toNat < n9 → va_P (dC, dI) vwCl (fw (sE cI cZ cII cIII h0) h0 233 μ) H → va_S (fA h0 233 s.heap.size) s.heap H locs → lv_has ls 3 [(2, .int (iZ (i))), (1, .int (iZ (p9))), (0, .ref (h0 + q))] → W p l e R s m args below meth c H locs cells slots Q (F0 m 4 ls []) := by
  intro n9
  induction n9 with
  | zero => intro i μ H locs ls hm9_ hi hm9 hP hS hl; exact absurd hm9 (Nat.not_lt_zero _)
  | succ n9 ih =>
    intro i μ H locs ls hm9_ hi hm9 hP hS hl
    subst hm9_
    have hrm := rG_rm hq hG
    have hqb := rowB_b hq
    refine lv_iload_n hx hb dX4_parentOf_4 rfl (lv_at hl 0 rfl) ?_
    refine fz_if_lt (tgt := 43) (by constructor <;> (first | ((try clear hrm); (try clear hm9); (try clear hm9_); (try clear hexit43); (try clear hexit30); (try clear hRs); (try clear hRc); (try clear hRl); (try clear hRf); omega) | omega)) hx hb dX4_parentOf_5 (by decide) (fun c5_ => ?_) (fun c5_ => ?_)
    · exact hexit43 (i) μ H locs ls (by rfl) hP hS (lv_sub hl [] rfl)
    · have hmi := hG.2.1 (i).toNat
      have hs1 := hG.1 (i).toNat
      refine lv_aload_n hx hb dX4_parentOf_8 rfl (lv_at hl 2 rfl) ?_
      refine fz_get (D := (dC, dI)) (ci := 4) (v := .ref (h0 + (q + 1))) (C := RX4) (T := TX4) (N := 8) hx hb hts inG4 hown hK hP (k := q) (by (first | ((try clear hs1); (try clear hmi); (try clear c5_); (try clear hrm); (try clear hm9); (try clear hi); (try clear hm9_); (try clear hexit43); (try clear hexit30); (try clear h_p); (try clear hRs); (try clear hRc); (try clear hRl); (try clear hRf); omega) | omega)) (F := (sRF h0 q)) (sE_rowO hq) rfl 0 (by decide) (hts _ k77) (fun _ h9 => h9) rfl dX4_parentOf_9 ?_
      refine lv_iload_n hx hb dX4_parentOf_12 rfl (lv_at hl 0 rfl) ?_
      refine fz_ld (k := (q + 1)) (n := rm) hx hb hK hP 0 (by (first | ((try clear hs1); (try clear hmi); (try clear c5_); (try clear hrm); (try clear hm9); (try clear hi); (try clear hm9_); (try clear hexit43); (try clear hexit30); (try clear h_p); (try clear hRs); (try clear hRc); (try clear hRl); (try clear hRf); omega) | omega)) (sE_rowA (r := 1) hq (by decide)) rfl ⟨by (first | ((try clear hs1); (try clear hmi); (try clear hqb); (try clear hrm); (try clear hm9); (try clear hi); (try clear hm9_); (try clear hexit43); (try clear hexit30); (try clear h_p); (try clear hRs); (try clear hRc); (try clear hRl); (try clear hRf); omega) | omega), by (first | ((try clear hs1); (try clear hmi); (try clear c5_); (try clear hqb); (try clear hrm); (try clear hm9); (try clear hm9_); (try clear hexit43); (try clear hexit30); (try clear hRs); (try clear hRc); (try clear hRl); (try clear hRf); omega) | omega)⟩ (by (first | ((try clear hs1); (try clear hmi); (try clear c5_); (try clear hrm); (try clear hm9); (try clear hi); (try clear hm9_); (try clear hexit43); (try clear hexit30); (try clear h_p); (try clear hRs); (try clear hRc); (try clear hRl); (try clear hRf); omega) | omega)) dX4_parentOf_13 ?_
      refine va_calli (va_runSN (As := [.int (iZ (μ (q + 1) (i).toNat))]) (rest := []) ⟨hx, hb, hml, hown, hts⟩ (s_isOpen l dC dI cI cZ cII cIII h0 H.size μ (μ (q + 1) (i).toNat) (by first | assumption | (first | ((try clear hmi); (try clear c5_); (try clear hqb); (try clear hrm); (try clear hm9); (try clear hi); (try clear hm9_); (try clear hexit43); (try clear hexit30); (try clear h_p); (try clear hRs); (try clear hRc); (try clear hRl); (try clear hRf); omega) | omega) | exact ⟨by omega, by omega⟩)) ⟨va_cnB (host := "PageSkeleton") 1 hts (gI_G k423) rfl rfl rfl (xM_nest hM 8 rfl) (hts _ k1) (by decide +kernel) ⟨by show 1 + 1 ≤ _; (first | ((try clear hs1); (try clear hmi); (try clear c5_); (try clear hqb); (try clear hrm); (try clear hm9); (try clear hi); (try clear hm9_); (try clear hexit43); (try clear hexit30); (try clear h_p); (try clear hRs); (try clear hRc); (try clear hRl); omega) | omega), by show 8 + (1 + 11) + (14) ≤ _; (first | ((try clear hs1); (try clear hmi); (try clear c5_); (try clear hqb); (try clear hrm); (try clear hm9); (try clear hi); (try clear hm9_); (try clear hexit43); (try clear hexit30); (try clear h_p); (try clear hRs); (try clear hRc); (try clear hRf); omega) | omega)⟩, hts _ k422, trivial⟩ ⟨fun a U g mk q => by obtain ⟨q0, q1, qP, qK, qM⟩ := q; exact ⟨q0, q1, qP, va_K.moved (u := U) (U := U.calling g mk a) (Vm.Alike.refl U.vm) qK, qM⟩, fun U hU hW => ⟨rfl, by rw [hU], by rw [hU]; exact hP, va_K.moved hW.alike hK, xM_warm hW hM⟩⟩ rfl rfl hl.1 rfl (lv_room (Nat.le_of_ble_eq_true rfl)) dX4_parentOf_14 ⟨hRc, hRs⟩) hS (fun q _ h => fA_le hS.1 q h) (fA_le hS.1) (fun r9 u9 t9 H1 locs ht9 hvm9 hw9 hB9 hz9 hk9 hS => ?_)
      obtain ⟨μ1, r2⟩ := u9
      obtain ⟨hP, -⟩ := hB9
      rw [ht9] at hP
      generalize H1 = H at hP hS ⊢
      obtain ⟨e9, hw9⟩ := hw9
      have e9 : r9 = iZ r2 := e9
      subst e9
      simp only at hP hw9
      have hμ1 := hw9; clear hw9
      rw [hμ1.1] at hP; have hμ1 := hμ1.2
      have hlf := if_01 hμ1
      refine fz_if_eq (tgt := 37) (by constructor <;> (first | ((try clear hμ1); (try clear hz9); (try clear hs1); (try clear hmi); (try clear c5_); (try clear hqb); (try clear hrm); (try clear hm9); (try clear hi); (try clear hm9_); (try clear hexit43); (try clear hexit30); (try clear h_p); (try clear hRs); (try clear hRc); (try clear hRl); (try clear hRf); omega) | omega)) hx hb dX4_parentOf_17 (by decide) (fun c17_ => ?_) (fun c17_ => ?_)
      · refine lv_iinc (v := iZ (i - 1)) (lv' := [(2, .int (iZ (i - 1))), (1, .int (iZ (p9))), (0, .ref (h0 + q))]) hx hb dX4_parentOf_37 hl (k := 0) rfl (iZ_add _ (-1)) (by decide) rfl (fun ls hl => ?_)
        refine lv_goto (tgt := 4) hx hb dX4_parentOf_40 (by decide) ?_
        exact ih (i - 1) μ H locs ls (by rfl) (by (first | ((try clear c17_); (try clear hlf); (try clear hμ1); (try clear μ1); (try clear hz9); (try clear hs1); (try clear hmi); (try clear hqb); (try clear hrm); (try clear hm9); (try clear hm9_); (try clear hexit43); (try clear hexit30); (try clear h_p); (try clear hRs); (try clear hRc); (try clear hRl); (try clear hRf); omega) | omega)) (by (first | ((try clear hμ1); (try clear hz9); (try clear hmi); (try clear hi); (try clear hm9_); (try clear hexit43); (try clear hexit30); (try clear h_p); (try clear hRs); (try clear hRc); (try clear hRl); (try clear hRf); omega) | omega)) hP hS (lv_sub hl [0, 1, 2] rfl)
      · refine lv_aload_n hx hb dX4_parentOf_20 rfl (lv_at hl 2 rfl) ?_
        refine fz_get (D := (dC, dI)) (ci := 4) (v := .ref (h0 + (q + 2))) (C := RX4) (T := TX4) (N := 8) hx hb hts inG4 hown hK hP (k := q) (by (first | ((try clear c17_); (try clear hlf); (try clear hμ1); (try clear μ1); (try clear hz9); (try clear hs1); (try clear hmi); (try clear c5_); (try clear hrm); (try clear hm9); (try clear hi); (try clear hm9_); (try clear hexit43); (try clear hexit30); (try clear h_p); (try clear hRs); (try clear hRc); (try clear hRl); (try clear hRf); omega) | omega)) (F := (sRF h0 q)) (sE_rowO hq) rfl 1 (by decide) (hts _ k83) (fun _ h9 => h9) rfl dX4_parentOf_21 ?_
        refine lv_iload_n hx hb dX4_parentOf_24 rfl (lv_at hl 0 rfl) ?_
        refine fz_ld (k := (q + 2)) (n := rm) hx hb hK hP 0 (by (first | ((try clear c17_); (try clear hlf); (try clear hμ1); (try clear μ1); (try clear hz9); (try clear hs1); (try clear hmi); (try clear c5_); (try clear hrm); (try clear hm9); (try clear hi); (try clear hm9_); (try clear hexit43); (try clear hexit30); (try clear h_p); (try clear hRs); (try clear hRc); (try clear hRl); (try clear hRf); omega) | omega)) (sE_rowA (r := 2) hq (by decide)) rfl ⟨by (first | ((try clear c17_); (try clear hlf); (try clear hμ1); (try clear r2); (try clear μ1); (try clear hz9); (try clear hs1); (try clear hmi); (try clear hqb); (try clear hrm); (try clear hm9); (try clear hi); (try clear hm9_); (try clear hexit43); (try clear hexit30); (try clear h_p); (try clear hRs); (try clear hRc); (try clear hRl); (try clear hRf); omega) | omega), by (first | ((try clear c17_); (try clear hlf); (try clear hμ1); (try clear μ1); (try clear hz9); (try clear hs1); (try clear hmi); (try clear c5_); (try clear hqb); (try clear hrm); (try clear hm9); (try clear hm9_); (try clear hexit43); (try clear hexit30); (try clear hRs); (try clear hRc); (try clear hRl); (try clear hRf); omega) | omega)⟩ (by (first | ((try clear hμ1); (try clear hz9); (try clear hs1); (try clear hmi); (try clear c5_); (try clear hrm); (try clear hm9); (try clear hi); (try clear hm9_); (try clear hexit43); (try clear hexit30); (try clear h_p); (try clear hRs); (try clear hRc); (try clear hRl); (try clear hRf); omega) | omega)) dX4_parentOf_25 ?_
        refine lv_iload_n hx hb dX4_parentOf_26 rfl (lv_at hl 1 rfl) ?_
        refine fz_icmp_le (tgt := 37) (by constructor <;> (first | ((try clear hμ1); (try clear hz9); (try clear hs1); (try clear c5_); (try clear hrm); (try clear hm9); (try clear hi); (try clear hm9_); (try clear hexit43); (try clear hexit30); (try clear h_p); (try clear hRs); (try clear hRc); (try clear hRl); (try clear hRf); omega) | omega)) (by constructor <;> (first | ((try clear hμ1); (try clear hz9); (try clear hs1); (try clear hmi); (try clear c5_); (try clear hrm); (try clear hm9); (try clear hi); (try clear hm9_); (try clear hexit43); (try clear hexit30); (try clear hRs); (try clear hRc); (try clear hRl); (try clear hRf); omega) | omega)) hx hb dX4_parentOf_27 (by decide) (fun c27_ => ?_) (fun c27_ => ?_)
        · refine lv_iinc (v := iZ (i - 1)) (lv' := [(2, .int (iZ (i - 1))), (1, .int (iZ (p9))), (0, .ref (h0 + q))]) hx hb dX4_parentOf_37 hl (k := 0) rfl (iZ_add _ (-1)) (by decide) rfl (fun ls hl => ?_)
          refine lv_goto (tgt := 4) hx hb dX4_parentOf_40 (by decide) ?_
          exact ih (i - 1) μ H locs ls (by rfl) (by (first | ((try clear c27_); (try clear c17_); (try clear hlf); (try clear hμ1); (try clear μ1); (try clear hz9); (try clear hs1); (try clear hmi); (try clear hqb); (try clear hrm); (try clear hm9); (try clear hm9_); (try clear hexit43); (try clear hexit30); (try clear h_p); (try clear hRs); (try clear hRc); (try clear hRl); (try clear hRf); omega) | omega)) (by (first | ((try clear c27_); (try clear hμ1); (try clear hz9); (try clear hs1); (try clear hmi); (try clear hi); (try clear hm9_); (try clear hexit43); (try clear hexit30); (try clear h_p); (try clear hRs); (try clear hRc); (try clear hRl); (try clear hRf); omega) | omega)) hP hS (lv_sub hl [0, 1, 2] rfl)
        · exact hexit30 (i) μ H locs ls (by rfl) (by (first | ((try clear c27_); (try clear c17_); (try clear hlf); (try clear hμ1); (try clear μ1); (try clear hz9); (try clear hs1); (try clear hmi); (try clear hqb); (try clear hrm); (try clear hm9); (try clear hm9_); (try clear hexit43); (try clear hexit30); (try clear h_p); (try clear hRs); (try clear hRc); (try clear hRl); (try clear hRf); omega) | omega)) hP hS (lv_sub hl [0, 2] rfl)
set_option maxHeartbeats 4000000 in
set_option maxRecDepth 100000 in
theorem s_RparentOf (l : Launch) (dC : Nat → ClassId) (dI : Nat → Nat → Nat) (cI cZ cII cIII : ClassId) (h0 sz : Nat) (μ : va_M) (q : Nat) (rm : Nat) (p9 : Int) (hq : rowB q rm) (hG : rG μ q rm) (h_p : 0 ≤ p9 ∧ p9 < rm) : Met l yX4_parentOf (Cond.code yX4_parentOf cX4_parentOf 3 (some .int) :: wsG) ({ frames := 2, cells := 0, slots := 0, locals := 34 } : Room) (va_Pc [.ref (h0 + q), .int (iZ (p9))] (fun U => U.heap.size = sz ∧ va_P (dC, dI) vwCl (fw (sE cI cZ cII cIII h0) h0 233 μ) U.heap ∧ va_K (dC, dI) vwCl (sT cI cZ cII cIII) U ∧ xM U)) (va_Qi (fun (r9 : Int32) (u : va_M × Int) => r9 = iZ u.2 ∧ (fun (u : va_M) (r : Int) => u = μ) u.1 u.2) (fun u t => va_P (dC, dI) vwCl (fw (sE cI cZ cII cIII h0) h0 233 u.1) t.heap ∧ va_K (dC, dI) vwCl (sT cI cZ cII cIII) t) (fA h0 233 sz)) 0 0 (fA h0 233 sz) := by
  refine Met.ofW (cc := cX4_parentOf) (maxL := 3) (ret := (some .int)) (by decide) rfl ?_
  intro p e s m args below meth c s₁ B hml hv
  obtain ⟨rfl, hsz, hP, hK, hM⟩ := hv
  have hx := B.exec
  have hb := B.bytes
  have hr := B.returns
  have hts : ∀ w ∈ wsG, w.before _ s = true := hG_of (atoms_spec (ws := (Cond.code yX4_parentOf cX4_parentOf 3 (some .int) :: wsG)) B.pre)
  have hown : s.vm.findClass RX4 = some m.cls := findClass_of_methodNamed B.named
  have hlocks := B.notSynchronized
  subst hsz
  have hS : va_S (fA h0 233 s.heap.size) s.heap s.heap [] := va_S.rf
  have hl := lv_entry ([.ref (h0 + q), .int (iZ (p9))]) (n := 3) (Nat.le_of_ble_eq_true rfl)
  rw [lg_entry_eq]
  generalize (lg_sl ([.ref (h0 + q), .int (iZ (p9))]) ++ List.replicate (3 - (lg_sl ([.ref (h0 + q), .int (iZ (p9))])).length) Slot.unset).toArray = ls at hl ⊢
  have hl : lv_has ls 3 [(0, .ref (h0 + q)), (1, .int (iZ (p9)))] := hl
  have hqb := rowB_b hq
  refine lv_iload_n hx hb dX4_parentOf_0 rfl (lv_at hl 1 rfl) ?_
  refine lv_iconst (v := iZ 1) hx hb dX4_parentOf_1 rfl ?_
  refine lv_isub hx hb dX4_parentOf_2 ?_
  refine lv_topi (fun x9 ex9 => ?_)
  obtain rfl : x9 = iZ (p9 - 1) := ex9.trans (iZ_sub _ _)
  refine lv_istore_n (lv' := [(2, .int (iZ (p9 - 1))), (0, .ref (h0 + q)), (1, .int (iZ (p9)))]) hx hb dX4_parentOf_3 rfl hl (by decide) rfl (fun ls hl => ?_)
  refine LX4_parentOf_4 hx hb hml hown hts hK hM (Nat.le_of_ble_eq_true rfl) (Nat.le_of_ble_eq_true rfl) (Nat.le_of_ble_eq_true rfl) (Nat.le_of_ble_eq_true rfl) (μ) (q) (rm) (p9) (by assumption) (by assumption) (by assumption) ?_ ?_ _ (p9 - 1) μ s.heap [] ls (by rfl) (by (first | ((try clear ex9); (try clear hqb); (try clear hsz); (try clear s₁); omega) | omega)) (Nat.lt_succ_self _) hP hS (lv_sub hl [0, 2, 1] rfl)
  · intro i_3 μ3_ H locs ls q1_3 q2_3 hP hS hl
    have hl : lv_has ls 3 [(2, .int (iZ (i_3))), (0, .ref (h0 + q))] := hl
    have hPn30 := hP
    obtain rfl := q1_3
    have hP := hPn30
    have q22 := q2_3
    refine lv_aload_n hx hb dX4_parentOf_30 rfl (lv_at hl 1 rfl) ?_
    refine fz_get (D := (dC, dI)) (ci := 4) (v := .ref (h0 + (q + 4))) (C := RX4) (T := TX4) (N := 8) hx hb hts inG4 hown hK hP (k := q) (by (first | ((try clear q22); (try clear hPn30); (try clear q2_3); (try clear q1_3); (try clear μ3_); (try clear ex9); (try clear hsz); (try clear s₁); (try clear h_p); omega) | omega)) (F := (sRF h0 q)) (sE_rowO hq) rfl 3 (by decide) (hts _ k88) (fun _ h9 => h9) rfl dX4_parentOf_31 ?_
    refine lv_iload_n hx hb dX4_parentOf_34 rfl (lv_at hl 0 rfl) ?_
    refine fz_ld (k := (q + 4)) (n := rm) hx hb hK hP 0 (by (first | ((try clear q22); (try clear hPn30); (try clear q2_3); (try clear q1_3); (try clear μ3_); (try clear ex9); (try clear hsz); (try clear s₁); (try clear h_p); omega) | omega)) (sE_rowA (r := 4) hq (by decide)) rfl ⟨by (first | ((try clear q22); (try clear hPn30); (try clear q1_3); (try clear μ3_); (try clear ex9); (try clear hqb); (try clear hsz); (try clear s₁); (try clear h_p); omega) | omega), by (first | ((try clear q22); (try clear hPn30); (try clear q1_3); (try clear μ3_); (try clear ex9); (try clear hqb); (try clear hsz); (try clear s₁); omega) | omega)⟩ (by (first | ((try clear q22); (try clear hPn30); (try clear q2_3); (try clear q1_3); (try clear μ3_); (try clear ex9); (try clear hsz); (try clear s₁); (try clear h_p); omega) | omega)) dX4_parentOf_35 ?_
    exact W.iret (v := iZ (μ3_ (q + 4) (i_3).toNat)) hx hb hr (fun t9 ht9 hW9 => ⟨⟨iZ (μ3_ (q + 4) (i_3).toNat), (μ3_, μ3_ (q + 4) (i_3).toNat), rfl, ⟨rfl, (by
                dsimp only
                all_goals exact rfl)⟩, by rw [ht9]; exact hP, va_K.moved hW9.alike hK⟩, hS.F ht9⟩) hS.2.2 dX4_parentOf_36
  · intro i_4 μ4_ H locs ls q3_4 hP hS hl
    have hl : lv_has ls 3 [] := hl
    have hPn43 := hP
    obtain rfl := q3_4
    have hP := hPn43
    refine lv_iconst (v := iZ (-1)) hx hb dX4_parentOf_43 rfl ?_
    exact W.iret (v := iZ ((-1))) hx hb hr (fun t9 ht9 hW9 => ⟨⟨iZ ((-1)), (μ4_, (-1)), rfl, ⟨rfl, (by
                dsimp only
                all_goals exact rfl)⟩, by rw [ht9]; exact hP, va_K.moved hW9.alike hK⟩, hS.F ht9⟩) hS.2.2 dX4_parentOf_44
set_option maxHeartbeats 4000000 in
set_option maxRecDepth 100000 in
theorem LX4_itemsIn_18 {p : Program} {l : Launch} {e : Env} {R : Room} {s : State} {m : MethodId} {args : Array Value} {below : List Frame} {meth : Method} {c : Code} {cells slots : Nat} {Q : State → Prop} {dC : Nat → ClassId} {dI : Nat → Nat → Nat} {h0 : Nat} {cI cZ cII cIII : ClassId} (hx : p.tables.exec = Jvm.exec) (hb : c.code = cX4_itemsIn) (hml : c.maxLocals = 4) (hown : s.vm.findClass RX4 = some m.cls) (hts : ∀ w ∈ wsG, w.before args s = true) (hK : va_K (dC, dI) vwCl (sT cI cZ cII cIII) s) (hM : xM s) (hRf : 2 ≤ R.frames) (hRl : 35 ≤ R.locals) (hRc : cells ≤ R.cells) (hRs : slots ≤ R.slots) (μ0 : va_M) (q : Nat) (rm : Nat) (p9 : Int) (hq : rowB q rm) (hG : rG μ0 q rm) (h_p : 0 ≤ p9 ∧ p9 < rm) (hexit46 : ∀ (i : Int) (it : Int) (μ : va_M) (H : Heap) (locs : List Loc) (ls : Array Slot), (μ = μ0) → va_P (dC, dI) vwCl (fw (sE cI cZ cII cIII h0) h0 233 μ) H → va_S (fA h0 233 s.heap.size) s.heap H locs → lv_has ls 4 [(2, .int (iZ (it)))] → W p l e R s m args below meth c H locs cells slots Q (F0 m 46 ls [])) :
    ∀ (n9 : Nat) (i : Int) (it : Int) (μ : va_M) (H : Heap) (locs : List Loc) (ls : Array Slot), (μ = μ0) → (0 ≤ i ∧ i ≤ rm) → (0 ≤ it ∧ it ≤ i) → (1101 - i).toNat < n9 → va_P (dC, dI) vwCl (fw (sE cI cZ cII cIII h0) h0 233 μ) H → va_S (fA h0 233 s.heap.size) s.heap H locs → lv_has ls 4 [(3, .int (iZ (i))), (2, .int (iZ (it))), (1, .int (iZ (p9))), (0, .ref (h0 + q))] → W p l e R s m args below meth c H locs cells slots Q (F0 m 18 ls []) := by
  intro n9
  induction n9 with
  | zero => intro i it μ H locs ls hm9_ hi hd hm9 hP hS hl; exact absurd hm9 (Nat.not_lt_zero _)
  | succ n9 ih =>
    intro i it μ H locs ls hm9_ hi hd hm9 hP hS hl
    subst hm9_
    have hrm := rG_rm hq hG
    have hqb := rowB_b hq
    have hmp := hG.2.1 p9.toNat
    refine lv_iload_n hx hb dX4_itemsIn_18 rfl (lv_at hl 0 rfl) ?_
    refine lv_aload_n hx hb dX4_itemsIn_19 rfl (lv_at hl 3 rfl) ?_
    refine fz_get (D := (dC, dI)) (ci := 4) (v := .ref (h0 + (q + 2))) (C := RX4) (T := TX4) (N := 8) hx hb hts inG4 hown hK hP (k := q) (by (first | ((try clear hmp); (try clear hrm); (try clear hm9); (try clear hd); (try clear hi); (try clear hm9_); (try clear hexit46); (try clear h_p); (try clear hRs); (try clear hRc); (try clear hRl); (try clear hRf); omega) | omega)) (F := (sRF h0 q)) (sE_rowO hq) rfl 1 (by decide) (hts _ k83) (fun _ h9 => h9) rfl dX4_itemsIn_20 ?_
    refine lv_iload_n hx hb dX4_itemsIn_23 rfl (lv_at hl 2 rfl) ?_
    refine fz_ld (k := (q + 2)) (n := rm) hx hb hK hP 0 (by (first | ((try clear hmp); (try clear hrm); (try clear hm9); (try clear hd); (try clear hi); (try clear hm9_); (try clear hexit46); (try clear h_p); (try clear hRs); (try clear hRc); (try clear hRl); (try clear hRf); omega) | omega)) (sE_rowA (r := 2) hq (by decide)) rfl ⟨by (first | ((try clear hmp); (try clear hqb); (try clear hrm); (try clear hm9); (try clear hd); (try clear hi); (try clear hm9_); (try clear hexit46); (try clear hRs); (try clear hRc); (try clear hRl); (try clear hRf); omega) | omega), by (first | ((try clear hmp); (try clear hqb); (try clear hrm); (try clear hm9); (try clear hd); (try clear hi); (try clear hm9_); (try clear hexit46); (try clear hRs); (try clear hRc); (try clear hRl); (try clear hRf); omega) | omega)⟩ (by (first | ((try clear hmp); (try clear hrm); (try clear hm9); (try clear hd); (try clear hi); (try clear hm9_); (try clear hexit46); (try clear h_p); (try clear hRs); (try clear hRc); (try clear hRl); (try clear hRf); omega) | omega)) dX4_itemsIn_24 ?_
    refine fz_icmp_ge (tgt := 46) (by constructor <;> (first | ((try clear hmp); (try clear hrm); (try clear hm9); (try clear hd); (try clear hm9_); (try clear hexit46); (try clear h_p); (try clear hRs); (try clear hRc); (try clear hRl); (try clear hRf); omega) | omega)) (by constructor <;> (first | ((try clear hrm); (try clear hm9); (try clear hd); (try clear hi); (try clear hm9_); (try clear hexit46); (try clear h_p); (try clear hRs); (try clear hRc); (try clear hRl); (try clear hRf); omega) | omega)) hx hb dX4_itemsIn_25 (by decide) (fun c25_ => ?_) (fun c25_ => ?_)
    · exact hexit46 (i) (it) μ H locs ls (by rfl) hP hS (lv_sub hl [1] rfl)
    · have hmi := hG.2.1 i.toNat
      refine lv_iinc (v := iZ (it + 1)) (lv' := [(2, .int (iZ (it + 1))), (3, .int (iZ (i))), (1, .int (iZ (p9))), (0, .ref (h0 + q))]) hx hb dX4_itemsIn_28 hl (k := 1) rfl (iZ_add _ _) (by decide) rfl (fun ls hl => ?_)
      refine lv_iload_n hx hb dX4_itemsIn_31 rfl (lv_at hl 1 rfl) ?_
      refine lv_iconst (v := iZ 1) hx hb dX4_itemsIn_32 rfl ?_
      refine lv_iadd hx hb dX4_itemsIn_33 ?_
      refine lv_topi (fun x9 ex9 => ?_)
      obtain rfl : x9 = iZ (i + 1) := ex9.trans (iZ_add _ _)
      refine lv_aload_n hx hb dX4_itemsIn_34 rfl (lv_at hl 3 rfl) ?_
      refine lv_iload_n hx hb dX4_itemsIn_35 rfl (lv_at hl 1 rfl) ?_
      refine va_calli (va_runV (As := [.int (iZ (i))]) (rest := [.int (iZ (i + 1))]) ⟨hx, hb, hml, hown, hts⟩ (s_Rafter l dC dI cI cZ cII cIII h0 H.size μ (q) (rm) (i) (hq) (by first | assumption | (first | ((try clear ex9); (try clear hmi); (try clear hqb); (try clear hrm); (try clear hm9); (try clear hd); (try clear hm9_); (try clear hexit46); (try clear h_p); (try clear hRs); (try clear hRc); (try clear hRl); (try clear hRf); omega) | omega) | exact ⟨by omega, by omega⟩) (by constructor <;> (first | ((try clear ex9); (try clear c25_); (try clear hmp); (try clear hrm); (try clear hm9); (try clear hd); (try clear hi); (try clear hm9_); (try clear hexit46); (try clear h_p); (try clear hRs); (try clear hRc); (try clear hRl); (try clear hRf); omega) | omega))) (cwV 1 hts (gV_G k812 k438 k439 k3 k440) rfl rfl rfl (by decide +kernel) ⟨by show 1 + 1 ≤ _; (first | ((try clear ex9); (try clear hmi); (try clear c25_); (try clear hmp); (try clear hqb); (try clear hrm); (try clear hm9); (try clear hd); (try clear hi); (try clear hm9_); (try clear hexit46); (try clear h_p); (try clear hRs); (try clear hRc); (try clear hRl); omega) | omega), by show 8 + (2 + 11) + (14) ≤ _; (first | ((try clear ex9); (try clear hmi); (try clear c25_); (try clear hmp); (try clear hqb); (try clear hrm); (try clear hm9); (try clear hd); (try clear hi); (try clear hm9_); (try clear hexit46); (try clear h_p); (try clear hRs); (try clear hRc); (try clear hRf); omega) | omega)⟩) ⟨fun a U g mk q => by obtain ⟨q0, q1, qP, qK, qM⟩ := q; exact ⟨q0, q1, qP, va_K.moved (u := U) (U := U.calling g mk a) (Vm.Alike.refl U.vm) qK, qM⟩, va_recv hK hP (ci := 4) (q0 := q) rfl ((fw_get (by (first | ((try clear mk); (try clear g); (try clear U); (try clear ex9); (try clear hmi); (try clear c25_); (try clear hmp); (try clear hrm); (try clear hm9); (try clear hd); (try clear hi); (try clear hm9_); (try clear hexit46); (try clear h_p); (try clear hRs); (try clear hRc); (try clear hRl); (try clear hRf); omega) | omega))).trans (by rw [(sE_rowO hq)])), fun U hU hW => ⟨rfl, by rw [hU], by rw [hU]; exact hP, va_K.moved hW.alike hK, xM_warm hW hM⟩⟩ rfl rfl hl.1 rfl (lv_room (Nat.le_of_ble_eq_true rfl)) dX4_itemsIn_36 ⟨hRc, hRs⟩) hS (fun q _ h => fA_le hS.1 q h) (fA_le hS.1) (fun r9 u9 t9 H1 locs ht9 hvm9 hw9 hB9 hz9 hk9 hS => ?_)
      obtain ⟨μa, ra⟩ := u9
      obtain ⟨hP, -⟩ := hB9
      rw [ht9] at hP
      generalize H1 = H at hP hS ⊢
      obtain ⟨e9, hw9⟩ := hw9
      have e9 : r9 = iZ ra := e9
      subst e9
      simp only at hP hw9
      have hμa := hw9; clear hw9
      rw [hμa.1] at hP; have hμa := hμa.2
      have hra := hμa
      refine va_mmax hx hb (hml.trans hl.1.symm) hown (hts _ k74) (hts _ k75) (hts _ k4) (hts _ k76) (Nat.le_trans (Nat.le_of_ble_eq_true rfl) hRf) (Nat.le_trans (m := 35) (Nat.le_of_ble_eq_true rfl) hRl) hRc hRs dX4_itemsIn_39 ?_
      refine lv_topi (fun x9 ex9 => ?_)
      obtain rfl : x9 = iZ (max (i + 1) ra) := ex9.trans (iZ_mx (by constructor <;> (first | ((try clear ex9); (try clear hra); (try clear hμa); (try clear μa); (try clear hz9); (try clear hmi); (try clear c25_); (try clear hmp); (try clear hrm); (try clear hm9); (try clear hd); (try clear hm9_); (try clear hexit46); (try clear h_p); (try clear hRs); (try clear hRc); (try clear hRl); (try clear hRf); omega) | omega)) (by constructor <;> (first | ((try clear ex9); (try clear hra); (try clear hμa); (try clear hz9); (try clear c25_); (try clear hmp); (try clear hrm); (try clear hm9); (try clear hd); (try clear hi); (try clear hm9_); (try clear hexit46); (try clear h_p); (try clear hRs); (try clear hRc); (try clear hRl); (try clear hRf); omega) | omega)))
      refine lv_istore_n (lv' := [(3, .int (iZ (max (i + 1) ra))), (2, .int (iZ (it + 1))), (1, .int (iZ (p9))), (0, .ref (h0 + q))]) hx hb dX4_itemsIn_42 rfl hl (by decide) rfl (fun ls hl => ?_)
      refine lv_goto (tgt := 18) hx hb dX4_itemsIn_43 (by decide) ?_
      exact ih (max (i + 1) ra) (it + 1) μ H locs ls (by rfl) (by (first | ((try clear ex9); (try clear hra); (try clear hμa); (try clear hz9); (try clear hqb); (try clear hrm); (try clear hm9); (try clear hd); (try clear hm9_); (try clear hexit46); (try clear h_p); (try clear hRs); (try clear hRc); (try clear hRl); (try clear hRf); omega) | omega)) (by (first | ((try clear ex9); (try clear hra); (try clear hμa); (try clear μa); (try clear hz9); (try clear hmi); (try clear c25_); (try clear hmp); (try clear hqb); (try clear hrm); (try clear hm9); (try clear hi); (try clear hm9_); (try clear hexit46); (try clear h_p); (try clear hRs); (try clear hRc); (try clear hRl); (try clear hRf); omega) | omega)) (by (first | ((try clear ex9); (try clear hra); (try clear hμa); (try clear hz9); (try clear hd); (try clear hm9_); (try clear hexit46); (try clear h_p); (try clear hRs); (try clear hRc); (try clear hRl); (try clear hRf); omega) | omega)) hP hS (lv_sub hl [0, 1, 2, 3] rfl)
set_option maxHeartbeats 4000000 in
set_option maxRecDepth 100000 in
theorem s_RitemsIn (l : Launch) (dC : Nat → ClassId) (dI : Nat → Nat → Nat) (cI cZ cII cIII : ClassId) (h0 sz : Nat) (μ : va_M) (q : Nat) (rm : Nat) (p9 : Int) (hq : rowB q rm) (hG : rG μ q rm) (h_p : 0 ≤ p9 ∧ p9 < rm) : Met l yX4_itemsIn (Cond.code yX4_itemsIn cX4_itemsIn 4 (some .int) :: wsG) ({ frames := 2, cells := 0, slots := 0, locals := 35 } : Room) (va_Pc [.ref (h0 + q), .int (iZ (p9))] (fun U => U.heap.size = sz ∧ va_P (dC, dI) vwCl (fw (sE cI cZ cII cIII h0) h0 233 μ) U.heap ∧ va_K (dC, dI) vwCl (sT cI cZ cII cIII) U ∧ xM U)) (va_Qi (fun (r9 : Int32) (u : va_M × Int) => r9 = iZ u.2 ∧ (fun (u : va_M) (r : Int) => u = μ) u.1 u.2) (fun u t => va_P (dC, dI) vwCl (fw (sE cI cZ cII cIII h0) h0 233 u.1) t.heap ∧ va_K (dC, dI) vwCl (sT cI cZ cII cIII) t) (fA h0 233 sz)) 0 0 (fA h0 233 sz) := by
  refine Met.ofW (cc := cX4_itemsIn) (maxL := 4) (ret := (some .int)) (by decide) rfl ?_
  intro p e s m args below meth c s₁ B hml hv
  obtain ⟨rfl, hsz, hP, hK, hM⟩ := hv
  have hx := B.exec
  have hb := B.bytes
  have hr := B.returns
  have hts : ∀ w ∈ wsG, w.before _ s = true := hG_of (atoms_spec (ws := (Cond.code yX4_itemsIn cX4_itemsIn 4 (some .int) :: wsG)) B.pre)
  have hown : s.vm.findClass RX4 = some m.cls := findClass_of_methodNamed B.named
  have hlocks := B.notSynchronized
  subst hsz
  have hS : va_S (fA h0 233 s.heap.size) s.heap s.heap [] := va_S.rf
  have hl := lv_entry ([.ref (h0 + q), .int (iZ (p9))]) (n := 4) (Nat.le_of_ble_eq_true rfl)
  rw [lg_entry_eq]
  generalize (lg_sl ([.ref (h0 + q), .int (iZ (p9))]) ++ List.replicate (4 - (lg_sl ([.ref (h0 + q), .int (iZ (p9))])).length) Slot.unset).toArray = ls at hl ⊢
  have hl : lv_has ls 4 [(0, .ref (h0 + q)), (1, .int (iZ (p9)))] := hl
  have hqb := rowB_b hq
  have hs1 := hG.1 p9.toNat
  refine lv_iconst (v := iZ 0) hx hb dX4_itemsIn_0 rfl ?_
  refine lv_istore_n (lv' := [(2, .int (iZ (0))), (0, .ref (h0 + q)), (1, .int (iZ (p9)))]) hx hb dX4_itemsIn_1 rfl hl (by decide) rfl (fun ls hl => ?_)
  refine lv_aload_n hx hb dX4_itemsIn_2 rfl (lv_at hl 1 rfl) ?_
  refine fz_get (D := (dC, dI)) (ci := 4) (v := .ref (h0 + (q + 1))) (C := RX4) (T := TX4) (N := 8) hx hb hts inG4 hown hK hP (k := q) (by (first | ((try clear hs1); (try clear hsz); (try clear s₁); (try clear h_p); omega) | omega)) (F := (sRF h0 q)) (sE_rowO hq) rfl 0 (by decide) (hts _ k77) (fun _ h9 => h9) rfl dX4_itemsIn_3 ?_
  refine lv_iload_n hx hb dX4_itemsIn_6 rfl (lv_at hl 2 rfl) ?_
  refine fz_ld (k := (q + 1)) (n := rm) hx hb hK hP 0 (by (first | ((try clear hs1); (try clear hsz); (try clear s₁); (try clear h_p); omega) | omega)) (sE_rowA (r := 1) hq (by decide)) rfl ⟨by (first | ((try clear hs1); (try clear hqb); (try clear hsz); (try clear s₁); omega) | omega), by (first | ((try clear hs1); (try clear hqb); (try clear hsz); (try clear s₁); omega) | omega)⟩ (by (first | ((try clear hs1); (try clear hsz); (try clear s₁); (try clear h_p); omega) | omega)) dX4_itemsIn_7 ?_
  refine va_calli (va_runSN (As := [.int (iZ (μ (q + 1) (p9).toNat))]) (rest := []) ⟨hx, hb, hml, hown, hts⟩ (s_isOpen l dC dI cI cZ cII cIII h0 s.heap.size μ (μ (q + 1) (p9).toNat) (by first | assumption | (first | ((try clear hqb); (try clear hsz); (try clear s₁); (try clear h_p); omega) | omega) | exact ⟨by omega, by omega⟩)) ⟨va_cnB (host := "PageSkeleton") 1 hts (gI_G k423) rfl rfl rfl (xM_nest hM 8 rfl) (hts _ k1) (by decide +kernel) ⟨Nat.le_of_ble_eq_true rfl, Nat.le_of_ble_eq_true rfl⟩, hts _ k422, trivial⟩ ⟨fun a U g mk q => by obtain ⟨q0, q1, qP, qK, qM⟩ := q; exact ⟨q0, q1, qP, va_K.moved (u := U) (U := U.calling g mk a) (Vm.Alike.refl U.vm) qK, qM⟩, fun U hU hW => ⟨rfl, by rw [hU], by rw [hU]; exact hP, va_K.moved hW.alike hK, xM_warm hW hM⟩⟩ rfl rfl hl.1 rfl (lv_room (Nat.le_of_ble_eq_true rfl)) dX4_itemsIn_8 ⟨Nat.le_of_ble_eq_true rfl, Nat.le_of_ble_eq_true rfl⟩) hS (fun q _ h => fA_le hS.1 q h) (fA_le hS.1) (fun r9 u9 t9 H1 locs ht9 hvm9 hw9 hB9 hz9 hk9 hS => ?_)
  obtain ⟨μ1, r2⟩ := u9
  obtain ⟨hP, -⟩ := hB9
  rw [ht9] at hP
  generalize H1 = H at hP hS ⊢
  obtain ⟨e9, hw9⟩ := hw9
  have e9 : r9 = iZ r2 := e9
  subst e9
  simp only at hP hw9
  have hμ1 := hw9; clear hw9
  rw [hμ1.1] at hP; have hμ1 := hμ1.2
  have hlf := if_01 hμ1
  refine fz_if_eq (tgt := 46) (by constructor <;> (first | ((try clear hμ1); (try clear hz9); (try clear hs1); (try clear hqb); (try clear hsz); (try clear s₁); (try clear h_p); omega) | omega)) hx hb dX4_itemsIn_11 (by decide) (fun c11_ => ?_) (fun c11_ => ?_)
  · refine lv_iload_n hx hb dX4_itemsIn_46 rfl (lv_at hl 0 rfl) ?_
    exact W.iret (v := iZ (0)) hx hb hr (fun t9 ht9 hW9 => ⟨⟨iZ (0), (μ, 0), rfl, ⟨rfl, (by
                dsimp only
                all_goals exact rfl)⟩, by rw [ht9]; exact hP, va_K.moved hW9.alike hK⟩, hS.F ht9⟩) hS.2.2 dX4_itemsIn_47
  · refine lv_iload_n hx hb dX4_itemsIn_14 rfl (lv_at hl 2 rfl) ?_
    refine lv_iconst (v := iZ 1) hx hb dX4_itemsIn_15 rfl ?_
    refine lv_iadd hx hb dX4_itemsIn_16 ?_
    refine lv_topi (fun x9 ex9 => ?_)
    obtain rfl : x9 = iZ (p9 + 1) := ex9.trans (iZ_add _ _)
    refine lv_istore_n (lv' := [(3, .int (iZ (p9 + 1))), (2, .int (iZ (0))), (0, .ref (h0 + q)), (1, .int (iZ (p9)))]) hx hb dX4_itemsIn_17 rfl hl (by decide) rfl (fun ls hl => ?_)
    refine LX4_itemsIn_18 hx hb hml hown hts hK hM (Nat.le_of_ble_eq_true rfl) (Nat.le_of_ble_eq_true rfl) (Nat.le_of_ble_eq_true rfl) (Nat.le_of_ble_eq_true rfl) (μ) (q) (rm) (p9) (by assumption) (by assumption) (by assumption) ?_ _ (p9 + 1) (0) μ H locs ls (by rfl) (by (first | ((try clear ex9); (try clear c11_); (try clear hlf); (try clear hμ1); (try clear μ1); (try clear hz9); (try clear hs1); (try clear hqb); (try clear hsz); (try clear s₁); omega) | omega)) (by (first | ((try clear ex9); (try clear c11_); (try clear hlf); (try clear hμ1); (try clear μ1); (try clear hz9); (try clear hs1); (try clear hqb); (try clear hsz); (try clear s₁); omega) | omega)) (Nat.lt_succ_self _) hP hS (lv_sub hl [0, 1, 3, 2] rfl)
    · intro i_3 it_3 μ3_ H locs ls q1_3 hP hS hl
      have hl : lv_has ls 4 [(2, .int (iZ (it_3)))] := hl
      have hPn46 := hP
      obtain rfl := q1_3
      have hP := hPn46
      refine lv_iload_n hx hb dX4_itemsIn_46 rfl (lv_at hl 0 rfl) ?_
      exact W.iret (v := iZ (it_3)) hx hb hr (fun t9 ht9 hW9 => ⟨⟨iZ (it_3), (μ3_, it_3), rfl, ⟨rfl, (by
                    dsimp only
                    all_goals exact rfl)⟩, by rw [ht9]; exact hP, va_K.moved hW9.alike hK⟩, hS.F ht9⟩) hS.2.2 dX4_itemsIn_47
set_option maxHeartbeats 4000000 in
set_option maxRecDepth 100000 in
theorem s_RtellNode (l : Launch) (dC : Nat → ClassId) (dI : Nat → Nat → Nat) (cI cZ cII cIII : ClassId) (h0 sz : Nat) (μ : va_M) (q : Nat) (rm : Nat) (nd : Int) (wh : Int) (hq : rowB q rm) (hG : rG μ q rm) (h_n : 0 ≤ nd ∧ nd < μ q 6) (h_w : inR wh) : Met l yX4_tellNode (Cond.code yX4_tellNode cX4_tellNode 4 (some .int) :: wsG) ({ frames := 3, cells := 0, slots := 0, locals := 58 } : Room) (va_Pc [.ref (h0 + q), .int (iZ (nd)), .int (iZ (wh))] (fun U => U.heap.size = sz ∧ va_P (dC, dI) vwCl (fw (sE cI cZ cII cIII h0) h0 233 μ) U.heap ∧ va_K (dC, dI) vwCl (sT cI cZ cII cIII) U ∧ xM U)) (va_Qi (fun (r9 : Int32) (u : va_M × Int) => r9 = iZ u.2 ∧ (fun (u : va_M) (r : Int) => u = μ) u.1 u.2) (fun u t => va_P (dC, dI) vwCl (fw (sE cI cZ cII cIII h0) h0 233 u.1) t.heap ∧ va_K (dC, dI) vwCl (sT cI cZ cII cIII) t) (fA h0 233 sz)) 0 0 (fA h0 233 sz) := by
  refine Met.ofW (cc := cX4_tellNode) (maxL := 4) (ret := (some .int)) (by decide) rfl ?_
  intro p e s m args below meth c s₁ B hml hv
  obtain ⟨rfl, hsz, hP, hK, hM⟩ := hv
  have hx := B.exec
  have hb := B.bytes
  have hr := B.returns
  have hts : ∀ w ∈ wsG, w.before _ s = true := hG_of (atoms_spec (ws := (Cond.code yX4_tellNode cX4_tellNode 4 (some .int) :: wsG)) B.pre)
  have hown : s.vm.findClass RX4 = some m.cls := findClass_of_methodNamed B.named
  have hlocks := B.notSynchronized
  subst hsz
  have hS : va_S (fA h0 233 s.heap.size) s.heap s.heap [] := va_S.rf
  have hl := lv_entry ([.ref (h0 + q), .int (iZ (nd)), .int (iZ (wh))]) (n := 4) (Nat.le_of_ble_eq_true rfl)
  rw [lg_entry_eq]
  generalize (lg_sl ([.ref (h0 + q), .int (iZ (nd)), .int (iZ (wh))]) ++ List.replicate (4 - (lg_sl ([.ref (h0 + q), .int (iZ (nd)), .int (iZ (wh))])).length) Slot.unset).toArray = ls at hl ⊢
  have hl : lv_has ls 4 [(0, .ref (h0 + q)), (1, .int (iZ (nd))), (2, .int (iZ (wh)))] := hl
  have hqb := rowB_b hq
  have hrm := rG_rm hq hG
  have hnn := rG_nod hG
  have hpp := rG_p hG nd h_n.1 h_n.2
  have hs1 := hG.1 (μ (q + 5) nd.toNat).toNat
  have hmp := hG.2.1 (μ (q + 5) nd.toNat).toNat
  have hmq := rG_m hG (μ (q + 5) nd.toNat) hpp.1 hpp.2
  refine lv_aload_n hx hb dX4_tellNode_0 rfl (lv_at hl 0 rfl) ?_
  refine fz_get (D := (dC, dI)) (ci := 4) (v := .ref (h0 + (q + 5))) (C := RX4) (T := TX4) (N := 8) hx hb hts inG4 hown hK hP (k := q) (by (first | ((try clear hmq); (try clear hmp); (try clear hs1); (try clear hpp); (try clear hnn); (try clear hrm); (try clear hsz); (try clear s₁); (try clear h_n); omega) | omega)) (F := (sRF h0 q)) (sE_rowO hq) rfl 4 (by decide) (hts _ k90) (fun _ h9 => h9) rfl dX4_tellNode_1 ?_
  refine lv_iload_n hx hb dX4_tellNode_4 rfl (lv_at hl 1 rfl) ?_
  refine fz_ld (k := (q + 5)) (n := rm) hx hb hK hP 0 (by (first | ((try clear hmq); (try clear hmp); (try clear hs1); (try clear hpp); (try clear hnn); (try clear hrm); (try clear hsz); (try clear s₁); (try clear h_n); omega) | omega)) (sE_rowA (r := 5) hq (by decide)) rfl ⟨by (first | ((try clear hmq); (try clear hmp); (try clear hs1); (try clear hpp); (try clear hnn); (try clear hrm); (try clear hqb); (try clear hsz); (try clear s₁); omega) | omega), by (first | ((try clear hmq); (try clear hmp); (try clear hs1); (try clear hpp); (try clear hqb); (try clear hsz); (try clear s₁); omega) | omega)⟩ (by (first | ((try clear hmq); (try clear hmp); (try clear hs1); (try clear hpp); (try clear hnn); (try clear hqb); (try clear hsz); (try clear s₁); (try clear h_n); omega) | omega)) dX4_tellNode_5 ?_
  refine lv_istore_n (lv' := [(3, .int (iZ (μ (q + 5) (nd).toNat))), (0, .ref (h0 + q)), (1, .int (iZ (nd))), (2, .int (iZ (wh)))]) hx hb dX4_tellNode_6 rfl hl (by decide) rfl (fun ls hl => ?_)
  refine lv_iload_n hx hb dX4_tellNode_7 rfl (lv_at hl 3 rfl) ?_
  by_cases hc8_0 : wh = 0
  · refine lv_tableIn (tgt := 44) (off := 36) hx hb dX4_tellNode_8 (by rw [iZ_toInt (by constructor <;> (first | ((try clear hmq); (try clear hmp); (try clear hs1); (try clear hpp); (try clear hnn); (try clear hrm); (try clear hqb); (try clear hsz); (try clear s₁); (try clear h_n); omega) | omega)), hc8_0]; decide +kernel) (by rw [iZ_toInt (by constructor <;> (first | ((try clear hmq); (try clear hmp); (try clear hs1); (try clear hpp); (try clear hnn); (try clear hrm); (try clear hqb); (try clear hsz); (try clear s₁); (try clear h_n); omega) | omega)), hc8_0]; decide +kernel) (by rw [iZ_toInt (by constructor <;> (first | ((try clear hmq); (try clear hmp); (try clear hs1); (try clear hpp); (try clear hnn); (try clear hrm); (try clear hqb); (try clear hsz); (try clear s₁); (try clear h_n); omega) | omega)), hc8_0]; decide +kernel) (by decide) ?_
    refine lv_aload_n hx hb dX4_tellNode_44 rfl (lv_at hl 1 rfl) ?_
    refine lv_iload_n hx hb dX4_tellNode_45 rfl (lv_at hl 0 rfl) ?_
    refine va_calli (va_runV (As := [.int (iZ (μ (q + 5) (nd).toNat))]) (rest := []) ⟨hx, hb, hml, hown, hts⟩ (s_RsortAt l dC dI cI cZ cII cIII h0 s.heap.size μ (q) (rm) (μ (q + 5) (nd).toNat) (hq) (by first | assumption | (first | ((try clear hc8_0); (try clear hmq); (try clear hmp); (try clear hs1); (try clear hnn); (try clear hqb); (try clear hsz); (try clear s₁); (try clear h_n); omega) | omega) | exact ⟨by omega, by omega⟩ | exact hG.1) (by first | assumption | omega | exact ⟨by omega, by omega⟩ | exact hG.1)) (cwV 1 hts (gV_G k922 k924 ks_yX4_sortAt k3 k925) rfl rfl rfl (by decide +kernel) ⟨Nat.le_of_ble_eq_true rfl, Nat.le_of_ble_eq_true rfl⟩) ⟨fun a U g mk q => by obtain ⟨q0, q1, qP, qK, qM⟩ := q; exact ⟨q0, q1, qP, va_K.moved (u := U) (U := U.calling g mk a) (Vm.Alike.refl U.vm) qK, qM⟩, va_recv hK hP (ci := 4) (q0 := q) rfl ((fw_get (by (first | ((try clear mk); (try clear g); (try clear U); (try clear hc8_0); (try clear hmq); (try clear hmp); (try clear hs1); (try clear hpp); (try clear hnn); (try clear hrm); (try clear hsz); (try clear s₁); (try clear h_n); omega) | omega))).trans (by rw [(sE_rowO hq)])), fun U hU hW => ⟨rfl, by rw [hU], by rw [hU]; exact hP, va_K.moved hW.alike hK, xM_warm hW hM⟩⟩ rfl rfl hl.1 rfl (lv_room (Nat.le_of_ble_eq_true rfl)) dX4_tellNode_46 ⟨Nat.le_of_ble_eq_true rfl, Nat.le_of_ble_eq_true rfl⟩) hS (fun q _ h => fA_le hS.1 q h) (fA_le hS.1) (fun r9 u9 t9 H1 locs ht9 hvm9 hw9 hB9 hz9 hk9 hS => ?_)
    obtain ⟨μ1, r2⟩ := u9
    obtain ⟨hP, -⟩ := hB9
    rw [ht9] at hP
    generalize H1 = H at hP hS ⊢
    obtain ⟨e9, hw9⟩ := hw9
    have e9 : r9 = iZ r2 := e9
    subst e9
    simp only at hP hw9
    have hμ1 := hw9; clear hw9
    rw [hμ1] at hP
    exact W.iret (v := iZ (r2)) hx hb hr (fun t9 ht9 hW9 => ⟨⟨iZ (r2), (μ, r2), rfl, ⟨rfl, (by
                dsimp only
                all_goals exact rfl)⟩, by rw [ht9]; exact hP, va_K.moved hW9.alike hK⟩, hS.F ht9⟩) hS.2.2 dX4_tellNode_49
  · skip
    by_cases hc8_1 : wh = 1
    · refine lv_tableIn (tgt := 50) (off := 42) hx hb dX4_tellNode_8 (by rw [iZ_toInt (by constructor <;> (first | ((try clear hc8_0); (try clear hmq); (try clear hmp); (try clear hs1); (try clear hpp); (try clear hnn); (try clear hrm); (try clear hqb); (try clear hsz); (try clear s₁); (try clear h_n); omega) | omega)), hc8_1]; decide +kernel) (by rw [iZ_toInt (by constructor <;> (first | ((try clear hc8_0); (try clear hmq); (try clear hmp); (try clear hs1); (try clear hpp); (try clear hnn); (try clear hrm); (try clear hqb); (try clear hsz); (try clear s₁); (try clear h_n); omega) | omega)), hc8_1]; decide +kernel) (by rw [iZ_toInt (by constructor <;> (first | ((try clear hc8_0); (try clear hmq); (try clear hmp); (try clear hs1); (try clear hpp); (try clear hnn); (try clear hrm); (try clear hqb); (try clear hsz); (try clear s₁); (try clear h_n); omega) | omega)), hc8_1]; decide +kernel) (by decide) ?_
      refine lv_aload_n hx hb dX4_tellNode_50 rfl (lv_at hl 1 rfl) ?_
      refine fz_get (D := (dC, dI)) (ci := 4) (v := .ref (h0 + (q + 1))) (C := RX4) (T := TX4) (N := 8) hx hb hts inG4 hown hK hP (k := q) (by (first | ((try clear hc8_1); (try clear hc8_0); (try clear hmq); (try clear hmp); (try clear hs1); (try clear hpp); (try clear hnn); (try clear hrm); (try clear hsz); (try clear s₁); (try clear h_n); omega) | omega)) (F := (sRF h0 q)) (sE_rowO hq) rfl 0 (by decide) (hts _ k77) (fun _ h9 => h9) rfl dX4_tellNode_51 ?_
      refine lv_iload_n hx hb dX4_tellNode_54 rfl (lv_at hl 0 rfl) ?_
      refine fz_ld (k := (q + 1)) (n := rm) hx hb hK hP 0 (by (first | ((try clear hc8_1); (try clear hc8_0); (try clear hmq); (try clear hmp); (try clear hs1); (try clear hpp); (try clear hnn); (try clear hrm); (try clear hsz); (try clear s₁); (try clear h_n); omega) | omega)) (sE_rowA (r := 1) hq (by decide)) rfl ⟨by (first | ((try clear hc8_1); (try clear hc8_0); (try clear hmq); (try clear hmp); (try clear hs1); (try clear hnn); (try clear hrm); (try clear hqb); (try clear hsz); (try clear s₁); (try clear h_n); omega) | omega), by (first | ((try clear hc8_1); (try clear hc8_0); (try clear hmq); (try clear hmp); (try clear hs1); (try clear hnn); (try clear hqb); (try clear hsz); (try clear s₁); (try clear h_n); omega) | omega)⟩ (by (first | ((try clear hmq); (try clear hmp); (try clear hs1); (try clear hpp); (try clear hnn); (try clear hqb); (try clear hsz); (try clear s₁); (try clear h_n); omega) | omega)) dX4_tellNode_55 ?_
      refine va_calli (va_runSN (As := [.int (iZ (μ (q + 1) (μ (q + 5) (nd).toNat).toNat))]) (rest := []) ⟨hx, hb, hml, hown, hts⟩ (s_isTag l dC dI cI cZ cII cIII h0 s.heap.size μ (μ (q + 1) (μ (q + 5) (nd).toNat).toNat) (by first | assumption | (first | ((try clear hc8_1); (try clear hc8_0); (try clear hmq); (try clear hmp); (try clear hpp); (try clear hnn); (try clear hrm); (try clear hqb); (try clear hsz); (try clear s₁); (try clear h_n); omega) | omega) | exact ⟨by omega, by omega⟩ | exact hG.1)) ⟨va_cnB (host := "PageSkeleton") 1 hts (gI_G k486) rfl rfl rfl (xM_nest hM 20 rfl) (hts _ k1) (by decide +kernel) ⟨Nat.le_of_ble_eq_true rfl, Nat.le_of_ble_eq_true rfl⟩, hts _ k485, trivial⟩ ⟨fun a U g mk q => by obtain ⟨q0, q1, qP, qK, qM⟩ := q; exact ⟨q0, q1, qP, va_K.moved (u := U) (U := U.calling g mk a) (Vm.Alike.refl U.vm) qK, qM⟩, fun U hU hW => ⟨rfl, by rw [hU], by rw [hU]; exact hP, va_K.moved hW.alike hK, xM_warm hW hM⟩⟩ rfl rfl hl.1 rfl (lv_room (Nat.le_of_ble_eq_true rfl)) dX4_tellNode_56 ⟨Nat.le_of_ble_eq_true rfl, Nat.le_of_ble_eq_true rfl⟩) hS (fun q _ h => fA_le hS.1 q h) (fA_le hS.1) (fun r9 u9 t9 H1 locs ht9 hvm9 hw9 hB9 hz9 hk9 hS => ?_)
      obtain ⟨μ3, r4⟩ := u9
      obtain ⟨hP, -⟩ := hB9
      rw [ht9] at hP
      generalize H1 = H at hP hS ⊢
      obtain ⟨e9, hw9⟩ := hw9
      have e9 : r9 = iZ r4 := e9
      subst e9
      simp only at hP hw9
      have hμ3 := hw9; clear hw9
      rw [hμ3.1] at hP; have hμ3 := hμ3.2
      have hlf := if_01 hμ3
      refine fz_if_eq (tgt := 71) (by constructor <;> (first | ((try clear hμ3); (try clear hz9); (try clear hc8_1); (try clear hc8_0); (try clear hmq); (try clear hmp); (try clear hs1); (try clear hpp); (try clear hnn); (try clear hrm); (try clear hqb); (try clear hsz); (try clear s₁); (try clear h_n); omega) | omega)) hx hb dX4_tellNode_59 (by decide) (fun c59_ => ?_) (fun c59_ => ?_)
      · refine lv_aload_n hx hb dX4_tellNode_71 rfl (lv_at hl 1 rfl) ?_
        refine fz_get (D := (dC, dI)) (ci := 4) (v := .ref (h0 + (q + 1))) (C := RX4) (T := TX4) (N := 8) hx hb hts inG4 hown hK hP (k := q) (by (first | ((try clear c59_); (try clear hlf); (try clear hμ3); (try clear μ3); (try clear hz9); (try clear hc8_1); (try clear hc8_0); (try clear hmq); (try clear hmp); (try clear hs1); (try clear hpp); (try clear hnn); (try clear hrm); (try clear hsz); (try clear s₁); (try clear h_n); omega) | omega)) (F := (sRF h0 q)) (sE_rowO hq) rfl 0 (by decide) (hts _ k77) (fun _ h9 => h9) rfl dX4_tellNode_72 ?_
        refine lv_iload_n hx hb dX4_tellNode_75 rfl (lv_at hl 0 rfl) ?_
        refine fz_ld (k := (q + 1)) (n := rm) hx hb hK hP 0 (by (first | ((try clear c59_); (try clear hlf); (try clear hμ3); (try clear μ3); (try clear hz9); (try clear hc8_1); (try clear hc8_0); (try clear hmq); (try clear hmp); (try clear hs1); (try clear hpp); (try clear hnn); (try clear hrm); (try clear hsz); (try clear s₁); (try clear h_n); omega) | omega)) (sE_rowA (r := 1) hq (by decide)) rfl ⟨by (first | ((try clear c59_); (try clear hlf); (try clear hμ3); (try clear μ3); (try clear hz9); (try clear hc8_1); (try clear hc8_0); (try clear hmq); (try clear hmp); (try clear hs1); (try clear hnn); (try clear hrm); (try clear hqb); (try clear hsz); (try clear s₁); (try clear h_n); omega) | omega), by (first | ((try clear c59_); (try clear hlf); (try clear hμ3); (try clear μ3); (try clear hz9); (try clear hc8_1); (try clear hc8_0); (try clear hmq); (try clear hmp); (try clear hs1); (try clear hnn); (try clear hqb); (try clear hsz); (try clear s₁); (try clear h_n); omega) | omega)⟩ (by (first | ((try clear hμ3); (try clear hz9); (try clear hmq); (try clear hmp); (try clear hpp); (try clear hnn); (try clear hqb); (try clear hsz); (try clear s₁); (try clear h_n); omega) | omega)) dX4_tellNode_76 ?_
        refine va_calli (va_runSN (As := [.int (iZ (μ (q + 1) (μ (q + 5) (nd).toNat).toNat))]) (rest := []) ⟨hx, hb, hml, hown, hts⟩ (s_isWord l dC dI cI cZ cII cIII h0 H.size μ (μ (q + 1) (μ (q + 5) (nd).toNat).toNat) (by first | assumption | (first | ((try clear c59_); (try clear hlf); (try clear hμ3); (try clear μ3); (try clear hz9); (try clear hc8_1); (try clear hc8_0); (try clear hmq); (try clear hmp); (try clear hpp); (try clear hnn); (try clear hrm); (try clear hqb); (try clear hsz); (try clear s₁); (try clear h_n); omega) | omega) | exact ⟨by omega, by omega⟩ | exact hG.1)) ⟨va_cnB (host := "PageSkeleton") 1 hts (gI_G k569) rfl rfl rfl (xM_nest hM 21 rfl) (hts _ k1) (by decide +kernel) ⟨Nat.le_of_ble_eq_true rfl, Nat.le_of_ble_eq_true rfl⟩, hts _ k568, trivial⟩ ⟨fun a U g mk q => by obtain ⟨q0, q1, qP, qK, qM⟩ := q; exact ⟨q0, q1, qP, va_K.moved (u := U) (U := U.calling g mk a) (Vm.Alike.refl U.vm) qK, qM⟩, fun U hU hW => ⟨rfl, by rw [hU], by rw [hU]; exact hP, va_K.moved hW.alike hK, xM_warm hW hM⟩⟩ rfl rfl hl.1 rfl (lv_room (Nat.le_of_ble_eq_true rfl)) dX4_tellNode_77 ⟨Nat.le_of_ble_eq_true rfl, Nat.le_of_ble_eq_true rfl⟩) hS (fun q _ h => fA_le hS.1 q h) (fA_le hS.1) (fun r9 u9 t9 H1 locs ht9 hvm9 hw9 hB9 hz9 hk9 hS => ?_)
        obtain ⟨μ5, r6⟩ := u9
        obtain ⟨hP, -⟩ := hB9
        rw [ht9] at hP
        generalize H1 = H at hP hS ⊢
        obtain ⟨e9, hw9⟩ := hw9
        have e9 : r9 = iZ r6 := e9
        subst e9
        simp only at hP hw9
        have hμ5 := hw9; clear hw9
        rw [hμ5.1] at hP; have hμ5 := hμ5.2
        have hlf2 := if_01 hμ5
        refine fz_if_eq (tgt := 96) (by constructor <;> (first | ((try clear hμ5); (try clear hz9); (try clear c59_); (try clear hlf); (try clear hμ3); (try clear μ3); (try clear hc8_1); (try clear hc8_0); (try clear hmq); (try clear hmp); (try clear hs1); (try clear hpp); (try clear hnn); (try clear hrm); (try clear hqb); (try clear hsz); (try clear s₁); (try clear h_n); omega) | omega)) hx hb dX4_tellNode_80 (by decide) (fun c80_ => ?_) (fun c80_ => ?_)
        · refine lv_iconst (v := iZ (-1)) hx hb dX4_tellNode_96 rfl ?_
          exact W.iret (v := iZ ((-1))) hx hb hr (fun t9 ht9 hW9 => ⟨⟨iZ ((-1)), (μ, (-1)), rfl, ⟨rfl, (by
                            dsimp only
                            all_goals exact rfl)⟩, by rw [ht9]; exact hP, va_K.moved hW9.alike hK⟩, hS.F ht9⟩) hS.2.2 dX4_tellNode_97
        · refine lv_aload_n hx hb dX4_tellNode_83 rfl (lv_at hl 1 rfl) ?_
          refine fz_get (D := (dC, dI)) (ci := 4) (v := .ref (h0 + (q + 1))) (C := RX4) (T := TX4) (N := 8) hx hb hts inG4 hown hK hP (k := q) (by (first | ((try clear c80_); (try clear hlf2); (try clear hμ5); (try clear μ5); (try clear hz9); (try clear c59_); (try clear hlf); (try clear hμ3); (try clear μ3); (try clear hc8_1); (try clear hc8_0); (try clear hmq); (try clear hmp); (try clear hs1); (try clear hpp); (try clear hnn); (try clear hrm); (try clear hsz); (try clear s₁); (try clear h_n); omega) | omega)) (F := (sRF h0 q)) (sE_rowO hq) rfl 0 (by decide) (hts _ k77) (fun _ h9 => h9) rfl dX4_tellNode_84 ?_
          refine lv_iload_n hx hb dX4_tellNode_87 rfl (lv_at hl 0 rfl) ?_
          refine fz_ld (k := (q + 1)) (n := rm) hx hb hK hP 0 (by (first | ((try clear c80_); (try clear hlf2); (try clear hμ5); (try clear μ5); (try clear hz9); (try clear c59_); (try clear hlf); (try clear hμ3); (try clear μ3); (try clear hc8_1); (try clear hc8_0); (try clear hmq); (try clear hmp); (try clear hs1); (try clear hpp); (try clear hnn); (try clear hrm); (try clear hsz); (try clear s₁); (try clear h_n); omega) | omega)) (sE_rowA (r := 1) hq (by decide)) rfl ⟨by (first | ((try clear c80_); (try clear hlf2); (try clear hμ5); (try clear μ5); (try clear hz9); (try clear c59_); (try clear hlf); (try clear hμ3); (try clear μ3); (try clear hc8_1); (try clear hc8_0); (try clear hmq); (try clear hmp); (try clear hs1); (try clear hnn); (try clear hrm); (try clear hqb); (try clear hsz); (try clear s₁); (try clear h_n); omega) | omega), by (first | ((try clear c80_); (try clear hlf2); (try clear hμ5); (try clear μ5); (try clear hz9); (try clear c59_); (try clear hlf); (try clear hμ3); (try clear μ3); (try clear hc8_1); (try clear hc8_0); (try clear hmq); (try clear hmp); (try clear hs1); (try clear hnn); (try clear hqb); (try clear hsz); (try clear s₁); (try clear h_n); omega) | omega)⟩ (by (first | ((try clear hμ5); (try clear hz9); (try clear hμ3); (try clear hmq); (try clear hmp); (try clear hpp); (try clear hnn); (try clear hqb); (try clear hsz); (try clear s₁); (try clear h_n); omega) | omega)) dX4_tellNode_88 ?_
          refine lv_sipush (v := iZ 256) hx hb dX4_tellNode_89 rfl ?_
          refine lv_isub hx hb dX4_tellNode_92 ?_
          refine lv_topi (fun x9 ex9 => ?_)
          obtain rfl : x9 = iZ ((μ (q + 1) (μ (q + 5) (nd).toNat).toNat) - 256) := ex9.trans (iZ_sub _ _)
          refine lv_goto (tgt := 97) hx hb dX4_tellNode_93 (by decide) ?_
          exact W.iret (v := iZ ((μ (q + 1) (μ (q + 5) (nd).toNat).toNat) - 256)) hx hb hr (fun t9 ht9 hW9 => ⟨⟨iZ ((μ (q + 1) (μ (q + 5) (nd).toNat).toNat) - 256), (μ, (μ (q + 1) (μ (q + 5) (nd).toNat).toNat) - 256), rfl, ⟨rfl, (by
                            dsimp only
                            all_goals exact rfl)⟩, by rw [ht9]; exact hP, va_K.moved hW9.alike hK⟩, hS.F ht9⟩) hS.2.2 dX4_tellNode_97
      · refine lv_aload_n hx hb dX4_tellNode_62 rfl (lv_at hl 1 rfl) ?_
        refine fz_get (D := (dC, dI)) (ci := 4) (v := .ref (h0 + (q + 1))) (C := RX4) (T := TX4) (N := 8) hx hb hts inG4 hown hK hP (k := q) (by (first | ((try clear c59_); (try clear hlf); (try clear hμ3); (try clear μ3); (try clear hz9); (try clear hc8_1); (try clear hc8_0); (try clear hmq); (try clear hmp); (try clear hs1); (try clear hpp); (try clear hnn); (try clear hrm); (try clear hsz); (try clear s₁); (try clear h_n); omega) | omega)) (F := (sRF h0 q)) (sE_rowO hq) rfl 0 (by decide) (hts _ k77) (fun _ h9 => h9) rfl dX4_tellNode_63 ?_
        refine lv_iload_n hx hb dX4_tellNode_66 rfl (lv_at hl 0 rfl) ?_
        refine fz_ld (k := (q + 1)) (n := rm) hx hb hK hP 0 (by (first | ((try clear c59_); (try clear hlf); (try clear hμ3); (try clear μ3); (try clear hz9); (try clear hc8_1); (try clear hc8_0); (try clear hmq); (try clear hmp); (try clear hs1); (try clear hpp); (try clear hnn); (try clear hrm); (try clear hsz); (try clear s₁); (try clear h_n); omega) | omega)) (sE_rowA (r := 1) hq (by decide)) rfl ⟨by (first | ((try clear c59_); (try clear hlf); (try clear hμ3); (try clear μ3); (try clear hz9); (try clear hc8_1); (try clear hc8_0); (try clear hmq); (try clear hmp); (try clear hs1); (try clear hnn); (try clear hrm); (try clear hqb); (try clear hsz); (try clear s₁); (try clear h_n); omega) | omega), by (first | ((try clear c59_); (try clear hlf); (try clear hμ3); (try clear μ3); (try clear hz9); (try clear hc8_1); (try clear hc8_0); (try clear hmq); (try clear hmp); (try clear hs1); (try clear hnn); (try clear hqb); (try clear hsz); (try clear s₁); (try clear h_n); omega) | omega)⟩ (by (first | ((try clear hμ3); (try clear hz9); (try clear hmq); (try clear hmp); (try clear hs1); (try clear hpp); (try clear hnn); (try clear hqb); (try clear hsz); (try clear s₁); (try clear h_n); omega) | omega)) dX4_tellNode_67 ?_
        refine lv_goto (tgt := 97) hx hb dX4_tellNode_68 (by decide) ?_
        exact W.iret (v := iZ (μ (q + 1) (μ (q + 5) (nd).toNat).toNat)) hx hb hr (fun t9 ht9 hW9 => ⟨⟨iZ (μ (q + 1) (μ (q + 5) (nd).toNat).toNat), (μ, μ (q + 1) (μ (q + 5) (nd).toNat).toNat), rfl, ⟨rfl, (by
                        dsimp only
                        all_goals exact rfl)⟩, by rw [ht9]; exact hP, va_K.moved hW9.alike hK⟩, hS.F ht9⟩) hS.2.2 dX4_tellNode_97
    · skip
      by_cases hc8_2 : wh = 2
      · refine lv_tableIn (tgt := 98) (off := 90) hx hb dX4_tellNode_8 (by rw [iZ_toInt (by constructor <;> (first | ((try clear hc8_1); (try clear hc8_0); (try clear hmq); (try clear hmp); (try clear hs1); (try clear hpp); (try clear hnn); (try clear hrm); (try clear hqb); (try clear hsz); (try clear s₁); (try clear h_n); omega) | omega)), hc8_2]; decide +kernel) (by rw [iZ_toInt (by constructor <;> (first | ((try clear hc8_1); (try clear hc8_0); (try clear hmq); (try clear hmp); (try clear hs1); (try clear hpp); (try clear hnn); (try clear hrm); (try clear hqb); (try clear hsz); (try clear s₁); (try clear h_n); omega) | omega)), hc8_2]; decide +kernel) (by rw [iZ_toInt (by constructor <;> (first | ((try clear hc8_1); (try clear hc8_0); (try clear hmq); (try clear hmp); (try clear hs1); (try clear hpp); (try clear hnn); (try clear hrm); (try clear hqb); (try clear hsz); (try clear s₁); (try clear h_n); omega) | omega)), hc8_2]; decide +kernel) (by decide) ?_
        refine lv_aload_n hx hb dX4_tellNode_98 rfl (lv_at hl 1 rfl) ?_
        refine lv_iload_n hx hb dX4_tellNode_99 rfl (lv_at hl 0 rfl) ?_
        refine va_calli (va_runV (As := [.int (iZ (μ (q + 5) (nd).toNat))]) (rest := []) ⟨hx, hb, hml, hown, hts⟩ (s_RdepthOf l dC dI cI cZ cII cIII h0 s.heap.size μ (q) (rm) (μ (q + 5) (nd).toNat) (hq) (by first | assumption | omega | exact ⟨by omega, by omega⟩ | exact hG.1) (by first | assumption | (first | ((try clear hc8_2); (try clear hc8_1); (try clear hc8_0); (try clear hmq); (try clear hmp); (try clear hs1); (try clear hnn); (try clear hqb); (try clear hsz); (try clear s₁); (try clear h_n); omega) | omega) | exact ⟨by omega, by omega⟩ | exact hG.1)) (cwV 1 hts (gV_G k928 k930 ks_yX4_depthOf k3 k931) rfl rfl rfl (by decide +kernel) ⟨Nat.le_of_ble_eq_true rfl, Nat.le_of_ble_eq_true rfl⟩) ⟨fun a U g mk q => by obtain ⟨q0, q1, qP, qK, qM⟩ := q; exact ⟨q0, q1, qP, va_K.moved (u := U) (U := U.calling g mk a) (Vm.Alike.refl U.vm) qK, qM⟩, va_recv hK hP (ci := 4) (q0 := q) rfl ((fw_get (by (first | ((try clear mk); (try clear g); (try clear U); (try clear hc8_2); (try clear hc8_1); (try clear hc8_0); (try clear hmq); (try clear hmp); (try clear hs1); (try clear hpp); (try clear hnn); (try clear hrm); (try clear hsz); (try clear s₁); (try clear h_n); omega) | omega))).trans (by rw [(sE_rowO hq)])), fun U hU hW => ⟨rfl, by rw [hU], by rw [hU]; exact hP, va_K.moved hW.alike hK, xM_warm hW hM⟩⟩ rfl rfl hl.1 rfl (lv_room (Nat.le_of_ble_eq_true rfl)) dX4_tellNode_100 ⟨Nat.le_of_ble_eq_true rfl, Nat.le_of_ble_eq_true rfl⟩) hS (fun q _ h => fA_le hS.1 q h) (fA_le hS.1) (fun r9 u9 t9 H1 locs ht9 hvm9 hw9 hB9 hz9 hk9 hS => ?_)
        obtain ⟨μ7, r8⟩ := u9
        obtain ⟨hP, -⟩ := hB9
        rw [ht9] at hP
        generalize H1 = H at hP hS ⊢
        obtain ⟨e9, hw9⟩ := hw9
        have e9 : r9 = iZ r8 := e9
        subst e9
        simp only at hP hw9
        have hμ7 := hw9; clear hw9
        rw [hμ7] at hP
        exact W.iret (v := iZ (r8)) hx hb hr (fun t9 ht9 hW9 => ⟨⟨iZ (r8), (μ, r8), rfl, ⟨rfl, (by
                        dsimp only
                        all_goals exact rfl)⟩, by rw [ht9]; exact hP, va_K.moved hW9.alike hK⟩, hS.F ht9⟩) hS.2.2 dX4_tellNode_103
      · skip
        by_cases hc8_3 : wh = 3
        · refine lv_tableIn (tgt := 104) (off := 96) hx hb dX4_tellNode_8 (by rw [iZ_toInt (by constructor <;> (first | ((try clear hc8_2); (try clear hc8_1); (try clear hc8_0); (try clear hmq); (try clear hmp); (try clear hs1); (try clear hpp); (try clear hnn); (try clear hrm); (try clear hqb); (try clear hsz); (try clear s₁); (try clear h_n); omega) | omega)), hc8_3]; decide +kernel) (by rw [iZ_toInt (by constructor <;> (first | ((try clear hc8_2); (try clear hc8_1); (try clear hc8_0); (try clear hmq); (try clear hmp); (try clear hs1); (try clear hpp); (try clear hnn); (try clear hrm); (try clear hqb); (try clear hsz); (try clear s₁); (try clear h_n); omega) | omega)), hc8_3]; decide +kernel) (by rw [iZ_toInt (by constructor <;> (first | ((try clear hc8_2); (try clear hc8_1); (try clear hc8_0); (try clear hmq); (try clear hmp); (try clear hs1); (try clear hpp); (try clear hnn); (try clear hrm); (try clear hqb); (try clear hsz); (try clear s₁); (try clear h_n); omega) | omega)), hc8_3]; decide +kernel) (by decide) ?_
          refine lv_aload_n hx hb dX4_tellNode_104 rfl (lv_at hl 1 rfl) ?_
          refine lv_iload_n hx hb dX4_tellNode_105 rfl (lv_at hl 0 rfl) ?_
          refine va_calli (va_runV (As := [.int (iZ (μ (q + 5) (nd).toNat))]) (rest := []) ⟨hx, hb, hml, hown, hts⟩ (s_RparentOf l dC dI cI cZ cII cIII h0 s.heap.size μ (q) (rm) (μ (q + 5) (nd).toNat) (hq) (by first | assumption | omega | exact ⟨by omega, by omega⟩ | exact hG.1) (by first | assumption | (first | ((try clear hc8_3); (try clear hc8_2); (try clear hc8_1); (try clear hc8_0); (try clear hmq); (try clear hmp); (try clear hs1); (try clear hnn); (try clear hqb); (try clear hsz); (try clear s₁); (try clear h_n); omega) | omega) | exact ⟨by omega, by omega⟩ | exact hG.1)) (cwV 1 hts (gV_G k932 k934 ks_yX4_parentOf k3 k935) rfl rfl rfl (by decide +kernel) ⟨Nat.le_of_ble_eq_true rfl, Nat.le_of_ble_eq_true rfl⟩) ⟨fun a U g mk q => by obtain ⟨q0, q1, qP, qK, qM⟩ := q; exact ⟨q0, q1, qP, va_K.moved (u := U) (U := U.calling g mk a) (Vm.Alike.refl U.vm) qK, qM⟩, va_recv hK hP (ci := 4) (q0 := q) rfl ((fw_get (by (first | ((try clear mk); (try clear g); (try clear U); (try clear hc8_3); (try clear hc8_2); (try clear hc8_1); (try clear hc8_0); (try clear hmq); (try clear hmp); (try clear hs1); (try clear hpp); (try clear hnn); (try clear hrm); (try clear hsz); (try clear s₁); (try clear h_n); omega) | omega))).trans (by rw [(sE_rowO hq)])), fun U hU hW => ⟨rfl, by rw [hU], by rw [hU]; exact hP, va_K.moved hW.alike hK, xM_warm hW hM⟩⟩ rfl rfl hl.1 rfl (lv_room (Nat.le_of_ble_eq_true rfl)) dX4_tellNode_106 ⟨Nat.le_of_ble_eq_true rfl, Nat.le_of_ble_eq_true rfl⟩) hS (fun q _ h => fA_le hS.1 q h) (fA_le hS.1) (fun r9 u9 t9 H1 locs ht9 hvm9 hw9 hB9 hz9 hk9 hS => ?_)
          obtain ⟨μ10, r11⟩ := u9
          obtain ⟨hP, -⟩ := hB9
          rw [ht9] at hP
          generalize H1 = H at hP hS ⊢
          obtain ⟨e9, hw9⟩ := hw9
          have e9 : r9 = iZ r11 := e9
          subst e9
          simp only at hP hw9
          have hμ10 := hw9; clear hw9
          rw [hμ10] at hP
          exact W.iret (v := iZ (r11)) hx hb hr (fun t9 ht9 hW9 => ⟨⟨iZ (r11), (μ, r11), rfl, ⟨rfl, (by
                            dsimp only
                            all_goals exact rfl)⟩, by rw [ht9]; exact hP, va_K.moved hW9.alike hK⟩, hS.F ht9⟩) hS.2.2 dX4_tellNode_109
        · skip
          by_cases hc8_4 : wh = 4
          · refine lv_tableIn (tgt := 110) (off := 102) hx hb dX4_tellNode_8 (by rw [iZ_toInt (by constructor <;> (first | ((try clear hc8_3); (try clear hc8_2); (try clear hc8_1); (try clear hc8_0); (try clear hmq); (try clear hmp); (try clear hs1); (try clear hpp); (try clear hnn); (try clear hrm); (try clear hqb); (try clear hsz); (try clear s₁); (try clear h_n); omega) | omega)), hc8_4]; decide +kernel) (by rw [iZ_toInt (by constructor <;> (first | ((try clear hc8_3); (try clear hc8_2); (try clear hc8_1); (try clear hc8_0); (try clear hmq); (try clear hmp); (try clear hs1); (try clear hpp); (try clear hnn); (try clear hrm); (try clear hqb); (try clear hsz); (try clear s₁); (try clear h_n); omega) | omega)), hc8_4]; decide +kernel) (by rw [iZ_toInt (by constructor <;> (first | ((try clear hc8_3); (try clear hc8_2); (try clear hc8_1); (try clear hc8_0); (try clear hmq); (try clear hmp); (try clear hs1); (try clear hpp); (try clear hnn); (try clear hrm); (try clear hqb); (try clear hsz); (try clear s₁); (try clear h_n); omega) | omega)), hc8_4]; decide +kernel) (by decide) ?_
            refine lv_aload_n hx hb dX4_tellNode_110 rfl (lv_at hl 1 rfl) ?_
            refine lv_iload_n hx hb dX4_tellNode_111 rfl (lv_at hl 0 rfl) ?_
            refine va_calli (va_runV (As := [.int (iZ (μ (q + 5) (nd).toNat))]) (rest := []) ⟨hx, hb, hml, hown, hts⟩ (s_RsizeAt l dC dI cI cZ cII cIII h0 s.heap.size μ (q) (rm) (μ (q + 5) (nd).toNat) (hq) (by first | assumption | (first | ((try clear hc8_4); (try clear hc8_3); (try clear hc8_2); (try clear hc8_1); (try clear hc8_0); (try clear hmq); (try clear hmp); (try clear hs1); (try clear hnn); (try clear hqb); (try clear hsz); (try clear s₁); (try clear h_n); omega) | omega) | exact ⟨by omega, by omega⟩ | exact hG.1) (by first | assumption | (first | ((try clear hc8_4); (try clear hc8_3); (try clear hc8_2); (try clear hc8_1); (try clear hc8_0); (try clear hs1); (try clear hpp); (try clear hnn); (try clear hrm); (try clear hqb); (try clear hsz); (try clear s₁); (try clear h_n); omega) | omega) | exact ⟨by omega, by omega⟩ | exact hG.1)) (cwV 1 hts (gV_G k936 k809 k810 k3 k811) rfl rfl rfl (by decide +kernel) ⟨Nat.le_of_ble_eq_true rfl, Nat.le_of_ble_eq_true rfl⟩) ⟨fun a U g mk q => by obtain ⟨q0, q1, qP, qK, qM⟩ := q; exact ⟨q0, q1, qP, va_K.moved (u := U) (U := U.calling g mk a) (Vm.Alike.refl U.vm) qK, qM⟩, va_recv hK hP (ci := 4) (q0 := q) rfl ((fw_get (by (first | ((try clear mk); (try clear g); (try clear U); (try clear hc8_4); (try clear hc8_3); (try clear hc8_2); (try clear hc8_1); (try clear hc8_0); (try clear hmq); (try clear hmp); (try clear hs1); (try clear hpp); (try clear hnn); (try clear hrm); (try clear hsz); (try clear s₁); (try clear h_n); omega) | omega))).trans (by rw [(sE_rowO hq)])), fun U hU hW => ⟨rfl, by rw [hU], by rw [hU]; exact hP, va_K.moved hW.alike hK, xM_warm hW hM⟩⟩ rfl rfl hl.1 rfl (lv_room (Nat.le_of_ble_eq_true rfl)) dX4_tellNode_112 ⟨Nat.le_of_ble_eq_true rfl, Nat.le_of_ble_eq_true rfl⟩) hS (fun q _ h => fA_le hS.1 q h) (fA_le hS.1) (fun r9 u9 t9 H1 locs ht9 hvm9 hw9 hB9 hz9 hk9 hS => ?_)
            obtain ⟨μ12, r13⟩ := u9
            obtain ⟨hP, -⟩ := hB9
            rw [ht9] at hP
            generalize H1 = H at hP hS ⊢
            obtain ⟨e9, hw9⟩ := hw9
            have e9 : r9 = iZ r13 := e9
            subst e9
            simp only at hP hw9
            have hμ12 := hw9; clear hw9
            rw [hμ12.1] at hP; have hμ12 := hμ12.2
            exact W.iret (v := iZ (r13)) hx hb hr (fun t9 ht9 hW9 => ⟨⟨iZ (r13), (μ, r13), rfl, ⟨rfl, (by
                                dsimp only
                                all_goals exact rfl)⟩, by rw [ht9]; exact hP, va_K.moved hW9.alike hK⟩, hS.F ht9⟩) hS.2.2 dX4_tellNode_115
          · skip
            refine lv_tableOut (tgt := 116) hx hb dX4_tellNode_8 (by rw [iZ_toInt (by constructor <;> (first | ((try clear hc8_4); (try clear hc8_3); (try clear hc8_2); (try clear hc8_1); (try clear hc8_0); (try clear hmq); (try clear hmp); (try clear hs1); (try clear hpp); (try clear hnn); (try clear hrm); (try clear hqb); (try clear hsz); (try clear s₁); (try clear h_n); omega) | omega))]; (first | ((try clear hmq); (try clear hmp); (try clear hs1); (try clear hpp); (try clear hnn); (try clear hrm); (try clear hqb); (try clear hsz); (try clear s₁); (try clear h_n); omega) | omega)) (by decide) ?_
            refine lv_aload_n hx hb dX4_tellNode_116 rfl (lv_at hl 1 rfl) ?_
            refine lv_iload_n hx hb dX4_tellNode_117 rfl (lv_at hl 0 rfl) ?_
            refine va_calli (va_runV (As := [.int (iZ (μ (q + 5) (nd).toNat))]) (rest := []) ⟨hx, hb, hml, hown, hts⟩ (s_RitemsIn l dC dI cI cZ cII cIII h0 s.heap.size μ (q) (rm) (μ (q + 5) (nd).toNat) (hq) (by first | assumption | omega | exact ⟨by omega, by omega⟩ | exact hG.1) (by first | assumption | (first | ((try clear hc8_4); (try clear hc8_3); (try clear hc8_2); (try clear hc8_1); (try clear hc8_0); (try clear hmq); (try clear hmp); (try clear hs1); (try clear hnn); (try clear hqb); (try clear hsz); (try clear s₁); (try clear h_n); omega) | omega) | exact ⟨by omega, by omega⟩ | exact hG.1)) (cwV 1 hts (gV_G k937 k939 ks_yX4_itemsIn k3 k940) rfl rfl rfl (by decide +kernel) ⟨Nat.le_of_ble_eq_true rfl, Nat.le_of_ble_eq_true rfl⟩) ⟨fun a U g mk q => by obtain ⟨q0, q1, qP, qK, qM⟩ := q; exact ⟨q0, q1, qP, va_K.moved (u := U) (U := U.calling g mk a) (Vm.Alike.refl U.vm) qK, qM⟩, va_recv hK hP (ci := 4) (q0 := q) rfl ((fw_get (by (first | ((try clear mk); (try clear g); (try clear U); (try clear hc8_4); (try clear hc8_3); (try clear hc8_2); (try clear hc8_1); (try clear hc8_0); (try clear hmq); (try clear hmp); (try clear hs1); (try clear hpp); (try clear hnn); (try clear hrm); (try clear hsz); (try clear s₁); (try clear h_n); omega) | omega))).trans (by rw [(sE_rowO hq)])), fun U hU hW => ⟨rfl, by rw [hU], by rw [hU]; exact hP, va_K.moved hW.alike hK, xM_warm hW hM⟩⟩ rfl rfl hl.1 rfl (lv_room (Nat.le_of_ble_eq_true rfl)) dX4_tellNode_118 ⟨Nat.le_of_ble_eq_true rfl, Nat.le_of_ble_eq_true rfl⟩) hS (fun q _ h => fA_le hS.1 q h) (fA_le hS.1) (fun r9 u9 t9 H1 locs ht9 hvm9 hw9 hB9 hz9 hk9 hS => ?_)
            obtain ⟨μ14, r15⟩ := u9
            obtain ⟨hP, -⟩ := hB9
            rw [ht9] at hP
            generalize H1 = H at hP hS ⊢
            obtain ⟨e9, hw9⟩ := hw9
            have e9 : r9 = iZ r15 := e9
            subst e9
            simp only at hP hw9
            have hμ14 := hw9; clear hw9
            rw [hμ14] at hP
            exact W.iret (v := iZ (r15)) hx hb hr (fun t9 ht9 hW9 => ⟨⟨iZ (r15), (μ, r15), rfl, ⟨rfl, (by
                                dsimp only
                                all_goals exact rfl)⟩, by rw [ht9]; exact hP, va_K.moved hW9.alike hK⟩, hS.F ht9⟩) hS.2.2 dX4_tellNode_121
set_option maxHeartbeats 4000000 in
set_option maxRecDepth 100000 in
theorem LX4_putRange_3 {p : Program} {l : Launch} {e : Env} {R : Room} {s : State} {m : MethodId} {args : Array Value} {below : List Frame} {meth : Method} {c : Code} {cells slots : Nat} {Q : State → Prop} {dC : Nat → ClassId} {dI : Nat → Nat → Nat} {h0 : Nat} {cI cZ cII cIII : ClassId} (hx : p.tables.exec = Jvm.exec) (hb : c.code = cX4_putRange) (hml : c.maxLocals = 5) (hown : s.vm.findClass RX4 = some m.cls) (hts : ∀ w ∈ wsG, w.before args s = true) (hK : va_K (dC, dI) vwCl (sT cI cZ cII cIII) s) (hM : xM s) (hRf : 2 ≤ R.frames) (hRl : 35 ≤ R.locals) (hRc : cells ≤ R.cells) (hRs : slots ≤ R.slots) (μ0 : va_M) (q : Nat) (rm : Nat) (q2 : Nat) (rm2 : Nat) (p1 : Int) (p2 : Int) (d9 : Int) (hq : rowB q rm) (hq2 : rowB q2 rm2) (hap : q + 6 ≤ q2 ∨ q2 + 6 ≤ q) (hG2 : rG μ0 q2 rm2) (hsg : seg (μ0 (q2 + 1)) p1.toNat p2.toNat) (hp : 0 ≤ p1 ∧ p1 ≤ p2 ∧ p2 ≤ μ0 q2 5) (h0d : 0 ≤ d9) (hexit26 : ∀ (i : Int) (μ : va_M) (H : Heap) (locs : List Loc) (ls : Array Slot), (fr (fun x _ => x = q ∨ x = q + 1) μ0 μ) → (outS μ q rm d9) → va_P (dC, dI) vwCl (fw (sE cI cZ cII cIII h0) h0 233 μ) H → va_S (fA h0 233 s.heap.size) s.heap H locs → lv_has ls 5 [] → W p l e R s m args below meth c H locs cells slots Q (F0 m 26 ls [])) :
    ∀ (n9 : Nat) (i : Int) (μ : va_M) (H : Heap) (locs : List Loc) (ls : Array Slot), (p1 ≤ i ∧ i ≤ p2) → (fr (fun x _ => x = q ∨ x = q + 1) μ0 μ) → (outS μ q rm (d9 + (Dp (μ0 (q2 + 1)) i.toNat - Dp (μ0 (q2 + 1)) p1.toNat))) → (p2 - i).toNat < n9 → va_P (dC, dI) vwCl (fw (sE cI cZ cII cIII h0) h0 233 μ) H → va_S (fA h0 233 s.heap.size) s.heap H locs → lv_has ls 5 [(4, .int (iZ (i))), (3, .int (iZ (p2))), (1, .ref (h0 + q2)), (0, .ref (h0 + q))] → W p l e R s m args below meth c H locs cells slots Q (F0 m 3 ls []) := by
  intro n9
  induction n9 with
  | zero => intro i μ H locs ls hi hf ho hm9 hP hS hl; exact absurd hm9 (Nat.not_lt_zero _)
  | succ n9 ih =>
    intro i μ H locs ls hi hf ho hm9 hP hS hl
    have hqb := rowB_b hq
    have hqb2 := rowB_b hq2
    have hrm2 := rG_rm hq2 hG2
    refine lv_iload hx hb dX4_putRange_3 (lv_at hl 0 rfl) ?_
    refine lv_iload_n hx hb dX4_putRange_5 rfl (lv_at hl 1 rfl) ?_
    refine fz_icmp_ge (tgt := 26) (by constructor <;> (first | ((try clear hqb2); (try clear hqb); (try clear hm9); (try clear ho); (try clear hf); (try clear hexit26); (try clear h0d); (try clear hsg); (try clear hap); (try clear hRs); (try clear hRc); (try clear hRl); (try clear hRf); omega) | omega)) (by constructor <;> (first | ((try clear hqb2); (try clear hqb); (try clear hm9); (try clear ho); (try clear hf); (try clear hi); (try clear hexit26); (try clear h0d); (try clear hsg); (try clear hap); (try clear hRs); (try clear hRc); (try clear hRl); (try clear hRf); omega) | omega)) hx hb dX4_putRange_6 (by decide) (fun c6_ => ?_) (fun c6_ => ?_)
    · exact hexit26 (i) μ H locs ls (by exact hf) (by
                    have e : i = p2 := by (first | ((try clear hrm2); (try clear hqb2); (try clear hqb); (try clear hm9); (try clear ho); (try clear hf); (try clear hexit26); (try clear h0d); (try clear hp); (try clear hsg); (try clear hap); (try clear hRs); (try clear hRc); (try clear hRl); (try clear hRf); omega) | omega)
                    rw [e, hsg.2.1, Int.sub_self, Int.add_zero] at ho
                    exact ho) hP hS (lv_sub hl [] rfl)
    · have ek : μ (q2 + 1) i.toNat = μ0 (q2 + 1) i.toNat := hf _ _ (by (first | ((try clear ek); (try clear hm9); (try clear ho); (try clear hf); (try clear hi); (try clear hexit26); (try clear h0d); (try clear hp); (try clear hsg); (try clear hRs); (try clear hRc); (try clear hRl); (try clear hRf); omega) | omega))
      have hvs := ((rG_bal hG2).2 i.toNat (by (first | ((try clear hvs); (try clear ek); (try clear hrm2); (try clear hqb2); (try clear hqb); (try clear hm9); (try clear ho); (try clear hf); (try clear hexit26); (try clear h0d); (try clear hsg); (try clear hap); (try clear hRs); (try clear hRc); (try clear hRl); (try clear hRf); omega) | omega))).2 (by (first | ((try clear hvs); (try clear ek); (try clear hrm2); (try clear hqb2); (try clear hqb); (try clear hm9); (try clear ho); (try clear hf); (try clear hexit26); (try clear h0d); (try clear hsg); (try clear hap); (try clear hRs); (try clear hRc); (try clear hRl); (try clear hRf); omega) | omega))
      have hdp := Dp_s (μ0 (q2 + 1)) i.toNat
      have hge := hsg.2.2 (i.toNat + 1) (by (first | ((try clear hge); (try clear hdp); (try clear hvs); (try clear ek); (try clear c6_); (try clear hrm2); (try clear hqb2); (try clear hqb); (try clear hm9); (try clear ho); (try clear hf); (try clear hexit26); (try clear h0d); (try clear hp); (try clear hsg); (try clear hap); (try clear hRs); (try clear hRc); (try clear hRl); (try clear hRf); omega) | omega)) (by (first | ((try clear hge); (try clear hdp); (try clear hvs); (try clear ek); (try clear hrm2); (try clear hqb2); (try clear hqb); (try clear hm9); (try clear ho); (try clear hf); (try clear hexit26); (try clear h0d); (try clear hsg); (try clear hap); (try clear hRs); (try clear hRc); (try clear hRl); (try clear hRf); omega) | omega))
      have hlen1 := ho.1
      refine lv_aload_n hx hb dX4_putRange_9 rfl (lv_at hl 3 rfl) ?_
      refine lv_aload_n hx hb dX4_putRange_10 rfl (lv_at hl 2 rfl) ?_
      refine fz_get (D := (dC, dI)) (ci := 4) (v := .ref (h0 + (q2 + 1))) (C := RX4) (T := TX4) (N := 8) hx hb hts inG4 hown hK hP (k := q2) (by (first | ((try clear hlen1); (try clear hge); (try clear hdp); (try clear hvs); (try clear ek); (try clear c6_); (try clear hrm2); (try clear hqb); (try clear hm9); (try clear ho); (try clear hf); (try clear hi); (try clear hexit26); (try clear h0d); (try clear hp); (try clear hsg); (try clear hap); (try clear hRs); (try clear hRc); (try clear hRl); (try clear hRf); omega) | omega)) (F := (sRF h0 q2)) (sE_rowO hq2) rfl 0 (by decide) (hts _ k77) (fun _ h9 => h9) rfl dX4_putRange_11 ?_
      refine lv_iload hx hb dX4_putRange_14 (lv_at hl 0 rfl) ?_
      refine fz_ld (k := (q2 + 1)) (n := rm2) hx hb hK hP 0 (by (first | ((try clear hlen1); (try clear hge); (try clear hdp); (try clear hvs); (try clear ek); (try clear c6_); (try clear hrm2); (try clear hqb); (try clear hm9); (try clear ho); (try clear hf); (try clear hi); (try clear hexit26); (try clear h0d); (try clear hp); (try clear hsg); (try clear hap); (try clear hRs); (try clear hRc); (try clear hRl); (try clear hRf); omega) | omega)) (sE_rowA (r := 1) hq2 (by decide)) rfl ⟨by (first | ((try clear hlen1); (try clear hge); (try clear hdp); (try clear hvs); (try clear ek); (try clear c6_); (try clear hrm2); (try clear hqb2); (try clear hqb); (try clear hm9); (try clear ho); (try clear hf); (try clear hexit26); (try clear h0d); (try clear hsg); (try clear hap); (try clear hRs); (try clear hRc); (try clear hRl); (try clear hRf); omega) | omega), by (first | ((try clear hlen1); (try clear hge); (try clear hdp); (try clear hvs); (try clear ek); (try clear hqb2); (try clear hqb); (try clear hm9); (try clear ho); (try clear hf); (try clear hi); (try clear hexit26); (try clear h0d); (try clear hsg); (try clear hap); (try clear hRs); (try clear hRc); (try clear hRl); (try clear hRf); omega) | omega)⟩ (by (first | ((try clear hlen1); (try clear hge); (try clear hdp); (try clear hvs); (try clear ek); (try clear c6_); (try clear hqb2); (try clear hqb); (try clear hm9); (try clear ho); (try clear hf); (try clear hi); (try clear hexit26); (try clear h0d); (try clear hp); (try clear hsg); (try clear hap); (try clear hRs); (try clear hRc); (try clear hRl); (try clear hRf); omega) | omega)) dX4_putRange_16 ?_
      refine va_callv (va_runV (As := [.int (iZ (μ (q2 + 1) (i).toNat))]) (rest := []) ⟨hx, hb, hml, hown, hts⟩ (s_Rput l dC dI cI cZ cII cIII h0 H.size μ (q) (rm) (μ (q2 + 1) (i).toNat) (hq) (by exact hlen1)) (cwV 1 hts (gV_G k410 k411 k412 k3 k413) rfl rfl rfl (by decide +kernel) ⟨by show 1 + 1 ≤ _; (first | ((try clear hlen1); (try clear hge); (try clear hdp); (try clear hvs); (try clear ek); (try clear c6_); (try clear hrm2); (try clear hqb2); (try clear hqb); (try clear hm9); (try clear ho); (try clear hf); (try clear hi); (try clear hexit26); (try clear h0d); (try clear hp); (try clear hsg); (try clear hap); (try clear hRs); (try clear hRc); (try clear hRl); omega) | omega), by show 8 + (2 + 11) + (14) ≤ _; (first | ((try clear hlen1); (try clear hge); (try clear hdp); (try clear hvs); (try clear ek); (try clear c6_); (try clear hrm2); (try clear hqb2); (try clear hqb); (try clear hm9); (try clear ho); (try clear hf); (try clear hi); (try clear hexit26); (try clear h0d); (try clear hp); (try clear hsg); (try clear hap); (try clear hRs); (try clear hRc); (try clear hRf); omega) | omega)⟩) ⟨fun a U g mk q => by obtain ⟨q0, q1, qP, qK, qM⟩ := q; exact ⟨q0, q1, qP, va_K.moved (u := U) (U := U.calling g mk a) (Vm.Alike.refl U.vm) qK, qM⟩, va_recv hK hP (ci := 4) (q0 := q) rfl ((fw_get (by (first | ((try clear mk); (try clear g); (try clear U); (try clear hlen1); (try clear hge); (try clear hdp); (try clear hvs); (try clear ek); (try clear c6_); (try clear hrm2); (try clear hqb2); (try clear hm9); (try clear ho); (try clear hf); (try clear hi); (try clear hexit26); (try clear h0d); (try clear hp); (try clear hsg); (try clear hap); (try clear hRs); (try clear hRc); (try clear hRl); (try clear hRf); omega) | omega))).trans (by rw [(sE_rowO hq)])), fun U hU hW => ⟨rfl, by rw [hU], by rw [hU]; exact hP, va_K.moved hW.alike hK, xM_warm hW hM⟩⟩ rfl rfl hl.1 rfl (lv_room (Nat.le_of_ble_eq_true rfl)) dX4_putRange_17 ⟨hRc, hRs⟩) hS (fun q _ h => fA_le hS.1 q h) (fA_le hS.1) (fun u9 t9 H1 locs ht9 hvm9 hw9 hB9 hz9 hk9 hS => ?_)
      obtain ⟨hP, -⟩ := hB9
      rw [ht9] at hP
      generalize H1 = H at hP hS ⊢
      obtain ⟨μp, eμp⟩ : ∃ x : va_M, x = u9 := ⟨_, rfl⟩
      rw [← eμp] at hP hw9
      have hμp := hw9; clear hw9
      obtain ⟨c1, c2⟩ := hμp
      rw [ek] at c1
      obtain ⟨o1, o2⟩ := outS_put ho hvs (by (first | ((try clear o2); (try clear o1); (try clear c2); (try clear c1); (try clear hμp); (try clear x); (try clear eμp); (try clear μp); (try clear hz9); (try clear hlen1); (try clear hvs); (try clear ek); (try clear c6_); (try clear hrm2); (try clear hqb2); (try clear hqb); (try clear hm9); (try clear ho); (try clear hf); (try clear hi); (try clear hexit26); (try clear hp); (try clear hsg); (try clear hap); (try clear hRs); (try clear hRc); (try clear hRl); (try clear hRf); omega) | omega)) c1 c2
      have e9 : d9 + (Dp (μ0 (q2 + 1)) i.toNat - Dp (μ0 (q2 + 1)) p1.toNat) + dl (μ0 (q2 + 1) i.toNat) = d9 + (Dp (μ0 (q2 + 1)) (i + 1).toNat - Dp (μ0 (q2 + 1)) p1.toNat) := by rw [show (i + 1).toNat = i.toNat + 1 by (first | ((try clear o2); (try clear o1); (try clear c2); (try clear c1); (try clear hμp); (try clear x); (try clear eμp); (try clear μp); (try clear hz9); (try clear hlen1); (try clear hge); (try clear hdp); (try clear hvs); (try clear ek); (try clear c6_); (try clear hrm2); (try clear hqb2); (try clear hqb); (try clear hm9); (try clear ho); (try clear hf); (try clear hexit26); (try clear h0d); (try clear hsg); (try clear hap); (try clear hRs); (try clear hRc); (try clear hRl); (try clear hRf); omega) | omega), hdp]; (first | ((try clear o2); (try clear o1); (try clear c2); (try clear c1); (try clear hμp); (try clear x); (try clear eμp); (try clear μp); (try clear hz9); (try clear hlen1); (try clear hge); (try clear hdp); (try clear hvs); (try clear ek); (try clear c6_); (try clear hrm2); (try clear hqb2); (try clear hqb); (try clear hm9); (try clear ho); (try clear hf); (try clear hi); (try clear hexit26); (try clear h0d); (try clear hp); (try clear hsg); (try clear hap); (try clear hRs); (try clear hRc); (try clear hRl); (try clear hRf); omega) | omega)
      rw [e9] at o1
      refine lv_iinc (v := iZ (i + 1)) (lv' := [(4, .int (iZ (i + 1))), (3, .int (iZ (p2))), (1, .ref (h0 + q2)), (0, .ref (h0 + q))]) hx hb dX4_putRange_20 hl (k := 0) rfl (iZ_add _ _) (by decide) rfl (fun ls hl => ?_)
      refine lv_goto (tgt := 3) hx hb dX4_putRange_23 (by decide) ?_
      exact ih (i + 1) μp H locs ls (by (first | ((try clear o2); (try clear o1); (try clear c2); (try clear c1); (try clear hμp); (try clear x); (try clear eμp); (try clear μp); (try clear hz9); (try clear hlen1); (try clear hge); (try clear hdp); (try clear hvs); (try clear ek); (try clear hrm2); (try clear hqb2); (try clear hqb); (try clear hm9); (try clear ho); (try clear hf); (try clear hexit26); (try clear h0d); (try clear hp); (try clear hsg); (try clear hap); (try clear hRs); (try clear hRc); (try clear hRl); (try clear hRf); omega) | omega)) (by exact fr_trans hf o2) (by exact o1) (by (first | ((try clear o2); (try clear o1); (try clear hμp); (try clear x); (try clear eμp); (try clear hz9); (try clear hlen1); (try clear hge); (try clear hdp); (try clear hvs); (try clear ek); (try clear ho); (try clear hf); (try clear hi); (try clear hexit26); (try clear h0d); (try clear hp); (try clear hsg); (try clear hap); (try clear hRs); (try clear hRc); (try clear hRl); (try clear hRf); omega) | omega)) hP hS (lv_sub hl [0, 1, 2, 3] rfl)
set_option maxHeartbeats 4000000 in
set_option maxRecDepth 100000 in
theorem s_RputRange (l : Launch) (dC : Nat → ClassId) (dI : Nat → Nat → Nat) (cI cZ cII cIII : ClassId) (h0 sz : Nat) (μ : va_M) (q : Nat) (rm : Nat) (q2 : Nat) (rm2 : Nat) (p1 : Int) (p2 : Int) (d9 : Int) (hq : rowB q rm) (hq2 : rowB q2 rm2) (hap : q + 6 ≤ q2 ∨ q2 + 6 ≤ q) (hG2 : rG μ q2 rm2) (hsg : seg (μ (q2 + 1)) p1.toNat p2.toNat) (hp : 0 ≤ p1 ∧ p1 ≤ p2 ∧ p2 ≤ μ q2 5) (h0d : 0 ≤ d9) (ho : outS μ q rm d9) : Met l yX4_putRange (Cond.code yX4_putRange cX4_putRange 5 none :: wsG) ({ frames := 2, cells := 0, slots := 0, locals := 35 } : Room) (va_Pc [.ref (h0 + q), .ref (h0 + q2), .int (iZ (p1)), .int (iZ (p2))] (fun U => U.heap.size = sz ∧ va_P (dC, dI) vwCl (fw (sE cI cZ cII cIII h0) h0 233 μ) U.heap ∧ va_K (dC, dI) vwCl (sT cI cZ cII cIII) U ∧ xM U)) (va_Qv (fun (u : va_M) => outS u q rm d9 ∧ fr (fun x _ => x = q ∨ x = q + 1) μ u) (fun u t => va_P (dC, dI) vwCl (fw (sE cI cZ cII cIII h0) h0 233 u) t.heap ∧ va_K (dC, dI) vwCl (sT cI cZ cII cIII) t) (fA h0 233 sz)) 0 0 (fA h0 233 sz) := by
  refine Met.ofW (cc := cX4_putRange) (maxL := 5) (ret := none) (by decide) rfl ?_
  intro p e s m args below meth c s₁ B hml hv
  obtain ⟨rfl, hsz, hP, hK, hM⟩ := hv
  have hx := B.exec
  have hb := B.bytes
  have hr := B.returns
  have hts : ∀ w ∈ wsG, w.before _ s = true := hG_of (atoms_spec (ws := (Cond.code yX4_putRange cX4_putRange 5 none :: wsG)) B.pre)
  have hown : s.vm.findClass RX4 = some m.cls := findClass_of_methodNamed B.named
  have hlocks := B.notSynchronized
  subst hsz
  have hS : va_S (fA h0 233 s.heap.size) s.heap s.heap [] := va_S.rf
  have hl := lv_entry ([.ref (h0 + q), .ref (h0 + q2), .int (iZ (p1)), .int (iZ (p2))]) (n := 5) (Nat.le_of_ble_eq_true rfl)
  rw [lg_entry_eq]
  generalize (lg_sl ([.ref (h0 + q), .ref (h0 + q2), .int (iZ (p1)), .int (iZ (p2))]) ++ List.replicate (5 - (lg_sl ([.ref (h0 + q), .ref (h0 + q2), .int (iZ (p1)), .int (iZ (p2))])).length) Slot.unset).toArray = ls at hl ⊢
  have hl : lv_has ls 5 [(0, .ref (h0 + q)), (1, .ref (h0 + q2)), (2, .int (iZ (p1))), (3, .int (iZ (p2)))] := hl
  have hqb := rowB_b hq
  have hqb2 := rowB_b hq2
  refine lv_iload_n hx hb dX4_putRange_0 rfl (lv_at hl 2 rfl) ?_
  refine lv_istore (lv' := [(4, .int (iZ (p1))), (0, .ref (h0 + q)), (1, .ref (h0 + q2)), (2, .int (iZ (p1))), (3, .int (iZ (p2)))]) hx hb dX4_putRange_1 hl (by decide) rfl (fun ls hl => ?_)
  refine LX4_putRange_3 hx hb hml hown hts hK hM (Nat.le_of_ble_eq_true rfl) (Nat.le_of_ble_eq_true rfl) (Nat.le_of_ble_eq_true rfl) (Nat.le_of_ble_eq_true rfl) (μ) (q) (rm) (q2) (rm2) (p1) (p2) (d9) (by assumption) (by assumption) (by assumption) (by exact hG2) (by exact hsg) (by assumption) (by assumption) ?_ _ (p1) μ s.heap [] ls (by (first | ((try clear hqb2); (try clear hqb); (try clear hsz); (try clear s₁); (try clear h0d); (try clear hsg); (try clear hap); omega) | omega)) (by exact fr_rfl) (by rw [Int.sub_self, Int.add_zero]; exact ho) (Nat.lt_succ_self _) hP hS (lv_sub hl [0, 4, 2, 1] rfl)
  · intro i_1 μ1_ H locs ls q1_1 q2_1 hP hS hl
    have hl : lv_has ls 5 [] := hl
    exact W.vret hx hb hr (fun t9 ht9 hW9 => ⟨⟨μ1_, rfl, (by
                try dsimp only
                exact ⟨q2_1, q1_1⟩), by rw [ht9]; exact hP, va_K.moved hW9.alike hK⟩, hS.F ht9⟩) hS.2.2 dX4_putRange_26
